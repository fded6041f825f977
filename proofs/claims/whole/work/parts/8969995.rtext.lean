/-! names of RULES about letters, numbered: pure -/
abbrev nmT : Type := (Nat → Int64) × Nat
def nmF1 (f : Nat → Int64) (w : Int64) : Nat → Nat → Nat
  | 0, i => i
  | k + 1, i => if f i = w then i else nmF1 f w k (i + 1)
def nmK (S : nmT) (w : Int64) : Nat := nmF1 S.1 w S.2 0
def nmU (S : nmT) (w : Int64) : nmT := (fun j => if j = nmK S w then w else S.1 j, max S.2 (nmK S w + 1))
def nmS (R : List rcT) (S0 : nmT) : Nat → nmT
  | 0 => S0
  | i + 1 => match R[i]? with
    | some r => if r.1 = 6 then nmU (nmS R S0 i) r.2.1 else nmS R S0 i
    | none => nmS R S0 i
def nmX (R : List rcT) (S0 : nmT) (s : Nat) : Int32 := match R[s]? with
  | some r => if r.1 = 6 then nI (nmK (nmS R S0 s) r.2.1) else -1
  | none => -1
section NMS
variable {R : List rcT} {S0 : nmT} {f : Nat → Int64} {w : Int64}
theorem nmF1_le : ∀ k i, i ≤ nmF1 f w k i ∧ nmF1 f w k i ≤ i + k
  | 0, i => ⟨Nat.le_refl _, Nat.le_refl _⟩
  | k + 1, i => by
    unfold nmF1
    by_cases c : f i = w
    · rw [if_pos c]; omega
    · rw [if_neg c]
      have := nmF1_le k (i + 1)
      omega
theorem nmF1_at : ∀ k i, nmF1 f w k i < i + k → f (nmF1 f w k i) = w
  | 0, i => fun h => absurd h (by unfold nmF1; omega)
  | k + 1, i => by
    unfold nmF1
    by_cases c : f i = w
    · rw [if_pos c]; intro _; exact c
    · rw [if_neg c]
      intro h
      exact nmF1_at k (i + 1) (by omega)
theorem nmK_le {S : nmT} : nmK S w ≤ S.2 := by
  have := (nmF1_le (f := S.1) (w := w) S.2 0).2
  unfold nmK
  omega
theorem nmU_le {S : nmT} : (nmU S w).2 ≤ S.2 + 1 ∧ S.2 ≤ (nmU S w).2 := by
  have := nmK_le (S := S) (w := w)
  show max S.2 (nmK S w + 1) ≤ S.2 + 1 ∧ S.2 ≤ max S.2 (nmK S w + 1)
  omega
/-- one that is known changes nothing -/
theorem nmU_id {S : nmT} (h : nmK S w < S.2) : nmU S w = S := by
  have e := nmF1_at (f := S.1) (w := w) S.2 0 (by unfold nmK at h; omega)
  refine Prod.ext ?_ ?_
  · funext j
    show (if j = nmK S w then w else S.1 j) = S.1 j
    by_cases c : j = nmK S w
    · rw [if_pos c, c]; exact e.symm
    · rw [if_neg c]
  · show max S.2 (nmK S w + 1) = S.2
    omega
theorem nmU_new {S : nmT} (h : ¬ nmK S w < S.2) : nmK S w = S.2 ∧ (nmU S w).2 = S.2 + 1 := by
  have := nmK_le (S := S) (w := w)
  have e : nmK S w = S.2 := by omega
  refine ⟨e, ?_⟩
  show max S.2 (nmK S w + 1) = S.2 + 1
  omega
theorem nmS_le : ∀ i, (nmS R S0 i).2 ≤ S0.2 + i
  | 0 => Nat.le_refl _
  | i + 1 => by
    have ih := nmS_le i
    unfold nmS
    cases R[i]? with
    | none => dsimp only; omega
    | some r =>
      dsimp only
      split
      · have := (nmU_le (S := nmS R S0 i) (w := r.2.1)).1
        omega
      · omega
end NMS
/-! the reference's text: from any memory to where it has read all -/
section RTX
variable {σ : aM} {fr ov va op tk n k p v : Int32} {le : Int64} {g h : Nat → Int32}
theorem rx_id : rfX σ (gI σ 4 0 48) (gI σ 4 0 49) (gI σ 4 0 50) (gL σ 4 0 51) (gI σ 4 0 52) (gI σ 4 0 53) (gI σ 4 0 41) (gI σ 73 0) (gI σ 74 0) (gI σ 4 0 47) (gI σ 4 0 46) = σ := by
  have e : ∀ (τ : aM) (K i j : Nat), sI τ K i j (gI τ K i j) = τ := fun τ K i j => by
    unfold sI am_u3 gI
    refine Prod.ext ?_ rfl
    funext a b c
    dsimp only
    by_cases h : a = K ∧ b = i ∧ c = j
    · obtain ⟨rfl, rfl, rfl⟩ := h; rw [if_pos ⟨rfl, rfl, rfl⟩]
    · rw [if_neg h]
  have el : sL σ 4 0 51 (gL σ 4 0 51) = σ := by
    unfold sL am_u3 gL
    refine Prod.ext rfl (Prod.ext ?_ rfl)
    funext a b c
    dsimp only
    by_cases h : a = 4 ∧ b = 0 ∧ c = 51
    · obtain ⟨rfl, rfl, rfl⟩ := h; rw [if_pos ⟨rfl, rfl, rfl⟩]
    · rw [if_neg h]
  unfold rfX
  rw [sIr_id, sIr_id, el, e, e, e, e, e, e, e, e]
theorem rx_s4 {j : Nat} (h1 : j ≠ 48) (h2 : j ≠ 49) (h3 : j ≠ 50) (h4 : j ≠ 52) (h5 : j ≠ 53) (h6 : j ≠ 41) (h7 : j ≠ 47) (h8 : j ≠ 46) : sI (rfX σ fr ov va le op tk n g h k p) 4 0 j v = rfX (sI σ 4 0 j v) fr ov va le op tk n g h k p := by
  have cm : ∀ (τ : aM) (j2 : Nat) (v2 : Int32), j ≠ j2 → sI (sI τ 4 0 j2 v2) 4 0 j v = sI (sI τ 4 0 j v) 4 0 j2 v2 := fun τ j2 v2 hj => by
    unfold sI am_u3
    refine Prod.ext ?_ rfl
    funext a b c
    dsimp only
    by_cases e1 : a = 4 ∧ b = 0 ∧ c = j
    · obtain ⟨rfl, rfl, rfl⟩ := e1
      rw [if_pos ⟨rfl, rfl, rfl⟩, if_neg (fun q => hj q.2.2), if_pos ⟨rfl, rfl, rfl⟩]
    · rw [if_neg e1]
      by_cases e2 : a = 4 ∧ b = 0 ∧ c = j2
      · rw [if_pos e2, if_pos e2]
      · rw [if_neg e2, if_neg e2, if_neg e1]
  unfold rfX
  rw [cm _ _ _ h8, cm _ _ _ h7, cm _ _ _ h6, cm _ _ _ h5, cm _ _ _ h4, cm _ _ _ h3, cm _ _ _ h2, cm _ _ _ h1]
  have e : ∀ τ : aM, sI (sL τ 4 0 51 le) 4 0 j v = sL (sI τ 4 0 j v) 4 0 51 le := fun _ => rfl
  rw [e, sIr_cm (by decide), sIr_cm (by decide)]
theorem rx_4 {j : Nat} (h1 : j ≠ 48) (h2 : j ≠ 49) (h3 : j ≠ 50) (h4 : j ≠ 52) (h5 : j ≠ 53) (h6 : j ≠ 41) (h7 : j ≠ 47) (h8 : j ≠ 46) : gI (rfX σ fr ov va le op tk n g h k p) 4 0 j = gI σ 4 0 j := by
  unfold rfX
  rw [mI_sI_j h8, mI_sI_j h7, mI_sI_j h6, mI_sI_j h5, mI_sI_j h4, mI_sI_j h3, mI_sI_j h2, mI_sI_j h1]
  show gI (sIr (sIr σ 73 0 g) 74 0 h) 4 0 j = gI σ 4 0 j
  rw [mI_sIr_k (by decide), mI_sIr_k (by decide)]
end RTX
theorem rfK_n {T : tkT} {t : Nat} (c : ¬ (T t).1 = 256) : ¬ rfK (T t) = 0 := by
  unfold rfK
  rw [if_neg c]
  split
  · decide
  · split
    · decide
    · decide
section RTL
variable {σ : aM} {tx L : Nat} {B : Nat → Int32} {Q : aR → aM → Prop} {x1 : Int32}
theorem L174 {D : Nat} (E : rfB σ B L tx) (hD : 49 ≤ D) : ∀ m (R : List rcT) σ1 t n (g h : Nat → Int32), R.length ≤ 10 → R.length + m = 11 → rfT σ σ1 tx g h n R → n ≤ t → t ≤ 300 → (match txtP (toksF B L) (uksF B L) m R.length t with
  | .inl (k, p) => ∀ σ2 fr ov va le op tk n1 g1 h1 (a2 : Option aV), rfR σ σ2 tx → agF (320 * tx) (gI σ 73 0) g1 → agF (320 * tx) (gI σ 74 0) h1 → WP D 174 83 [some (vr (some (4, 0))), some (vi x1), a2, none] [] (rfX σ2 fr ov va le op tk n1 g1 h1 k (nI p)) Q
  | .inr l => ∀ σ2 t1 n1 g1 h1 (a2 : Option aV), n1 ≤ 300 → rfT σ σ2 tx g1 h1 n1 (R ++ l) → WP D 174 83 [some (vr (some (4, 0))), some (vi x1), a2, none] [] (rfM σ2 (toksF B L) (uksF B L) t1 0 n1 g1 h1 0 (-1)) Q) → WP D 174 64 [some (vr (some (4, 0))), some (vi x1), some (vi 1), none] [] (rfM σ1 (toksF B L) (uksF B L) t 0 n g h 0 (-1)) Q := by
  obtain ⟨D, rfl⟩ : ∃ D1, D = D1 + 1 := ⟨D - 1, by omega⟩
  intro m
  induction m with
  | zero => intro R σ1 t n g h h10 h11; omega
  | succ m ih =>
    intro R σ1 t n g h h10 h11 H hn ht q
    have E1 := rfR_B E H.1
    have S := E1.1.1
    unfold txtP at q
    rw [S174_64]
    by_cases c : ((toksF B L) t).1 = 256
    · rw [if_pos c] at q
      have q : ∀ σ2 t1 n1 g1 h1 (a2 : Option aV), n1 ≤ 300 → rfT σ σ2 tx g1 h1 n1 (R ++ []) → WP (D + 1) 174 83 [some (vr (some (4, 0))), some (vi x1), a2, none] [] (rfM σ2 (toksF B L) (uksF B L) t1 0 n1 g1 h1 0 (-1)) Q := q
      rw [List.append_nil] at q
      simp only [S174_65, S174_68, S174_69, S174_72, S174_75, S174_76, S174_79, S174_80, gL_sI, gR_sI, gN_sI, gC_sI, gB_sI, gI_sL, gR_sL, gN_sL, gC_sL, gB_sL, gI_sR, gL_sR, gN_sR, gC_sR, gB_sR, gL_sIr, gR_sIr, gN_sIr, gC_sIr, gB_sIr, gI_sLr, gR_sLr, gN_sLr, gC_sLr, gB_sLr, gI_sRr, gL_sRr, gN_sRr, gC_sRr, gB_sRr, gI_sN, gL_sN, gR_sN, gC_sN, gB_sN, gI_sC, gL_sC, gR_sC, gN_sC, gB_sC, gI_sB, gL_sB, gR_sB, gN_sB, gC_sB, gB_sB, gB_am_mk, gI_am_ml, gL_am_ml, gR_am_ml, gB_am_ml, gI_am_add, gL_am_add, gC_am_add, gB_am_add, gI_am_ins, gL_am_ins, gC_am_ins, gB_am_ins, gI_am_rem, gL_am_rem, gC_am_rem, gB_am_rem, gI_am_thr, gL_am_thr, gR_am_thr, gN_am_thr, gB_am_thr, mI_sI_k, mI_sI_j, mI_sI_b, mI_sI_s, mI_sI_i, mI_sI_c, mL_sL_k, mL_sL_j, mL_sL_b, mL_sL_s, mL_sL_i, mL_sL_c, mR_sR_k, mR_sR_j, mR_sR_b, mR_sR_s, mR_sR_i, mR_sR_c, mI_sIr_k, mI_sIr_s, mI_sIr_i, mL_sLr_k, mL_sLr_s, mL_sLr_i, mR_sRr_k, mR_sRr_s, mR_sRr_i, mN_sN_k, mN_sN_i, mN_am_add_k, mN_am_add_s, mR_am_add_k, mN_am_ins_k, mN_am_ins_s, mR_am_ins_k, mN_am_rem_k, mN_am_rem_s, mR_am_rem_k, mR_am_add_s, mR_am_ins_s, mR_am_rem_s, mI_am_mk_k, mI_am_mk_s, mI_am_mk_i, mL_am_mk_k, mL_am_mk_s, mL_am_mk_i, mR_am_mk_k, mR_am_mk_s, mR_am_mk_i, mN_am_mk_k, mN_am_mk_i, mC_am_mk_k, mC_am_mk_s, mN_am_ml_k, mN_am_ml_i, mC_am_ml_k, mC_am_ml_s, mC_sC_k, mC_am_thr_k, sC_3 S, sC_4 S, sR_4_28 S, sC_62 S, sN_62 S, sR_4_29 S, sC_63 S, sN_63 S, sR_4_30 S, sC_64 S, sN_64 S, sR_4_31 S, sC_65 S, sN_65 S, sR_4_33 S, sC_67 S, sN_67 S, sR_4_34 S, sC_68 S, sN_68 S, k0, k1, k2, k3, k4, k5, k6, k7, k8, k9, k10, k11, k12, k13, k14, k15, k16, k17, k18, k19, k20, k21, k22, k23, k24, k25, k26, k27, k28, k29, k30, k31, k32, k33, k34, k35, k36, k37, k38, k39, k40, k41, k42, k43, k44, k45, k46, k47, k48, k49, k50, k51, k52, k53, k54, k55, k56, k57, k58, k59, k60, k61, k62, k63, k64, k65, k66, k67, k68, k69, k70, k71, k72, k73, k74, k75, k76, k77, k78, k79, k80, k81, k82, k83, k84, k85, k86, k87, k88, k89, k90, k91, k92, k93, k94, k95, k96, k97, k98, k99, k100, rm_R, rm_C, rm_53, rfK_0 c, true_and, and_true, and_self, if_true, if_false, ite_true, ite_false, Nat.lt_irrefl, List.length_nil, List.length_cons, Nat.reduceAdd, Nat.reduceLeDiff, Nat.reduceLT, Nat.reduceEqDiff, Nat.zero_lt_one, not_true, not_false_iff, bI_0, bI_1, ne_eq, reduceCtorEq, false_and, and_false, or_true, true_or, or_false, false_or, Nat.lt_one_iff, eq_self, Nat.zero_le, am_ko_v, am_ko_0, am_kil, Nat.reduceBEq, Int32.reduceLT, Int32.reduceLE, Int32.reduceAdd, Int32.reduceSub, i32_10, i32_01, not_true_eq_false, not_false_eq_true, Classical.not_not, nor_self, Nat.lt_add_one, nI_1, nI_pred, rf_n, i32_m0, i32_m1, reduceIte]
      exact q _ _ _ _ _ _ (by omega) H
    · rw [if_neg c] at q
      have kc := rfK_n c
      simp only [S174_65, S174_68, S174_69, S174_72, S174_75, S174_76, S174_79, S174_80, gL_sI, gR_sI, gN_sI, gC_sI, gB_sI, gI_sL, gR_sL, gN_sL, gC_sL, gB_sL, gI_sR, gL_sR, gN_sR, gC_sR, gB_sR, gL_sIr, gR_sIr, gN_sIr, gC_sIr, gB_sIr, gI_sLr, gR_sLr, gN_sLr, gC_sLr, gB_sLr, gI_sRr, gL_sRr, gN_sRr, gC_sRr, gB_sRr, gI_sN, gL_sN, gR_sN, gC_sN, gB_sN, gI_sC, gL_sC, gR_sC, gN_sC, gB_sC, gI_sB, gL_sB, gR_sB, gN_sB, gC_sB, gB_sB, gB_am_mk, gI_am_ml, gL_am_ml, gR_am_ml, gB_am_ml, gI_am_add, gL_am_add, gC_am_add, gB_am_add, gI_am_ins, gL_am_ins, gC_am_ins, gB_am_ins, gI_am_rem, gL_am_rem, gC_am_rem, gB_am_rem, gI_am_thr, gL_am_thr, gR_am_thr, gN_am_thr, gB_am_thr, mI_sI_k, mI_sI_j, mI_sI_b, mI_sI_s, mI_sI_i, mI_sI_c, mL_sL_k, mL_sL_j, mL_sL_b, mL_sL_s, mL_sL_i, mL_sL_c, mR_sR_k, mR_sR_j, mR_sR_b, mR_sR_s, mR_sR_i, mR_sR_c, mI_sIr_k, mI_sIr_s, mI_sIr_i, mL_sLr_k, mL_sLr_s, mL_sLr_i, mR_sRr_k, mR_sRr_s, mR_sRr_i, mN_sN_k, mN_sN_i, mN_am_add_k, mN_am_add_s, mR_am_add_k, mN_am_ins_k, mN_am_ins_s, mR_am_ins_k, mN_am_rem_k, mN_am_rem_s, mR_am_rem_k, mR_am_add_s, mR_am_ins_s, mR_am_rem_s, mI_am_mk_k, mI_am_mk_s, mI_am_mk_i, mL_am_mk_k, mL_am_mk_s, mL_am_mk_i, mR_am_mk_k, mR_am_mk_s, mR_am_mk_i, mN_am_mk_k, mN_am_mk_i, mC_am_mk_k, mC_am_mk_s, mN_am_ml_k, mN_am_ml_i, mC_am_ml_k, mC_am_ml_s, mC_sC_k, mC_am_thr_k, sC_3 S, sC_4 S, sR_4_28 S, sC_62 S, sN_62 S, sR_4_29 S, sC_63 S, sN_63 S, sR_4_30 S, sC_64 S, sN_64 S, sR_4_31 S, sC_65 S, sN_65 S, sR_4_33 S, sC_67 S, sN_67 S, sR_4_34 S, sC_68 S, sN_68 S, k0, k1, k2, k3, k4, k5, k6, k7, k8, k9, k10, k11, k12, k13, k14, k15, k16, k17, k18, k19, k20, k21, k22, k23, k24, k25, k26, k27, k28, k29, k30, k31, k32, k33, k34, k35, k36, k37, k38, k39, k40, k41, k42, k43, k44, k45, k46, k47, k48, k49, k50, k51, k52, k53, k54, k55, k56, k57, k58, k59, k60, k61, k62, k63, k64, k65, k66, k67, k68, k69, k70, k71, k72, k73, k74, k75, k76, k77, k78, k79, k80, k81, k82, k83, k84, k85, k86, k87, k88, k89, k90, k91, k92, k93, k94, k95, k96, k97, k98, k99, k100, rm_R, rm_C, rm_53, kc, true_and, and_true, and_self, if_true, if_false, ite_true, ite_false, Nat.lt_irrefl, List.length_nil, List.length_cons, Nat.reduceAdd, Nat.reduceLeDiff, Nat.reduceLT, Nat.reduceEqDiff, Nat.zero_lt_one, not_true, not_false_iff, bI_0, bI_1, ne_eq, reduceCtorEq, false_and, and_false, or_true, true_or, or_false, false_or, Nat.lt_one_iff, eq_self, Nat.zero_le, am_ko_v, am_ko_0, am_kil, Nat.reduceBEq, Int32.reduceLT, Int32.reduceLE, Int32.reduceAdd, Int32.reduceSub, i32_10, i32_01, not_true_eq_false, not_false_eq_true, Classical.not_not, nor_self, Nat.lt_add_one, nI_1, nI_pred, rf_n, i32_m0, i32_m1, reduceIte]
      refine R172 E H h10 (by omega) hn ht ?_
      have hok := @stmP_ok (toksF B L) (uksF B L) (tkOK_B E.1.2.2.2.2 E.1.2.2.1) R.length t
      revert q hok
      cases stmP (toksF B L) (uksF B L) R.length t with
      | inl e =>
        obtain ⟨k, p⟩ := e
        intro q hok σ2 fr ov va le op tk n1 g1 h1 F ag ah
        have hz := q σ2 fr ov va le op tk n1 g1 h1 (some (vi 0)) F ag ah
        rw [am_ko_v]
        simp only [S174_79, S174_80, S174_64, S174_65, am_kil, if_true]
        exact hz
      | inr e =>
        obtain ⟨t1, r⟩ := e
        intro q hok σ2 n2 g2 h2 hn2 H2
        obtain ⟨⟨o1, o2, o3⟩, hlt⟩ := hok rfl
        have hL : (R ++ [r]).length = R.length + 1 := by simp only [List.length_append, List.length_cons, List.length_nil]
        rw [am_ko_v]
        simp only [S174_79, S174_80, am_kil]
        refine ih (R ++ [r]) σ2 t1 n2 g2 h2 (by omega) (by omega) H2 hn2 o2 ?_
        rw [hL]
        revert q
        dsimp only
        cases txtP (toksF B L) (uksF B L) m (R.length + 1) t1 with
        | inl e => intro q; exact q
        | inr l =>
          intro q
          have q : ∀ σ2 t1 n1 g1 h1 (a2 : Option aV), n1 ≤ 300 → rfT σ σ2 tx g1 h1 n1 (R ++ r :: l) → WP (D + 1) 174 83 [some (vr (some (4, 0))), some (vi x1), a2, none] [] (rfM σ2 (toksF B L) (uksF B L) t1 0 n1 g1 h1 0 (-1)) Q := q
          rw [show R ++ r :: l = R ++ [r] ++ l by simp only [List.append_assoc, List.cons_append, List.nil_append]] at q
          exact q
/-- text, read to its end: a fault is told, or it goes on behind -/
theorem C174r {D : Nat} {a : Int32} (S : Sh σ) (ha : 0 ≤ a ∧ a ≤ 9999) (hL : gI σ 4 0 45 = nI L) (h3 : L ≤ 300) (hB : ∀ j, j < L → gI σ 76 0 j &&& 255 = B j) (hB2 : ∀ j, 0 ≤ B j ∧ B j < 256) (e27 : gI σ 4 0 27 = nI tx) (h12 : tx < 12) (hD : 49 ≤ D) (q : match txtP (toksF B L) (uksF B L) 11 0 0 with
  | .inl (k, p) => ∀ σ2 fr ov va le op tk n1 g1 h1, rfR (sI (sI σ 4 0 0 0) 64 0 tx 0) σ2 tx → agF (320 * tx) (gI σ 73 0) g1 → agF (320 * tx) (gI σ 74 0) h1 → Q (some (some (vi (-1 - k)))) (rfX (sI σ2 4 0 45 0) fr ov va le op tk n1 g1 h1 k (nI p))
  | .inr l => ∀ σ2 t1 n1 g1 h1 (a2 : Option aV), n1 ≤ 300 → rfT (sI (sI σ 4 0 0 0) 64 0 tx 0) σ2 tx g1 h1 n1 l → WP D 174 102 [some (vr (some (4, 0))), some (vi a), a2, none] [] (rfM (sI σ2 4 0 45 0) (toksF B L) (uksF B L) t1 0 n1 g1 h1 0 (-1)) Q) : WP D 174 0 [some (vr (some (4, 0))), some (vi a), none, none] [] σ Q := by
  obtain ⟨D, rfl⟩ : ∃ D1, D = D1 + 2 := ⟨D - 2, by omega⟩
  have t31 : tx < 2147483648 := by omega
  have n12 : ¬ nI tx = 12 := fun e => by have := (nI_eq (b := 12) (by omega) (by omega)).mp e; omega
  have S1 : Sh (sI σ 4 0 0 0) := S
  have e27' : gI (sI σ 4 0 0 0) 4 0 27 = nI tx := (mI_sI_j (by decide)).trans e27
  have E : rfB (sI (sI σ 4 0 0 0) 64 0 tx 0) B L tx := ⟨⟨S, (mI_sI_k (by decide)).trans ((mI_sI_j (by decide)).trans hL), h3, fun j hj => by rw [mI_sI_k (by decide), mI_sI_k (by decide)]; exact hB j hj, hB2⟩, (mI_sI_k (by decide)).trans e27', h12⟩
  have eM : sI (sI (sI (sI (sI (sI (sI σ 4 0 0 0) 4 0 47 0) 4 0 46 (-1)) 4 0 49 0) 4 0 52 0) 4 0 41 0) 64 0 tx 0 = rfX (sI (sI σ 4 0 0 0) 64 0 tx 0) (gI (sI σ 4 0 0 0) 4 0 48) (nI 0) (gI (sI σ 4 0 0 0) 4 0 50) (gL (sI σ 4 0 0 0) 4 0 51) (nI 0) (gI (sI σ 4 0 0 0) 4 0 53) (nI 0) (gI (sI σ 4 0 0 0) 73 0) (gI (sI σ 4 0 0 0) 74 0) 0 (-1) := by
    conv => lhs; rw [← rx_id (σ := sI σ 4 0 0 0)]
    rw [sx_47, sx_46, sx_49, sx_52, sx_41, rx_s (by decide) (by decide) (by decide), nI_0]
  have N0 := fun (D : Nat) (Q : aR → aM → Prop) (q : Q (some none) (rfM (sI (sI σ 4 0 0 0) 64 0 tx 0) (toksF B L) (uksF B L) 0 0 0 (gI (sI σ 4 0 0 0) 73 0) (gI (sI σ 4 0 0 0) 74 0) 0 (-1))) => Rd152 (D := D) (x := 0) (op := 0) (n := 0) (fr := gI (sI σ 4 0 0 0) 4 0 48) (va := gI (sI σ 4 0 0 0) 4 0 50) (tk := gI (sI σ 4 0 0 0) 4 0 53) (k := 0) (p := -1) (le := gL (sI σ 4 0 0 0) 4 0 51) (g := gI (sI σ 4 0 0 0) 73 0) (h := gI (sI σ 4 0 0 0) 74 0) (Q := Q) E.1 (Nat.zero_le L) q
  simp only [S174_0, S174_1, S174_2, S174_5, S174_6, S174_9, S174_12, S174_13, S174_16, S174_18, S174_21, S174_22, S174_23, S174_24, S174_25, S174_28, S174_29, S174_30, S174_33, S174_34, S174_35, S174_38, S174_39, S174_40, S174_43, S174_44, S174_45, S174_48, S174_49, S174_52, S174_53, S174_56, S174_57, S174_58, S174_59, gL_sI, gR_sI, gN_sI, gC_sI, gB_sI, gI_sL, gR_sL, gN_sL, gC_sL, gB_sL, gI_sR, gL_sR, gN_sR, gC_sR, gB_sR, gL_sIr, gR_sIr, gN_sIr, gC_sIr, gB_sIr, gI_sLr, gR_sLr, gN_sLr, gC_sLr, gB_sLr, gI_sRr, gL_sRr, gN_sRr, gC_sRr, gB_sRr, gI_sN, gL_sN, gR_sN, gC_sN, gB_sN, gI_sC, gL_sC, gR_sC, gN_sC, gB_sC, gI_sB, gL_sB, gR_sB, gN_sB, gC_sB, gB_sB, gB_am_mk, gI_am_ml, gL_am_ml, gR_am_ml, gB_am_ml, gI_am_add, gL_am_add, gC_am_add, gB_am_add, gI_am_ins, gL_am_ins, gC_am_ins, gB_am_ins, gI_am_rem, gL_am_rem, gC_am_rem, gB_am_rem, gI_am_thr, gL_am_thr, gR_am_thr, gN_am_thr, gB_am_thr, mI_sI_k, mI_sI_j, mI_sI_b, mI_sI_s, mI_sI_i, mI_sI_c, mL_sL_k, mL_sL_j, mL_sL_b, mL_sL_s, mL_sL_i, mL_sL_c, mR_sR_k, mR_sR_j, mR_sR_b, mR_sR_s, mR_sR_i, mR_sR_c, mI_sIr_k, mI_sIr_s, mI_sIr_i, mL_sLr_k, mL_sLr_s, mL_sLr_i, mR_sRr_k, mR_sRr_s, mR_sRr_i, mN_sN_k, mN_sN_i, mN_am_add_k, mN_am_add_s, mR_am_add_k, mN_am_ins_k, mN_am_ins_s, mR_am_ins_k, mN_am_rem_k, mN_am_rem_s, mR_am_rem_k, mR_am_add_s, mR_am_ins_s, mR_am_rem_s, mI_am_mk_k, mI_am_mk_s, mI_am_mk_i, mL_am_mk_k, mL_am_mk_s, mL_am_mk_i, mR_am_mk_k, mR_am_mk_s, mR_am_mk_i, mN_am_mk_k, mN_am_mk_i, mC_am_mk_k, mC_am_mk_s, mN_am_ml_k, mN_am_ml_i, mC_am_ml_k, mC_am_ml_s, mC_sC_k, mC_am_thr_k, sC_3 S, sC_4 S, sR_4_28 S, sC_62 S, sN_62 S, sR_4_29 S, sC_63 S, sN_63 S, sR_4_30 S, sC_64 S, sN_64 S, sR_4_31 S, sC_65 S, sN_65 S, sR_4_33 S, sC_67 S, sN_67 S, sR_4_34 S, sC_68 S, sN_68 S, k0, k1, k2, k3, k4, k5, k6, k7, k8, k9, k10, k11, k12, k13, k14, k15, k16, k17, k18, k19, k20, k21, k22, k23, k24, k25, k26, k27, k28, k29, k30, k31, k32, k33, k34, k35, k36, k37, k38, k39, k40, k41, k42, k43, k44, k45, k46, k47, k48, k49, k50, k51, k52, k53, k54, k55, k56, k57, k58, k59, k60, k61, k62, k63, k64, k65, k66, k67, k68, k69, k70, k71, k72, k73, k74, k75, k76, k77, k78, k79, k80, k81, k82, k83, k84, k85, k86, k87, k88, k89, k90, k91, k92, k93, k94, k95, k96, k97, k98, k99, k100, C141, ha, e27, n12, ini_iff t31, nI_clamp t31, h12, true_and, and_true, and_self, if_true, if_false, ite_true, ite_false, Nat.lt_irrefl, List.length_nil, List.length_cons, Nat.reduceAdd, Nat.reduceLeDiff, Nat.reduceLT, Nat.reduceEqDiff, Nat.zero_lt_one, not_true, not_false_iff, bI_0, bI_1, ne_eq, reduceCtorEq, false_and, and_false, or_true, true_or, or_false, false_or, Nat.lt_one_iff, eq_self, Nat.zero_le, am_ko_v, am_ko_0, am_kil, Nat.reduceBEq, Int32.reduceLT, Int32.reduceLE, Int32.reduceAdd, Int32.reduceSub, i32_10, i32_01, not_true_eq_false, not_false_eq_true, Classical.not_not, nor_self, Nat.lt_add_one, nI_1, nI_pred, rf_n, i32_m0, i32_m1, reduceIte]
  rw [eM]
  refine N0 _ _ ?_
  have H0 : rfT (sI (sI σ 4 0 0 0) 64 0 tx 0) (sI (sI σ 4 0 0 0) 64 0 tx 0) tx (gI (sI σ 4 0 0 0) 73 0) (gI (sI σ 4 0 0 0) 74 0) 0 [] := ⟨rfR_rf, fun j hj => rfl, fun j hj => rfl, mI_sI_s, fun s r e => (by cases e)⟩
  have go := L174 (Q := Q) (D := D + 2) (x1 := a) E hD 11 [] _ 0 0 _ _ (by decide) rfl H0 (Nat.le_refl _) (Nat.zero_le _) (by
    have hf := @txtP_f (toksF B L) (uksF B L) 11 0 0
    show (match txtP (toksF B L) (uksF B L) 11 0 0 with
      | .inl (k, p) => _
      | .inr l => _)
    revert q hf
    cases txtP (toksF B L) (uksF B L) 11 0 0 with
    | inl e =>
      obtain ⟨k, p⟩ := e
      intro q hf σ2 fr ov va le op tk n1 g1 h1 a2 F ag ah
      have hz := q σ2 fr ov va le op tk n1 g1 h1 F ag ah
      have kp := hf k p rfl
      have S := (rfR_B E F).1.1
      simp only [S174_83, S174_84, S174_85, S174_88, S174_89, S174_92, S174_95, S174_96, S174_97, S174_100, S174_101, gL_sI, gR_sI, gN_sI, gC_sI, gB_sI, gI_sL, gR_sL, gN_sL, gC_sL, gB_sL, gI_sR, gL_sR, gN_sR, gC_sR, gB_sR, gL_sIr, gR_sIr, gN_sIr, gC_sIr, gB_sIr, gI_sLr, gR_sLr, gN_sLr, gC_sLr, gB_sLr, gI_sRr, gL_sRr, gN_sRr, gC_sRr, gB_sRr, gI_sN, gL_sN, gR_sN, gC_sN, gB_sN, gI_sC, gL_sC, gR_sC, gN_sC, gB_sC, gI_sB, gL_sB, gR_sB, gN_sB, gC_sB, gB_sB, gB_am_mk, gI_am_ml, gL_am_ml, gR_am_ml, gB_am_ml, gI_am_add, gL_am_add, gC_am_add, gB_am_add, gI_am_ins, gL_am_ins, gC_am_ins, gB_am_ins, gI_am_rem, gL_am_rem, gC_am_rem, gB_am_rem, gI_am_thr, gL_am_thr, gR_am_thr, gN_am_thr, gB_am_thr, mI_sI_k, mI_sI_j, mI_sI_b, mI_sI_s, mI_sI_i, mI_sI_c, mL_sL_k, mL_sL_j, mL_sL_b, mL_sL_s, mL_sL_i, mL_sL_c, mR_sR_k, mR_sR_j, mR_sR_b, mR_sR_s, mR_sR_i, mR_sR_c, mI_sIr_k, mI_sIr_s, mI_sIr_i, mL_sLr_k, mL_sLr_s, mL_sLr_i, mR_sRr_k, mR_sRr_s, mR_sRr_i, mN_sN_k, mN_sN_i, mN_am_add_k, mN_am_add_s, mR_am_add_k, mN_am_ins_k, mN_am_ins_s, mR_am_ins_k, mN_am_rem_k, mN_am_rem_s, mR_am_rem_k, mR_am_add_s, mR_am_ins_s, mR_am_rem_s, mI_am_mk_k, mI_am_mk_s, mI_am_mk_i, mL_am_mk_k, mL_am_mk_s, mL_am_mk_i, mR_am_mk_k, mR_am_mk_s, mR_am_mk_i, mN_am_mk_k, mN_am_mk_i, mC_am_mk_k, mC_am_mk_s, mN_am_ml_k, mN_am_ml_i, mC_am_ml_k, mC_am_ml_s, mC_sC_k, mC_am_thr_k, sC_3 S, sC_4 S, sR_4_28 S, sC_62 S, sN_62 S, sR_4_29 S, sC_63 S, sN_63 S, sR_4_30 S, sC_64 S, sN_64 S, sR_4_31 S, sC_65 S, sN_65 S, sR_4_33 S, sC_67 S, sN_67 S, sR_4_34 S, sC_68 S, sN_68 S, k0, k1, k2, k3, k4, k5, k6, k7, k8, k9, k10, k11, k12, k13, k14, k15, k16, k17, k18, k19, k20, k21, k22, k23, k24, k25, k26, k27, k28, k29, k30, k31, k32, k33, k34, k35, k36, k37, k38, k39, k40, k41, k42, k43, k44, k45, k46, k47, k48, k49, k50, k51, k52, k53, k54, k55, k56, k57, k58, k59, k60, k61, k62, k63, k64, k65, k66, k67, k68, k69, k70, k71, k72, k73, k74, k75, k76, k77, k78, k79, k80, k81, k82, k83, k84, k85, k86, k87, k88, k89, k90, k91, k92, k93, k94, k95, k96, k97, k98, k99, k100, rx_R, rx_C, rx_47, rx_s4, kp, true_and, and_true, and_self, if_true, if_false, ite_true, ite_false, Nat.lt_irrefl, List.length_nil, List.length_cons, Nat.reduceAdd, Nat.reduceLeDiff, Nat.reduceLT, Nat.reduceEqDiff, Nat.zero_lt_one, not_true, not_false_iff, bI_0, bI_1, ne_eq, reduceCtorEq, false_and, and_false, or_true, true_or, or_false, false_or, Nat.lt_one_iff, eq_self, Nat.zero_le, am_ko_v, am_ko_0, am_kil, Nat.reduceBEq, Int32.reduceLT, Int32.reduceLE, Int32.reduceAdd, Int32.reduceSub, i32_10, i32_01, not_true_eq_false, not_false_eq_true, Classical.not_not, nor_self, Nat.lt_add_one, nI_1, nI_pred, rf_n, i32_m0, i32_m1, reduceIte]
      exact hz
    | inr l =>
      intro q hf σ2 t1 n1 g1 h1 a2 hn H
      have H : rfT (sI (sI σ 4 0 0 0) 64 0 tx 0) σ2 tx g1 h1 n1 l := H
      have hz := q σ2 t1 n1 g1 h1 a2 hn H
      have S := (rfR_B E H.1).1.1
      unfold rfM at hz ⊢
      simp only [S174_83, S174_84, S174_85, S174_88, S174_89, S174_92, S174_95, S174_96, S174_97, S174_100, S174_101, gL_sI, gR_sI, gN_sI, gC_sI, gB_sI, gI_sL, gR_sL, gN_sL, gC_sL, gB_sL, gI_sR, gL_sR, gN_sR, gC_sR, gB_sR, gL_sIr, gR_sIr, gN_sIr, gC_sIr, gB_sIr, gI_sLr, gR_sLr, gN_sLr, gC_sLr, gB_sLr, gI_sRr, gL_sRr, gN_sRr, gC_sRr, gB_sRr, gI_sN, gL_sN, gR_sN, gC_sN, gB_sN, gI_sC, gL_sC, gR_sC, gN_sC, gB_sC, gI_sB, gL_sB, gR_sB, gN_sB, gC_sB, gB_sB, gB_am_mk, gI_am_ml, gL_am_ml, gR_am_ml, gB_am_ml, gI_am_add, gL_am_add, gC_am_add, gB_am_add, gI_am_ins, gL_am_ins, gC_am_ins, gB_am_ins, gI_am_rem, gL_am_rem, gC_am_rem, gB_am_rem, gI_am_thr, gL_am_thr, gR_am_thr, gN_am_thr, gB_am_thr, mI_sI_k, mI_sI_j, mI_sI_b, mI_sI_s, mI_sI_i, mI_sI_c, mL_sL_k, mL_sL_j, mL_sL_b, mL_sL_s, mL_sL_i, mL_sL_c, mR_sR_k, mR_sR_j, mR_sR_b, mR_sR_s, mR_sR_i, mR_sR_c, mI_sIr_k, mI_sIr_s, mI_sIr_i, mL_sLr_k, mL_sLr_s, mL_sLr_i, mR_sRr_k, mR_sRr_s, mR_sRr_i, mN_sN_k, mN_sN_i, mN_am_add_k, mN_am_add_s, mR_am_add_k, mN_am_ins_k, mN_am_ins_s, mR_am_ins_k, mN_am_rem_k, mN_am_rem_s, mR_am_rem_k, mR_am_add_s, mR_am_ins_s, mR_am_rem_s, mI_am_mk_k, mI_am_mk_s, mI_am_mk_i, mL_am_mk_k, mL_am_mk_s, mL_am_mk_i, mR_am_mk_k, mR_am_mk_s, mR_am_mk_i, mN_am_mk_k, mN_am_mk_i, mC_am_mk_k, mC_am_mk_s, mN_am_ml_k, mN_am_ml_i, mC_am_ml_k, mC_am_ml_s, mC_sC_k, mC_am_thr_k, sC_3 S, sC_4 S, sR_4_28 S, sC_62 S, sN_62 S, sR_4_29 S, sC_63 S, sN_63 S, sR_4_30 S, sC_64 S, sN_64 S, sR_4_31 S, sC_65 S, sN_65 S, sR_4_33 S, sC_67 S, sN_67 S, sR_4_34 S, sC_68 S, sN_68 S, k0, k1, k2, k3, k4, k5, k6, k7, k8, k9, k10, k11, k12, k13, k14, k15, k16, k17, k18, k19, k20, k21, k22, k23, k24, k25, k26, k27, k28, k29, k30, k31, k32, k33, k34, k35, k36, k37, k38, k39, k40, k41, k42, k43, k44, k45, k46, k47, k48, k49, k50, k51, k52, k53, k54, k55, k56, k57, k58, k59, k60, k61, k62, k63, k64, k65, k66, k67, k68, k69, k70, k71, k72, k73, k74, k75, k76, k77, k78, k79, k80, k81, k82, k83, k84, k85, k86, k87, k88, k89, k90, k91, k92, k93, k94, k95, k96, k97, k98, k99, k100, rx_R, rx_C, rx_47, rx_s4, true_and, and_true, and_self, if_true, if_false, ite_true, ite_false, Nat.lt_irrefl, List.length_nil, List.length_cons, Nat.reduceAdd, Nat.reduceLeDiff, Nat.reduceLT, Nat.reduceEqDiff, Nat.zero_lt_one, not_true, not_false_iff, bI_0, bI_1, ne_eq, reduceCtorEq, false_and, and_false, or_true, true_or, or_false, false_or, Nat.lt_one_iff, eq_self, Nat.zero_le, am_ko_v, am_ko_0, am_kil, Nat.reduceBEq, Int32.reduceLT, Int32.reduceLE, Int32.reduceAdd, Int32.reduceSub, i32_10, i32_01, not_true_eq_false, not_false_eq_true, Classical.not_not, nor_self, Nat.lt_add_one, nI_1, nI_pred, rf_n, i32_m0, i32_m1, reduceIte]
      exact hz)
  simp only [S174_62, S174_63, am_ko_v, true_and, and_true, and_self, if_true, if_false, ite_true, ite_false, Nat.lt_irrefl, List.length_nil, List.length_cons, Nat.reduceAdd, Nat.reduceLeDiff, Nat.reduceLT, Nat.reduceEqDiff, Nat.zero_lt_one, not_true, not_false_iff, bI_0, bI_1, ne_eq, reduceCtorEq, false_and, and_false, or_true, true_or, or_false, false_or, Nat.lt_one_iff, eq_self, Nat.zero_le, am_ko_v, am_ko_0, am_kil, Nat.reduceBEq, Int32.reduceLT, Int32.reduceLE, Int32.reduceAdd, Int32.reduceSub, i32_10, i32_01, not_true_eq_false, not_false_eq_true, Classical.not_not, nor_self, Nat.lt_add_one, nI_1, nI_pred, rf_n, i32_m0, i32_m1, reduceIte]
  exact go
end RTL
