/-! the reference's STATEMENTS: what is read so far, the body, the whole -/
def sgQ (x y : Int32) (g h : Nat → Int32) (ox n : Nat) (q : Option cdT) : Prop := match q with
  | none => x = -1
  | some l => ∃ a b, x = nI a ∧ y = nI b ∧ a ≤ b ∧ b ≤ n ∧ sgR g h ox a b = l
def rwK (σ : aM) (tx : Nat) (g h : Nat → Int32) (n s : Nat) (r : rcT) : Prop := gI σ 65 0 (10 * tx + s) = nI r.1 ∧ gI σ 66 0 (10 * tx + s) = r.2.2.1 ∧ gI σ 67 0 (10 * tx + s) = -1 ∧ (r.1 = 6 → gL σ 68 0 (10 * tx + s) = r.2.1) ∧ sgQ (gI σ 69 0 (10 * tx + s)) (gI σ 70 0 (10 * tx + s)) g h (320 * tx) n r.2.2.2.2.1 ∧ sgQ (gI σ 71 0 (10 * tx + s)) (gI σ 72 0 (10 * tx + s)) g h (320 * tx) n r.2.2.2.2.2.2
def rfT (σ σ1 : aM) (tx : Nat) (g h : Nat → Int32) (n : Nat) (R : List rcT) : Prop := rfR σ σ1 tx ∧ agF (320 * tx) (gI σ 73 0) g ∧ agF (320 * tx) (gI σ 74 0) h ∧ gI σ1 64 0 tx = nI R.length ∧ ∀ s r, R[s]? = some r → rwK σ1 tx g h n s r
/-- a STATEMENT under way: only its own places are written -/
def stA (σ σ1 σ2 : aM) (tx si : Nat) : Prop := rfR σ σ2 tx ∧ (∀ K, 65 ≤ K → K ≤ 72 → ∀ j, j ≠ si → gI σ2 K 0 j = gI σ1 K 0 j) ∧ (∀ j, j ≠ si → gL σ2 68 0 j = gL σ1 68 0 j) ∧ gI σ2 64 0 tx = gI σ1 64 0 tx
theorem sgG_cg {f f1 g g1 : Nat → Int32} : ∀ k i, (∀ j, i ≤ j → j < i + k → f j = f1 j ∧ g j = g1 j) → sgG f g i k = sgG f1 g1 i k
  | 0, _, _ => rfl
  | k + 1, i, h => by
    show (f i, g i) :: sgG f g (i + 1) k = (f1 i, g1 i) :: sgG f1 g1 (i + 1) k
    rw [(h i (Nat.le_refl _) (by omega)).1, (h i (Nat.le_refl _) (by omega)).2, sgG_cg k (i + 1) (fun j h1 h2 => h j (by omega) (by omega))]
theorem sgG_wc : ∀ (r : cdT) (g h : Nat → Int32) (n : Nat), sgG (wcF g n (r.map Prod.fst)) (wcF h n (r.map Prod.snd)) n r.length = r
  | [], _, _, _ => rfl
  | x :: r, g, h, n => by
    have e1 : wcF g n ((x :: r).map Prod.fst) = wcF (wcF g n [x.1]) (n + 1) (r.map Prod.fst) := (wr_wr (a := [x.1]) (b := r.map Prod.fst)).symm
    have e2 : wcF h n ((x :: r).map Prod.snd) = wcF (wcF h n [x.2]) (n + 1) (r.map Prod.snd) := (wr_wr (a := [x.2]) (b := r.map Prod.snd)).symm
    show (wcF g n ((x :: r).map Prod.fst) n, wcF h n ((x :: r).map Prod.snd) n) :: sgG (wcF g n ((x :: r).map Prod.fst)) (wcF h n ((x :: r).map Prod.snd)) (n + 1) r.length = x :: r
    rw [e1, e2, sgG_wc r, ← e1, ← e2]
    congr 1
    refine Prod.ext ?_ ?_
    · show wcF g n ((x :: r).map Prod.fst) n = x.1
      unfold wcF
      rw [if_pos (by simp only [List.map_cons, List.length_cons]; omega), Nat.sub_self]; rfl
    · show wcF h n ((x :: r).map Prod.snd) n = x.2
      unfold wcF
      rw [if_pos (by simp only [List.map_cons, List.length_cons]; omega), Nat.sub_self]; rfl
theorem sgR_wc {g h : Nat → Int32} {ox n : Nat} {r : cdT} : sgR (wcF g (ox + n) (r.map Prod.fst)) (wcF h (ox + n) (r.map Prod.snd)) ox n (n + r.length) = r := by
  unfold sgR
  rw [show n + r.length - n = r.length by omega]
  exact sgG_wc r g h (ox + n)
theorem sgQ_lo {x y : Int32} {g h g2 h2 : Nat → Int32} {ox n n2 : Nat} {q : Option cdT} (k : sgQ x y g h ox n q) (hg : ∀ j, j < ox + n → g2 j = g j) (hh : ∀ j, j < ox + n → h2 j = h j) (hn : n ≤ n2) : sgQ x y g2 h2 ox n2 q := by
  cases q with
  | none => exact k
  | some l =>
    obtain ⟨a, b, e1, e2, e3, e4, e5⟩ := k
    refine ⟨a, b, e1, e2, e3, by omega, ?_⟩
    rw [← e5]
    unfold sgR
    exact sgG_cg _ _ (fun j h1 h2 => ⟨hg j (by omega), hh j (by omega)⟩)
theorem wc_lo {g : Nat → Int32} {m : Nat} {c : List Int32} {j : Nat} (h : j < m) : wcF g m c j = g j := if_neg (fun q => by omega)
section STA
variable {σ σ1 σ2 σ3 : aM} {tx si K n n2 : Nat} {v : Int32} {g h g2 h2 : Nat → Int32} {R : List rcT} {r : rcT}
theorem stA_0 (H : rfR σ σ1 tx) : stA σ σ1 σ1 tx si := ⟨H, fun _ _ _ _ _ => rfl, fun _ _ => rfl, rfl⟩
theorem stA_s (A : stA σ σ1 σ2 tx si) (h1 : 65 ≤ K) (h2 : K ≤ 72) (h3 : 10 * tx ≤ si) : stA σ σ1 (sI σ2 K 0 si v) tx si := by
  obtain ⟨a1, a2, a3, a4⟩ := A
  refine ⟨rfR_s a1 h1 h2 h3, fun K1 b1 b2 j hj => ?_, a3, (mI_sI_k (by omega)).trans a4⟩
  rw [← a2 K1 b1 b2 j hj]
  exact if_neg (fun q => hj q.2.2)
theorem stA_L {w : Int64} (A : stA σ σ1 σ2 tx si) : stA σ σ1 (sL σ2 68 0 si w) tx si := by
  obtain ⟨a1, a2, a3, a4⟩ := A
  refine ⟨rfR_L a1, a2, fun j hj => ?_, a4⟩
  rw [← a3 j hj]
  exact if_neg (fun q => hj q.2.2)
theorem rfT_add (H : rfT σ σ1 tx g h n R) (A : stA σ σ1 σ2 tx (10 * tx + R.length)) (hg : ∀ j, j < 320 * tx + n → g2 j = g j) (hh : ∀ j, j < 320 * tx + n → h2 j = h j) (hn : n ≤ n2) (ro : rwK σ2 tx g2 h2 n2 R.length r) : rfT σ (sI σ2 64 0 tx (nI (R.length + 1))) tx g2 h2 n2 (R ++ [r]) := by
  obtain ⟨a1, a2, a3, a4⟩ := A
  obtain ⟨t1, t2, t3, t4, t5⟩ := H
  refine ⟨rfR_64 a1, fun j hj => (hg j (by omega)).trans (t2 j hj), fun j hj => (hh j (by omega)).trans (t3 j hj), by rw [mI_sI_s, List.length_append]; rfl, fun s r' hs => ?_⟩
  have k64 : ∀ K j, K ≠ 64 → gI (sI σ2 64 0 tx (nI (R.length + 1))) K 0 j = gI σ2 K 0 j := fun K j hK => mI_sI_k hK
  have l64 : ∀ j, gL (sI σ2 64 0 tx (nI (R.length + 1))) 68 0 j = gL σ2 68 0 j := fun j => rfl
  unfold rwK
  rw [k64 65 _ (by decide), k64 66 _ (by decide), k64 67 _ (by decide), k64 69 _ (by decide), k64 70 _ (by decide), k64 71 _ (by decide), k64 72 _ (by decide), l64]
  rcases Nat.lt_trichotomy s R.length with c | c | c
  · rw [List.getElem?_append_left c] at hs
    obtain ⟨r1, r2, r3, r4, r5, r6⟩ := t5 s r' hs
    have ne : 10 * tx + s ≠ 10 * tx + R.length := by omega
    rw [a2 65 (by omega) (by omega) _ ne, a2 66 (by omega) (by omega) _ ne, a2 67 (by omega) (by omega) _ ne, a2 69 (by omega) (by omega) _ ne, a2 70 (by omega) (by omega) _ ne, a2 71 (by omega) (by omega) _ ne, a2 72 (by omega) (by omega) _ ne, a3 _ ne]
    exact ⟨r1, r2, r3, r4, sgQ_lo r5 hg hh hn, sgQ_lo r6 hg hh hn⟩
  · subst c
    rw [List.getElem?_append_right (Nat.le_refl _), Nat.sub_self] at hs
    cases hs
    exact ro
  · rw [List.getElem?_append_right (by omega)] at hs
    obtain ⟨m, hm⟩ : ∃ m, s - R.length = m + 1 := ⟨s - R.length - 1, by omega⟩
    rw [hm] at hs
    cases hs
end STA
def tPost (σ : aM) (T : tkT) (U : ukT) (tx : Nat) (R : List rcT) (x : sP) (Q : aR → aM → Prop) : Prop := match x with
  | .inl (k, p) => ∀ σ2 fr ov va le op tk n1 g1 h1, rfR σ σ2 tx → agF (320 * tx) (gI σ 73 0) g1 → agF (320 * tx) (gI σ 74 0) h1 → Q (some (some (vi 0))) (rfX σ2 fr ov va le op tk n1 g1 h1 k (nI p))
  | .inr (t1, r) => ∀ σ2 n2 g2 h2, n2 ≤ t1 → rfT σ σ2 tx g2 h2 n2 (R ++ [r]) → Q (some (some (vi 1))) (rfM σ2 T U t1 0 n2 g2 h2 0 (-1))
theorem rx_s {σ : aM} {fr ov va op tk n k p v : Int32} {le : Int64} {g h : Nat → Int32} {K i j : Nat} (h4 : K ≠ 4) (h3 : K ≠ 73) (h5 : K ≠ 74) : sI (rfX σ fr ov va le op tk n g h k p) K i j v = rfX (sI σ K i j v) fr ov va le op tk n g h k p := by
  unfold rfX
  rw [sI_cm h4, sI_cm h4, sI_cm h4, sI_cm h4, sI_cm h4, sI_cm h4, sI_cm h4, sI_cm h4]
  have e : ∀ τ : aM, sI (sL τ 4 0 51 le) K i j v = sL (sI τ K i j v) 4 0 51 le := fun _ => rfl
  rw [e, sIr_cm h5, sIr_cm h3]
/-- letters are not nothing -/
theorem leF_0 {B : Nat → Int32} {s k : Nat} (hk : 0 < k) (hb : 97 ≤ B (s + (k - 1))) : leF B s k 0 ≠ 0 := by
  obtain ⟨m, rfl⟩ : ∃ m, k = m + 1 := ⟨k - 1, by omega⟩
  rw [show m + 1 - 1 = m by omega] at hb
  rw [leF_sn]
  intro e
  have e1 : (B (s + m)).toInt64 = 0 := by
    apply Int64.toBitVec_inj.mp
    have := congrArg Int64.toBitVec e
    rw [Int64.toBitVec_or] at this
    apply BitVec.eq_of_getLsbD_eq
    intro i hi
    have h1 := congrArg (fun x => BitVec.getLsbD x i) this
    simp only [BitVec.getLsbD_or] at h1
    have h2 : (Int64.toBitVec 0).getLsbD i = false := by
      show (0#64).getLsbD i = false
      simp
    rw [h2] at h1 ⊢
    rw [Bool.or_eq_false_iff] at h1
    exact h1.2
  have e2 : (B (s + m)).toInt = 0 := by
    have := congrArg Int64.toInt e1
    rw [Int32.toInt_toInt64] at this
    exact this
  have h3 := Int32.le_iff_toInt_le.mp hb
  rw [e2] at h3
  exact absurd h3 (by decide)
theorem le_0 {B : Nat → Int32} {L : Nat} (hB : ∀ j, 0 ≤ B j ∧ B j < 256) (t : Nat) : (uksF B L t).2 = 0 ↔ ((toksF B L t).1 < 258 ∨ 8 < (toksF B L t).2.2 - (toksF B L t).2.1) := by
  unfold uksF
  dsimp only
  by_cases c1 : 258 ≤ (toksF B L t).1
  · rw [if_pos c1]
    by_cases c2 : 8 < (toksF B L t).2.2 - (toksF B L t).2.1
    · rw [if_pos c2]
      exact ⟨fun _ => Or.inr c2, fun _ => rfl⟩
    · rw [if_neg c2]
      refine ⟨fun e => ?_, fun e => e.elim (fun a => absurd c1 (Int32.not_le.mpr a)) (fun a => absurd a c2)⟩
      exfalso
      have hne : (toksF B L t).1 ≠ 256 := fun e => absurd c1 (by rw [e]; decide)
      obtain ⟨i1, i2, i3, i4, i5, -⟩ := toks_in hB hne
      have r1 : rwF (toksF B L t).1 = 258 := if_pos c1
      have hall : ∀ j, (toksF B L t).2.1 ≤ j → j < (toksF B L t).2.2 → srF (B j) = 258 := by
        intro j
        induction j with
        | zero =>
          intro h1 h2
          have e0 : (toksF B L t).2.1 = 0 := by omega
          rw [e0] at i4
          rw [← i4]; exact r1
        | succ j ih =>
          intro h1 h2
          by_cases e0 : (toksF B L t).2.1 = j + 1
          · rw [e0] at i4
            rw [← i4]; exact r1
          · have := (i5 (j + 1) (by omega) h2).1
            rw [this, show j + 1 - 1 = j by omega]
            exact ih (by omega) (by omega)
      have hl := (sr_258 (hB _).2).mp (hall ((toksF B L t).2.1 + ((toksF B L t).2.2 - (toksF B L t).2.1 - 1)) (by omega) (by omega))
      unfold lwB at hl
      exact leF_0 (by omega) (of_decide_eq_true hl).1 e
  · rw [if_neg c1]
    exact ⟨fun _ => Or.inl (Int32.not_le.mp c1), fun _ => rfl⟩
section RBD
variable {σ : aM} {t n tx si D L : Nat} {B : Nat → Int32} {g h : Nat → Int32} {Q : aR → aM → Prop}
/-- a body that is a SUM -/
theorem C173A (E : rfB σ B L tx) (hs : si < 120) (hs0 : 10 * tx ≤ si) {k : Nat} (hk : k = 0 ∨ k = 4 ∨ k = 5) (hn : n ≤ t) (ht : t ≤ 300) (hD : 40 ≤ D) (q : match sumP (toksF B L) (fun t => (uksF B L t).1) 4 t with
  | .inl (kk, p) => ∀ y fr ov va le op tk n1 g1 h1, agF (320 * tx) g g1 → agF (320 * tx) h h1 → Q (some (some (vi 0))) (rfX (sI (sI σ 69 0 si (nI n)) 70 0 si y) fr ov va le op tk n1 g1 h1 kk (nI p))
  | .inr (t1, _, r) => Q (some (some (vi 1))) (rfM (sI (sI σ 69 0 si (nI n)) 70 0 si (nI (n + r.length))) (toksF B L) (uksF B L) t1 0 (n + r.length) (wcF g (320 * tx + n) (r.map Prod.fst)) (wcF h (320 * tx + n) (r.map Prod.snd)) 0 (-1))) : WP D 173 0 [some (vr (some (4, 0))), some (vi (nI si)), some (vi (nI k)), none] [] (rfM σ (toksF B L) (uksF B L) t 0 n g h 0 (-1)) Q := by
  obtain ⟨D, rfl⟩ : ∃ D1, D = D1 + 4 := ⟨D - 4, by omega⟩
  have S := (rfE_B E).1
  have s31 : si < 2147483648 := by omega
  have E2 : rfB (sI σ 69 0 si (nI n)) B L tx := rfR_B E (rfR_s rfR_rf (by decide) (by decide) hs0)
  have E3 := rfE_B E2
  have go : WP (D + 3) 168 0 [some (vr (some (4, 0))), none] [] (rfM (sI σ 69 0 si (nI n)) (toksF B L) (uksF B L) t 0 n g h 0 (-1)) (am_ko (D + 3 + 1) 173 25 28 [some (vr (some (4, 0))), some (vi (nI si)), some (vi (nI k)), none] [] Q) := by
    refine RsumP E3 4 (by omega) _ _ _ _ _ _ (by omega) (by omega) (by omega) ?_
    revert q
    cases sumP (toksF B L) (fun t => (uksF B L t).1) 4 t with
    | inl e =>
      obtain ⟨kk, p⟩ := e
      intro q fr ov va le op tk n1 g1 h1 eg eh
      have hz := q n1 fr ov va le op tk n1 g1 h1 eg eh
      simp only [S173_28, S173_29, S173_30, S173_33, S173_34, S173_35, S173_38, S173_39, S173_40, gL_sI, gR_sI, gN_sI, gC_sI, gB_sI, gI_sL, gR_sL, gN_sL, gC_sL, gB_sL, gI_sR, gL_sR, gN_sR, gC_sR, gB_sR, gL_sIr, gR_sIr, gN_sIr, gC_sIr, gB_sIr, gI_sLr, gR_sLr, gN_sLr, gC_sLr, gB_sLr, gI_sRr, gL_sRr, gN_sRr, gC_sRr, gB_sRr, gI_sN, gL_sN, gR_sN, gC_sN, gB_sN, gI_sC, gL_sC, gR_sC, gN_sC, gB_sC, gI_sB, gL_sB, gR_sB, gN_sB, gC_sB, gB_sB, gB_am_mk, gI_am_ml, gL_am_ml, gR_am_ml, gB_am_ml, gI_am_add, gL_am_add, gC_am_add, gB_am_add, gI_am_ins, gL_am_ins, gC_am_ins, gB_am_ins, gI_am_rem, gL_am_rem, gC_am_rem, gB_am_rem, gI_am_thr, gL_am_thr, gR_am_thr, gN_am_thr, gB_am_thr, mI_sI_k, mI_sI_j, mI_sI_b, mI_sI_s, mI_sI_i, mI_sI_c, mL_sL_k, mL_sL_j, mL_sL_b, mL_sL_s, mL_sL_i, mL_sL_c, mR_sR_k, mR_sR_j, mR_sR_b, mR_sR_s, mR_sR_i, mR_sR_c, mI_sIr_k, mI_sIr_s, mI_sIr_i, mL_sLr_k, mL_sLr_s, mL_sLr_i, mR_sRr_k, mR_sRr_s, mR_sRr_i, mN_sN_k, mN_sN_i, mN_am_add_k, mN_am_add_s, mR_am_add_k, mN_am_ins_k, mN_am_ins_s, mR_am_ins_k, mN_am_rem_k, mN_am_rem_s, mR_am_rem_k, mR_am_add_s, mR_am_ins_s, mR_am_rem_s, mI_am_mk_k, mI_am_mk_s, mI_am_mk_i, mL_am_mk_k, mL_am_mk_s, mL_am_mk_i, mR_am_mk_k, mR_am_mk_s, mR_am_mk_i, mN_am_mk_k, mN_am_mk_i, mC_am_mk_k, mC_am_mk_s, mN_am_ml_k, mN_am_ml_i, mC_am_ml_k, mC_am_ml_s, mC_sC_k, mC_am_thr_k, sC_3 S, sC_4 S, sR_4_32 S, sC_66 S, sN_66 S, sR_4_34 S, sC_68 S, sN_68 S, sR_4_35 S, sC_69 S, sN_69 S, sR_4_36 S, sC_70 S, sN_70 S, k0, k1, k2, k3, k4, k5, k6, k7, k8, k9, k10, k11, k12, k13, k14, k15, k16, k17, k18, k19, k20, k21, k22, k23, k24, k25, k26, k27, k28, k29, k30, k31, k32, k33, k34, k35, k36, k37, k38, k39, k40, k41, k42, k43, k44, k45, k46, k47, k48, k49, k50, k51, k52, k53, k54, k55, k56, k57, k58, k59, k60, k61, k62, k63, k64, k65, k66, k67, k68, k69, k70, k71, k72, k73, k74, k75, k76, k77, k78, k79, k80, k81, k82, k83, k84, k85, k86, k87, k88, k89, k90, k91, k92, k93, k94, k95, k96, k97, k98, k99, k100, rx_R, rx_C, rx_N, rx_41, rx_s, ini_iff s31, nI_clamp s31, hs, true_and, and_true, and_self, if_true, if_false, ite_true, ite_false, Nat.lt_irrefl, List.length_nil, List.length_cons, Nat.reduceAdd, Nat.reduceLeDiff, Nat.reduceLT, Nat.reduceEqDiff, Nat.zero_lt_one, not_true, not_false_iff, bI_0, bI_1, ne_eq, reduceCtorEq, false_and, and_false, or_true, true_or, or_false, false_or, Nat.lt_one_iff, eq_self, Nat.zero_le, am_ko_v, am_ko_0, am_kil, Nat.reduceBEq, Int32.reduceLT, Int32.reduceLE, Int32.reduceAdd, Int32.reduceSub, i32_10, i32_01, not_true_eq_false, not_false_eq_true, Classical.not_not, nor_self, Nat.lt_add_one, nI_1, nI_pred, rf_n, i32_m0, i32_m1, reduceIte]
      exact hz
    | inr e =>
      obtain ⟨t1, c, r⟩ := e
      intro q
      refine rPost_r ?_
      simp only [S173_28, S173_29, S173_30, S173_33, S173_34, S173_35, S173_38, S173_39, S173_40, gL_sI, gR_sI, gN_sI, gC_sI, gB_sI, gI_sL, gR_sL, gN_sL, gC_sL, gB_sL, gI_sR, gL_sR, gN_sR, gC_sR, gB_sR, gL_sIr, gR_sIr, gN_sIr, gC_sIr, gB_sIr, gI_sLr, gR_sLr, gN_sLr, gC_sLr, gB_sLr, gI_sRr, gL_sRr, gN_sRr, gC_sRr, gB_sRr, gI_sN, gL_sN, gR_sN, gC_sN, gB_sN, gI_sC, gL_sC, gR_sC, gN_sC, gB_sC, gI_sB, gL_sB, gR_sB, gN_sB, gC_sB, gB_sB, gB_am_mk, gI_am_ml, gL_am_ml, gR_am_ml, gB_am_ml, gI_am_add, gL_am_add, gC_am_add, gB_am_add, gI_am_ins, gL_am_ins, gC_am_ins, gB_am_ins, gI_am_rem, gL_am_rem, gC_am_rem, gB_am_rem, gI_am_thr, gL_am_thr, gR_am_thr, gN_am_thr, gB_am_thr, mI_sI_k, mI_sI_j, mI_sI_b, mI_sI_s, mI_sI_i, mI_sI_c, mL_sL_k, mL_sL_j, mL_sL_b, mL_sL_s, mL_sL_i, mL_sL_c, mR_sR_k, mR_sR_j, mR_sR_b, mR_sR_s, mR_sR_i, mR_sR_c, mI_sIr_k, mI_sIr_s, mI_sIr_i, mL_sLr_k, mL_sLr_s, mL_sLr_i, mR_sRr_k, mR_sRr_s, mR_sRr_i, mN_sN_k, mN_sN_i, mN_am_add_k, mN_am_add_s, mR_am_add_k, mN_am_ins_k, mN_am_ins_s, mR_am_ins_k, mN_am_rem_k, mN_am_rem_s, mR_am_rem_k, mR_am_add_s, mR_am_ins_s, mR_am_rem_s, mI_am_mk_k, mI_am_mk_s, mI_am_mk_i, mL_am_mk_k, mL_am_mk_s, mL_am_mk_i, mR_am_mk_k, mR_am_mk_s, mR_am_mk_i, mN_am_mk_k, mN_am_mk_i, mC_am_mk_k, mC_am_mk_s, mN_am_ml_k, mN_am_ml_i, mC_am_ml_k, mC_am_ml_s, mC_sC_k, mC_am_thr_k, sC_3 S, sC_4 S, sR_4_32 S, sC_66 S, sN_66 S, sR_4_34 S, sC_68 S, sN_68 S, sR_4_35 S, sC_69 S, sN_69 S, sR_4_36 S, sC_70 S, sN_70 S, k0, k1, k2, k3, k4, k5, k6, k7, k8, k9, k10, k11, k12, k13, k14, k15, k16, k17, k18, k19, k20, k21, k22, k23, k24, k25, k26, k27, k28, k29, k30, k31, k32, k33, k34, k35, k36, k37, k38, k39, k40, k41, k42, k43, k44, k45, k46, k47, k48, k49, k50, k51, k52, k53, k54, k55, k56, k57, k58, k59, k60, k61, k62, k63, k64, k65, k66, k67, k68, k69, k70, k71, k72, k73, k74, k75, k76, k77, k78, k79, k80, k81, k82, k83, k84, k85, k86, k87, k88, k89, k90, k91, k92, k93, k94, k95, k96, k97, k98, k99, k100, rm_R, rm_C, rm_N, rm_41, rm_s, ini_iff s31, nI_clamp s31, hs, true_and, and_true, and_self, if_true, if_false, ite_true, ite_false, Nat.lt_irrefl, List.length_nil, List.length_cons, Nat.reduceAdd, Nat.reduceLeDiff, Nat.reduceLT, Nat.reduceEqDiff, Nat.zero_lt_one, not_true, not_false_iff, bI_0, bI_1, ne_eq, reduceCtorEq, false_and, and_false, or_true, true_or, or_false, false_or, Nat.lt_one_iff, eq_self, Nat.zero_le, am_ko_v, am_ko_0, am_kil, Nat.reduceBEq, Int32.reduceLT, Int32.reduceLE, Int32.reduceAdd, Int32.reduceSub, i32_10, i32_01, not_true_eq_false, not_false_eq_true, Classical.not_not, nor_self, Nat.lt_add_one, nI_1, nI_pred, rf_n, i32_m0, i32_m1, reduceIte]
      exact q
  rcases hk with rfl | rfl | rfl
  · simp only [S173_0, S173_1, S173_4, S173_5, S173_6, S173_9, S173_10, S173_11, S173_14, S173_15, S173_18, S173_19, S173_20, S173_23, S173_24, S173_25, gL_sI, gR_sI, gN_sI, gC_sI, gB_sI, gI_sL, gR_sL, gN_sL, gC_sL, gB_sL, gI_sR, gL_sR, gN_sR, gC_sR, gB_sR, gL_sIr, gR_sIr, gN_sIr, gC_sIr, gB_sIr, gI_sLr, gR_sLr, gN_sLr, gC_sLr, gB_sLr, gI_sRr, gL_sRr, gN_sRr, gC_sRr, gB_sRr, gI_sN, gL_sN, gR_sN, gC_sN, gB_sN, gI_sC, gL_sC, gR_sC, gN_sC, gB_sC, gI_sB, gL_sB, gR_sB, gN_sB, gC_sB, gB_sB, gB_am_mk, gI_am_ml, gL_am_ml, gR_am_ml, gB_am_ml, gI_am_add, gL_am_add, gC_am_add, gB_am_add, gI_am_ins, gL_am_ins, gC_am_ins, gB_am_ins, gI_am_rem, gL_am_rem, gC_am_rem, gB_am_rem, gI_am_thr, gL_am_thr, gR_am_thr, gN_am_thr, gB_am_thr, mI_sI_k, mI_sI_j, mI_sI_b, mI_sI_s, mI_sI_i, mI_sI_c, mL_sL_k, mL_sL_j, mL_sL_b, mL_sL_s, mL_sL_i, mL_sL_c, mR_sR_k, mR_sR_j, mR_sR_b, mR_sR_s, mR_sR_i, mR_sR_c, mI_sIr_k, mI_sIr_s, mI_sIr_i, mL_sLr_k, mL_sLr_s, mL_sLr_i, mR_sRr_k, mR_sRr_s, mR_sRr_i, mN_sN_k, mN_sN_i, mN_am_add_k, mN_am_add_s, mR_am_add_k, mN_am_ins_k, mN_am_ins_s, mR_am_ins_k, mN_am_rem_k, mN_am_rem_s, mR_am_rem_k, mR_am_add_s, mR_am_ins_s, mR_am_rem_s, mI_am_mk_k, mI_am_mk_s, mI_am_mk_i, mL_am_mk_k, mL_am_mk_s, mL_am_mk_i, mR_am_mk_k, mR_am_mk_s, mR_am_mk_i, mN_am_mk_k, mN_am_mk_i, mC_am_mk_k, mC_am_mk_s, mN_am_ml_k, mN_am_ml_i, mC_am_ml_k, mC_am_ml_s, mC_sC_k, mC_am_thr_k, sC_3 S, sC_4 S, sR_4_32 S, sC_66 S, sN_66 S, sR_4_34 S, sC_68 S, sN_68 S, sR_4_35 S, sC_69 S, sN_69 S, sR_4_36 S, sC_70 S, sN_70 S, k0, k1, k2, k3, k4, k5, k6, k7, k8, k9, k10, k11, k12, k13, k14, k15, k16, k17, k18, k19, k20, k21, k22, k23, k24, k25, k26, k27, k28, k29, k30, k31, k32, k33, k34, k35, k36, k37, k38, k39, k40, k41, k42, k43, k44, k45, k46, k47, k48, k49, k50, k51, k52, k53, k54, k55, k56, k57, k58, k59, k60, k61, k62, k63, k64, k65, k66, k67, k68, k69, k70, k71, k72, k73, k74, k75, k76, k77, k78, k79, k80, k81, k82, k83, k84, k85, k86, k87, k88, k89, k90, k91, k92, k93, k94, k95, k96, k97, k98, k99, k100, rm_R, rm_C, rm_N, rm_41, rm_s, ini_iff s31, nI_clamp s31, hs, show nI 0 = 0 from rfl, true_and, and_true, and_self, if_true, if_false, ite_true, ite_false, Nat.lt_irrefl, List.length_nil, List.length_cons, Nat.reduceAdd, Nat.reduceLeDiff, Nat.reduceLT, Nat.reduceEqDiff, Nat.zero_lt_one, not_true, not_false_iff, bI_0, bI_1, ne_eq, reduceCtorEq, false_and, and_false, or_true, true_or, or_false, false_or, Nat.lt_one_iff, eq_self, Nat.zero_le, am_ko_v, am_ko_0, am_kil, Nat.reduceBEq, Int32.reduceLT, Int32.reduceLE, Int32.reduceAdd, Int32.reduceSub, i32_10, i32_01, not_true_eq_false, not_false_eq_true, Classical.not_not, nor_self, Nat.lt_add_one, nI_1, nI_pred, rf_n, i32_m0, i32_m1, reduceIte]
    exact go
  · simp only [S173_0, S173_1, S173_4, S173_5, S173_6, S173_9, S173_10, S173_11, S173_14, S173_15, S173_18, S173_19, S173_20, S173_23, S173_24, S173_25, gL_sI, gR_sI, gN_sI, gC_sI, gB_sI, gI_sL, gR_sL, gN_sL, gC_sL, gB_sL, gI_sR, gL_sR, gN_sR, gC_sR, gB_sR, gL_sIr, gR_sIr, gN_sIr, gC_sIr, gB_sIr, gI_sLr, gR_sLr, gN_sLr, gC_sLr, gB_sLr, gI_sRr, gL_sRr, gN_sRr, gC_sRr, gB_sRr, gI_sN, gL_sN, gR_sN, gC_sN, gB_sN, gI_sC, gL_sC, gR_sC, gN_sC, gB_sC, gI_sB, gL_sB, gR_sB, gN_sB, gC_sB, gB_sB, gB_am_mk, gI_am_ml, gL_am_ml, gR_am_ml, gB_am_ml, gI_am_add, gL_am_add, gC_am_add, gB_am_add, gI_am_ins, gL_am_ins, gC_am_ins, gB_am_ins, gI_am_rem, gL_am_rem, gC_am_rem, gB_am_rem, gI_am_thr, gL_am_thr, gR_am_thr, gN_am_thr, gB_am_thr, mI_sI_k, mI_sI_j, mI_sI_b, mI_sI_s, mI_sI_i, mI_sI_c, mL_sL_k, mL_sL_j, mL_sL_b, mL_sL_s, mL_sL_i, mL_sL_c, mR_sR_k, mR_sR_j, mR_sR_b, mR_sR_s, mR_sR_i, mR_sR_c, mI_sIr_k, mI_sIr_s, mI_sIr_i, mL_sLr_k, mL_sLr_s, mL_sLr_i, mR_sRr_k, mR_sRr_s, mR_sRr_i, mN_sN_k, mN_sN_i, mN_am_add_k, mN_am_add_s, mR_am_add_k, mN_am_ins_k, mN_am_ins_s, mR_am_ins_k, mN_am_rem_k, mN_am_rem_s, mR_am_rem_k, mR_am_add_s, mR_am_ins_s, mR_am_rem_s, mI_am_mk_k, mI_am_mk_s, mI_am_mk_i, mL_am_mk_k, mL_am_mk_s, mL_am_mk_i, mR_am_mk_k, mR_am_mk_s, mR_am_mk_i, mN_am_mk_k, mN_am_mk_i, mC_am_mk_k, mC_am_mk_s, mN_am_ml_k, mN_am_ml_i, mC_am_ml_k, mC_am_ml_s, mC_sC_k, mC_am_thr_k, sC_3 S, sC_4 S, sR_4_32 S, sC_66 S, sN_66 S, sR_4_34 S, sC_68 S, sN_68 S, sR_4_35 S, sC_69 S, sN_69 S, sR_4_36 S, sC_70 S, sN_70 S, k0, k1, k2, k3, k4, k5, k6, k7, k8, k9, k10, k11, k12, k13, k14, k15, k16, k17, k18, k19, k20, k21, k22, k23, k24, k25, k26, k27, k28, k29, k30, k31, k32, k33, k34, k35, k36, k37, k38, k39, k40, k41, k42, k43, k44, k45, k46, k47, k48, k49, k50, k51, k52, k53, k54, k55, k56, k57, k58, k59, k60, k61, k62, k63, k64, k65, k66, k67, k68, k69, k70, k71, k72, k73, k74, k75, k76, k77, k78, k79, k80, k81, k82, k83, k84, k85, k86, k87, k88, k89, k90, k91, k92, k93, k94, k95, k96, k97, k98, k99, k100, rm_R, rm_C, rm_N, rm_41, rm_s, ini_iff s31, nI_clamp s31, hs, show (nI 4 = 0) = False by decide, show (nI 4 = 4) = True from eq_true rfl, true_and, and_true, and_self, if_true, if_false, ite_true, ite_false, Nat.lt_irrefl, List.length_nil, List.length_cons, Nat.reduceAdd, Nat.reduceLeDiff, Nat.reduceLT, Nat.reduceEqDiff, Nat.zero_lt_one, not_true, not_false_iff, bI_0, bI_1, ne_eq, reduceCtorEq, false_and, and_false, or_true, true_or, or_false, false_or, Nat.lt_one_iff, eq_self, Nat.zero_le, am_ko_v, am_ko_0, am_kil, Nat.reduceBEq, Int32.reduceLT, Int32.reduceLE, Int32.reduceAdd, Int32.reduceSub, i32_10, i32_01, not_true_eq_false, not_false_eq_true, Classical.not_not, nor_self, Nat.lt_add_one, nI_1, nI_pred, rf_n, i32_m0, i32_m1, reduceIte]
    exact go
  · simp only [S173_0, S173_1, S173_4, S173_5, S173_6, S173_9, S173_10, S173_11, S173_14, S173_15, S173_18, S173_19, S173_20, S173_23, S173_24, S173_25, gL_sI, gR_sI, gN_sI, gC_sI, gB_sI, gI_sL, gR_sL, gN_sL, gC_sL, gB_sL, gI_sR, gL_sR, gN_sR, gC_sR, gB_sR, gL_sIr, gR_sIr, gN_sIr, gC_sIr, gB_sIr, gI_sLr, gR_sLr, gN_sLr, gC_sLr, gB_sLr, gI_sRr, gL_sRr, gN_sRr, gC_sRr, gB_sRr, gI_sN, gL_sN, gR_sN, gC_sN, gB_sN, gI_sC, gL_sC, gR_sC, gN_sC, gB_sC, gI_sB, gL_sB, gR_sB, gN_sB, gC_sB, gB_sB, gB_am_mk, gI_am_ml, gL_am_ml, gR_am_ml, gB_am_ml, gI_am_add, gL_am_add, gC_am_add, gB_am_add, gI_am_ins, gL_am_ins, gC_am_ins, gB_am_ins, gI_am_rem, gL_am_rem, gC_am_rem, gB_am_rem, gI_am_thr, gL_am_thr, gR_am_thr, gN_am_thr, gB_am_thr, mI_sI_k, mI_sI_j, mI_sI_b, mI_sI_s, mI_sI_i, mI_sI_c, mL_sL_k, mL_sL_j, mL_sL_b, mL_sL_s, mL_sL_i, mL_sL_c, mR_sR_k, mR_sR_j, mR_sR_b, mR_sR_s, mR_sR_i, mR_sR_c, mI_sIr_k, mI_sIr_s, mI_sIr_i, mL_sLr_k, mL_sLr_s, mL_sLr_i, mR_sRr_k, mR_sRr_s, mR_sRr_i, mN_sN_k, mN_sN_i, mN_am_add_k, mN_am_add_s, mR_am_add_k, mN_am_ins_k, mN_am_ins_s, mR_am_ins_k, mN_am_rem_k, mN_am_rem_s, mR_am_rem_k, mR_am_add_s, mR_am_ins_s, mR_am_rem_s, mI_am_mk_k, mI_am_mk_s, mI_am_mk_i, mL_am_mk_k, mL_am_mk_s, mL_am_mk_i, mR_am_mk_k, mR_am_mk_s, mR_am_mk_i, mN_am_mk_k, mN_am_mk_i, mC_am_mk_k, mC_am_mk_s, mN_am_ml_k, mN_am_ml_i, mC_am_ml_k, mC_am_ml_s, mC_sC_k, mC_am_thr_k, sC_3 S, sC_4 S, sR_4_32 S, sC_66 S, sN_66 S, sR_4_34 S, sC_68 S, sN_68 S, sR_4_35 S, sC_69 S, sN_69 S, sR_4_36 S, sC_70 S, sN_70 S, k0, k1, k2, k3, k4, k5, k6, k7, k8, k9, k10, k11, k12, k13, k14, k15, k16, k17, k18, k19, k20, k21, k22, k23, k24, k25, k26, k27, k28, k29, k30, k31, k32, k33, k34, k35, k36, k37, k38, k39, k40, k41, k42, k43, k44, k45, k46, k47, k48, k49, k50, k51, k52, k53, k54, k55, k56, k57, k58, k59, k60, k61, k62, k63, k64, k65, k66, k67, k68, k69, k70, k71, k72, k73, k74, k75, k76, k77, k78, k79, k80, k81, k82, k83, k84, k85, k86, k87, k88, k89, k90, k91, k92, k93, k94, k95, k96, k97, k98, k99, k100, rm_R, rm_C, rm_N, rm_41, rm_s, ini_iff s31, nI_clamp s31, hs, show (nI 5 = 0) = False by decide, show (nI 5 = 4) = False by decide, show (nI 5 = 5) = True from eq_true rfl, true_and, and_true, and_self, if_true, if_false, ite_true, ite_false, Nat.lt_irrefl, List.length_nil, List.length_cons, Nat.reduceAdd, Nat.reduceLeDiff, Nat.reduceLT, Nat.reduceEqDiff, Nat.zero_lt_one, not_true, not_false_iff, bI_0, bI_1, ne_eq, reduceCtorEq, false_and, and_false, or_true, true_or, or_false, false_or, Nat.lt_one_iff, eq_self, Nat.zero_le, am_ko_v, am_ko_0, am_kil, Nat.reduceBEq, Int32.reduceLT, Int32.reduceLE, Int32.reduceAdd, Int32.reduceSub, i32_10, i32_01, not_true_eq_false, not_false_eq_true, Classical.not_not, nor_self, Nat.lt_add_one, nI_1, nI_pred, rf_n, i32_m0, i32_m1, reduceIte]
    exact go
/-- a body's NUMBER -/
theorem L173n (E : rfB σ B L tx) (hs : si < 120) (hs0 : 10 * tx ≤ si) {k : Nat} (hk : k = 1 ∨ k = 2 ∨ k = 6) (ht : t ≤ 300) (q : match (if k = 1 then numP (toksF B L) (fun t => (uksF B L t).1) 0 100 t else if k = 2 then numP (toksF B L) (fun t => (uksF B L t).1) 0 99 t else numP (toksF B L) (fun t => (uksF B L t).1) 1 9999 t) with
  | .inl (kk, p) => Q (some (some (vi 0))) (rfM σ (toksF B L) (uksF B L) t 0 n g h kk (nI p))
  | .inr _ => Q (some (some (vi 1))) (rfM (sI σ 66 0 si (uksF B L t).1) (toksF B L) (uksF B L) (t + 1) 0 n g h 0 (-1))) : WP (D + 3) 173 123 [some (vr (some (4, 0))), some (vi (nI si)), some (vi (nI k)), none] [] (rfM σ (toksF B L) (uksF B L) t 0 n g h 0 (-1)) Q := by
  have E1 := rfE_B E
  have S := E1.1
  have s31 : si < 2147483648 := by omega
  have E2 := rfE_B (rfR_B E (rfR_s (K := 66) (v := (uksF B L t).1) rfR_rf (by decide) (by decide) hs0))
  have N2 : nxR (sI σ 66 0 si (uksF B L t).1) (toksF B L) (uksF B L) := E2.2.2.1
  have fin : ∀ (lo hi : Int32), (match numP (toksF B L) (fun t => (uksF B L t).1) lo hi t with
      | .inl (kk, p) => Q (some (some (vi 0))) (rfM σ (toksF B L) (uksF B L) t 0 n g h kk (nI p))
      | .inr _ => Q (some (some (vi 1))) (rfM (sI σ 66 0 si (uksF B L t).1) (toksF B L) (uksF B L) (t + 1) 0 n g h 0 (-1))) → WP (D + 2) 158 0 [some (vr (some (4, 0))), some (vi lo), some (vi hi)] [] (rfM σ (toksF B L) (uksF B L) t 0 n g h 0 (-1)) (am_ko (D + 2 + 1) 173 158 161 [some (vr (some (4, 0))), some (vi (nI si)), some (vi (nI k)), none] [] Q) := by
    intro lo hi q
    refine Rd158 E1 ?_
    revert q
    cases numP (toksF B L) (fun t => (uksF B L t).1) lo hi t with
    | inl e =>
      obtain ⟨kk, p⟩ := e
      intro q
      simp only [S173_161, S173_164, S173_165, gL_sI, gR_sI, gN_sI, gC_sI, gB_sI, gI_sL, gR_sL, gN_sL, gC_sL, gB_sL, gI_sR, gL_sR, gN_sR, gC_sR, gB_sR, gL_sIr, gR_sIr, gN_sIr, gC_sIr, gB_sIr, gI_sLr, gR_sLr, gN_sLr, gC_sLr, gB_sLr, gI_sRr, gL_sRr, gN_sRr, gC_sRr, gB_sRr, gI_sN, gL_sN, gR_sN, gC_sN, gB_sN, gI_sC, gL_sC, gR_sC, gN_sC, gB_sC, gI_sB, gL_sB, gR_sB, gN_sB, gC_sB, gB_sB, gB_am_mk, gI_am_ml, gL_am_ml, gR_am_ml, gB_am_ml, gI_am_add, gL_am_add, gC_am_add, gB_am_add, gI_am_ins, gL_am_ins, gC_am_ins, gB_am_ins, gI_am_rem, gL_am_rem, gC_am_rem, gB_am_rem, gI_am_thr, gL_am_thr, gR_am_thr, gN_am_thr, gB_am_thr, mI_sI_k, mI_sI_j, mI_sI_b, mI_sI_s, mI_sI_i, mI_sI_c, mL_sL_k, mL_sL_j, mL_sL_b, mL_sL_s, mL_sL_i, mL_sL_c, mR_sR_k, mR_sR_j, mR_sR_b, mR_sR_s, mR_sR_i, mR_sR_c, mI_sIr_k, mI_sIr_s, mI_sIr_i, mL_sLr_k, mL_sLr_s, mL_sLr_i, mR_sRr_k, mR_sRr_s, mR_sRr_i, mN_sN_k, mN_sN_i, mN_am_add_k, mN_am_add_s, mR_am_add_k, mN_am_ins_k, mN_am_ins_s, mR_am_ins_k, mN_am_rem_k, mN_am_rem_s, mR_am_rem_k, mR_am_add_s, mR_am_ins_s, mR_am_rem_s, mI_am_mk_k, mI_am_mk_s, mI_am_mk_i, mL_am_mk_k, mL_am_mk_s, mL_am_mk_i, mR_am_mk_k, mR_am_mk_s, mR_am_mk_i, mN_am_mk_k, mN_am_mk_i, mC_am_mk_k, mC_am_mk_s, mN_am_ml_k, mN_am_ml_i, mC_am_ml_k, mC_am_ml_s, mC_sC_k, mC_am_thr_k, sC_3 S, sC_4 S, sR_4_32 S, sC_66 S, sN_66 S, sR_4_34 S, sC_68 S, sN_68 S, sR_4_35 S, sC_69 S, sN_69 S, sR_4_36 S, sC_70 S, sN_70 S, k0, k1, k2, k3, k4, k5, k6, k7, k8, k9, k10, k11, k12, k13, k14, k15, k16, k17, k18, k19, k20, k21, k22, k23, k24, k25, k26, k27, k28, k29, k30, k31, k32, k33, k34, k35, k36, k37, k38, k39, k40, k41, k42, k43, k44, k45, k46, k47, k48, k49, k50, k51, k52, k53, k54, k55, k56, k57, k58, k59, k60, k61, k62, k63, k64, k65, k66, k67, k68, k69, k70, k71, k72, k73, k74, k75, k76, k77, k78, k79, k80, k81, k82, k83, k84, k85, k86, k87, k88, k89, k90, k91, k92, k93, k94, k95, k96, k97, k98, k99, k100, rm_R, rm_C, true_and, and_true, and_self, if_true, if_false, ite_true, ite_false, Nat.lt_irrefl, List.length_nil, List.length_cons, Nat.reduceAdd, Nat.reduceLeDiff, Nat.reduceLT, Nat.reduceEqDiff, Nat.zero_lt_one, not_true, not_false_iff, bI_0, bI_1, ne_eq, reduceCtorEq, false_and, and_false, or_true, true_or, or_false, false_or, Nat.lt_one_iff, eq_self, Nat.zero_le, am_ko_v, am_ko_0, am_kil, Nat.reduceBEq, Int32.reduceLT, Int32.reduceLE, Int32.reduceAdd, Int32.reduceSub, i32_10, i32_01, not_true_eq_false, not_false_eq_true, Classical.not_not, nor_self, Nat.lt_add_one, nI_1, nI_pred, rf_n, i32_m0, i32_m1, reduceIte]
      exact q
    | inr e =>
      intro q
      simp only [S173_161, S173_164, S173_165, S173_166, S173_167, S173_170, S173_171, S173_172, S173_175, S173_176, S173_177, S173_180, S173_181, gL_sI, gR_sI, gN_sI, gC_sI, gB_sI, gI_sL, gR_sL, gN_sL, gC_sL, gB_sL, gI_sR, gL_sR, gN_sR, gC_sR, gB_sR, gL_sIr, gR_sIr, gN_sIr, gC_sIr, gB_sIr, gI_sLr, gR_sLr, gN_sLr, gC_sLr, gB_sLr, gI_sRr, gL_sRr, gN_sRr, gC_sRr, gB_sRr, gI_sN, gL_sN, gR_sN, gC_sN, gB_sN, gI_sC, gL_sC, gR_sC, gN_sC, gB_sC, gI_sB, gL_sB, gR_sB, gN_sB, gC_sB, gB_sB, gB_am_mk, gI_am_ml, gL_am_ml, gR_am_ml, gB_am_ml, gI_am_add, gL_am_add, gC_am_add, gB_am_add, gI_am_ins, gL_am_ins, gC_am_ins, gB_am_ins, gI_am_rem, gL_am_rem, gC_am_rem, gB_am_rem, gI_am_thr, gL_am_thr, gR_am_thr, gN_am_thr, gB_am_thr, mI_sI_k, mI_sI_j, mI_sI_b, mI_sI_s, mI_sI_i, mI_sI_c, mL_sL_k, mL_sL_j, mL_sL_b, mL_sL_s, mL_sL_i, mL_sL_c, mR_sR_k, mR_sR_j, mR_sR_b, mR_sR_s, mR_sR_i, mR_sR_c, mI_sIr_k, mI_sIr_s, mI_sIr_i, mL_sLr_k, mL_sLr_s, mL_sLr_i, mR_sRr_k, mR_sRr_s, mR_sRr_i, mN_sN_k, mN_sN_i, mN_am_add_k, mN_am_add_s, mR_am_add_k, mN_am_ins_k, mN_am_ins_s, mR_am_ins_k, mN_am_rem_k, mN_am_rem_s, mR_am_rem_k, mR_am_add_s, mR_am_ins_s, mR_am_rem_s, mI_am_mk_k, mI_am_mk_s, mI_am_mk_i, mL_am_mk_k, mL_am_mk_s, mL_am_mk_i, mR_am_mk_k, mR_am_mk_s, mR_am_mk_i, mN_am_mk_k, mN_am_mk_i, mC_am_mk_k, mC_am_mk_s, mN_am_ml_k, mN_am_ml_i, mC_am_ml_k, mC_am_ml_s, mC_sC_k, mC_am_thr_k, sC_3 S, sC_4 S, sR_4_32 S, sC_66 S, sN_66 S, sR_4_34 S, sC_68 S, sN_68 S, sR_4_35 S, sC_69 S, sN_69 S, sR_4_36 S, sC_70 S, sN_70 S, k0, k1, k2, k3, k4, k5, k6, k7, k8, k9, k10, k11, k12, k13, k14, k15, k16, k17, k18, k19, k20, k21, k22, k23, k24, k25, k26, k27, k28, k29, k30, k31, k32, k33, k34, k35, k36, k37, k38, k39, k40, k41, k42, k43, k44, k45, k46, k47, k48, k49, k50, k51, k52, k53, k54, k55, k56, k57, k58, k59, k60, k61, k62, k63, k64, k65, k66, k67, k68, k69, k70, k71, k72, k73, k74, k75, k76, k77, k78, k79, k80, k81, k82, k83, k84, k85, k86, k87, k88, k89, k90, k91, k92, k93, k94, k95, k96, k97, k98, k99, k100, rm_R, rm_C, rm_N, rm_50, rm_s, ini_iff s31, nI_clamp s31, hs, N2 ht, true_and, and_true, and_self, if_true, if_false, ite_true, ite_false, Nat.lt_irrefl, List.length_nil, List.length_cons, Nat.reduceAdd, Nat.reduceLeDiff, Nat.reduceLT, Nat.reduceEqDiff, Nat.zero_lt_one, not_true, not_false_iff, bI_0, bI_1, ne_eq, reduceCtorEq, false_and, and_false, or_true, true_or, or_false, false_or, Nat.lt_one_iff, eq_self, Nat.zero_le, am_ko_v, am_ko_0, am_kil, Nat.reduceBEq, Int32.reduceLT, Int32.reduceLE, Int32.reduceAdd, Int32.reduceSub, i32_10, i32_01, not_true_eq_false, not_false_eq_true, Classical.not_not, nor_self, Nat.lt_add_one, nI_1, nI_pred, rf_n, i32_m0, i32_m1, reduceIte]
      exact q
  rcases hk with rfl | rfl | rfl
  · rw [if_pos rfl] at q
    simp only [S173_123, S173_124, S173_125, S173_127, S173_130, S173_131, S173_134, S173_135, S173_136, S173_137, S173_140, S173_142, S173_145, S173_146, S173_147, S173_150, S173_152, S173_155, S173_158, gL_sI, gR_sI, gN_sI, gC_sI, gB_sI, gI_sL, gR_sL, gN_sL, gC_sL, gB_sL, gI_sR, gL_sR, gN_sR, gC_sR, gB_sR, gL_sIr, gR_sIr, gN_sIr, gC_sIr, gB_sIr, gI_sLr, gR_sLr, gN_sLr, gC_sLr, gB_sLr, gI_sRr, gL_sRr, gN_sRr, gC_sRr, gB_sRr, gI_sN, gL_sN, gR_sN, gC_sN, gB_sN, gI_sC, gL_sC, gR_sC, gN_sC, gB_sC, gI_sB, gL_sB, gR_sB, gN_sB, gC_sB, gB_sB, gB_am_mk, gI_am_ml, gL_am_ml, gR_am_ml, gB_am_ml, gI_am_add, gL_am_add, gC_am_add, gB_am_add, gI_am_ins, gL_am_ins, gC_am_ins, gB_am_ins, gI_am_rem, gL_am_rem, gC_am_rem, gB_am_rem, gI_am_thr, gL_am_thr, gR_am_thr, gN_am_thr, gB_am_thr, mI_sI_k, mI_sI_j, mI_sI_b, mI_sI_s, mI_sI_i, mI_sI_c, mL_sL_k, mL_sL_j, mL_sL_b, mL_sL_s, mL_sL_i, mL_sL_c, mR_sR_k, mR_sR_j, mR_sR_b, mR_sR_s, mR_sR_i, mR_sR_c, mI_sIr_k, mI_sIr_s, mI_sIr_i, mL_sLr_k, mL_sLr_s, mL_sLr_i, mR_sRr_k, mR_sRr_s, mR_sRr_i, mN_sN_k, mN_sN_i, mN_am_add_k, mN_am_add_s, mR_am_add_k, mN_am_ins_k, mN_am_ins_s, mR_am_ins_k, mN_am_rem_k, mN_am_rem_s, mR_am_rem_k, mR_am_add_s, mR_am_ins_s, mR_am_rem_s, mI_am_mk_k, mI_am_mk_s, mI_am_mk_i, mL_am_mk_k, mL_am_mk_s, mL_am_mk_i, mR_am_mk_k, mR_am_mk_s, mR_am_mk_i, mN_am_mk_k, mN_am_mk_i, mC_am_mk_k, mC_am_mk_s, mN_am_ml_k, mN_am_ml_i, mC_am_ml_k, mC_am_ml_s, mC_sC_k, mC_am_thr_k, sC_3 S, sC_4 S, sR_4_32 S, sC_66 S, sN_66 S, sR_4_34 S, sC_68 S, sN_68 S, sR_4_35 S, sC_69 S, sN_69 S, sR_4_36 S, sC_70 S, sN_70 S, k0, k1, k2, k3, k4, k5, k6, k7, k8, k9, k10, k11, k12, k13, k14, k15, k16, k17, k18, k19, k20, k21, k22, k23, k24, k25, k26, k27, k28, k29, k30, k31, k32, k33, k34, k35, k36, k37, k38, k39, k40, k41, k42, k43, k44, k45, k46, k47, k48, k49, k50, k51, k52, k53, k54, k55, k56, k57, k58, k59, k60, k61, k62, k63, k64, k65, k66, k67, k68, k69, k70, k71, k72, k73, k74, k75, k76, k77, k78, k79, k80, k81, k82, k83, k84, k85, k86, k87, k88, k89, k90, k91, k92, k93, k94, k95, k96, k97, k98, k99, k100, rm_R, rm_C, show (nI 1 = 6) = False by decide, show (nI 1 = 1) = True from eq_true rfl, true_and, and_true, and_self, if_true, if_false, ite_true, ite_false, Nat.lt_irrefl, List.length_nil, List.length_cons, Nat.reduceAdd, Nat.reduceLeDiff, Nat.reduceLT, Nat.reduceEqDiff, Nat.zero_lt_one, not_true, not_false_iff, bI_0, bI_1, ne_eq, reduceCtorEq, false_and, and_false, or_true, true_or, or_false, false_or, Nat.lt_one_iff, eq_self, Nat.zero_le, am_ko_v, am_ko_0, am_kil, Nat.reduceBEq, Int32.reduceLT, Int32.reduceLE, Int32.reduceAdd, Int32.reduceSub, i32_10, i32_01, not_true_eq_false, not_false_eq_true, Classical.not_not, nor_self, Nat.lt_add_one, nI_1, nI_pred, rf_n, i32_m0, i32_m1, reduceIte]
    exact fin _ _ q
  · rw [if_neg (by decide), if_pos rfl] at q
    simp only [S173_123, S173_124, S173_125, S173_127, S173_130, S173_131, S173_134, S173_135, S173_136, S173_137, S173_140, S173_142, S173_145, S173_146, S173_147, S173_150, S173_152, S173_155, S173_158, gL_sI, gR_sI, gN_sI, gC_sI, gB_sI, gI_sL, gR_sL, gN_sL, gC_sL, gB_sL, gI_sR, gL_sR, gN_sR, gC_sR, gB_sR, gL_sIr, gR_sIr, gN_sIr, gC_sIr, gB_sIr, gI_sLr, gR_sLr, gN_sLr, gC_sLr, gB_sLr, gI_sRr, gL_sRr, gN_sRr, gC_sRr, gB_sRr, gI_sN, gL_sN, gR_sN, gC_sN, gB_sN, gI_sC, gL_sC, gR_sC, gN_sC, gB_sC, gI_sB, gL_sB, gR_sB, gN_sB, gC_sB, gB_sB, gB_am_mk, gI_am_ml, gL_am_ml, gR_am_ml, gB_am_ml, gI_am_add, gL_am_add, gC_am_add, gB_am_add, gI_am_ins, gL_am_ins, gC_am_ins, gB_am_ins, gI_am_rem, gL_am_rem, gC_am_rem, gB_am_rem, gI_am_thr, gL_am_thr, gR_am_thr, gN_am_thr, gB_am_thr, mI_sI_k, mI_sI_j, mI_sI_b, mI_sI_s, mI_sI_i, mI_sI_c, mL_sL_k, mL_sL_j, mL_sL_b, mL_sL_s, mL_sL_i, mL_sL_c, mR_sR_k, mR_sR_j, mR_sR_b, mR_sR_s, mR_sR_i, mR_sR_c, mI_sIr_k, mI_sIr_s, mI_sIr_i, mL_sLr_k, mL_sLr_s, mL_sLr_i, mR_sRr_k, mR_sRr_s, mR_sRr_i, mN_sN_k, mN_sN_i, mN_am_add_k, mN_am_add_s, mR_am_add_k, mN_am_ins_k, mN_am_ins_s, mR_am_ins_k, mN_am_rem_k, mN_am_rem_s, mR_am_rem_k, mR_am_add_s, mR_am_ins_s, mR_am_rem_s, mI_am_mk_k, mI_am_mk_s, mI_am_mk_i, mL_am_mk_k, mL_am_mk_s, mL_am_mk_i, mR_am_mk_k, mR_am_mk_s, mR_am_mk_i, mN_am_mk_k, mN_am_mk_i, mC_am_mk_k, mC_am_mk_s, mN_am_ml_k, mN_am_ml_i, mC_am_ml_k, mC_am_ml_s, mC_sC_k, mC_am_thr_k, sC_3 S, sC_4 S, sR_4_32 S, sC_66 S, sN_66 S, sR_4_34 S, sC_68 S, sN_68 S, sR_4_35 S, sC_69 S, sN_69 S, sR_4_36 S, sC_70 S, sN_70 S, k0, k1, k2, k3, k4, k5, k6, k7, k8, k9, k10, k11, k12, k13, k14, k15, k16, k17, k18, k19, k20, k21, k22, k23, k24, k25, k26, k27, k28, k29, k30, k31, k32, k33, k34, k35, k36, k37, k38, k39, k40, k41, k42, k43, k44, k45, k46, k47, k48, k49, k50, k51, k52, k53, k54, k55, k56, k57, k58, k59, k60, k61, k62, k63, k64, k65, k66, k67, k68, k69, k70, k71, k72, k73, k74, k75, k76, k77, k78, k79, k80, k81, k82, k83, k84, k85, k86, k87, k88, k89, k90, k91, k92, k93, k94, k95, k96, k97, k98, k99, k100, rm_R, rm_C, show (nI 2 = 6) = False by decide, show (nI 2 = 1) = False by decide, show (nI 2 = 2) = True from eq_true rfl, true_and, and_true, and_self, if_true, if_false, ite_true, ite_false, Nat.lt_irrefl, List.length_nil, List.length_cons, Nat.reduceAdd, Nat.reduceLeDiff, Nat.reduceLT, Nat.reduceEqDiff, Nat.zero_lt_one, not_true, not_false_iff, bI_0, bI_1, ne_eq, reduceCtorEq, false_and, and_false, or_true, true_or, or_false, false_or, Nat.lt_one_iff, eq_self, Nat.zero_le, am_ko_v, am_ko_0, am_kil, Nat.reduceBEq, Int32.reduceLT, Int32.reduceLE, Int32.reduceAdd, Int32.reduceSub, i32_10, i32_01, not_true_eq_false, not_false_eq_true, Classical.not_not, nor_self, Nat.lt_add_one, nI_1, nI_pred, rf_n, i32_m0, i32_m1, reduceIte]
    exact fin _ _ q
  · rw [if_neg (by decide), if_neg (by decide)] at q
    simp only [S173_123, S173_124, S173_125, S173_127, S173_130, S173_131, S173_134, S173_135, S173_136, S173_137, S173_140, S173_142, S173_145, S173_146, S173_147, S173_150, S173_152, S173_155, S173_158, gL_sI, gR_sI, gN_sI, gC_sI, gB_sI, gI_sL, gR_sL, gN_sL, gC_sL, gB_sL, gI_sR, gL_sR, gN_sR, gC_sR, gB_sR, gL_sIr, gR_sIr, gN_sIr, gC_sIr, gB_sIr, gI_sLr, gR_sLr, gN_sLr, gC_sLr, gB_sLr, gI_sRr, gL_sRr, gN_sRr, gC_sRr, gB_sRr, gI_sN, gL_sN, gR_sN, gC_sN, gB_sN, gI_sC, gL_sC, gR_sC, gN_sC, gB_sC, gI_sB, gL_sB, gR_sB, gN_sB, gC_sB, gB_sB, gB_am_mk, gI_am_ml, gL_am_ml, gR_am_ml, gB_am_ml, gI_am_add, gL_am_add, gC_am_add, gB_am_add, gI_am_ins, gL_am_ins, gC_am_ins, gB_am_ins, gI_am_rem, gL_am_rem, gC_am_rem, gB_am_rem, gI_am_thr, gL_am_thr, gR_am_thr, gN_am_thr, gB_am_thr, mI_sI_k, mI_sI_j, mI_sI_b, mI_sI_s, mI_sI_i, mI_sI_c, mL_sL_k, mL_sL_j, mL_sL_b, mL_sL_s, mL_sL_i, mL_sL_c, mR_sR_k, mR_sR_j, mR_sR_b, mR_sR_s, mR_sR_i, mR_sR_c, mI_sIr_k, mI_sIr_s, mI_sIr_i, mL_sLr_k, mL_sLr_s, mL_sLr_i, mR_sRr_k, mR_sRr_s, mR_sRr_i, mN_sN_k, mN_sN_i, mN_am_add_k, mN_am_add_s, mR_am_add_k, mN_am_ins_k, mN_am_ins_s, mR_am_ins_k, mN_am_rem_k, mN_am_rem_s, mR_am_rem_k, mR_am_add_s, mR_am_ins_s, mR_am_rem_s, mI_am_mk_k, mI_am_mk_s, mI_am_mk_i, mL_am_mk_k, mL_am_mk_s, mL_am_mk_i, mR_am_mk_k, mR_am_mk_s, mR_am_mk_i, mN_am_mk_k, mN_am_mk_i, mC_am_mk_k, mC_am_mk_s, mN_am_ml_k, mN_am_ml_i, mC_am_ml_k, mC_am_ml_s, mC_sC_k, mC_am_thr_k, sC_3 S, sC_4 S, sR_4_32 S, sC_66 S, sN_66 S, sR_4_34 S, sC_68 S, sN_68 S, sR_4_35 S, sC_69 S, sN_69 S, sR_4_36 S, sC_70 S, sN_70 S, k0, k1, k2, k3, k4, k5, k6, k7, k8, k9, k10, k11, k12, k13, k14, k15, k16, k17, k18, k19, k20, k21, k22, k23, k24, k25, k26, k27, k28, k29, k30, k31, k32, k33, k34, k35, k36, k37, k38, k39, k40, k41, k42, k43, k44, k45, k46, k47, k48, k49, k50, k51, k52, k53, k54, k55, k56, k57, k58, k59, k60, k61, k62, k63, k64, k65, k66, k67, k68, k69, k70, k71, k72, k73, k74, k75, k76, k77, k78, k79, k80, k81, k82, k83, k84, k85, k86, k87, k88, k89, k90, k91, k92, k93, k94, k95, k96, k97, k98, k99, k100, rm_R, rm_C, show (nI 6 = 6) = True from eq_true rfl, show (nI 6 = 1) = False by decide, show (nI 6 = 2) = False by decide, true_and, and_true, and_self, if_true, if_false, ite_true, ite_false, Nat.lt_irrefl, List.length_nil, List.length_cons, Nat.reduceAdd, Nat.reduceLeDiff, Nat.reduceLT, Nat.reduceEqDiff, Nat.zero_lt_one, not_true, not_false_iff, bI_0, bI_1, ne_eq, reduceCtorEq, false_and, and_false, or_true, true_or, or_false, false_or, Nat.lt_one_iff, eq_self, Nat.zero_le, am_ko_v, am_ko_0, am_kil, Nat.reduceBEq, Int32.reduceLT, Int32.reduceLE, Int32.reduceAdd, Int32.reduceSub, i32_10, i32_01, not_true_eq_false, not_false_eq_true, Classical.not_not, nor_self, Nat.lt_add_one, nI_1, nI_pred, rf_n, i32_m0, i32_m1, reduceIte]
    exact fin _ _ q
end RBD
