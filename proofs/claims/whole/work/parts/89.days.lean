/-! days: the reference's day as a function; both sides -/
def dyM (P T : Nat) (σ : aM) : aM := let σ2 := if (gI σ 4 0 1).toNatClampNeg % 7 = 6 then clL ((gI σ 4 0 1).toNatClampNeg / 7) T 0 P (lvL 0 P σ) else lvL 0 P σ
  sI σ2 4 0 1 (gI σ2 4 0 1 + 1)
def dyL (P T : Nat) : Nat → aM → aM
  | 0, σ => σ
  | k + 1, σ => dyL P T k (dyM P T σ)
section DYM
variable {a b σ τ : aM} {P T p w i : Nat}
theorem lvM_N {K j : Nat} : gN (lvM p σ) K j = gN σ K j := by
  unfold lvM
  by_cases c : gI σ 52 0 p ≠ -1 ∧ gI σ 52 0 p ≤ gI σ 4 0 1
  · rw [if_pos c]; simp only [gN_sI]
  · rw [if_neg c]
theorem lvL_N {K j : Nat} : ∀ {k i : Nat} {σ : aM}, gN (lvL i k σ) K j = gN σ K j := by
  intro k
  induction k with
  | zero => intro i σ; rfl
  | succ k ih => intro i σ; unfold lvL; rw [ih, lvM_N]
theorem lvM_I4 {c : Nat} : gI (lvM p σ) 4 0 c = gI σ 4 0 c := by
  unfold lvM
  by_cases c : gI σ 52 0 p ≠ -1 ∧ gI σ 52 0 p ≤ gI σ 4 0 1
  · rw [if_pos c]; simp only [mI_sI_k (show (4 : Nat) ≠ 60 by decide), mI_sI_k (show (4 : Nat) ≠ 61 by decide), mI_sI_k (show (4 : Nat) ≠ 57 by decide), mI_sI_k (show (4 : Nat) ≠ 51 by decide), mI_sI_k (show (4 : Nat) ≠ 52 by decide)]
  · rw [if_neg c]
theorem lvL_I4 {c : Nat} : ∀ {k i : Nat} {σ : aM}, gI (lvL i k σ) 4 0 c = gI σ 4 0 c := by
  intro k
  induction k with
  | zero => intro i σ; rfl
  | succ k ih => intro i σ; unfold lvL; rw [ih, lvM_I4]
theorem clL_N {K j : Nat} : ∀ {k i : Nat} {σ : aM}, gN (clL w T i k σ) K j = gN σ K j := by
  intro k
  induction k with
  | zero => intro i σ; rfl
  | succ k ih => intro i σ; unfold clL; rw [ih, clM_N]
theorem clL_I4 {c : Nat} (h1 : c ≠ 26) (h2 : c ≠ 63) (h3 : c ≠ 64) : ∀ {k i : Nat} {σ : aM}, gI (clL w T i k σ) 4 0 c = gI σ 4 0 c := by
  intro k
  induction k with
  | zero => intro i σ; rfl
  | succ k ih => intro i σ; unfold clL; rw [ih, clM_I4 h1 h2 h3]
theorem dyM_mx (h7 : gN a 7 0 = gN b 7 0) : dyM P T (mxC a b) = mxC a (dyM P T b) := by
  unfold dyM
  have e1 : gI (mxC a b) 4 0 1 = gI b 4 0 1 := nix_gI rfl
  dsimp only
  rw [e1, lvL_mx]
  by_cases c : (gI b 4 0 1).toNatClampNeg % 7 = 6
  · rw [if_pos c, if_pos c, clL_mx (h7.trans lvL_N.symm), show gI (mxC a (clL ((gI b 4 0 1).toNatClampNeg / 7) T 0 P (lvL 0 P b))) 4 0 1 = gI (clL ((gI b 4 0 1).toNatClampNeg / 7) T 0 P (lvL 0 P b)) 4 0 1 from nix_gI rfl]
    exact nix_sI rfl
  · rw [if_neg c, if_neg c, show gI (mxC a (lvL 0 P b)) 4 0 1 = gI (lvL 0 P b) 4 0 1 from nix_gI rfl]
    exact nix_sI rfl
theorem dyM_N {K j : Nat} : gN (dyM P T σ) K j = gN σ K j := by
  unfold dyM
  dsimp only
  rw [gN_sI]
  by_cases c : (gI σ 4 0 1).toNatClampNeg % 7 = 6
  · rw [if_pos c, clL_N, lvL_N]
  · rw [if_neg c, lvL_N]
theorem dyL_mx : ∀ {k : Nat} {b : aM}, gN a 7 0 = gN b 7 0 → dyL P T k (mxC a b) = mxC a (dyL P T k b) := by
  intro k
  induction k with
  | zero => intro b _; rfl
  | succ k ih => intro b h7; unfold dyL; rw [dyM_mx h7, ih (h7.trans dyM_N.symm)]
theorem SE.lvm (s : SE σ τ) : SE (lvM p σ) (lvM p τ) := by
  unfold lvM
  rw [s.1 52 0 p (by decide) (by decide) (by decide), s.1 51 0 p (by decide) (by decide) (by decide), s.2.1 1 (by decide) (by decide)]
  by_cases c : gI σ 52 0 p ≠ -1 ∧ gI σ 52 0 p ≤ gI σ 4 0 1
  · rw [if_pos c, if_pos c]; exact s.cI.cI.cI.cI.cI
  · rw [if_neg c, if_neg c]; exact s
theorem SE.lvl : ∀ {k i : Nat} {σ τ : aM}, SE σ τ → SE (lvL i k σ) (lvL i k τ) := by
  intro k
  induction k with
  | zero => intro i σ τ s; exact s
  | succ k ih => intro i σ τ s; exact ih s.lvm
theorem SE.clm (s : SE σ τ) : SE (clM p w T σ) (clM p w T τ) := by
  unfold clM
  rw [s.re.ren, s.re.ru, decide_eq_decide.mpr s.re.has]
  exact s.clz
theorem SE.cll : ∀ {k i : Nat} {σ τ : aM}, SE σ τ → SE (clL w T i k σ) (clL w T i k τ) := by
  intro k
  induction k with
  | zero => intro i σ τ s; exact s
  | succ k ih => intro i σ τ s; exact ih s.clm
theorem SE.dym (s : SE σ τ) : SE (dyM P T σ) (dyM P T τ) := by
  unfold dyM
  dsimp only
  rw [s.2.1 1 (by decide) (by decide)]
  by_cases c : (gI σ 4 0 1).toNatClampNeg % 7 = 6
  · rw [if_pos c, if_pos c]
    have := (s.lvl (i := 0) (k := P)).cll (w := (gI σ 4 0 1).toNatClampNeg / 7) (T := T) (i := 0) (k := P)
    rw [this.2.1 1 (by decide) (by decide)]
    exact this.cI
  · rw [if_neg c, if_neg c]
    have := s.lvl (i := 0) (k := P)
    rw [this.2.1 1 (by decide) (by decide)]
    exact this.cI
theorem SE.dyl : ∀ {k : Nat} {σ τ : aM}, SE σ τ → SE (dyL P T k σ) (dyL P T k τ) := by
  intro k
  induction k with
  | zero => intro σ τ s; exact s
  | succ k ih => intro σ τ s; exact ih s.dym
end DYM
section DAYC
variable {d n : Nat} {σ : aM} {Q : aR → aM → Prop}
theorem Inv_td {t : Nat} (I : Inv n σ) (ht : t ≤ 9998) (htt : gI σ 4 0 1 = nI t) (h6 : ¬ t % 7 = 6) : Inv n (tdM σ) := by
  (obtain ⟨S, bP, bM, bH, bQ, bD, bT, bX, bO, bW, bG, bS, bF, bU⟩ := id I); (obtain ⟨s3, s4, s29, s30, s28, sC, sN, s33⟩ := id S); (obtain ⟨d_t, d_b, d_h, d_m⟩ := id bD)
  obtain ⟨t', ht', htt', htw⟩ := d_m
  have : t' = t := (nI_eq (by omega) (by omega)).mp (htt'.symm.trans htt)
  subst this
  unfold tdM
  refine ⟨Sh_fr S (by repeat (first | exact Ar.rf | refine Ar.sI ?_ | refine Ar.sR rfl ?_ | refine Ar.sL ?_ | refine Ar.add rfl rfl ?_ | refine Ar.mk rfl rfl rfl ?_ | refine Ar.sIr ?_ | refine Ar.sLr ?_ | refine Ar.sRr rfl ?_ | refine Ar.sN rfl ?_ | refine Ar.ml rfl rfl ?_ | refine Ar.ins rfl rfl ?_ | refine Ar.rem rfl rfl ?_ | refine Ar.thr rfl ?_ | refine Ar.stL rfl ?_ | refine Ar.rsL ?_ | refine Ar.psM ?_)) rfl (by first | exact fun _ _ => rfl | (intro j hj; simp only [stL_Rc (show j ≠ 6 by omega) (show j ≠ 7 by omega), rsL_R, gR_sI, gR_sL, gR_sLr, gR_sIr, gR_sN, mR_sR_k, mR_am_mk_k, mR_am_add_k, mR_am_rem_k, ne_eq, Nat.reduceEqDiff, not_false_eq_true])), BP_fr bP (by repeat (first | exact Ag.rf | refine Ag.sI rfl ?_ | refine Ag.sR rfl ?_ | refine Ag.sL rfl ?_ | refine Ag.add rfl ?_ | refine Ag.mk rfl ?_ | refine Ag.sIr rfl ?_ | refine Ag.sLr rfl ?_ | refine Ag.sRr rfl ?_ | refine Ag.sN rfl ?_ | refine Ag.ml rfl ?_ | refine Ag.ins rfl ?_ | refine Ag.rem rfl ?_ | refine Ag.thr rfl ?_ | refine Ag.stL rfl rfl ?_ | refine Ag.rsL rfl rfl rfl rfl ?_ | refine Ag.psM rfl ?_)) rfl (by first | exact Nat.le_refl _ | (simp only [gN_sI, gN_sR, mN_am_add_k, mN_am_add_s, mN_am_mk_k, ne_eq, not_false_eq_true, Nat.reduceEqDiff]; omega)), (BM_fr bM (by repeat (first | exact Ag.rf | refine Ag.sI rfl ?_ | refine Ag.sR rfl ?_ | refine Ag.sL rfl ?_ | refine Ag.add rfl ?_ | refine Ag.mk rfl ?_ | refine Ag.sIr rfl ?_ | refine Ag.sLr rfl ?_ | refine Ag.sRr rfl ?_ | refine Ag.sN rfl ?_ | refine Ag.ml rfl ?_ | refine Ag.ins rfl ?_ | refine Ag.rem rfl ?_ | refine Ag.thr rfl ?_ | refine Ag.stL rfl rfl ?_ | refine Ag.rsL rfl rfl rfl rfl ?_ | refine Ag.psM rfl ?_)) rfl rfl), BH_fr bH (by repeat (first | exact Ag.rf | refine Ag.sI rfl ?_ | refine Ag.sR rfl ?_ | refine Ag.sL rfl ?_ | refine Ag.add rfl ?_ | refine Ag.mk rfl ?_ | refine Ag.sIr rfl ?_ | refine Ag.sLr rfl ?_ | refine Ag.sRr rfl ?_ | refine Ag.sN rfl ?_ | refine Ag.ml rfl ?_ | refine Ag.ins rfl ?_ | refine Ag.rem rfl ?_ | refine Ag.thr rfl ?_ | refine Ag.stL rfl rfl ?_ | refine Ag.rsL rfl rfl rfl rfl ?_ | refine Ag.psM rfl ?_)) rfl (by first | exact Nat.le_refl _ | (simp only [gN_sI, gN_sR, mN_am_add_k, mN_am_add_s, mN_am_mk_k, ne_eq, not_false_eq_true, Nat.reduceEqDiff]; omega)), BQ_fr bQ (by repeat (first | exact Ag.rf | refine Ag.sI rfl ?_ | refine Ag.sR rfl ?_ | refine Ag.sL rfl ?_ | refine Ag.add rfl ?_ | refine Ag.mk rfl ?_ | refine Ag.sIr rfl ?_ | refine Ag.sLr rfl ?_ | refine Ag.sRr rfl ?_ | refine Ag.sN rfl ?_ | refine Ag.ml rfl ?_ | refine Ag.ins rfl ?_ | refine Ag.rem rfl ?_ | refine Ag.thr rfl ?_ | refine Ag.stL rfl rfl ?_ | refine Ag.rsL rfl rfl rfl rfl ?_ | refine Ag.psM rfl ?_)) rfl (by first | exact Nat.le_refl _ | (simp only [gN_sI, gN_sR, mN_am_add_k, mN_am_add_s, mN_am_mk_k, ne_eq, not_false_eq_true, Nat.reduceEqDiff]; omega)), ?_, BT_fr bT (by repeat (first | exact Ag.rf | refine Ag.sI rfl ?_ | refine Ag.sR rfl ?_ | refine Ag.sL rfl ?_ | refine Ag.add rfl ?_ | refine Ag.mk rfl ?_ | refine Ag.sIr rfl ?_ | refine Ag.sLr rfl ?_ | refine Ag.sRr rfl ?_ | refine Ag.sN rfl ?_ | refine Ag.ml rfl ?_ | refine Ag.ins rfl ?_ | refine Ag.rem rfl ?_ | refine Ag.thr rfl ?_ | refine Ag.stL rfl rfl ?_ | refine Ag.rsL rfl rfl rfl rfl ?_ | refine Ag.psM rfl ?_)) rfl rfl rfl rfl, BX_fr bX (by repeat (first | exact Ag.rf | refine Ag.sI rfl ?_ | refine Ag.sR rfl ?_ | refine Ag.sL rfl ?_ | refine Ag.add rfl ?_ | refine Ag.mk rfl ?_ | refine Ag.sIr rfl ?_ | refine Ag.sLr rfl ?_ | refine Ag.sRr rfl ?_ | refine Ag.sN rfl ?_ | refine Ag.ml rfl ?_ | refine Ag.ins rfl ?_ | refine Ag.rem rfl ?_ | refine Ag.thr rfl ?_ | refine Ag.stL rfl rfl ?_ | refine Ag.rsL rfl rfl rfl rfl ?_ | refine Ag.psM rfl ?_)) rfl rfl rfl, BO_fr bO (by repeat (first | exact Ag.rf | refine Ag.sI rfl ?_ | refine Ag.sR rfl ?_ | refine Ag.sL rfl ?_ | refine Ag.add rfl ?_ | refine Ag.mk rfl ?_ | refine Ag.sIr rfl ?_ | refine Ag.sLr rfl ?_ | refine Ag.sRr rfl ?_ | refine Ag.sN rfl ?_ | refine Ag.ml rfl ?_ | refine Ag.ins rfl ?_ | refine Ag.rem rfl ?_ | refine Ag.thr rfl ?_ | refine Ag.stL rfl rfl ?_ | refine Ag.rsL rfl rfl rfl rfl ?_ | refine Ag.psM rfl ?_)) rfl (by first | exact Nat.le_refl _ | (simp only [gN_sI, gN_sR, mN_am_add_k, mN_am_add_s, mN_am_mk_k, ne_eq, not_false_eq_true, Nat.reduceEqDiff]; omega)), BW_fr bW (by repeat (first | exact Ag.rf | refine Ag.sI rfl ?_ | refine Ag.sR rfl ?_ | refine Ag.sL rfl ?_ | refine Ag.add rfl ?_ | refine Ag.mk rfl ?_ | refine Ag.sIr rfl ?_ | refine Ag.sLr rfl ?_ | refine Ag.sRr rfl ?_ | refine Ag.sN rfl ?_ | refine Ag.ml rfl ?_ | refine Ag.ins rfl ?_ | refine Ag.rem rfl ?_ | refine Ag.thr rfl ?_ | refine Ag.stL rfl rfl ?_ | refine Ag.rsL rfl rfl rfl rfl ?_ | refine Ag.psM rfl ?_)) (by first | exact Nat.le_refl _ | (simp only [gN_sI, gN_sR, mN_am_add_k, mN_am_add_s, mN_am_mk_k, ne_eq, not_false_eq_true, Nat.reduceEqDiff]; omega)) (by first | exact Nat.le_refl _ | (simp only [gN_sI, gN_sR, mN_am_add_k, mN_am_add_s, mN_am_mk_k, ne_eq, not_false_eq_true, Nat.reduceEqDiff]; omega)), BG_fr bG (by repeat (first | exact Ag.rf | refine Ag.sI rfl ?_ | refine Ag.sR rfl ?_ | refine Ag.sL rfl ?_ | refine Ag.add rfl ?_ | refine Ag.mk rfl ?_ | refine Ag.sIr rfl ?_ | refine Ag.sLr rfl ?_ | refine Ag.sRr rfl ?_ | refine Ag.sN rfl ?_ | refine Ag.ml rfl ?_ | refine Ag.ins rfl ?_ | refine Ag.rem rfl ?_ | refine Ag.thr rfl ?_ | refine Ag.stL rfl rfl ?_ | refine Ag.rsL rfl rfl rfl rfl ?_ | refine Ag.psM rfl ?_)) , BS_fr bS (by repeat (first | exact Ag.rf | refine Ag.sI rfl ?_ | refine Ag.sR rfl ?_ | refine Ag.sL rfl ?_ | refine Ag.add rfl ?_ | refine Ag.mk rfl ?_ | refine Ag.sIr rfl ?_ | refine Ag.sLr rfl ?_ | refine Ag.sRr rfl ?_ | refine Ag.sN rfl ?_ | refine Ag.ml rfl ?_ | refine Ag.ins rfl ?_ | refine Ag.rem rfl ?_ | refine Ag.thr rfl ?_ | refine Ag.stL rfl rfl ?_ | refine Ag.rsL rfl rfl rfl rfl ?_ | refine Ag.psM rfl ?_)) rfl (by first | exact Nat.le_refl _ | (simp only [gN_sI, gN_sR, mN_am_add_k, mN_am_add_s, mN_am_mk_k, ne_eq, not_false_eq_true, Nat.reduceEqDiff]; omega)), BF_fr bF (by repeat (first | exact Ag.rf | refine Ag.sI rfl ?_ | refine Ag.sR rfl ?_ | refine Ag.sL rfl ?_ | refine Ag.add rfl ?_ | refine Ag.mk rfl ?_ | refine Ag.sIr rfl ?_ | refine Ag.sLr rfl ?_ | refine Ag.sRr rfl ?_ | refine Ag.sN rfl ?_ | refine Ag.ml rfl ?_ | refine Ag.ins rfl ?_ | refine Ag.rem rfl ?_ | refine Ag.thr rfl ?_ | refine Ag.stL rfl rfl ?_ | refine Ag.rsL rfl rfl rfl rfl ?_ | refine Ag.psM rfl ?_)) rfl, BU_fr bU (Nat.le_refl _) rfl rfl⟩
  refine ⟨?_, d_b, d_h, t' + 1, by omega, ?_, ?_⟩
  · show gI σ 3 0 12 + 1 = gI σ 4 0 1 + 1
    rw [d_t]
  · show gI σ 4 0 1 + 1 = nI (t' + 1)
    rw [htt]; exact nI_add t' 1
  · show gN σ 25 0 = (t' + 1) / 7
    omega
theorem Inv_n {a b : aM} (Ia : Inv n a) (Ib : Inv n b) (h27 : gI a 4 0 27 = gI b 4 0 27) (h2 : gI a 4 0 2 = gI b 4 0 2) (h58 : gI a 4 0 58 = gI b 4 0 58) : gN a 7 0 = gN b 7 0 ∧ gN a 21 0 = gN b 21 0 ∧ gN a 24 0 = gN b 24 0 := by
  obtain ⟨Sa, bPa, bMa, bHa, bQa, bDa, bTa, bXa, bOa, -⟩ := Ia
  obtain ⟨Sb, bPb, bMb, bHb, bQb, bDb, bTb, bXb, bOb, -⟩ := Ib
  have a1 := bXa.1
  have a2 := bXb.1
  have a3 := bPa.2.1
  have a4 := bPb.2.1
  have a5 := bOa.2.1
  have a6 := bOb.2.1
  refine ⟨(nI_eq (by omega) (by omega)).mp (bXa.2.1.symm.trans (h27.trans bXb.2.1)), (nI_eq (by omega) (by omega)).mp (bPa.2.2.1.symm.trans (h2.trans bPb.2.2.1)), (nI_eq (by omega) (by omega)).mp (bOa.2.2.1.symm.trans (h58.trans bOb.2.2.1))⟩
theorem L88 {N P T : Nat} (hN : N ≤ 60) : ∀ k i t (μ : aM), Inv n μ → zkM zC μ → gI μ 4 0 1 = nI t → t + k ≤ 9999 → i + k = N → gN μ 21 0 = P → gN μ 24 0 = T → WP (d + 9) 88 26 [some (vr (some (3, 0))), some (vi (nI N)), some (vi (nI i))] [] μ (fun v s => ∃ μ', v = some (some (vi (gI μ' 4 0 1))) ∧ s = mxC μ' μ ∧ Inv n μ' ∧ μ' = mxC μ' (dyL P T k μ) ∧ zkM zC μ') := by
  intro k
  induction k with
  | zero =>
    intro i t μ I hz htt ht hi hP hT
    (obtain ⟨S, bP, bM, bH, bQ, bD, bT, bX, bO, bW, bG, bS, bF, bU⟩ := id I); (obtain ⟨s3, s4, s29, s30, s28, sC, sN, s33⟩ := id S); (obtain ⟨d_t, d_b, d_h, d_m⟩ := id bD)
    obtain rfl : i = N := by omega
    have c1 : ¬ nI i < nI i := Int32.lt_irrefl
    rw [S88_26]
    simp only [S88_0, S88_1, S88_2, S88_4, S88_7, S88_10, S88_11, S88_14, S88_15, S88_18, S88_19, S88_22, S88_23, S88_24, S88_25, S88_27, S88_28, S88_31, S88_32, S88_35, S88_36, S88_39, S88_41, S88_42, S88_44, S88_47, S88_48, S88_51, S88_52, S88_52q, S88_53, S88_56, S88_57, S88_58, S88_61, S88_64, S88_67, S88_68, S88_71, gL_sI, gR_sI, gN_sI, gC_sI, gB_sI, gI_sL, gR_sL, gN_sL, gC_sL, gB_sL, gI_sR, gL_sR, gN_sR, gC_sR, gB_sR, gL_sIr, gR_sIr, gN_sIr, gC_sIr, gB_sIr, gI_sLr, gR_sLr, gN_sLr, gC_sLr, gB_sLr, gI_sRr, gL_sRr, gN_sRr, gC_sRr, gB_sRr, gI_sN, gL_sN, gR_sN, gC_sN, gB_sN, gI_sC, gL_sC, gR_sC, gN_sC, gB_sC, gI_sB, gL_sB, gR_sB, gN_sB, gC_sB, gB_sB, gB_am_mk, gI_am_ml, gL_am_ml, gR_am_ml, gB_am_ml, gI_am_add, gL_am_add, gC_am_add, gB_am_add, gI_am_ins, gL_am_ins, gC_am_ins, gB_am_ins, gI_am_rem, gL_am_rem, gC_am_rem, gB_am_rem, gI_am_thr, gL_am_thr, gR_am_thr, gN_am_thr, gB_am_thr, mI_sI_k, mI_sI_j, mI_sI_b, mI_sI_s, mI_sI_i, mI_sI_c, mL_sL_k, mL_sL_j, mL_sL_b, mL_sL_s, mL_sL_i, mL_sL_c, mR_sR_k, mR_sR_j, mR_sR_b, mR_sR_s, mR_sR_i, mR_sR_c, mI_sIr_k, mI_sIr_s, mI_sIr_i, mL_sLr_k, mL_sLr_s, mL_sLr_i, mR_sRr_k, mR_sRr_s, mR_sRr_i, mN_sN_k, mN_sN_i, mN_am_add_k, mN_am_add_s, mR_am_add_k, mN_am_ins_k, mN_am_ins_s, mR_am_ins_k, mN_am_rem_k, mN_am_rem_s, mR_am_rem_k, mR_am_add_s, mR_am_ins_s, mR_am_rem_s, mI_am_mk_k, mI_am_mk_s, mI_am_mk_i, mL_am_mk_k, mL_am_mk_s, mL_am_mk_i, mR_am_mk_k, mR_am_mk_s, mR_am_mk_i, mN_am_mk_k, mN_am_mk_i, mC_am_mk_k, mC_am_mk_s, mN_am_ml_k, mN_am_ml_i, mC_am_ml_k, mC_am_ml_s, mC_sC_k, mC_am_thr_k, sC_3 S, sC_4 S, k0, k1, k2, k3, k4, k5, k6, k7, k8, k9, k10, k11, k12, k13, k14, k15, k16, k17, k18, k19, k20, k21, k22, k23, k24, k25, k26, k27, k28, k29, k30, k31, k32, k33, k34, k35, k36, k37, k38, k39, k40, k41, k42, k43, k44, k45, k46, k47, k48, k49, k50, k51, k52, k53, k54, k55, k56, k57, k58, k59, k60, k61, k62, k63, k64, k65, k66, k67, k68, k69, k70, k71, k72, k73, k74, k75, k76, k77, k78, k79, k80, k81, k82, k83, k84, k85, k86, k87, k88, k89, k90, k91, k92, k93, k94, k95, k96, k97, k98, k99, k100, c1, d_t, true_and, and_true, and_self, if_true, if_false, ite_true, ite_false, Nat.lt_irrefl, List.length_nil, List.length_cons, Nat.reduceAdd, Nat.reduceLeDiff, Nat.reduceLT, Nat.reduceEqDiff, Nat.zero_lt_one, not_true, not_false_iff, bI_0, bI_1, ne_eq, reduceCtorEq, false_and, and_false, or_true, true_or, or_false, false_or, Nat.lt_one_iff, eq_self, Nat.zero_le, am_ko_v, am_ko_0, am_kil, Nat.reduceBEq, Int32.reduceLT, Int32.reduceLE, Int32.reduceAdd, Int32.reduceSub, i32_10, i32_01, not_true_eq_false, not_false_eq_true, Classical.not_not, nor_self, Nat.lt_add_one, nI_1, nI_pred, rf_n, i32_m0, i32_m1, reduceIte]
    exact ⟨μ, rfl, mxC_id.symm, I, mxC_id.symm, hz⟩
  | succ k ih =>
    intro i t μ I hz htt ht hi hP hT
    (obtain ⟨S, bP, bM, bH, bQ, bD, bT, bX, bO, bW, bG, bS, bF, bU⟩ := id I); (obtain ⟨s3, s4, s29, s30, s28, sC, sN, s33⟩ := id S); (obtain ⟨d_t, d_b, d_h, d_m⟩ := id bD)
    have c1 : nI i < nI N := nI_lt (by omega) (by omega)
    have i31 : i < 2147483648 := by omega
    have n7 : ((7 : Int32) = 0) = False := by decide
    rw [S88_26]
    simp only [S88_27, S88_28, S88_31, S88_32, gL_sI, gR_sI, gN_sI, gC_sI, gB_sI, gI_sL, gR_sL, gN_sL, gC_sL, gB_sL, gI_sR, gL_sR, gN_sR, gC_sR, gB_sR, gL_sIr, gR_sIr, gN_sIr, gC_sIr, gB_sIr, gI_sLr, gR_sLr, gN_sLr, gC_sLr, gB_sLr, gI_sRr, gL_sRr, gN_sRr, gC_sRr, gB_sRr, gI_sN, gL_sN, gR_sN, gC_sN, gB_sN, gI_sC, gL_sC, gR_sC, gN_sC, gB_sC, gI_sB, gL_sB, gR_sB, gN_sB, gC_sB, gB_sB, gB_am_mk, gI_am_ml, gL_am_ml, gR_am_ml, gB_am_ml, gI_am_add, gL_am_add, gC_am_add, gB_am_add, gI_am_ins, gL_am_ins, gC_am_ins, gB_am_ins, gI_am_rem, gL_am_rem, gC_am_rem, gB_am_rem, gI_am_thr, gL_am_thr, gR_am_thr, gN_am_thr, gB_am_thr, mI_sI_k, mI_sI_j, mI_sI_b, mI_sI_s, mI_sI_i, mI_sI_c, mL_sL_k, mL_sL_j, mL_sL_b, mL_sL_s, mL_sL_i, mL_sL_c, mR_sR_k, mR_sR_j, mR_sR_b, mR_sR_s, mR_sR_i, mR_sR_c, mI_sIr_k, mI_sIr_s, mI_sIr_i, mL_sLr_k, mL_sLr_s, mL_sLr_i, mR_sRr_k, mR_sRr_s, mR_sRr_i, mN_sN_k, mN_sN_i, mN_am_add_k, mN_am_add_s, mR_am_add_k, mN_am_ins_k, mN_am_ins_s, mR_am_ins_k, mN_am_rem_k, mN_am_rem_s, mR_am_rem_k, mR_am_add_s, mR_am_ins_s, mR_am_rem_s, mI_am_mk_k, mI_am_mk_s, mI_am_mk_i, mL_am_mk_k, mL_am_mk_s, mL_am_mk_i, mR_am_mk_k, mR_am_mk_s, mR_am_mk_i, mN_am_mk_k, mN_am_mk_i, mC_am_mk_k, mC_am_mk_s, mN_am_ml_k, mN_am_ml_i, mC_am_ml_k, mC_am_ml_s, mC_sC_k, mC_am_thr_k, sC_3 S, sC_4 S, k0, k1, k2, k3, k4, k5, k6, k7, k8, k9, k10, k11, k12, k13, k14, k15, k16, k17, k18, k19, k20, k21, k22, k23, k24, k25, k26, k27, k28, k29, k30, k31, k32, k33, k34, k35, k36, k37, k38, k39, k40, k41, k42, k43, k44, k45, k46, k47, k48, k49, k50, k51, k52, k53, k54, k55, k56, k57, k58, k59, k60, k61, k62, k63, k64, k65, k66, k67, k68, k69, k70, k71, k72, k73, k74, k75, k76, k77, k78, k79, k80, k81, k82, k83, k84, k85, k86, k87, k88, k89, k90, k91, k92, k93, k94, k95, k96, k97, k98, k99, k100, c1, true_and, and_true, and_self, if_true, if_false, ite_true, ite_false, Nat.lt_irrefl, List.length_nil, List.length_cons, Nat.reduceAdd, Nat.reduceLeDiff, Nat.reduceLT, Nat.reduceEqDiff, Nat.zero_lt_one, not_true, not_false_iff, bI_0, bI_1, ne_eq, reduceCtorEq, false_and, and_false, or_true, true_or, or_false, false_or, Nat.lt_one_iff, eq_self, Nat.zero_le, am_ko_v, am_ko_0, am_kil, Nat.reduceBEq, Int32.reduceLT, Int32.reduceLE, Int32.reduceAdd, Int32.reduceSub, i32_10, i32_01, not_true_eq_false, not_false_eq_true, Classical.not_not, nor_self, Nat.lt_add_one, nI_1, nI_pred, rf_n, i32_m0, i32_m1, reduceIte]
    have A := C89 (d := d + 7) I hz
    rw [hP] at A
    refine A.mono ?_
    rintro r s ⟨rfl, μ1, rfl, I1, e1, z1⟩
    have t1 : gI μ1 4 0 1 = nI t := by
      rw [e1, nix_gI rfl, lvL_I4]; exact htt
    obtain ⟨g7, g21, g24⟩ := Inv_n I1 I (by rw [e1, nix_gI rfl, lvL_I4]) (by rw [e1, nix_gI rfl, lvL_I4]) (by rw [e1, nix_gI rfl, lvL_I4])
    have tc : (gI μ 4 0 1).toNatClampNeg = t := by rw [htt]; exact nI_clamp (by omega)
    have tail : ∀ (μ2 X : aM), Inv n (tdM μ2) → zkM zC μ2 → μ2 = mxC μ2 X → dyM P T μ = sI X 4 0 1 (gI X 4 0 1 + 1) → gI X 4 0 27 = gI μ 4 0 27 → gI X 4 0 2 = gI μ 4 0 2 → gI X 4 0 58 = gI μ 4 0 58 → gI X 4 0 1 = nI t → WP (d + 9) 88 51 [some (vr (some (3, 0))), some (vi (nI N)), some (vi (nI i))] [] μ2 (fun v s => ∃ μ', v = some (some (vi (gI μ' 4 0 1))) ∧ s = mxC μ' μ2 ∧ Inv n μ' ∧ μ' = mxC μ' (dyL P T k (dyM P T μ)) ∧ zkM zC μ') := fun μ2 X I2 z2 e2 eX x27 x2 x58 x1 => by
      have z3 : gC μ2 3 = 1 := sC_3 I2.1
      have y27 : gI μ2 4 0 27 = gI μ 4 0 27 := by rw [e2, nix_gI rfl]; exact x27
      have y2 : gI μ2 4 0 2 = gI μ 4 0 2 := by rw [e2, nix_gI rfl]; exact x2
      have y58 : gI μ2 4 0 58 = gI μ 4 0 58 := by rw [e2, nix_gI rfl]; exact x58
      have y1 : gI μ2 4 0 1 = nI t := by rw [e2, nix_gI rfl]; exact x1
      obtain ⟨f7, f21, f24⟩ := Inv_n I2 I (by show gI (tdM μ2) 4 0 27 = _; unfold tdM; rw [mI_sI_j (by decide), mI_sI_k (by decide)]; exact y27) (by unfold tdM; rw [mI_sI_j (by decide), mI_sI_k (by decide)]; exact y2) (by unfold tdM; rw [mI_sI_j (by decide), mI_sI_k (by decide)]; exact y58)
      have ztd : zkM zC (tdM μ2) := zk_sI (zk_sI z2)
      have IH := ih (i + 1) (t + 1) (tdM μ2) I2 ztd (by
        show gI μ2 4 0 1 + 1 = nI (t + 1)
        rw [y1]; exact nI_add t 1) (by omega) (by omega) (f21.trans hP) (f24.trans hT)
      have T2 := teleC (mid := 88) (σ := sI μ2 3 0 12 (gI μ2 3 0 12 + 1)) rfl (zkL_r (Or.inl rfl) (zkL_i (zkL_i zkL_n))) zkS_n ztd (by
        unfold tdM
        rw [mxC_nI rfl, mxC_id]) IH
      simp only [S88_51, S88_52, S88_52q, S88_53, S88_56, S88_57, S88_58, S88_61, S88_64, gL_sI, gR_sI, gN_sI, gC_sI, gB_sI, gI_sL, gR_sL, gN_sL, gC_sL, gB_sL, gI_sR, gL_sR, gN_sR, gC_sR, gB_sR, gL_sIr, gR_sIr, gN_sIr, gC_sIr, gB_sIr, gI_sLr, gR_sLr, gN_sLr, gC_sLr, gB_sLr, gI_sRr, gL_sRr, gN_sRr, gC_sRr, gB_sRr, gI_sN, gL_sN, gR_sN, gC_sN, gB_sN, gI_sC, gL_sC, gR_sC, gN_sC, gB_sC, gI_sB, gL_sB, gR_sB, gN_sB, gC_sB, gB_sB, gB_am_mk, gI_am_ml, gL_am_ml, gR_am_ml, gB_am_ml, gI_am_add, gL_am_add, gC_am_add, gB_am_add, gI_am_ins, gL_am_ins, gC_am_ins, gB_am_ins, gI_am_rem, gL_am_rem, gC_am_rem, gB_am_rem, gI_am_thr, gL_am_thr, gR_am_thr, gN_am_thr, gB_am_thr, mI_sI_k, mI_sI_j, mI_sI_b, mI_sI_s, mI_sI_i, mI_sI_c, mL_sL_k, mL_sL_j, mL_sL_b, mL_sL_s, mL_sL_i, mL_sL_c, mR_sR_k, mR_sR_j, mR_sR_b, mR_sR_s, mR_sR_i, mR_sR_c, mI_sIr_k, mI_sIr_s, mI_sIr_i, mL_sLr_k, mL_sLr_s, mL_sLr_i, mR_sRr_k, mR_sRr_s, mR_sRr_i, mN_sN_k, mN_sN_i, mN_am_add_k, mN_am_add_s, mR_am_add_k, mN_am_ins_k, mN_am_ins_s, mR_am_ins_k, mN_am_rem_k, mN_am_rem_s, mR_am_rem_k, mR_am_add_s, mR_am_ins_s, mR_am_rem_s, mI_am_mk_k, mI_am_mk_s, mI_am_mk_i, mL_am_mk_k, mL_am_mk_s, mL_am_mk_i, mR_am_mk_k, mR_am_mk_s, mR_am_mk_i, mN_am_mk_k, mN_am_mk_i, mC_am_mk_k, mC_am_mk_s, mN_am_ml_k, mN_am_ml_i, mC_am_ml_k, mC_am_ml_s, mC_sC_k, mC_am_thr_k, sC_3 S, sC_4 S, k0, k1, k2, k3, k4, k5, k6, k7, k8, k9, k10, k11, k12, k13, k14, k15, k16, k17, k18, k19, k20, k21, k22, k23, k24, k25, k26, k27, k28, k29, k30, k31, k32, k33, k34, k35, k36, k37, k38, k39, k40, k41, k42, k43, k44, k45, k46, k47, k48, k49, k50, k51, k52, k53, k54, k55, k56, k57, k58, k59, k60, k61, k62, k63, k64, k65, k66, k67, k68, k69, k70, k71, k72, k73, k74, k75, k76, k77, k78, k79, k80, k81, k82, k83, k84, k85, k86, k87, k88, k89, k90, k91, k92, k93, k94, k95, k96, k97, k98, k99, k100, z3, true_and, and_true, and_self, if_true, if_false, ite_true, ite_false, Nat.lt_irrefl, List.length_nil, List.length_cons, Nat.reduceAdd, Nat.reduceLeDiff, Nat.reduceLT, Nat.reduceEqDiff, Nat.zero_lt_one, not_true, not_false_iff, bI_0, bI_1, ne_eq, reduceCtorEq, false_and, and_false, or_true, true_or, or_false, false_or, Nat.lt_one_iff, eq_self, Nat.zero_le, am_ko_v, am_ko_0, am_kil, Nat.reduceBEq, Int32.reduceLT, Int32.reduceLE, Int32.reduceAdd, Int32.reduceSub, i32_10, i32_01, not_true_eq_false, not_false_eq_true, Classical.not_not, nor_self, Nat.lt_add_one, nI_1, nI_pred, rf_n, i32_m0, i32_m1, reduceIte]
      refine T2.mono ?_
      rintro v s ⟨s0, ⟨μ', h1, h2, h3, h4, h5⟩, h6, h7, h8⟩
      refine ⟨μ', h1, ?_, h3, ?_, h5⟩
      · rw [h6, h2, mxC_l, mxC_pI rfl]
      · have ec : tdM μ2 = mxC (sI μ2 3 0 12 (gI μ2 3 0 12 + 1)) (dyM P T μ) := by
          have q1 : ∀ v, sI μ2 3 0 12 v = mxC (sI μ2 3 0 12 v) X := fun v => by
            have a1 : mxC (sI μ2 3 0 12 v) (sI μ2 3 0 12 v) = mxC (sI μ2 3 0 12 v) μ2 := mxC_pI rfl
            have a2 : mxC (sI μ2 3 0 12 v) (mxC μ2 X) = mxC (sI μ2 3 0 12 v) X := mxC_r
            rw [← e2] at a2
            rw [mxC_id] at a1
            exact a1.trans a2
          have q2 : gI X 4 0 1 = gI μ2 4 0 1 := x1.trans y1.symm
          rw [eX, q2]
          exact nx (q1 _) rfl
        conv => lhs; rw [h4]
        conv => lhs; rw [ec]
        rw [dyL_mx (by rw [dyM_N]; exact f7), mxC_r]
    have H1 : WP (d + 9) 88 35 [some (vr (some (3, 0))), some (vi (nI N)), some (vi (nI i))] [] μ1 (fun v s => ∃ μ', v = some (some (vi (gI μ' 4 0 1))) ∧ s = mxC μ' μ1 ∧ Inv n μ' ∧ μ' = mxC μ' (dyL P T k (dyM P T μ)) ∧ zkM zC μ') := by
      have dt1 : gI μ1 3 0 12 = nI t := by
        have := I1.2.2.2.2.2.1.1
        rw [this]; exact t1
      have z3 : gC μ1 3 = 1 := sC_3 I1.1
      have em : nI t - nI t / 7 * 7 = nI (t % 7) := by
        rw [show (7 : Int32) = nI 7 from rfl, pk_div (by omega) (by omega) (by omega), pk_mul, pk_sub (by omega)]
        congr 1; omega
      by_cases h6 : t % 7 = 6
      · have e6 : nI (t % 7) = 6 := by rw [h6]; rfl
        obtain ⟨t', ht', htt', htw⟩ := I1.2.2.2.2.2.1.2.2.2
        have : t' = t := (nI_eq (by omega) (by omega)).mp (htt'.symm.trans t1)
        subst this
        have A := C90 (d := d + 1) I1 z1 (by omega) h6 t1 rfl (g24.trans hT)
        simp only [S88_35, S88_36, S88_39, S88_41, S88_42, S88_44, S88_47, S88_48, gL_sI, gR_sI, gN_sI, gC_sI, gB_sI, gI_sL, gR_sL, gN_sL, gC_sL, gB_sL, gI_sR, gL_sR, gN_sR, gC_sR, gB_sR, gL_sIr, gR_sIr, gN_sIr, gC_sIr, gB_sIr, gI_sLr, gR_sLr, gN_sLr, gC_sLr, gB_sLr, gI_sRr, gL_sRr, gN_sRr, gC_sRr, gB_sRr, gI_sN, gL_sN, gR_sN, gC_sN, gB_sN, gI_sC, gL_sC, gR_sC, gN_sC, gB_sC, gI_sB, gL_sB, gR_sB, gN_sB, gC_sB, gB_sB, gB_am_mk, gI_am_ml, gL_am_ml, gR_am_ml, gB_am_ml, gI_am_add, gL_am_add, gC_am_add, gB_am_add, gI_am_ins, gL_am_ins, gC_am_ins, gB_am_ins, gI_am_rem, gL_am_rem, gC_am_rem, gB_am_rem, gI_am_thr, gL_am_thr, gR_am_thr, gN_am_thr, gB_am_thr, mI_sI_k, mI_sI_j, mI_sI_b, mI_sI_s, mI_sI_i, mI_sI_c, mL_sL_k, mL_sL_j, mL_sL_b, mL_sL_s, mL_sL_i, mL_sL_c, mR_sR_k, mR_sR_j, mR_sR_b, mR_sR_s, mR_sR_i, mR_sR_c, mI_sIr_k, mI_sIr_s, mI_sIr_i, mL_sLr_k, mL_sLr_s, mL_sLr_i, mR_sRr_k, mR_sRr_s, mR_sRr_i, mN_sN_k, mN_sN_i, mN_am_add_k, mN_am_add_s, mR_am_add_k, mN_am_ins_k, mN_am_ins_s, mR_am_ins_k, mN_am_rem_k, mN_am_rem_s, mR_am_rem_k, mR_am_add_s, mR_am_ins_s, mR_am_rem_s, mI_am_mk_k, mI_am_mk_s, mI_am_mk_i, mL_am_mk_k, mL_am_mk_s, mL_am_mk_i, mR_am_mk_k, mR_am_mk_s, mR_am_mk_i, mN_am_mk_k, mN_am_mk_i, mC_am_mk_k, mC_am_mk_s, mN_am_ml_k, mN_am_ml_i, mC_am_ml_k, mC_am_ml_s, mC_sC_k, mC_am_thr_k, sC_3 S, sC_4 S, k0, k1, k2, k3, k4, k5, k6, k7, k8, k9, k10, k11, k12, k13, k14, k15, k16, k17, k18, k19, k20, k21, k22, k23, k24, k25, k26, k27, k28, k29, k30, k31, k32, k33, k34, k35, k36, k37, k38, k39, k40, k41, k42, k43, k44, k45, k46, k47, k48, k49, k50, k51, k52, k53, k54, k55, k56, k57, k58, k59, k60, k61, k62, k63, k64, k65, k66, k67, k68, k69, k70, k71, k72, k73, k74, k75, k76, k77, k78, k79, k80, k81, k82, k83, k84, k85, k86, k87, k88, k89, k90, k91, k92, k93, k94, k95, k96, k97, k98, k99, k100, z3, dt1, n7, em, e6, true_and, and_true, and_self, if_true, if_false, ite_true, ite_false, Nat.lt_irrefl, List.length_nil, List.length_cons, Nat.reduceAdd, Nat.reduceLeDiff, Nat.reduceLT, Nat.reduceEqDiff, Nat.zero_lt_one, not_true, not_false_iff, bI_0, bI_1, ne_eq, reduceCtorEq, false_and, and_false, or_true, true_or, or_false, false_or, Nat.lt_one_iff, eq_self, Nat.zero_le, am_ko_v, am_ko_0, am_kil, Nat.reduceBEq, Int32.reduceLT, Int32.reduceLE, Int32.reduceAdd, Int32.reduceSub, i32_10, i32_01, not_true_eq_false, not_false_eq_true, Classical.not_not, nor_self, Nat.lt_add_one, nI_1, nI_pred, rf_n, i32_m0, i32_m1, reduceIte]
        refine A.mono ?_
        rintro r s ⟨rfl, μ2, rfl, I2, e2, z2⟩
        refine am_ko_0.mpr ?_
        have eX : μ2 = mxC μ2 (clL (t' / 7) T 0 P (lvL 0 P μ)) := by
          conv => lhs; rw [e2]
          rw [g21, hP, htw]
          conv => lhs; rw [e1]
          rw [clL_mx (g7.trans lvL_N.symm), mxC_r]
        have U := teleC (mid := 88) (σ := mxC μ2 μ1) rfl (zkL_r (Or.inl rfl) (zkL_i (zkL_i zkL_n))) zkS_n z2 mxC_r.symm (tail μ2 (clL (t' / 7) T 0 P (lvL 0 P μ)) I2 z2 eX (by
          unfold dyM
          dsimp only
          rw [tc, if_pos h6]) (by rw [clL_I4 (by decide) (by decide) (by decide), lvL_I4]) (by rw [clL_I4 (by decide) (by decide) (by decide), lvL_I4]) (by rw [clL_I4 (by decide) (by decide) (by decide), lvL_I4]) (by rw [clL_I4 (by decide) (by decide) (by decide), lvL_I4]; exact htt))
        refine U.mono ?_
        rintro v s ⟨s0, ⟨μ', h1, h2, h3, h4, h5⟩, h6, h7, h8⟩
        refine ⟨μ', h1, ?_, h3, h4, h5⟩
        rw [h6, h2, mxC_l, mxC_r]
      · have e6 : ¬ nI (t % 7) = 6 := fun e => h6 ((nI_eq (b := 6) (by omega) (by omega)).mp e)
        simp only [S88_35, S88_36, S88_39, S88_41, S88_42, S88_44, S88_47, S88_48, gL_sI, gR_sI, gN_sI, gC_sI, gB_sI, gI_sL, gR_sL, gN_sL, gC_sL, gB_sL, gI_sR, gL_sR, gN_sR, gC_sR, gB_sR, gL_sIr, gR_sIr, gN_sIr, gC_sIr, gB_sIr, gI_sLr, gR_sLr, gN_sLr, gC_sLr, gB_sLr, gI_sRr, gL_sRr, gN_sRr, gC_sRr, gB_sRr, gI_sN, gL_sN, gR_sN, gC_sN, gB_sN, gI_sC, gL_sC, gR_sC, gN_sC, gB_sC, gI_sB, gL_sB, gR_sB, gN_sB, gC_sB, gB_sB, gB_am_mk, gI_am_ml, gL_am_ml, gR_am_ml, gB_am_ml, gI_am_add, gL_am_add, gC_am_add, gB_am_add, gI_am_ins, gL_am_ins, gC_am_ins, gB_am_ins, gI_am_rem, gL_am_rem, gC_am_rem, gB_am_rem, gI_am_thr, gL_am_thr, gR_am_thr, gN_am_thr, gB_am_thr, mI_sI_k, mI_sI_j, mI_sI_b, mI_sI_s, mI_sI_i, mI_sI_c, mL_sL_k, mL_sL_j, mL_sL_b, mL_sL_s, mL_sL_i, mL_sL_c, mR_sR_k, mR_sR_j, mR_sR_b, mR_sR_s, mR_sR_i, mR_sR_c, mI_sIr_k, mI_sIr_s, mI_sIr_i, mL_sLr_k, mL_sLr_s, mL_sLr_i, mR_sRr_k, mR_sRr_s, mR_sRr_i, mN_sN_k, mN_sN_i, mN_am_add_k, mN_am_add_s, mR_am_add_k, mN_am_ins_k, mN_am_ins_s, mR_am_ins_k, mN_am_rem_k, mN_am_rem_s, mR_am_rem_k, mR_am_add_s, mR_am_ins_s, mR_am_rem_s, mI_am_mk_k, mI_am_mk_s, mI_am_mk_i, mL_am_mk_k, mL_am_mk_s, mL_am_mk_i, mR_am_mk_k, mR_am_mk_s, mR_am_mk_i, mN_am_mk_k, mN_am_mk_i, mC_am_mk_k, mC_am_mk_s, mN_am_ml_k, mN_am_ml_i, mC_am_ml_k, mC_am_ml_s, mC_sC_k, mC_am_thr_k, sC_3 S, sC_4 S, k0, k1, k2, k3, k4, k5, k6, k7, k8, k9, k10, k11, k12, k13, k14, k15, k16, k17, k18, k19, k20, k21, k22, k23, k24, k25, k26, k27, k28, k29, k30, k31, k32, k33, k34, k35, k36, k37, k38, k39, k40, k41, k42, k43, k44, k45, k46, k47, k48, k49, k50, k51, k52, k53, k54, k55, k56, k57, k58, k59, k60, k61, k62, k63, k64, k65, k66, k67, k68, k69, k70, k71, k72, k73, k74, k75, k76, k77, k78, k79, k80, k81, k82, k83, k84, k85, k86, k87, k88, k89, k90, k91, k92, k93, k94, k95, k96, k97, k98, k99, k100, z3, dt1, n7, em, e6, true_and, and_true, and_self, if_true, if_false, ite_true, ite_false, Nat.lt_irrefl, List.length_nil, List.length_cons, Nat.reduceAdd, Nat.reduceLeDiff, Nat.reduceLT, Nat.reduceEqDiff, Nat.zero_lt_one, not_true, not_false_iff, bI_0, bI_1, ne_eq, reduceCtorEq, false_and, and_false, or_true, true_or, or_false, false_or, Nat.lt_one_iff, eq_self, Nat.zero_le, am_ko_v, am_ko_0, am_kil, Nat.reduceBEq, Int32.reduceLT, Int32.reduceLE, Int32.reduceAdd, Int32.reduceSub, i32_10, i32_01, not_true_eq_false, not_false_eq_true, Classical.not_not, nor_self, Nat.lt_add_one, nI_1, nI_pred, rf_n, i32_m0, i32_m1, reduceIte]
        exact tail μ1 (lvL 0 P μ) (Inv_td I1 (by omega) t1 h6) z1 e1 (by
          unfold dyM
          dsimp only
          rw [tc, if_neg h6]) lvL_I4 lvL_I4 lvL_I4 (lvL_I4.trans htt)
    refine am_ko_0.mpr ?_
    have U := teleC (mid := 88) (σ := mxC μ1 μ) rfl (zkL_r (Or.inl rfl) (zkL_i (zkL_i zkL_n))) zkS_n z1 mxC_r.symm H1
    refine U.mono ?_
    rintro v s ⟨s0, ⟨μ', h1, h2, h3, h4, h5⟩, h6, h7, h8⟩
    refine ⟨μ', h1, ?_, h3, h4, h5⟩
    rw [h6, h2, mxC_l, mxC_r]
end DAYC
