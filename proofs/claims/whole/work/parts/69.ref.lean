/-! memories with the same rows of the reference; what the reference needs of a memory to work out a RULE -/
def RE (σ τ : aM) : Prop := (∀ K i j, 41 ≤ K → K ≠ 79 → gI τ K i j = gI σ K i j) ∧ (∀ c, c ≠ 0 → c ≠ 57 → gI τ 4 0 c = gI σ 4 0 c) ∧ gN τ 7 0 = gN σ 7 0
def RV (P : Nat) (σ : aM) : Prop := Sh σ ∧ TX σ ∧ gN σ 22 0 ≤ 30 ∧ P ≤ 60 ∧ ∀ p, p < P → gI σ 51 0 p = -1 ∨ ∃ h, h < gN σ 22 0 ∧ gI σ 51 0 p = nI h
section RES
variable {σ τ ρ : aM} {n P : Nat}
theorem RE.rf : RE σ σ := ⟨fun _ _ _ _ _ => rfl, fun _ _ _ => rfl, rfl⟩
theorem RE.tr (a : RE σ τ) (b : RE τ ρ) : RE σ ρ := ⟨fun K i j x y => (b.1 K i j x y).trans (a.1 K i j x y), fun c x y => (b.2.1 c x y).trans (a.2.1 c x y), b.2.2.trans a.2.2⟩
theorem SE.re (a : SE σ τ) : RE σ τ := ⟨fun K i j x y => a.1 K i j (by omega) (by omega) y, a.2.1, a.2.2.2.2.2.2.1 7 0⟩
theorem RE.te (a : RE σ τ) : TE σ τ := ⟨fun K h1 h2 => by funext j; exact a.1 K 0 j (by omega) (by omega), a.2.2⟩
theorem RE.wd {p : Nat} {day : Int32} (a : RE σ τ) : wdF τ p day = wdF σ p day := by
  have e : ∀ K i j, 41 ≤ K → K ≠ 79 → gI τ K i j = gI σ K i j := a.1
  unfold wdF rmF szF
  simp only [e 51 0 p (by decide) (by decide), e 41 0 p (by decide) (by decide), e 42 0 p (by decide) (by decide), e 49 0 p (by decide) (by decide), e 50 0 p (by decide) (by decide), e 44 0 p (by decide) (by decide), e 45 0 p (by decide) (by decide), e 47 0 p (by decide) (by decide), e 58 0 _ (by decide) (by decide), e 59 0 _ (by decide) (by decide)]
theorem RE.ru {k p : Nat} (a : RE σ τ) : ruT τ k p = ruT σ k p := by
  unfold ruT
  rw [a.2.1 1 (by decide) (by decide), a.wd, TE_rulF a.te, TE_rvF a.te]
theorem TX_fr (h : TX σ) (a : Ag fBX σ τ) (e : gI τ 4 0 27 = gI σ 4 0 27) : TX τ := by
  obtain ⟨e7a, e7b, e7c, e7d, e7e⟩ := a 7 rfl
  obtain ⟨e12a, e12b, e12c, e12d, e12e⟩ := a 12 rfl
  obtain ⟨e18a, e18b, e18c, e18d, e18e⟩ := a 18 rfl
  obtain ⟨e19a, e19b, e19c, e19d, e19e⟩ := a 19 rfl
  have g64 := (a 64 rfl).1
  have g65 := (a 65 rfl).1
  have g66 := (a 66 rfl).1
  have g67 := (a 67 rfl).1
  have g69 := (a 69 rfl).1
  have g70 := (a 70 rfl).1
  have g71 := (a 71 rfl).1
  have g72 := (a 72 rfl).1
  have g73 : gI τ 73 0 = gI σ 73 0 := funext ((a 73 rfl).1 0)
  have g74 : gI τ 74 0 = gI σ 74 0 := funext ((a 74 rfl).1 0)
  have g18 : ∀ i, gI τ 18 i = gI σ 18 i := fun i => funext (e18a i)
  unfold TX StOK at h ⊢
  simp only [g73, g74, g18, e7d, e12c, e18d, e19a, e19e, g64, g65, g66, g67, g69, g70, g71, g72, e]
  exact h
theorem SE.ag {f : Nat → Bool} (a : SE σ τ) (h4 : f 4 = false) (h30 : f 30 = false) (h79 : f 79 = false) (h10 : f 10 = false) (h11 : f 11 = false) (h77 : f 77 = false) (h78 : f 78 = false) : Ag f σ τ := fun K hK => ⟨fun i j => a.1 K i j (ag_ne h4 hK) (ag_ne h30 hK) (ag_ne h79 hK), fun i j => a.2.2.2.2.2.1 K i j (ag_ne h10 hK) (ag_ne h11 hK) (ag_ne h77 hK) (ag_ne h78 hK), fun i j => a.2.2.2.1 K i j (ag_ne h30 hK), fun i => a.2.2.2.2.2.2.1 K i, a.2.2.2.2.2.2.2.1 K⟩
theorem SE.sh (a : SE σ τ) (S : Sh σ) : Sh τ := by
  obtain ⟨a1, a2, a3, a4, a5, a6, a7, a8, a9⟩ := a
  exact Sh_fr S ⟨fun K i j h => a4 K i j (fun e => by rw [e] at h; cases h), fun K i _ => a7 K i, fun K _ => a8 K⟩ (a8 33) (fun j hj => a5 j (by omega) (by omega))
theorem RV.se (r : RV P σ) (a : SE σ τ) : RV P τ := by
  obtain ⟨r1, r2, r3, r4, r5⟩ := r
  refine ⟨a.sh r1, TX_fr r2 (a.ag rfl rfl rfl rfl rfl rfl rfl) (a.2.1 27 (by decide) (by decide)), ?_, r4, fun p hp => ?_⟩
  · rw [a.2.2.2.2.2.2.1]; exact r3
  · rw [a.2.2.2.2.2.2.1, a.1 51 0 p (by decide) (by decide) (by decide)]; exact r5 p hp
theorem RV.of (I : Inv n σ) : RV (gN σ 21 0) σ := by
  (obtain ⟨S, bP, bM, bH, bQ, bD, bT, bX, bO, bW, bG, bS, bF, bU⟩ := id I); (obtain ⟨s3, s4, s29, s30, s28, sC, sN, s33⟩ := id S); (obtain ⟨p_c, p_60, p_n, p_r, p_0, p_1, p_2, p_3, p_4, p_5, p_6, p_7, p_8, p_9, p_10, p_11, p_13, p_19, p_12, p_17, p_16, p_14, p_z, p_hd, p_ho, p_lh, p_pay, p_wp, p_sc, p_ml⟩ := id bP); (obtain ⟨h_c, h_30, h_n, h_r, h_0, h_1, h_2, h_3, h_4, h_5, h_6, h_60, h_b, h_z, h_v, h_ho, h_st, h_rm⟩ := id bH)
  exact ⟨S, TX_of bX, h_30, p_60, p_ho⟩
/-- the same writes on both -/
theorem SE.cI {K i j : Nat} {v : Int32} (a : SE σ τ) : SE (sI σ K i j v) (sI τ K i j v) := by
  obtain ⟨a1, a2, a3, a4, a5, a6, a7, a8, a9⟩ := a
  refine ⟨fun K' i' j' x y z => ?_, fun c x y => ?_, fun c x => ?_, a4, a5, a6, a7, a8, a9⟩
  · rw [gI_sI, gI_sI, a1 K' i' j' x y z]
  · rw [gI_sI, gI_sI, a2 c x y]
  · rw [gI_sI, gI_sI, a3 c x]
theorem SE.cIr {K i : Nat} {f : Nat → Int32} (a : SE σ τ) : SE (sIr σ K i f) (sIr τ K i f) := by
  obtain ⟨a1, a2, a3, a4, a5, a6, a7, a8, a9⟩ := a
  refine ⟨fun K' i' j' x y z => ?_, fun c x y => ?_, fun c x => ?_, a4, a5, a6, a7, a8, a9⟩
  · rw [gI_sIr, gI_sIr, a1 K' i' j' x y z]
  · rw [gI_sIr, gI_sIr, a2 c x y]
  · rw [gI_sIr, gI_sIr, a3 c x]
end RES
section RVS
variable {d P : Nat} {σ : aM} {Q : aR → aM → Prop}
/-- now, on the reference's side, out of the weaker premises -/
theorem C188v {k p : Nat} (r : RV P σ) (hp : p < P) (hk : k < 6) (hq : ∀ τ', SE σ τ' → Q (some (some (vi (ruT σ k p)))) τ') : WP (d + 7) 188 0 [some (vr (some (4, 0))), some (vi (nI k)), some (vi (nI p))] [] σ Q := by
  obtain ⟨r1, r2, r3, r4, r5⟩ := r
  exact C188 (d := d) r1 r2 r3 (by omega) (r5 p hp) (by omega) fun g m f h => hq _ SE.rf.rs
end RVS
