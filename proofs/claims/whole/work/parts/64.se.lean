/-! memories that differ where THE RULES are worked out, and nowhere else -/
def SE (σ τ : aM) : Prop := (∀ K i j, K ≠ 4 → K ≠ 30 → K ≠ 79 → gI τ K i j = gI σ K i j) ∧ (∀ c, c ≠ 0 → c ≠ 57 → gI τ 4 0 c = gI σ 4 0 c) ∧ (∀ c, c ≠ 8 → gI τ 30 0 c = gI σ 30 0 c) ∧ (∀ K i j, K ≠ 30 → gR τ K i j = gR σ K i j) ∧ (∀ c, c ≠ 6 → c ≠ 7 → gR τ 30 0 c = gR σ 30 0 c) ∧ (∀ K i j, K ≠ 10 → K ≠ 11 → K ≠ 77 → K ≠ 78 → gL τ K i j = gL σ K i j) ∧ (∀ K i, gN τ K i = gN σ K i) ∧ (∀ K, gC τ K = gC σ K) ∧ gB τ = gB σ
section SES
variable {σ τ ρ : aM} {n : Nat}
theorem SE.rf : SE σ σ := ⟨fun _ _ _ _ _ _ => rfl, fun _ _ _ => rfl, fun _ _ => rfl, fun _ _ _ _ => rfl, fun _ _ _ => rfl, fun _ _ _ _ _ _ _ => rfl, fun _ _ => rfl, fun _ => rfl, rfl⟩
theorem SE.tr (a : SE σ τ) (b : SE τ ρ) : SE σ ρ := by
  obtain ⟨a1, a2, a3, a4, a5, a6, a7, a8, a9⟩ := a
  obtain ⟨b1, b2, b3, b4, b5, b6, b7, b8, b9⟩ := b
  exact ⟨fun K i j x y z => (b1 K i j x y z).trans (a1 K i j x y z), fun c x y => (b2 c x y).trans (a2 c x y), fun c x => (b3 c x).trans (a3 c x), fun K i j x => (b4 K i j x).trans (a4 K i j x), fun c x y => (b5 c x y).trans (a5 c x y), fun K i j x y z w => (b6 K i j x y z w).trans (a6 K i j x y z w), fun K i => (b7 K i).trans (a7 K i), fun K => (b8 K).trans (a8 K), b9.trans a9⟩
theorem SE.w {w : Nat → Int64} (a : SE σ τ) : SE σ (sLr τ 10 0 w) := a.tr ⟨fun _ _ _ _ _ _ => rfl, fun _ _ _ => rfl, fun _ _ => rfl, fun _ _ _ _ => rfl, fun _ _ _ => rfl, fun K i j h1 _ _ _ => mL_sLr_k h1, fun _ _ => rfl, fun _ => rfl, rfl⟩
theorem SE.st {g : Nat → Int64} {x7 x6 : Option (Nat × Nat)} {v : Int32} (a : SE σ τ) : SE σ (stL τ g x7 x6 v) := a.tr ⟨fun _ _ _ _ h _ => stL_Ik h, fun _ _ _ => rfl, fun _ h => stL_Ic h, fun _ _ _ h => stL_Rk h, fun _ h6 h7 => stL_Rc h6 h7, fun K i j _ h2 _ _ => stL_Lk h2, fun _ _ => rfl, fun _ => rfl, rfl⟩
theorem SE.rs {g : Nat → Int32} {m : Int32} {f h : Nat → Int64} (a : SE σ τ) : SE σ (rsL τ g m f h) := a.tr ⟨fun _ _ _ h4 _ h79 => rsL_Ik h4 h79, fun _ _ h => rsL_Ic h, fun _ _ => rsL_Ik (by decide) (by decide), fun _ _ _ _ => rfl, fun _ _ _ => rfl, fun K i j _ _ h3 h4 => rsL_Lk h3 h4, fun _ _ => rfl, fun _ => rfl, rfl⟩
theorem SE.t {v : Int32} (a : SE σ τ) : SE σ (sI τ 4 0 0 v) := a.tr ⟨fun _ _ _ h _ _ => mI_sI_k h, fun _ h _ => mI_sI_j h, fun _ _ => mI_sI_k (by decide), fun _ _ _ _ => rfl, fun _ _ _ => rfl, fun _ _ _ _ _ _ _ => rfl, fun _ _ => rfl, fun _ => rfl, rfl⟩
theorem SE.te (a : SE σ τ) : TE σ τ := ⟨fun K h1 h2 => by funext j; exact a.1 K 0 j (by omega) (by omega) (by omega), a.2.2.2.2.2.2.1 7 0⟩
theorem SE.wd {p : Nat} {day : Int32} (a : SE σ τ) : wdF τ p day = wdF σ p day := by
  have e : ∀ K i j, K ≠ 4 → K ≠ 30 → K ≠ 79 → gI τ K i j = gI σ K i j := a.1
  unfold wdF rmF szF
  simp only [e 51 0 p (by decide) (by decide) (by decide), e 41 0 p (by decide) (by decide) (by decide), e 42 0 p (by decide) (by decide) (by decide), e 49 0 p (by decide) (by decide) (by decide), e 50 0 p (by decide) (by decide) (by decide), e 44 0 p (by decide) (by decide) (by decide), e 45 0 p (by decide) (by decide) (by decide), e 47 0 p (by decide) (by decide) (by decide), e 58 0 _ (by decide) (by decide) (by decide), e 59 0 _ (by decide) (by decide) (by decide)]
theorem SE.inv (a : SE σ τ) (I : Inv n σ) : Inv n τ := by
  obtain ⟨a1, a2, a3, a4, a5, a6, a7, a8, a9⟩ := a
  refine Inv_of I ⟨fun K i j h => a4 K i j (fun e => by rw [e] at h; cases h), fun K i _ => a7 K i, fun K _ => a8 K⟩ (fun j hj => a5 j (by omega) (by omega)) (fun K h2 h3 h4 h5 h10 h11 h29 h30 h77 h78 h79 => ⟨fun i j => a1 K i j h4 h30 h79, fun i j => a6 K i j h10 h11 h77 h78, fun i j => a4 K i j h30, fun i => a7 K i, a8 K⟩) (fun c h0 h57 => a2 c h0 h57) (fun c => a1 3 0 c (by decide) (by decide) (by decide)) ⟨a1 29 0 1 (by decide) (by decide) (by decide), a1 29 0 3 (by decide) (by decide) (by decide), a3 3 (by decide)⟩ a9
theorem SE.ru {k p : Nat} (a : SE σ τ) : ruT τ k p = ruT σ k p := by
  unfold ruT
  rw [a.2.1 1 (by decide) (by decide), a.wd, TE_rulF a.te, TE_rvF a.te]
end SES
section CALLS
variable {d n : Nat} {σ : aM} {Q : aR → aM → Prop}
/-- ruleToday on the class's side: some memory like σ -/
theorem C86s {k p : Nat} {τ : aM} (I : Inv n τ) (hp : p < gN τ 21 0) (hk : k < 6) (hq : ∀ τ', SE τ τ' → Q (some (some (vi (ruT τ k p)))) τ') : WP (d + 6) 86 0 [some (vr (some (3, 0))), some (vi (nI k)), some (vr (some (34, p)))] [] τ Q :=
  C86 ⟨n, I⟩ hp hk fun w0 g' x7 x6 _ => hq _ SE.rf.w.st
/-- now on the reference's side -/
theorem C188s {k p : Nat} {τ : aM} (I : Inv n τ) (hp : p < gN τ 21 0) (hk : k < 6) (hq : ∀ τ', SE τ τ' → Q (some (some (vi (ruT τ k p)))) τ') : WP (d + 7) 188 0 [some (vr (some (4, 0))), some (vi (nI k)), some (vi (nI p))] [] τ Q := by
  (obtain ⟨S, bP, bM, bH, bQ, bD, bT, bX, bO, bW, bG, bS, bF, bU⟩ := id I); (obtain ⟨s3, s4, s29, s30, s28, sC, sN, s33⟩ := id S); (obtain ⟨p_c, p_60, p_n, p_r, p_0, p_1, p_2, p_3, p_4, p_5, p_6, p_7, p_8, p_9, p_10, p_11, p_13, p_19, p_12, p_17, p_16, p_14, p_z, p_hd, p_ho, p_lh, p_pay, p_wp, p_sc, p_ml⟩ := id bP); (obtain ⟨h_c, h_30, h_n, h_r, h_0, h_1, h_2, h_3, h_4, h_5, h_6, h_60, h_b, h_z, h_v, h_ho, h_st, h_rm⟩ := id bH)
  exact C188 (d := d) S (TX_of bX) h_30 (by omega) (p_ho p hp) (by omega) fun g m f h => hq _ SE.rf.rs
end CALLS
