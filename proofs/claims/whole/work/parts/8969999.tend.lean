/-! text: what both sides leave; the invariant behind a fault -/
def same5 (σ τ : aM) (K : Nat) : Prop := (∀ i j, gI τ K i j = gI σ K i j) ∧ (∀ i j, gL τ K i j = gL σ K i j) ∧ (∀ i j, gR τ K i j = gR σ K i j) ∧ (∀ i, gN τ K i = gN σ K i) ∧ gC τ K = gC σ K
/-- behind the class -/
def cE (σ τ : aM) : Prop := (∀ K, K ≠ 7 → K ≠ 8 → K ≠ 9 → K ≠ 12 → ¬ (14 ≤ K ∧ K ≤ 19) → K ≠ 29 → K ≠ 30 → K ≠ 36 → same5 σ τ K) ∧ (gC τ 36 = gC σ 36 + 1 ∧ gC τ 12 = gC σ 36 + 1 ∧ gC σ 19 ≤ gC τ 19) ∧ (∀ t j, t < gC σ 36 → gI τ 36 t j = gI σ 36 t j ∧ gR τ 36 t j = gR σ 36 t j ∧ gR τ 12 t j = gR σ 12 t j ∧ gN τ 12 t = gN σ 12 t) ∧ (∀ u j, u < gC σ 19 → gI τ 19 u j = gI σ 19 u j) ∧ (∀ i j, i < gN σ 7 0 → gR τ 7 0 i = gR σ 7 0 i ∧ gI τ 18 i j = gI σ 18 i j ∧ gN τ 18 i = gN σ 18 i) ∧ gI τ 29 0 1 = 0 ∧ ((gB τ).1 ≤ (gB σ).1 + 100 ∧ (gB τ).2 ≤ (gB σ).2 + 4000) ∧ Sh τ
/-- behind the reference -/
def zF (j : Nat) : Prop := j ≠ 0 ∧ j ≠ 27 ∧ j ≠ 41 ∧ j ≠ 42 ∧ j ≠ 45 ∧ j ≠ 46 ∧ j ≠ 47 ∧ j ≠ 48 ∧ j ≠ 49 ∧ j ≠ 50 ∧ j ≠ 52 ∧ j ≠ 53
def rE (σ τ : aM) (tx : Nat) : Prop := (∀ K, K ≠ 4 → ¬ (62 ≤ K ∧ K ≤ 75) → ∀ i j, gI τ K i j = gI σ K i j) ∧ (∀ K i j, K ≠ 4 → K ≠ 68 → K ≠ 75 → gL τ K i j = gL σ K i j) ∧ ((∀ K i j, gR τ K i j = gR σ K i j) ∧ (∀ K i, gN τ K i = gN σ K i) ∧ (∀ K, gC τ K = gC σ K) ∧ gB τ = gB σ) ∧ (∀ j, zF j → gI τ 4 0 j = gI σ 4 0 j) ∧ (∀ i, i < tx → gI τ 62 0 i = gI σ 62 0 i ∧ gI τ 63 0 i = gI σ 63 0 i ∧ gI τ 64 0 i = gI σ 64 0 i) ∧ (∀ K, 65 ≤ K → K ≤ 72 → ∀ j, j < 10 * tx → gI τ K 0 j = gI σ K 0 j) ∧ (∀ j, j < 320 * tx → gI τ 73 0 j = gI σ 73 0 j ∧ gI τ 74 0 j = gI σ 74 0 j) ∧ gI τ 4 0 45 = 0
theorem StOK_old {σ τ : aM} {i t s tx : Nat} (hi : i < tx) (hs : s < 10) (ht : t < gC σ 36) (k19 : gC σ 19 ≤ gC τ 19) (k12 : ∀ j, gR τ 12 t j = gR σ 12 t j) (kI : ∀ u j, u < gC σ 19 → gI τ 19 u j = gI σ 19 u j) (k18 : ∀ j, gI τ 18 i j = gI σ 18 i j) (kN : gN τ 18 i = gN σ 18 i) (kr : ∀ K, 65 ≤ K → K ≤ 72 → ∀ j, j < 10 * tx → gI τ K 0 j = gI σ K 0 j) (kc : ∀ j, j < 320 * tx → gI τ 73 0 j = gI σ 73 0 j ∧ gI τ 74 0 j = gI σ 74 0 j) (h : StOK σ i t s) : StOK τ i t s := by
  have hlt : 10 * i + s < 10 * tx := by omega
  have e18 : gI τ 18 i = gI σ 18 i := funext k18
  have esg : ∀ p q, q ≤ 320 → sgR (gI τ 73 0) (gI τ 74 0) (320 * i) p q = sgR (gI σ 73 0) (gI σ 74 0) (320 * i) p q := fun p q hq => by
    unfold sgR
    exact sgG_cg _ _ (fun j h1 h2 => kc j (by omega))
  obtain ⟨u, k, a, b, e, u1, u2, u3, u4, u5, u6, u7, u8, u9, u10, u11, u12, u13⟩ := h
  refine ⟨u, k, a, b, e, by omega, (k12 _).trans u2, (kI _ _ u1).trans u3, ?_, (kr 65 (by omega) (by omega) _ hlt).trans u5, u6, ?_, fun h => (kr 67 (by omega) (by omega) _ hlt).trans (u8 h), fun h => by rw [kr 67 (by omega) (by omega) _ hlt]; exact u9 h, (kI _ _ u1).trans u10, (kI _ _ u1).trans u11, (kI _ _ u1).trans u12, fun h7 => ?_⟩
  · rw [kI _ _ u1, kr 65 (by omega) (by omega) _ hlt]; exact u4
  · rw [kI _ _ u1, kr 67 (by omega) (by omega) _ hlt]; exact u7
  · obtain ⟨v1, v2, v3, v4, v5, v6⟩ := u13 h7
    rw [kN, kr 71 (by omega) (by omega) _ hlt, kr 72 (by omega) (by omega) _ hlt, kr 69 (by omega) (by omega) _ hlt, kr 70 (by omega) (by omega) _ hlt, kr 66 (by omega) (by omega) _ hlt, e18]
    refine ⟨v1, v2, v3, v4, ?_, ?_⟩
    · rcases v5 with v5 | ⟨p, q, w1, w2, w3, w4, hh, w5, w6⟩
      · exact Or.inl v5
      · exact Or.inr ⟨p, q, w1, w2, w3, w4, hh, w5, by rw [esg p q w4]; exact w6⟩
    · rcases v6 with v6 | ⟨p, q, w1, w2, w3, w4, w5, hh, w6, w7⟩
      · exact Or.inl v6
      · exact Or.inr ⟨p, q, w1, w2, w3, w4, w5, hh, w6, by rw [esg p q w5]; exact w7⟩
theorem TextOK_old {σ τ1 τ : aM} {i : Nat} (C : cE σ τ1) (R : rE τ1 τ (gN σ 7 0)) (hi : i < gN σ 7 0) (k : TextOK σ i) : TextOK τ i := by
  obtain ⟨c1, ⟨c2, c3, c4⟩, c5, c6, c7, -, -, -⟩ := C
  obtain ⟨r1, r2, ⟨r3, r4, r5, -⟩, -, r6, r7, r8, -⟩ := R
  obtain ⟨t, c, h1, h2, h3, h4, h5, h6, h7, h8, h9, h10, h11, h12⟩ := k
  have s62 := (c1 62 (by decide) (by decide) (by decide) (by decide) (by decide) (by decide) (by decide) (by decide)).1
  have s63 := (c1 63 (by decide) (by decide) (by decide) (by decide) (by decide) (by decide) (by decide) (by decide)).1
  have s64 := (c1 64 (by decide) (by decide) (by decide) (by decide) (by decide) (by decide) (by decide) (by decide)).1
  have kr : ∀ K, 65 ≤ K → K ≤ 72 → ∀ j, j < 10 * gN σ 7 0 → gI τ K 0 j = gI σ K 0 j := fun K a b j hj => (r7 K a b j hj).trans ((c1 K (by omega) (by omega) (by omega) (by omega) (by omega) (by omega) (by omega) (by omega)).1 0 j)
  have kc : ∀ j, j < 320 * gN σ 7 0 → gI τ 73 0 j = gI σ 73 0 j ∧ gI τ 74 0 j = gI σ 74 0 j := fun j hj => ⟨(r8 j hj).1.trans ((c1 73 (by decide) (by decide) (by decide) (by decide) (by decide) (by decide) (by decide) (by decide)).1 0 j), (r8 j hj).2.trans ((c1 74 (by decide) (by decide) (by decide) (by decide) (by decide) (by decide) (by decide) (by decide)).1 0 j)⟩
  have e36 : ∀ j, gI τ 36 t j = gI σ 36 t j := fun j => (r1 36 (by decide) (by decide) t j).trans (c5 t j h1).1
  have eR : ∀ j, gR τ 36 t j = gR σ 36 t j := fun j => (r3 36 t j).trans (c5 t j h1).2.1
  refine ⟨t, c, by rw [r5, c2]; omega, (r3 7 0 i).trans ((c7 i 0 hi).1.trans h2), (e36 0).trans h3, ?_, ?_, (eR 3).trans h6, (eR 4).trans h7, h8, (r6 i hi).2.2.trans ((s64 0 i).trans h9), (r4 12 t).trans ((c5 t 0 h1).2.2.2.trans h10), fun k hk => ?_, fun s hs => ?_⟩
  · rw [e36, (r6 i hi).2.1, s63]; exact h4
  · rw [e36, (r6 i hi).1, s62]; exact h5
  · rw [e36, h11 k hk]
    constructor
    · rintro ⟨s, w1, w2, w3⟩
      exact ⟨s, w1, (kr 65 (by omega) (by omega) _ (by omega)).trans w2, (kr 66 (by omega) (by omega) _ (by omega)).trans w3⟩
    · rintro ⟨s, w1, w2, w3⟩
      exact ⟨s, w1, (kr 65 (by omega) (by omega) _ (by omega)).symm.trans w2, (kr 66 (by omega) (by omega) _ (by omega)).symm.trans w3⟩
  · exact StOK_old hi (by omega) h1 (by rw [r5]; exact c4) (fun j => (r3 12 t j).trans (c5 t j h1).2.2.1) (fun u j hu => (r1 19 (by decide) (by decide) u j).trans (c6 u j hu)) (fun j => (r1 18 (by decide) (by decide) i j).trans (c7 i j hi).2.1) ((r4 18 i).trans (c7 i 0 hi).2.2) kr kc (h12 s hs)
section INT
variable {n : Nat} {σ τ1 τ : aM}
theorem Inv_tx (hn : n < 512) (I : Inv n σ) (C : cE σ τ1) (R : rE τ1 τ (gN σ 7 0)) (bX' : BX τ) (h3 : gI τ 29 0 3 = gI τ 4 0 46) : Inv (n + 1) τ := by
  obtain ⟨c1, ⟨c2, c3, c4⟩, c5, c6, c7, c8, ⟨c9, c10⟩, S1⟩ := C
  obtain ⟨r1, r2, ⟨r3, r4, r5, rB⟩, rF, r6, r7, r8, r45⟩ := R
  have s5 : ∀ K, K ≠ 4 → K ≠ 7 → K ≠ 8 → K ≠ 9 → K ≠ 12 → ¬ (14 ≤ K ∧ K ≤ 19) → K ≠ 29 → K ≠ 30 → K ≠ 36 → ¬ (62 ≤ K ∧ K ≤ 75) → same5 σ τ K := fun K a4 a7 a8 a9 a12 a14 a29 a30 a36 a62 => by
    obtain ⟨e1, e2, e3, e4, e5⟩ := c1 K a7 a8 a9 a12 a14 a29 a30 a36
    exact ⟨fun i j => (r1 K a4 a62 i j).trans (e1 i j), fun i j => (r2 K i j a4 (by omega) (by omega)).trans (e2 i j), fun i j => (r3 K i j).trans (e3 i j), fun i => (r4 K i).trans (e4 i), (r5 K).trans e5⟩
  have e4 : ∀ j, zF j → gI τ 4 0 j = gI σ 4 0 j := fun j hj => (rF j hj).trans ((c1 4 (by decide) (by decide) (by decide) (by decide) (by decide) (by decide) (by decide) (by decide)).1 0 j)
  have zf : ∀ j, (j = 1 ∨ j = 2 ∨ j = 20 ∨ j = 25 ∨ j = 26 ∨ j = 58 ∨ j = 68 ∨ j = 71 ∨ j = 76) → zF j := fun j hj => by
    unfold zF; omega
  have e3 : ∀ j, gI τ 3 0 j = gI σ 3 0 j := fun j => (s5 3 (by decide) (by decide) (by decide) (by decide) (by decide) (by decide) (by decide) (by decide) (by decide) (by decide)).1 0 j
  have q21 := (s5 21 (by decide) (by decide) (by decide) (by decide) (by decide) (by decide) (by decide) (by decide) (by decide) (by decide)).2.2.2.1 0
  have q22 := (s5 22 (by decide) (by decide) (by decide) (by decide) (by decide) (by decide) (by decide) (by decide) (by decide) (by decide)).2.2.2.1 0
  have q25 := (s5 25 (by decide) (by decide) (by decide) (by decide) (by decide) (by decide) (by decide) (by decide) (by decide) (by decide)).2.2.2.1 0
  have ag : ∀ f : Nat → Bool, (∀ K, f K = true → K ≠ 4 ∧ K ≠ 7 ∧ K ≠ 8 ∧ K ≠ 9 ∧ K ≠ 12 ∧ ¬ (14 ≤ K ∧ K ≤ 19) ∧ K ≠ 29 ∧ K ≠ 30 ∧ K ≠ 36 ∧ ¬ (62 ≤ K ∧ K ≤ 75)) → Ag f σ τ := fun f hf K hK => by
    obtain ⟨a1, a2, a3, a4, a5, a6, a7, a8, a9, a10⟩ := hf K hK
    exact s5 K a1 a2 a3 a4 a5 a6 a7 a8 a9 a10
  obtain ⟨S, bP, bM, bH, bQ, bD, bT, bX, bO, bW, bG, bS, bF, bU⟩ := I
  have S2 : Sh τ := by
    obtain ⟨s3, s4, s29, s30, s28, sC, sN, s33⟩ := S1
    exact ⟨fun j => (r3 _ _ _).trans (s3 j), fun j => (r3 _ _ _).trans (s4 j), fun j => (r3 _ _ _).trans (s29 j), fun j hj => (r3 _ _ _).trans (s30 j hj), fun j => (r3 _ _ _).trans (s28 j), fun K hK => (r5 _).trans (sC K hK), fun K hK => (r4 _ _).trans (sN K hK), (r5 _).trans s33⟩
  refine ⟨S2, BP_fr bP (ag _ (fun K hK => by simp only [fBP, Bool.or_eq_true, beq_iff_eq] at hK; omega)) (e4 _ (zf _ (by decide))) (Nat.le_of_eq q22.symm), BM_up (BM_fr bM (ag _ (fun K hK => by simp only [fBM, Bool.or_eq_true, beq_iff_eq] at hK; omega)) (e4 _ (zf _ (by decide))) (e4 _ (zf _ (by decide)))) hn, BH_fr bH (ag _ (fun K hK => by simp only [fBH, Bool.or_eq_true, beq_iff_eq] at hK; omega)) (e4 _ (zf _ (by decide))) (Nat.le_of_eq q21.symm), BQ_fr bQ (ag _ (fun K hK => by simp only [fBQ, Bool.or_eq_true, beq_iff_eq] at hK; omega)) (e4 _ (zf _ (by decide))) (Nat.le_of_eq q21.symm), BD_fr bD (ag _ (fun K hK => by simp only [fBD, beq_iff_eq] at hK; omega)) (e3 _) (e3 _) (e3 _) (e4 _ (zf _ (by decide))) (e4 _ (zf _ (by decide))) (e4 _ (zf _ (by decide))), ?_, bX', BO_fr bO (ag _ (fun K hK => by simp only [fBO, Bool.or_eq_true, beq_iff_eq] at hK; omega)) (e4 _ (zf _ (by decide))) (Nat.le_of_eq q21.symm), BW_fr bW (ag _ (fun K hK => by simp only [fBW, Bool.or_eq_true, beq_iff_eq] at hK; omega)) (Nat.le_of_eq q21.symm) (Nat.le_of_eq q22.symm), BG_fr bG (ag _ (fun K hK => by simp only [fBG, Bool.or_eq_true, beq_iff_eq] at hK; omega)), BS_fr bS (ag _ (fun K hK => by simp only [fBS, Bool.or_eq_true, beq_iff_eq] at hK; omega)) (e4 _ (zf _ (by decide))) (Nat.le_of_eq q21.symm), BF_fr bF (ag _ (fun K hK => by simp only [fBF, Bool.or_eq_true, beq_iff_eq] at hK; omega)) (e4 _ (zf _ (by decide))), BU_mk bU (by rw [rB]; exact c9) (by rw [rB]; exact c10) q25⟩
  obtain ⟨t1, t2, t3, t4⟩ := bT
  have g13 : ∀ j, gI τ 13 0 j = gI σ 13 0 j := fun j => (s5 13 (by decide) (by decide) (by decide) (by decide) (by decide) (by decide) (by decide) (by decide) (by decide) (by decide)).1 0 j
  have g76 : ∀ j, gI τ 76 0 j = gI σ 76 0 j := fun j => (s5 76 (by decide) (by decide) (by decide) (by decide) (by decide) (by decide) (by decide) (by decide) (by decide) (by decide)).1 0 j
  refine ⟨?_, ⟨0, by omega, r45⟩, fun j => by rw [g13, g76]; exact t3 j, h3⟩
  rw [r45, r1 29 (by decide) (by decide)]
  exact c8
end INT
/-- the reference behind a fault -/
theorem rE_f {σ σ2 : aM} {tx : Nat} {fr ov va op tk n k p : Int32} {le : Int64} {g h : Nat → Int32} (F : rfR (sI (sI σ 4 0 0 0) 64 0 tx 0) σ2 tx) (ag : agF (320 * tx) (gI σ 73 0) g) (ah : agF (320 * tx) (gI σ 74 0) h) : rE σ (rfX (sI σ2 4 0 45 0) fr ov va le op tk n g h k p) tx := by
  obtain ⟨f1, f2, f3, f4, f5, f6, f7, f8⟩ := F
  refine ⟨fun K h4 hK i j => ?_, fun K i j h4 h68 h75 => ?_, ⟨fun K i j => f3 K i j, fun K i => f4 K i, fun K => f5 K, f6⟩, fun j hj => ?_, fun i hi => ⟨?_, ?_, ?_⟩, fun K h1 h2 j hj => ?_, fun j hj => ⟨ag j hj, ah j hj⟩, ?_⟩
  · rw [rx_a h4 (by omega) (by omega), mI_sI_k h4, f1 K (by omega), mI_sI_k (by omega), mI_sI_k h4]
  · rw [rx_l h4]
    exact f2 K h68 i j
  · obtain ⟨z0, z27, z41, z42, z45, z46, z47, z48, z49, z50, z52, z53⟩ := hj
    rw [rx_4 z48 z49 z50 z52 z53 z41 z47 z46, mI_sI_j z45, f1 4 (by omega), mI_sI_k (by decide), mI_sI_j z0]
  · rw [rx_a (by decide) (by decide) (by decide), mI_sI_k (by decide), f1 62 (by omega), mI_sI_k (by decide), mI_sI_k (by decide)]
  · rw [rx_a (by decide) (by decide) (by decide), mI_sI_k (by decide), f1 63 (by omega), mI_sI_k (by decide), mI_sI_k (by decide)]
  · rw [rx_a (by decide) (by decide) (by decide), mI_sI_k (by decide), f7 i (by omega), mI_sI_j (by omega), mI_sI_k (by decide)]
  · rw [rx_a (by omega) (by omega) (by omega), mI_sI_k (by omega), f8 K h1 h2 j hj, mI_sI_k (by omega), mI_sI_k (by omega)]
  · rw [rx_4 (by decide) (by decide) (by decide) (by decide) (by decide) (by decide) (by decide) (by decide), mI_sI_s]
/-- the class behind a fault -/
theorem cE_f {σ σ2 : aM} {a k : Int32} {c t1 n1 p : Nat} {f g h g1 : Nat → Int32} {T : tkT} (S : Sh σ) (xC : gC σ 12 = gC σ 36) (x18 : gC σ 18 = gN σ 7 0) (F : frC (spM (ntM σ a (gN σ 7 0)) c f g h) σ2 (gC σ 36)) (b1 : (gB σ2).1 ≤ (gB σ).1 + 30) (b2 : (gB σ2).2 ≤ (gB σ).2 + 500) : cE σ (rdM (sI σ2 29 0 1 0) T t1 n1 g1 k (nI p)) := by
  have S2 := frC_Sh (Sh_sp (Sh_nt (a := a) (tx := gN σ 7 0) S)) F
  obtain ⟨F1, F2, F3, F4, F5, F6, F7, F8, F9⟩ := id F
  refine ⟨fun K h7 h8 h9 h12 h14 h29 h30 h36 => ?_, ⟨F3.trans (nt_C36 (a := a) (tx := gN σ 7 0)), F2.trans ((nt_C12 (a := a) (tx := gN σ 7 0)).trans (by rw [xC])), ?_⟩, fun t j ht => ⟨?_, ?_, ?_, ?_⟩, fun u j hu => ?_, fun i j hi => ⟨?_, ?_, ?_⟩, rfl, ⟨by show (gB σ2).1 ≤ _; omega, by show (gB σ2).2 ≤ _; omega⟩, S2⟩
  · obtain ⟨e1, e2, e3, e4, e5⟩ := F1 K h12 (by omega) h36
    refine ⟨fun i j => ?_, fun i j => (e2 i j).trans (nt_L (a := a) (tx := gN σ 7 0) (Or.inl h36)), fun i j => (e3 i j).trans (nt_R (a := a) (tx := gN σ 7 0) (Or.inl h36)), fun i => (e4 i).trans (nt_N (a := a) (tx := gN σ 7 0) h36 (Or.inl h12)), e5.trans (nt_C (a := a) (tx := gN σ 7 0) h36 h12)⟩
    rw [rd_k h29 (by omega), mI_sI_k h29, e1]
    unfold spM
    rw [mI_sI_k h29, mI_sIr_k (by omega), mI_sIr_k (by omega), mI_sIr_k (by omega)]
    exact nt_I (Or.inl h36)
  · have e : gC (spM (ntM σ a (gN σ 7 0)) c f g h) 19 = gC σ 19 := nt_C (a := a) (tx := gN σ 7 0) (by decide) (by decide)
    rw [e] at F7
    exact F7
  · rw [rd_k (by decide) (by decide), mI_sI_k (by decide), F8 t j (Or.inl (by omega))]
    unfold spM
    rw [mI_sI_k (by decide), mI_sIr_k (by decide), mI_sIr_k (by decide), mI_sIr_k (by decide)]
    exact nt_I (Or.inr (by omega))
  · exact (F9 t j).trans (nt_R (a := a) (tx := gN σ 7 0) (Or.inr (by omega)))
  · exact (F4 t j (by omega)).trans (nt_R (a := a) (tx := gN σ 7 0) (Or.inl (by decide)))
  · exact (F5 t (by omega)).trans (nt_N (a := a) (tx := gN σ 7 0) (by decide) (Or.inr (by omega)))
  · have e : gC (spM (ntM σ a (gN σ 7 0)) c f g h) 19 = gC σ 19 := nt_C (a := a) (tx := gN σ 7 0) (by decide) (by decide)
    rw [rd_k (by decide) (by decide), mI_sI_k (by decide), F6 u j (by rw [e]; exact hu)]
    unfold spM
    rw [mI_sI_k (by decide), mI_sIr_k (by decide), mI_sIr_k (by decide), mI_sIr_k (by decide)]
    exact nt_I (Or.inl (by decide))
  · exact ((F1 7 (by decide) (by decide) (by decide)).2.2.1 0 i).trans (nt_R (a := a) (tx := gN σ 7 0) (Or.inl (by decide)))
  · rw [rd_k (by decide) (by decide), mI_sI_k (by decide), (F1 18 (by decide) (by decide) (by decide)).1 i j]
    unfold spM
    rw [mI_sI_k (by decide), mI_sIr_k (by decide), mI_sIr_k (by decide), mI_sIr_k (by decide)]
    exact nt_I (Or.inl (by decide))
  · exact ((F1 18 (by decide) (by decide) (by decide)).2.2.2.1 i).trans (nt_N (a := a) (tx := gN σ 7 0) (by decide) (Or.inl (by decide)))
