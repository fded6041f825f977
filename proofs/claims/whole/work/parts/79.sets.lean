/-! the class's kinds and methods, and the reference's -/
def zC (K : Nat) : Bool := K == 2 || K == 3 || (Nat.ble 6 K && Nat.ble K 40)
def zR (K : Nat) : Bool := !zC K
def mC (m : Nat) : Bool := Nat.ble 4 m && Nat.ble m 136
def mR (m : Nat) : Bool := Nat.ble 138 m && Nat.ble m 234
theorem mC_cl : ∀ m, m < 137 → mC m = true → 1 ≤ mcl m ∧ mcl m ≤ 12 := by decide +kernel
theorem mR_cl : ∀ m, m < 235 → mR m = true → mcl m = 13 := by decide +kernel
theorem kC_t : ∀ e ∈ kSL, mC e.1 = true → zC e.2.2 = true := by decide +kernel
theorem kR_t : ∀ e ∈ kSL, ¬ mR e.1 = true := by decide +kernel
theorem hC_t : ∀ e ∈ hndL, ¬ mC e.1 = true ∧ ¬ mR e.1 = true := by decide +kernel
theorem tR_t : ∀ m ∈ thrL, ¬ mR m = true := by decide +kernel
theorem cC_t : ∀ e ∈ calL, 1 ≤ e.1 → e.1 ≤ 12 → e.2.2.1 ≤ 4 → mC e.2.2.2 = true := by decide +kernel
theorem cR_t : ∀ e ∈ calL, e.1 = 13 → (e.2.2.1 ≤ 4 → mR e.2.2.2 = true) ∧ e.2.2.1 ≠ 11 ∧ e.2.2.1 ≠ 12 := by decide +kernel
theorem mC_lt {m : Nat} (h : mC m = true) : m < 137 := by
  unfold mC at h
  rw [Bool.and_eq_true] at h
  have := Nat.le_of_ble_eq_true h.2
  omega
theorem mR_lt {m : Nat} (h : mR m = true) : m < 235 := by
  unfold mR at h
  rw [Bool.and_eq_true] at h
  have := Nat.le_of_ble_eq_true h.2
  omega
theorem setC : mset zC true mC := fun m hm => by
  refine ⟨fun pc => ?_, fun pc K h => ?_, fun _ => ⟨rfl, rfl⟩, fun k tag c h => ⟨fun ht => ?_, fun _ => rfl⟩⟩
  · cases e : hnd m pc with
    | none => rfl
    | some x => exact absurd hm (hC_t _ (lk_s e)).1
  · exact ⟨kC_t _ (lk_s h) hm, rfl⟩
  · obtain ⟨h1, h2⟩ := mC_cl m (mC_lt hm) hm
    exact cC_t _ (lk_s h) h1 h2 ht
theorem setR : mset zR false mR := fun m hm => by
  refine ⟨fun pc => ?_, fun pc K h => absurd hm (kR_t _ (lk_s h)), fun ht => absurd hm (tR_t _ ht), fun k tag c h => ⟨fun ht => ?_, fun ht => ?_⟩⟩
  · cases e : hnd m pc with
    | none => rfl
    | some x => exact absurd hm (hC_t _ (lk_s e)).2
  · exact (cR_t _ (lk_s h) (mR_cl m (mR_lt hm) hm)).1 ht
  · have := (cR_t _ (lk_s h) (mR_cl m (mR_lt hm) hm)).2
    rcases ht with e | e
    · exact absurd e this.1
    · exact absurd e this.2
abbrev mxC (σ ρ : aM) : aM := mix zC true σ ρ
section MXC
variable {σ ρ τ a b c : aM}
theorem mxR_C : mix zR false σ ρ = mxC ρ σ := by
  refine aM_ext (fun K i j => ?_) (fun K i j => ?_) (fun K i j => ?_) (fun K i => ?_) (fun K => ?_) rfl
  all_goals
    show (if zR K = true then _ else _) = (if zC K = true then _ else _)
    unfold zR
    cases zC K <;> rfl
theorem mxC_r : mxC a (mxC b c) = mxC a c := by
  refine aM_ext (fun K i j => ?_) (fun K i j => ?_) (fun K i j => ?_) (fun K i => ?_) (fun K => ?_) rfl
  · show (if zC K = true then gI a K i j else if zC K = true then gI b K i j else gI c K i j) = (if zC K = true then gI a K i j else gI c K i j)
    cases zC K <;> rfl
  · show (if zC K = true then gL a K i j else if zC K = true then gL b K i j else gL c K i j) = (if zC K = true then gL a K i j else gL c K i j)
    cases zC K <;> rfl
  · show (if zC K = true then gR a K i j else if zC K = true then gR b K i j else gR c K i j) = (if zC K = true then gR a K i j else gR c K i j)
    cases zC K <;> rfl
  · show (if zC K = true then gN a K i else if zC K = true then gN b K i else gN c K i) = (if zC K = true then gN a K i else gN c K i)
    cases zC K <;> rfl
  · show (if zC K = true then gC a K else if zC K = true then gC b K else gC c K) = (if zC K = true then gC a K else gC c K)
    cases zC K <;> rfl
theorem mxC_l : mxC (mxC a b) c = mxC a c := by
  refine aM_ext (fun K i j => ?_) (fun K i j => ?_) (fun K i j => ?_) (fun K i => ?_) (fun K => ?_) rfl
  · show (if zC K = true then if zC K = true then gI a K i j else gI b K i j else gI c K i j) = (if zC K = true then gI a K i j else gI c K i j)
    cases zC K <;> rfl
  · show (if zC K = true then if zC K = true then gL a K i j else gL b K i j else gL c K i j) = (if zC K = true then gL a K i j else gL c K i j)
    cases zC K <;> rfl
  · show (if zC K = true then if zC K = true then gR a K i j else gR b K i j else gR c K i j) = (if zC K = true then gR a K i j else gR c K i j)
    cases zC K <;> rfl
  · show (if zC K = true then if zC K = true then gN a K i else gN b K i else gN c K i) = (if zC K = true then gN a K i else gN c K i)
    cases zC K <;> rfl
  · show (if zC K = true then if zC K = true then gC a K else gC b K else gC c K) = (if zC K = true then gC a K else gC c K)
    cases zC K <;> rfl
theorem mxC_id : mxC a a = a := mix_id
/-- writes into the reference's kinds -/
theorem nix_sI {K i j : Nat} {v : Int32} (h : zC K = false) : sI (mxC σ ρ) K i j v = mxC σ (sI ρ K i j v) := by
  have h' : zR K = true := by unfold zR; rw [h]; rfl
  rw [← mxR_C, ← mxR_C]; exact mix_sI h'
theorem nix_sL {K i j : Nat} {v : Int64} (h : zC K = false) : sL (mxC σ ρ) K i j v = mxC σ (sL ρ K i j v) := by
  have h' : zR K = true := by unfold zR; rw [h]; rfl
  rw [← mxR_C, ← mxR_C]; exact mix_sL h'
theorem nix_sIr {K i : Nat} {f : Nat → Int32} (h : zC K = false) : sIr (mxC σ ρ) K i f = mxC σ (sIr ρ K i f) := by
  have h' : zR K = true := by unfold zR; rw [h]; rfl
  rw [← mxR_C, ← mxR_C]; exact mix_sIr h'
theorem nix_sLr {K i : Nat} {f : Nat → Int64} (h : zC K = false) : sLr (mxC σ ρ) K i f = mxC σ (sLr ρ K i f) := by
  have h' : zR K = true := by unfold zR; rw [h]; rfl
  rw [← mxR_C, ← mxR_C]; exact mix_sLr h'
theorem mxC_nI {K i j : Nat} {v : Int32} (h : zC K = false) : mxC (sI a K i j v) b = mxC a b := by
  refine aM_ext (fun K' i' j' => ?_) (fun _ _ _ => rfl) (fun _ _ _ => rfl) (fun _ _ => rfl) (fun _ => rfl) rfl
  show (if zC K' = true then gI (sI a K i j v) K' i' j' else gI b K' i' j') = (if zC K' = true then gI a K' i' j' else gI b K' i' j')
  by_cases c1 : zC K' = true
  · rw [if_pos c1, if_pos c1]; exact mI_sI_k (fun e => by rw [e, h] at c1; cases c1)
  · rw [if_neg c1, if_neg c1]
theorem mxC_pI {K i j : Nat} {v : Int32} (h : zC K = true) : mxC a (sI b K i j v) = mxC a b := by
  refine aM_ext (fun K' i' j' => ?_) (fun _ _ _ => rfl) (fun _ _ _ => rfl) (fun _ _ => rfl) (fun _ => rfl) rfl
  show (if zC K' = true then gI a K' i' j' else gI (sI b K i j v) K' i' j') = (if zC K' = true then gI a K' i' j' else gI b K' i' j')
  by_cases c1 : zC K' = true
  · rw [if_pos c1, if_pos c1]
  · rw [if_neg c1, if_neg c1]; exact mI_sI_k (fun e => by rw [e] at c1; exact c1 h)
theorem mxC_pR {K i j : Nat} {v : Option (Nat × Nat)} (h : zC K = true) : mxC a (sR b K i j v) = mxC a b := by
  refine aM_ext (fun _ _ _ => rfl) (fun _ _ _ => rfl) (fun K' i' j' => ?_) (fun _ _ => rfl) (fun _ => rfl) rfl
  show (if zC K' = true then gR a K' i' j' else gR (sR b K i j v) K' i' j') = (if zC K' = true then gR a K' i' j' else gR b K' i' j')
  by_cases c1 : zC K' = true
  · rw [if_pos c1, if_pos c1]
  · rw [if_neg c1, if_neg c1]; exact mR_sR_k (fun e => by rw [e] at c1; exact c1 h)
theorem zkM_R (h : zkM zR ρ) : zkM zR (mxC σ ρ) := fun K i j hK => by
  have h1 : zC K = false := by unfold zR at hK; cases e : zC K; rfl; rw [e] at hK; cases hK
  rw [nix_gR h1]; exact h K i j hK
theorem zkM_C (h : zkM zC σ) : zkM zC (mxC σ ρ) := fun K i j hK => by
  rw [mix_gR hK]; exact h K i j hK
end MXC
section ZKL
variable {z : Nat → Bool} {l : aL}
theorem zkL_n : zkL z [] := fun v h => by cases h
theorem zkL_0 (h : zkL z l) : zkL z (none :: l) := fun v hv => by
  rcases List.mem_cons.mp hv with e | e
  · cases e
  · exact h v e
theorem zkL_i {x : Int32} (h : zkL z l) : zkL z (some (vi x) :: l) := fun v hv => by
  rcases List.mem_cons.mp hv with e | e
  · cases e; exact zkv_i
  · exact h v e
theorem zkL_l {x : Int64} (h : zkL z l) : zkL z (some (vl x) :: l) := fun v hv => by
  rcases List.mem_cons.mp hv with e | e
  · cases e; exact zkv_l
  · exact h v e
theorem zkL_r {K i : Nat} (hK : z K = true ∨ K = 1) (h : zkL z l) : zkL z (some (vr (some (K, i))) :: l) := fun v hv => by
  rcases List.mem_cons.mp hv with e | e
  · cases e; exact zkv_r (zkq_s hK)
  · exact h v e
theorem zkL_v {v : aV} (hK : zkv z v) (h : zkL z l) : zkL z (some v :: l) := fun w hv => by
  rcases List.mem_cons.mp hv with e | e
  · cases e; exact hK
  · exact h w e
end ZKL
section RUNS
variable {d mid pc : Nat} {l : aL} {st : List aV} {σ ρ : aM} {Q : aR → aM → Prop}
/-- the class's run, carried to a memory with the same kinds of the class -/
theorem teleC (hk : mC mid = true) (hl : zkL zC l) (hs : zkS zC st) (hm : zkM zC ρ) (e : σ = mxC ρ σ) (h : WP d mid pc l st ρ Q) : WP d mid pc l st σ (fun r s => ∃ s0, Q r s0 ∧ s = mxC s0 σ ∧ zkM zC s0 ∧ zkR zC r) := by
  have := mix_WP (ρ := σ) setC hk hl hs hm h
  rw [show mix zC true ρ σ = σ from e.symm] at this
  exact this
/-- the reference's run, carried to a memory with the same kinds of the reference -/
theorem teleR (hk : mR mid = true) (hl : zkL zR l) (hs : zkS zR st) (hm : zkM zR ρ) (e : σ = mxC σ ρ) (h : WP d mid pc l st ρ Q) : WP d mid pc l st σ (fun r s => ∃ s0, Q r s0 ∧ s = mxC σ s0 ∧ zkM zR s0 ∧ zkR zR r) := by
  have := mix_WP (ρ := σ) setR hk hl hs hm h
  rw [show mix zR false ρ σ = σ from mxR_C.trans e.symm] at this
  refine this.mono ?_
  rintro r s ⟨s0, h1, h2, h3⟩
  exact ⟨s0, h1, h2.trans mxR_C, h3⟩
theorem ownC (hk : mC mid = true) (hl : zkL zC l) (hs : zkS zC st) (hm : zkM zC σ) (h : WP d mid pc l st σ Q) : WP d mid pc l st σ (fun r s => Q r s ∧ s = mxC s σ ∧ zkM zC s ∧ zkR zC r) := own_WP setC hk hl hs hm h
theorem ownR (hk : mR mid = true) (hl : zkL zR l) (hs : zkS zR st) (hm : zkM zR σ) (h : WP d mid pc l st σ Q) : WP d mid pc l st σ (fun r s => Q r s ∧ s = mxC σ s ∧ zkM zR s ∧ zkR zR r) := by
  refine (own_WP setR hk hl hs hm h).mono ?_
  rintro r s ⟨h1, h2, h3⟩
  exact ⟨h1, h2.trans mxR_C, h3⟩
end RUNS
