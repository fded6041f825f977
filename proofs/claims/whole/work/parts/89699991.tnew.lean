/-! text without a fault: what both sides leave -/
theorem insO_cg {f f' : Nat → Int32} {t : Nat} (ht : f t = f' t) : ∀ (l : List Nat), (∀ x ∈ l, f x = f' x) → insO f t l = insO f' t l
  | [], _ => rfl
  | a :: r, h => by
    unfold insO
    rw [ht, h a (List.mem_cons_self), insO_cg ht r (fun x hx => h x (List.mem_cons_of_mem _ hx))]
theorem ordL_cg {f f' : Nat → Int32} : ∀ n, (∀ i, i < n → f i = f' i) → ordL f n = ordL f' n
  | 0, _ => rfl
  | n + 1, h => by
    show insO f n (ordL f n) = insO f' n (ordL f' n)
    rw [← ordL_cg n (fun i hi => h i (by omega))]
    exact insO_cg (h n (Nat.lt_succ_self n)) _ (fun x hx => h x (Nat.lt_succ_of_lt (ordL_mem _ _ hx)))
theorem sgC_len {g : Nat → Int32} {a b : Nat} : (sgC g a b).length = b - a := by
  have : ∀ k i, (sgF g i k).length = k := by
    intro k
    induction k with
    | zero => intro i; rfl
    | succ k ih => intro i; show (sgF g (i + 1) k).length + 1 = k + 1; rw [ih]
  exact this _ _
/-- the reference -/
theorem rE_s {σ σ2 σ3 : aM} {tx t1 n1 : Nat} {a : Int32} {g h : Nat → Int32} {T : tkT} {U : ukT} {l : List rcT} {S0 : nmT} (H : rfT (sI (sI σ 4 0 0 0) 64 0 tx 0) σ2 tx g h n1 l) (N : rN (rfF σ T U tx a t1 n1 g h σ2) σ3 tx l S0 l.length) : rE σ (sI σ3 4 0 27 (nI (tx + 1))) tx := by
  obtain ⟨⟨f1, f2, f3, f4, f5, f6, f7, f8⟩, t2, t3, t4, t5⟩ := H
  obtain ⟨n1', n2, n3, n4, n5, n6, n7⟩ := N
  have eI : ∀ K i j, K ≠ 4 → K ≠ 73 → K ≠ 74 → K ≠ 62 → K ≠ 63 → gI (rfF σ T U tx a t1 n1 g h σ2) K i j = gI σ2 K i j := fun K i j h4 h73 h74 h62 h63 => by
    unfold rfF
    rw [mI_sI_k h63, mI_sI_k h62, rm_a h4 h73 h74, mI_sI_k h4]
  refine ⟨fun K h4 hK i j => ?_, fun K i j h4 h68 h75 => ?_, ⟨fun K i j => (gR_22 n1').trans (f3 K i j), fun K i => (gN_22 n1').trans (f4 K i), fun K => (gC_22 n1').trans (f5 K), (gB_22 n1').trans f6⟩, fun j hj => ?_, fun i hi => ⟨?_, ?_, ?_⟩, fun K h1 h2 j hj => ?_, fun j hj => ⟨?_, ?_⟩, ?_⟩
  · rw [mI_sI_k h4, n5 K i j (by omega) (Or.inl h4), eI K i j h4 (by omega) (by omega) (by omega) (by omega), f1 K (by omega), mI_sI_k (by omega), mI_sI_k h4]
  · show gL σ3 K i j = _
    rw [n2 K i j h75]
    exact (rm_l (σ := sI σ2 4 0 45 0) (T := T) (U := U) (t := t1) (op := 0) (n := n1) (g := g) (h := h) (k := 0) (p := -1) h4).trans (f2 K h68 i j)
  · obtain ⟨z0, z27, z41, z42, z45, z46, z47, z48, z49, z50, z52, z53⟩ := hj
    rw [mI_sI_j z27, n5 4 0 j (by decide) (Or.inr z42)]
    unfold rfF
    rw [mI_sI_k (by decide), mI_sI_k (by decide)]
    unfold rfM
    rw [rx_4 z48 z49 z50 z52 z53 z41 z47 z46, mI_sI_j z45, f1 4 (by omega), mI_sI_k (by decide), mI_sI_j z0]
  · rw [mI_sI_k (by decide), n5 62 0 i (by decide) (Or.inl (by decide))]
    unfold rfF
    rw [mI_sI_k (by decide), mI_sI_j (by omega), rm_a (by decide) (by decide) (by decide), mI_sI_k (by decide), f1 62 (by omega), mI_sI_k (by decide), mI_sI_k (by decide)]
  · rw [mI_sI_k (by decide), n5 63 0 i (by decide) (Or.inl (by decide))]
    unfold rfF
    rw [mI_sI_j (by omega), mI_sI_k (by decide), rm_a (by decide) (by decide) (by decide), mI_sI_k (by decide), f1 63 (by omega), mI_sI_k (by decide), mI_sI_k (by decide)]
  · rw [mI_sI_k (by decide), n5 64 0 i (by decide) (Or.inl (by decide)), eI 64 0 i (by decide) (by decide) (by decide) (by decide) (by decide), f7 i (by omega), mI_sI_j (by omega), mI_sI_k (by decide)]
  · have e : gI σ2 K 0 j = gI σ K 0 j := by rw [f8 K h1 h2 j hj, mI_sI_k (by omega), mI_sI_k (by omega)]
    by_cases h67 : K = 67
    · subst h67
      rw [mI_sI_k (by decide), n6 j (Or.inl hj), eI 67 0 j (by decide) (by decide) (by decide) (by decide) (by decide)]
      exact e
    · rw [mI_sI_k (by omega), n5 K 0 j h67 (Or.inl (by omega)), eI K 0 j (by omega) (by omega) (by omega) (by omega) (by omega)]
      exact e
  · rw [mI_sI_k (by decide), n5 73 0 j (by decide) (Or.inl (by decide))]
    unfold rfF
    rw [mI_sI_k (by decide), mI_sI_k (by decide)]
    exact t2 j hj
  · rw [mI_sI_k (by decide), n5 74 0 j (by decide) (Or.inl (by decide))]
    unfold rfF
    rw [mI_sI_k (by decide), mI_sI_k (by decide)]
    exact t3 j hj
  · rw [mI_sI_j (by decide), n5 4 0 45 (by decide) (Or.inr (by decide))]
    unfold rfF
    rw [mI_sI_k (by decide), mI_sI_k (by decide)]
    unfold rfM
    rw [rx_4 (by decide) (by decide) (by decide) (by decide) (by decide) (by decide) (by decide) (by decide), mI_sI_s]
section CES
variable {σ σ1 σ2 : aM} {a : Int32} {c t1 n1 p L : Nat} {f g h g1 : Nat → Int32} {T : tkT} {l : List rcT} {S0 : nmT}
/-- the class: all its facts in one -/
theorem cS (S : Sh σ) (xC : gC σ 12 = gC σ 36) (x18 : gC σ 18 = gN σ 7 0) (H : clT (spM (ntM σ a (gN σ 7 0)) c f g h) σ2 (gC σ 36) g1 n1 l) (N : clN (fiM σ2 T t1 n1 g1 (gC σ 36)) σ1 (gC σ 19) l S0 l.length) :
    (∀ K, K ≠ 9 → K ≠ 12 → ¬ (14 ≤ K ∧ K ≤ 19) → K ≠ 29 → K ≠ 30 → K ≠ 36 → same5 σ σ1 K) ∧ (gC σ1 36 = gC σ 36 + 1 ∧ gC σ1 12 = gC σ 36 + 1 ∧ gC σ1 19 = gC σ 19 + l.length ∧ gC σ1 18 = gN σ 7 0 + 1) ∧ (∀ t j, t < gC σ 36 → gI σ1 36 t j = gI σ 36 t j ∧ gR σ1 36 t j = gR σ 36 t j ∧ gR σ1 12 t j = gR σ 12 t j ∧ gN σ1 12 t = gN σ 12 t) ∧ (∀ u j, u < gC σ 19 → gI σ1 19 u j = gI σ 19 u j) ∧ (∀ i j, i < gN σ 7 0 → gI σ1 18 i j = gI σ 18 i j ∧ gN σ1 18 i = gN σ 18 i) ∧ gI σ1 29 0 1 = 0 ∧ gI σ1 29 0 3 = -1 ∧ ((gB σ1).1 ≤ (gB σ).1 + 3 + 2 * l.length ∧ (gB σ1).2 ≤ (gB σ).2 + 9 + 40 * l.length + n1) ∧ Sh σ1 ∧
    (gI σ1 36 (gC σ 36) 0 = nI (gN σ 7 0) ∧ gI σ1 36 (gC σ 36) 1 = a ∧ gI σ1 36 (gC σ 36) 2 = gI σ 3 0 12 ∧ gR σ1 36 (gC σ 36) 3 = some (12, gC σ 36) ∧ gR σ1 36 (gC σ 36) 4 = some (18, gN σ 7 0) ∧ gI σ1 36 (gC σ 36) 5 = gI σ2 36 (gC σ 36) 5) ∧ gN σ1 12 (gC σ 36) = l.length ∧ (gN σ1 18 (gN σ 7 0) = n1 ∧ ∀ j, gI σ1 18 (gN σ 7 0) j = g1 j) ∧ (∀ j, gL σ1 9 0 j = (nmS l S0 l.length).1 j) ∧ gI σ1 30 0 3 = nI (nmS l S0 l.length).2 ∧
    (∀ s r, l[s]? = some r → gR σ1 12 (gC σ 36) s = some (19, gC σ 19 + s) ∧ gI σ1 19 (gC σ 19 + s) 0 = nI s ∧ gI σ1 19 (gC σ 19 + s) 1 = nI r.1 ∧ gI σ1 19 (gC σ 19 + s) 3 = nmX l S0 s ∧ ∃ a b e, gI σ1 19 (gC σ 19 + s) 4 = nI a ∧ gI σ1 19 (gC σ 19 + s) 5 = nI b ∧ gI σ1 19 (gC σ 19 + s) 6 = nI e ∧ a ≤ b ∧ b ≤ e ∧ e ≤ n1 ∧ sgC g1 a b = r.2.2.2.1 ∧ sgC g1 b e = r.2.2.2.2.2.1) := by
  obtain ⟨F, H1, H2, ⟨H3, H4⟩, H5, H6, H7⟩ := id H
  have S2 := frC_Sh (Sh_sp (Sh_nt (a := a) (tx := gN σ 7 0) S)) F
  have SF := Sh_fi (T := T) (t := t1) (n := n1) (g := g1) (tt := gC σ 36) S2
  obtain ⟨F1, F2, F3, F4, F5, F6, F7, F8, F9⟩ := id F
  obtain ⟨m1, m2, m3, m4, m5, m6⟩ := id N
  have e19 : gC (spM (ntM σ a (gN σ 7 0)) c f g h) 19 = gC σ 19 := nt_C (a := a) (tx := gN σ 7 0) (by decide) (by decide)
  rw [e19] at H1 H5 F6 F7
  have e18 : gC σ2 18 = gN σ 7 0 := ((F1 18 (by decide) (by decide) (by decide)).2.2.2.2.trans (nt_C (a := a) (tx := gN σ 7 0) (by decide) (by decide))).trans x18
  have spI : ∀ K i j, K ≠ 15 → K ≠ 16 → K ≠ 17 → K ≠ 29 → gI (spM (ntM σ a (gN σ 7 0)) c f g h) K i j = gI (ntM σ a (gN σ 7 0)) K i j := fun K i j h15 h16 h17 h29 => by
    unfold spM
    rw [mI_sI_k h29, mI_sIr_k h17, mI_sIr_k h16, mI_sIr_k h15]
  have cI : ∀ K i j, K ≠ 19 → K ≠ 30 → K ≠ 14 → K ≠ 18 → K ≠ 29 → gI σ1 K i j = gI σ2 K i j := fun K i j a1 a2 a3 a4 a5 => (m5 K i j (Or.inl a1) (Or.inl a2)).trans (fi_I a3 a4 a5)
  have x36 : ∀ j, j ≠ 5 → gI σ1 36 (gC σ 36) j = gI (ntM σ a (gN σ 7 0)) 36 (gC σ 36) j := fun j hj => (cI 36 _ j (by decide) (by decide) (by decide) (by decide) (by decide)).trans ((F8 _ j (Or.inr hj)).trans (spI 36 _ j (by decide) (by decide) (by decide) (by decide)))
  have fB : gB σ1 = ((gB σ2).1 + 1, (gB σ2).2 + n1) := (gB_22 m1).trans fi_B
  have H3 : (gB σ2).1 ≤ (gB σ).1 + 2 + 2 * l.length := H3
  have H4 : (gB σ2).2 ≤ (gB σ).2 + 9 + 40 * l.length := H4
  refine ⟨fun K h9 h12 h14 h29 h30 h36 => ?_, ⟨?_, ?_, ?_, ?_⟩, fun t j ht => ⟨?_, ?_, ?_, ?_⟩, fun u j hu => ?_, fun i j hi => ⟨?_, ?_⟩, ?_, ?_, ?_, Sh_22 m1 SF, ⟨?_, ?_, ?_, ?_, ?_, ?_⟩, ?_, ⟨?_, fun j => ?_⟩, m3, m4, fun s r hr => ?_⟩
  · obtain ⟨e1, e2, e3, e4, e5⟩ := F1 K h12 (by omega) h36
    refine ⟨fun i j => ?_, fun i j => ?_, fun i j => ?_, fun i => ?_, ?_⟩
    · rw [cI K i j (by omega) h30 (by omega) (by omega) h29, e1, spI K i j (by omega) (by omega) (by omega) h29]
      exact nt_I (Or.inl h36)
    · rw [m2 K i j h9, fi_L (by omega), e2]
      exact nt_L (a := a) (tx := gN σ 7 0) (Or.inl h36)
    · rw [gR_22 m1, fi_R (by omega) (Or.inl h36), e3]
      exact nt_R (a := a) (tx := gN σ 7 0) (Or.inl h36)
    · rw [gN_22 m1, fi_N (Or.inl (by omega)), e4]
      exact nt_N (a := a) (tx := gN σ 7 0) h36 (Or.inl h12)
    · rw [gC_22 m1, fi_C (by omega), e5]
      exact nt_C (a := a) (tx := gN σ 7 0) h36 h12
  · rw [gC_22 m1, fi_C (by decide), F3]
    exact nt_C36 (a := a) (tx := gN σ 7 0)
  · rw [gC_22 m1, fi_C (by decide), F2]
    exact (nt_C12 (a := a) (tx := gN σ 7 0)).trans (by rw [xC])
  · rw [gC_22 m1, fi_C (by decide), H1]
  · rw [gC_22 m1, fi_C18, e18]
  · rw [cI 36 t j (by decide) (by decide) (by decide) (by decide) (by decide), F8 t j (Or.inl (by omega)), spI 36 t j (by decide) (by decide) (by decide) (by decide)]
    exact nt_I (Or.inr (by omega))
  · rw [gR_22 m1, fi_R (by decide) (Or.inr (Or.inl (by omega))), F9]
    exact nt_R (a := a) (tx := gN σ 7 0) (Or.inr (by omega))
  · rw [gR_22 m1, fi_R (by decide) (Or.inl (by decide)), F4 t j (by omega)]
    exact nt_R (a := a) (tx := gN σ 7 0) (Or.inl (by decide))
  · rw [gN_22 m1, fi_N (Or.inl (by decide)), F5 t (by omega)]
    exact nt_N (a := a) (tx := gN σ 7 0) (by decide) (Or.inr (by omega))
  · rw [m5 19 u j (Or.inr (Or.inr (Or.inl hu))) (Or.inl (by decide)), fi_I (by decide) (by decide) (by decide), F6 u j hu, spI 19 u j (by decide) (by decide) (by decide) (by decide)]
    exact nt_I (Or.inl (by decide))
  · rw [m5 18 i j (Or.inl (by decide)) (Or.inl (by decide)), fi_18 (by omega), (F1 18 (by decide) (by decide) (by decide)).1 i j, spI 18 i j (by decide) (by decide) (by decide) (by decide)]
    exact nt_I (Or.inl (by decide))
  · rw [gN_22 m1, fi_N (Or.inr (by omega)), (F1 18 (by decide) (by decide) (by decide)).2.2.2.1 i]
    exact nt_N (a := a) (tx := gN σ 7 0) (by decide) (Or.inl (by decide))
  · rw [m5 29 0 1 (Or.inl (by decide)) (Or.inl (by decide))]
    exact fi_1
  · rw [m5 29 0 3 (Or.inl (by decide)) (Or.inl (by decide))]
    exact fi_3
  · rw [fB]
    exact ⟨by show (gB σ2).1 + 1 ≤ _; omega, by show (gB σ2).2 + n1 ≤ _; omega⟩
  · rw [x36 0 (by decide)]; exact nt_0
  · rw [x36 1 (by decide)]; exact nt_1
  · rw [x36 2 (by decide)]; exact nt_2
  · rw [gR_22 m1, fi_R (by decide) (Or.inr (Or.inr (by decide))), F9]
    exact (nt_R3 (a := a) (tx := gN σ 7 0)).trans (by rw [xC])
  · rw [gR_22 m1, fi_R4, e18]
  · rw [cI 36 _ 5 (by decide) (by decide) (by decide) (by decide) (by decide)]
  · rw [gN_22 m1, fi_N (Or.inl (by decide)), H2]
  · rw [gN_22 m1, ← e18]; exact fi_N18
  · rw [m5 18 _ j (Or.inl (by decide)) (Or.inl (by decide)), ← e18]; exact fi_18n
  · have hs : s < l.length := (List.getElem?_eq_some_iff.mp hr).1
    obtain ⟨b1, b2, b3, b4, b5, a', b', e', b6, b7, b8, b9⟩ := H5 s r hr
    have c19 : ∀ j, j ≠ 3 → gI σ1 19 (gC σ 19 + s) j = gI σ2 19 (gC σ 19 + s) j := fun j hj => (m5 19 _ j (Or.inr (Or.inl hj)) (Or.inl (by decide))).trans (fi_I (by decide) (by decide) (by decide))
    exact ⟨by rw [gR_22 m1, fi_R (by decide) (Or.inl (by decide))]; exact b1, (c19 0 (by decide)).trans b2, (c19 1 (by decide)).trans b3, m6 s hs, a', b', e', (c19 4 (by decide)).trans b6, (c19 5 (by decide)).trans b7, (c19 6 (by decide)).trans b8, b9⟩
end CES
