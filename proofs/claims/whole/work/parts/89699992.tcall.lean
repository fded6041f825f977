section TCA
variable {n m d L : Nat} {σ σ1 σ2 σ3 σ4 : aM} {a : Int32} {S0 : nmT} {l : List rcT}
/-- the class's own end, without a fault -/
abbrev tkM (σ σ1 : aM) (p : Nat) : aM := am_add (am_ins σ1 8 0 p (some (36, gC σ 36))) 7 0 (some (36, gC σ 36))
theorem BX_f {τ1 τ : aM} (bX : BX σ) (C : cE σ τ1) (R : rE τ1 τ (gN σ 7 0)) (k7 : gN τ1 7 0 = gN σ 7 0) (k8 : gN τ1 8 0 = gN σ 8 0) (kR : ∀ j, gR τ1 8 0 j = gR σ 8 0 j) (k18 : gC τ1 18 = gC σ 18) (k30 : gI τ1 30 0 3 = gI σ 30 0 3) (k9 : ∀ j, gL τ1 9 0 j = gL σ 9 0 j) (e27 : gI τ 4 0 27 = gI σ 4 0 27) (e42 : gI τ 4 0 42 = gI σ 4 0 42) (e75 : ∀ j, gL τ 75 0 j = gL σ 75 0 j) : BX τ := by
  obtain ⟨x12, x27, x3, x42, x9, x8, xC, x18, xo, xt⟩ := id bX
  obtain ⟨c1, ⟨c2, c3, c4⟩, c5, c6, c7, c8, c9, S1⟩ := id C
  obtain ⟨r1, r2, ⟨r3, r4, r5, rB⟩, rF, r6, r7, r8, r45⟩ := id R
  have n7 : gN τ 7 0 = gN σ 7 0 := (r4 7 0).trans k7
  have e63 : ∀ i, i < gN σ 7 0 → gI τ 63 0 i = gI σ 63 0 i := fun i hi => (r6 i hi).2.1.trans ((c1 63 (by decide) (by decide) (by decide) (by decide) (by decide) (by decide) (by decide) (by decide)).1 0 i)
  have eo : ordL (gI τ 63 0) (gN σ 7 0) = ordL (gI σ 63 0) (gN σ 7 0) := ordL_cg _ e63
  refine ⟨by rw [n7]; exact x12, by rw [n7, e27]; exact x27, by rw [r1 30 (by decide) (by decide), k30, e42]; exact x3, by rw [n7, e42]; exact x42, fun j => ?_, ((r4 8 0).trans k8).trans (x8.trans n7.symm), by rw [r5, r5, c2, c3], by rw [r5, k18, n7]; exact x18, fun j hj => ?_, fun i hi => ?_⟩
  · rw [r2 9 0 j (by decide) (by decide) (by decide), k9, e75]; exact x9 j
  · rw [n7] at hj ⊢
    have hlt : (ordL (gI σ 63 0) (gN σ 7 0)).getD j 0 < gN σ 7 0 := ordL_mem _ _ (by
      rw [List.getD_eq_getElem?_getD, List.getElem?_eq_getElem (by rw [ordL_len]; exact hj)]
      exact List.getElem_mem _)
    rw [eo, r3, kR, xo j hj, r3, (c7 _ 0 hlt).1]
  · rw [n7] at hi
    exact TextOK_old C R hi (xt i hi)
theorem BX_s {T : tkT} {U : ukT} {c t1 n1 p t1' n1' : Nat} {f g h g1 g1' h1' : Nat → Int32} (I : Inv n σ) (h12 : gN σ 7 0 < 12) (hm2 : m ≤ 10 * gN σ 7 0) (hS0 : S0.2 = m) (hn1 : n1 ≤ 300) (hn1' : n1' ≤ 300) (hall : ∀ r ∈ l, ∃ t t1, rcOK t t1 r) (hl : l.length ≤ 10)
    (H : clT (spM (ntM σ a (gN σ 7 0)) c f g h) σ2 (gC σ 36) g1 n1 l) (N : clN (fiM σ2 T t1 n1 g1 (gC σ 36)) σ1 (gC σ 19) l S0 l.length) (hp : p ≤ gN σ 7 0) (hp1 : ∀ j, p ≤ j → j < gN σ 7 0 → a < gI σ 63 0 ((ordL (gI σ 63 0) (gN σ 7 0)).getD j 0)) (hp2 : p = 0 ∨ ¬ a < gI σ 63 0 ((ordL (gI σ 63 0) (gN σ 7 0)).getD (p - 1) 0))
    (H2 : rfT (sI (sI (tkM σ σ1 p) 4 0 0 0) 64 0 (gN σ 7 0) 0) σ3 (gN σ 7 0) g1' h1' n1' l) (N2 : rN (rfF (tkM σ σ1 p) T U (gN σ 7 0) a t1' n1' g1' h1' σ3) σ4 (gN σ 7 0) l S0 l.length) : cE σ (tkM σ σ1 p) ∧ BX (sI σ4 4 0 27 (nI (gN σ 7 0 + 1))) := by
  obtain ⟨S, bP, bM, bH, bQ, bD, bT, bX, bO, bW, bG, bS, bF, bU⟩ := I
  obtain ⟨x12, x27, x3, x42, x9, x8, xC, x18, xo, xt⟩ := id bX
  obtain ⟨s1, ⟨s2, s3, s4, s5⟩, s6, s7, s8, s9, s10, ⟨s11, s12⟩, s13, ⟨y0, y1, y2, y3, y4, y5⟩, y6, ⟨y7, y8⟩, y9, y10, y11⟩ := cS S xC x18 H N
  have R := rE_s H2 N2
  have e7 : gN σ1 7 0 = gN σ 7 0 := (s1 7 (by decide) (by decide) (by decide) (by decide) (by decide) (by decide)).2.2.2.1 0
  have e8 : gN σ1 8 0 = gN σ 7 0 := ((s1 8 (by decide) (by decide) (by decide) (by decide) (by decide) (by decide)).2.2.2.1 0).trans x8
  have kN7 : gN (tkM σ σ1 p) 7 0 = gN σ 7 0 + 1 := by
    rw [gN_am_add, if_pos ⟨rfl, rfl⟩, gN_am_ins, if_neg (fun q => absurd q.1 (by decide)), e7]
  have kN8 : gN (tkM σ σ1 p) 8 0 = gN σ 7 0 + 1 := by
    rw [gN_am_add, if_neg (fun q => absurd q.1 (by decide)), gN_am_ins, if_pos ⟨rfl, rfl⟩, e8]
  have kN : ∀ K i, K ≠ 7 → K ≠ 8 → gN (tkM σ σ1 p) K i = gN σ1 K i := fun K i a7 a8 => by
    rw [gN_am_add, if_neg (fun q => a7 q.1), gN_am_ins, if_neg (fun q => a8 q.1)]
  have kR : ∀ K i j, K ≠ 7 → K ≠ 8 → gR (tkM σ σ1 p) K i j = gR σ1 K i j := fun K i j a7 a8 => by
    rw [gR_am_add, if_neg (fun q => a7 q.1), gR_am_ins, if_neg (fun q => a8 q.1)]
  have r7 : ∀ j, gR σ1 7 0 j = gR σ 7 0 j := fun j => (s1 7 (by decide) (by decide) (by decide) (by decide) (by decide) (by decide)).2.2.1 0 j
  have r8 : ∀ j, gR σ1 8 0 j = gR σ 8 0 j := fun j => (s1 8 (by decide) (by decide) (by decide) (by decide) (by decide) (by decide)).2.2.1 0 j
  have kR7 : ∀ j, gR (tkM σ σ1 p) 7 0 j = if j = gN σ 7 0 then some (36, gC σ 36) else gR σ 7 0 j := fun j => by
    have e : gN (am_ins σ1 8 0 p (some (36, gC σ 36))) 7 0 = gN σ 7 0 := by
      rw [gN_am_ins, if_neg (fun q => absurd q.1 (by decide)), e7]
    rw [gR_am_add, e]
    by_cases c : j = gN σ 7 0
    · rw [if_pos ⟨rfl, rfl, c⟩, if_pos c]
    · rw [if_neg (fun q => c q.2.2), if_neg c, gR_am_ins, if_neg (fun q => absurd q.1 (by decide)), r7]
  have kR8 : ∀ j, gR (tkM σ σ1 p) 8 0 j = if j < p then gR σ 8 0 j else if j = p then some (36, gC σ 36) else gR σ 8 0 (j - 1) := fun j => by
    rw [gR_am_add, if_neg (fun q => absurd q.1 (by decide)), gR_am_ins, if_pos ⟨rfl, rfl⟩, r8, r8]
  have hB : gB (tkM σ σ1 p) = ((gB σ1).1 + 2, (gB σ1).2 + (gN σ 7 0 + gN σ 7 0 / 2 + 10) + (gN σ 7 0 + gN σ 7 0 / 2 + 10)) := by
    have e : gN (am_ins σ1 8 0 p (some (36, gC σ 36))) 7 0 = gN σ 7 0 := by
      rw [gN_am_ins, if_neg (fun q => absurd q.1 (by decide)), e7]
    rw [gB_am_add, e, gB_am_ins, e8]
  have C : cE σ (tkM σ σ1 p) := by
    refine ⟨fun K h7 h8 h9 h12' h14 h29 h30 h36 => ?_, ⟨s2, s3, by show gC σ 19 ≤ gC σ1 19; omega⟩, fun t j ht => ?_, fun u j hu => s7 u j hu, fun i j hi => ?_, s9, ⟨by rw [hB]; show (gB σ1).1 + 2 ≤ _; omega, by rw [hB]; show (gB σ1).2 + (gN σ 7 0 + gN σ 7 0 / 2 + 10) + (gN σ 7 0 + gN σ 7 0 / 2 + 10) ≤ _; omega⟩, ?_⟩
    · obtain ⟨q1, q2, q3, q4, q5⟩ := s1 K h9 h12' h14 h29 h30 h36
      exact ⟨q1, q2, fun i j => (kR K i j h7 h8).trans (q3 i j), fun i => (kN K i h7 h8).trans (q4 i), q5⟩
    · obtain ⟨q1, q2, q3, q4⟩ := s6 t j ht
      exact ⟨q1, (kR 36 t j (by decide) (by decide)).trans q2, (kR 12 t j (by decide) (by decide)).trans q3, (kN 12 t (by decide) (by decide)).trans q4⟩
    · obtain ⟨q1, q2⟩ := s8 i j hi
      exact ⟨by rw [kR7, if_neg (by omega)], q1, (kN 18 i (by decide) (by decide)).trans q2⟩
    · obtain ⟨u3, u4, u29, u30, u28, uC, uN, u33⟩ := s13
      have m7 : ∀ K, shS K = true → K ≠ 7 ∧ K ≠ 8 := fun K hK => ⟨fun e => by rw [e] at hK; exact absurd hK (by decide), fun e => by rw [e] at hK; exact absurd hK (by decide)⟩
      exact ⟨fun j => (kR 3 0 j (by decide) (by decide)).trans (u3 j), fun j => (kR 4 0 j (by decide) (by decide)).trans (u4 j), fun j => (kR 29 0 j (by decide) (by decide)).trans (u29 j), fun j hj => (kR 30 0 j (by decide) (by decide)).trans (u30 j hj), fun j => (kR 28 0 j (by decide) (by decide)).trans (u28 j), uC, fun K hK => (kN K 0 (m7 K hK).1 (m7 K hK).2).trans (uN K hK), u33⟩
  refine ⟨C, ?_⟩
  -- the reference's own
  obtain ⟨R1, R2, ⟨R3, R4, R5, RB⟩, RF, R6, R7, R8, R45⟩ := id R
  obtain ⟨⟨f1, f2, f3, f4, f5, f6, f7, f8⟩, u2, u3, u4, u5⟩ := id H2
  obtain ⟨v1, v2, v3, v4, v5, v6, v7⟩ := id N2
  have eI : ∀ K i j, K ≠ 4 → K ≠ 73 → K ≠ 74 → K ≠ 62 → K ≠ 63 → gI (rfF (tkM σ σ1 p) T U (gN σ 7 0) a t1' n1' g1' h1' σ3) K i j = gI σ3 K i j := fun K i j h4 h73 h74 h62 h63 => by
    unfold rfF
    rw [mI_sI_k h63, mI_sI_k h62, rm_a h4 h73 h74, mI_sI_k h4]
  have g4 : ∀ K i j, K ≠ 4 → K ≠ 67 → gI (sI σ4 4 0 27 (nI (gN σ 7 0 + 1))) K i j = gI (rfF (tkM σ σ1 p) T U (gN σ 7 0) a t1' n1' g1' h1' σ3) K i j := fun K i j h4 h67 => (mI_sI_k h4).trans (v5 K i j h67 (Or.inl h4))
  have z62 : gI (sI σ4 4 0 27 (nI (gN σ 7 0 + 1))) 62 0 (gN σ 7 0) = gI σ 3 0 12 := by
    rw [g4 62 _ _ (by decide) (by decide)]
    unfold rfF
    rw [mI_sI_k (by decide), mI_sI_s]
    exact ((s1 4 (by decide) (by decide) (by decide) (by decide) (by decide) (by decide)).1 0 1).trans bD.1.symm
  have z63 : gI (sI σ4 4 0 27 (nI (gN σ 7 0 + 1))) 63 0 (gN σ 7 0) = a := by
    rw [g4 63 _ _ (by decide) (by decide)]
    unfold rfF
    rw [mI_sI_s]
  have z64 : gI (sI σ4 4 0 27 (nI (gN σ 7 0 + 1))) 64 0 (gN σ 7 0) = nI l.length := by
    rw [g4 64 _ _ (by decide) (by decide), eI 64 _ _ (by decide) (by decide) (by decide) (by decide) (by decide)]
    exact u4
  have z73 : gI (sI σ4 4 0 27 (nI (gN σ 7 0 + 1))) 73 0 = g1' := funext fun j => by
    rw [g4 73 _ _ (by decide) (by decide)]
    unfold rfF
    rw [mI_sI_k (by decide), mI_sI_k (by decide)]
    exact rx_73
  have z74 : gI (sI σ4 4 0 27 (nI (gN σ 7 0 + 1))) 74 0 = h1' := funext fun j => by
    rw [g4 74 _ _ (by decide) (by decide)]
    unfold rfF
    rw [mI_sI_k (by decide), mI_sI_k (by decide)]
    exact rx_74
  have zrow : ∀ K, 65 ≤ K → K ≤ 72 → K ≠ 67 → ∀ j, gI (sI σ4 4 0 27 (nI (gN σ 7 0 + 1))) K 0 j = gI σ3 K 0 j := fun K h1 h2 h67 j => by
    rw [g4 K _ _ (by omega) h67, eI K _ _ (by omega) (by omega) (by omega) (by omega) (by omega)]
  have z67 : ∀ s, s < l.length → gI (sI σ4 4 0 27 (nI (gN σ 7 0 + 1))) 67 0 (10 * gN σ 7 0 + s) = nmX l S0 s := fun s hs => (mI_sI_k (by decide)).trans (v7 s hs)
  have z18 : gI (sI σ4 4 0 27 (nI (gN σ 7 0 + 1))) 18 (gN σ 7 0) = g1 := funext fun j => (R1 18 (by decide) (by decide) _ j).trans (y8 j)
  have zN18 : gN (sI σ4 4 0 27 (nI (gN σ 7 0 + 1))) 18 (gN σ 7 0) = n1 := (R4 18 _).trans ((kN 18 _ (by decide) (by decide)).trans y7)
  have w36 : ∀ j, gI (sI σ4 4 0 27 (nI (gN σ 7 0 + 1))) 36 (gC σ 36) j = gI σ1 36 (gC σ 36) j := fun j => R1 36 (by decide) (by decide) _ j
  have w19 : ∀ u j, gI (sI σ4 4 0 27 (nI (gN σ 7 0 + 1))) 19 u j = gI σ1 19 u j := fun u j => R1 19 (by decide) (by decide) _ j
  have wR36 : ∀ j, gR (sI σ4 4 0 27 (nI (gN σ 7 0 + 1))) 36 (gC σ 36) j = gR σ1 36 (gC σ 36) j := fun j => (R3 36 _ j).trans (kR 36 _ j (by decide) (by decide))
  have wR12 : ∀ j, gR (sI σ4 4 0 27 (nI (gN σ 7 0 + 1))) 12 (gC σ 36) j = gR σ1 12 (gC σ 36) j := fun j => (R3 12 _ j).trans (kR 12 _ j (by decide) (by decide))
  have hget : ∀ s, s < l.length → ∃ r, l[s]? = some r ∧ ∃ x y, rcOK x y r := fun s hs => ⟨l[s], List.getElem?_eq_getElem hs, hall _ (List.getElem_mem _)⟩
  have nX : ∀ s r, l[s]? = some r → nmX l S0 s = if r.1 = 6 then nI (nmK (nmS l S0 s) r.2.1) else -1 := fun s r hr => by
    unfold nmX
    rw [hr]
  have new : TextOK (sI σ4 4 0 27 (nI (gN σ 7 0 + 1))) (gN σ 7 0) := by
    refine ⟨gC σ 36, l.length, ?_, ?_, (w36 0).trans y0, ?_, ?_, (wR36 3).trans y3, (wR36 4).trans y4, hl, z64, ?_, fun k hk => ?_, fun s hs => ?_⟩
    · rw [R5]
      show gC σ 36 < gC σ1 36
      omega
    · rw [R3, kR7, if_pos rfl]
    · rw [w36, y1, z63]
    · rw [w36, y2, z62]
    · rw [R4, kN 12 _ (by decide) (by decide)]; exact y6
    · rw [w36, y5, H.2.2.2.2.2.2 k hk]
      constructor
      · rintro ⟨s, r, e1, e2, e3⟩
        obtain ⟨b1, b2, -⟩ := u5 s r e1
        have hs : s < l.length := (List.getElem?_eq_some_iff.mp e1).1
        refine ⟨s, hs, ?_, ?_⟩
        · rw [zrow 65 (by omega) (by omega) (by decide), b1, e2]; rfl
        · rw [zrow 66 (by omega) (by omega) (by decide), b2, e3]
      · rintro ⟨s, hs, e2, e3⟩
        obtain ⟨r, hr, x, y, hxy⟩ := hget s hs
        obtain ⟨b1, b2, -⟩ := u5 s r hr
        rw [zrow 65 (by omega) (by omega) (by decide), b1] at e2
        rw [zrow 66 (by omega) (by omega) (by decide), b2] at e3
        have h7 := hxy.2.2.2.2.1
        exact ⟨s, r, hr, (nI_eq (b := 7) (by omega) (by omega)).mp e2, e3⟩
    · obtain ⟨r, hr, x, y, hxy⟩ := hget s hs
      obtain ⟨b1, b2, b3, b4, b5, b6⟩ := u5 s r hr
      obtain ⟨d1, d2, d3, d4, a', b', e', d5, d6, d7, d8, d9, d10, d11, d12⟩ := y11 s r hr
      obtain ⟨o1, o2, o3, o4, o5, o6, o7⟩ := hxy
      have ex := nX s r hr
      refine ⟨gC σ 19 + s, r.1, a', b', e', ?_, (wR12 s).trans d1, (w19 _ 0).trans d2, ?_, ?_, o5, ?_, fun h6 => ?_, fun h6 => ?_, (w19 _ 4).trans d5, (w19 _ 5).trans d6, (w19 _ 6).trans d7, fun h7 => ⟨d8, d9, by rw [zN18]; exact d10, by rw [zN18]; exact hn1, ?_, ?_⟩⟩
      · rw [R5]
        show gC σ 19 + s < gC σ1 19
        omega
      · rw [w19, d3, zrow 65 (by omega) (by omega) (by decide), b1]
      · rw [zrow 65 (by omega) (by omega) (by decide)]; exact b1
      · rw [w19, d4, z67 s hs]
      · rw [z67 s hs, ex, if_neg h6]
      · rw [z67 s hs, ex, if_pos h6]
        have h1 := nmK_le (S := nmS l S0 s) (w := r.2.1)
        have h2 := nmS_le (R := l) (S0 := S0) s
        exact nI_pos' (by omega)
      · rw [zrow 71 (by omega) (by omega) (by decide), zrow 72 (by omega) (by omega) (by decide), z18, z73, z74]
        rcases o6 with ⟨q1, q2⟩ | ⟨q, q1, q2⟩
        · rw [q1] at b6
          refine Or.inl ⟨b6, ?_⟩
          rw [q2] at d12
          have := congrArg List.length d12
          rw [sgC_len] at this
          simp only [List.length_nil] at this
          omega
        · rw [q1] at b6
          obtain ⟨pp, qq, w1, w2, w3, w4, w5⟩ := b6
          exact Or.inr ⟨pp, qq, w1, w2, w3, by omega, 14, by omega, by rw [w5, d12]; exact q2⟩
      · rw [zrow 69 (by omega) (by omega) (by decide), zrow 70 (by omega) (by omega) (by decide), zrow 66 (by omega) (by omega) (by decide), z18, z73, z74, b2]
        rcases o7 with ⟨q1, -⟩ | ⟨q1, q2, q3, q4⟩ | ⟨q1, q2, q3, N, q4, q5, q6, q7, q8⟩ | ⟨q1, q2, q, q3, q4⟩
        · omega
        · rw [q3] at b5
          have hab : a' = b' := by
            rw [q2] at d11
            have := congrArg List.length d11
            rw [sgC_len] at this
            simp only [List.length_nil] at this
            omega
          exact Or.inl ⟨b5, by omega, ⟨1, by rw [q4]; rfl, by omega, by omega, by omega, by omega⟩, Or.inl ⟨hab, q4⟩⟩
        · rw [q2] at b5
          have hab : b' = a' + 1 := by
            rw [q3] at d11
            have := congrArg List.length d11
            rw [sgC_len] at this
            simp only [List.length_cons, List.length_nil] at this
            omega
          refine Or.inl ⟨b5, by omega, ⟨N, q4, q5, q6, q7, q8⟩, Or.inr ⟨hab, ?_⟩⟩
          rw [q3, hab] at d11
          unfold sgC at d11
          rw [show a' + 1 - a' = 1 by omega] at d11
          have d11 : g1 a' :: [] = [r.2.2.1] := d11
          exact (List.cons.inj d11).1
        · rw [q3] at b5
          obtain ⟨pp, qq, w1, w2, w3, w4, w5⟩ := b5
          exact Or.inr ⟨pp, qq, w1, w2, q1, w3, by omega, 11, by omega, by rw [w5, d11]; exact q4⟩
  have e63 : ∀ i, i < gN σ 7 0 → gI σ 63 0 i = gI (sI σ4 4 0 27 (nI (gN σ 7 0 + 1))) 63 0 i := fun i hi => ((R6 i hi).2.1.trans ((s1 63 (by decide) (by decide) (by decide) (by decide) (by decide) (by decide)).1 0 i)).symm
  have eo := ordL_cg (gN σ 7 0) e63
  have hlen : (ordL (gI (sI σ4 4 0 27 (nI (gN σ 7 0 + 1))) 63 0) (gN σ 7 0)).length = gN σ 7 0 := ordL_len _
  have hlt : ∀ j, j < gN σ 7 0 → (ordL (gI (sI σ4 4 0 27 (nI (gN σ 7 0 + 1))) 63 0) (gN σ 7 0)).getD j 0 < gN σ 7 0 := fun j hj => ordL_mem _ _ (by
    rw [List.getD_eq_getElem?_getD, List.getElem?_eq_getElem (by rw [hlen]; exact hj)]
    exact List.getElem_mem _)
  have pw := ordL_pw (f := gI (sI σ4 4 0 27 (nI (gN σ 7 0 + 1))) 63 0) (gN σ 7 0)
  rw [eo] at hp1 hp2
  have ord : ordL (gI (sI σ4 4 0 27 (nI (gN σ 7 0 + 1))) 63 0) (gN σ 7 0 + 1) = insA (gN σ 7 0) p (ordL (gI (sI σ4 4 0 27 (nI (gN σ 7 0 + 1))) 63 0) (gN σ 7 0)) := by
    show insO _ (gN σ 7 0) (ordL _ (gN σ 7 0)) = _
    refine insO_insA _ p (by rw [hlen]; exact hp) (fun j hj q => ?_) (fun j h1 h2 => ?_)
    · rw [z63] at q
      rcases hp2 with h0 | h0
      · omega
      · refine h0 ?_
        have hjp : j ≤ p - 1 := by omega
        have := pw_get pw hjp (by rw [hlen]; omega)
        rw [e63 _ (hlt (p - 1) (by omega))]
        exact Int32.lt_of_lt_of_le q this
    · rw [z63, ← e63 _ (hlt j (by rw [hlen] at h2; exact h2))]
      exact hp1 j h1 (by rw [hlen] at h2; exact h2)
  have n7 : gN (sI σ4 4 0 27 (nI (gN σ 7 0 + 1))) 7 0 = gN σ 7 0 + 1 := (R4 7 0).trans kN7
  have hle := nmS_le (R := l) (S0 := S0) l.length
  have h42 : gI (sI σ4 4 0 27 (nI (gN σ 7 0 + 1))) 4 0 42 = nI (nmS l S0 l.length).2 := (mI_sI_j (by decide)).trans v4
  refine ⟨by rw [n7]; omega, by rw [n7]; exact mI_sI_s, ?_, ⟨(nmS l S0 l.length).2, by rw [n7]; omega, h42⟩, fun j => ?_, ?_, ?_, ?_, fun j hj => ?_, fun i hi => ?_⟩
  · rw [h42, R1 30 (by decide) (by decide)]; exact y10
  · rw [R2 9 0 j (by decide) (by decide) (by decide)]
    exact (y9 j).trans (v3 j).symm
  · rw [n7]; exact (R4 8 0).trans kN8
  · rw [R5, R5]; exact s3.trans s2.symm
  · rw [n7, R5]; exact s5
  · rw [n7] at hj ⊢
    rw [ord, insA_get p _ j (by rw [hlen]; exact hp), R3, kR8, R3, kR7]
    by_cases c1 : j < p
    · rw [if_pos c1, if_pos c1, if_neg (by have := hlt j (by omega); omega), xo j (by omega), eo]
    · rw [if_neg c1, if_neg c1]
      by_cases c2 : j = p
      · rw [if_pos c2, if_pos c2, if_pos rfl]
      · rw [if_neg c2, if_neg c2, if_neg (by have := hlt (j - 1) (by omega); omega), xo (j - 1) (by omega), eo]
  · rw [n7] at hi
    by_cases c : i = gN σ 7 0
    · rw [c]; exact new
    · exact TextOK_old C R (by omega) (xt i (by omega))
theorem call_text {a : Int32} (hn : n < 512) (I : Inv n σ) (hz : zkM zC σ) (hr : zkM zR σ) : Two 79 174 n d [some (vr (some (3, 0))), some (vi a), none] [some (vr (some (4, 0))), some (vi a), none, none] σ := by
  unfold Two
  obtain ⟨S, bP, bM, bH, bQ, bD, bT, bX, bO, bW, bG, bS, bF, bU⟩ := id I
  have room := room_u2 bU hn bW
  obtain ⟨x12, x27, x3, ⟨m, hm2, hm⟩, x9, x8, xC, x18, xo, xt⟩ := id bX
  obtain ⟨t1, ⟨L, h3, hL⟩, t3, t4⟩ := id bT
  by_cases ha : 0 ≤ a ∧ a ≤ 9999
  · by_cases h12 : gN σ 7 0 < 12
    · have hB : ∀ j, j < L → gI σ 76 0 j &&& 255 = gI σ 13 0 j := fun j _ => (t3 j).symm
      have hB2 : ∀ j, 0 ≤ gI σ 13 0 j ∧ gI σ 13 0 j < 256 := fun j => by rw [t3 j]; exact by_255 _
      have ho := @txtP_ok (toksF (gI σ 13 0) L) (uksF (gI σ 13 0) L) (tkOK_B hB2 h3) 11 0 0
      refine C79 S bX bT room ha h12 hL h3 hm hm2 (fun k p hx c f g h σ2 u1 n1 g1 F b1 b2 => ?_) (fun l hx c f g h σ2 u1 n1 g1 σ1 p hn1 H N hp hp1 hp2 => ?_)
      · have C := cE_f (k := k) (T := toksF (gI σ 13 0) L) (t1 := u1) (n1 := n1) (p := p) (g1 := g1) S xC x18 F b1 b2
        have c1 := C.1
        have e4 : ∀ j, gI (rdM (sI σ2 29 0 1 0) (toksF (gI σ 13 0) L) u1 n1 g1 k (nI p)) 4 0 j = gI σ 4 0 j := fun j => (c1 4 (by decide) (by decide) (by decide) (by decide) (by decide) (by decide) (by decide) (by decide)).1 0 j
        have e76 : ∀ j, gI (rdM (sI σ2 29 0 1 0) (toksF (gI σ 13 0) L) u1 n1 g1 k (nI p)) 76 0 j = gI σ 76 0 j := fun j => (c1 76 (by decide) (by decide) (by decide) (by decide) (by decide) (by decide) (by decide) (by decide)).1 0 j
        have e75 : ∀ j, gL (rdM (sI σ2 29 0 1 0) (toksF (gI σ 13 0) L) u1 n1 g1 k (nI p)) 75 0 j = gL σ 75 0 j := fun j => (c1 75 (by decide) (by decide) (by decide) (by decide) (by decide) (by decide) (by decide) (by decide)).2.1 0 j
        have S1 := C.2.2.2.2.2.2.2
        have F1 := F.1
        have k30 : gI (rdM (sI σ2 29 0 1 0) (toksF (gI σ 13 0) L) u1 n1 g1 k (nI p)) 30 0 3 = gI σ 30 0 3 := by
          rw [rd_k (by decide) (by decide), mI_sI_k (by decide), (F1 30 (by decide) (by decide) (by decide)).1]
          unfold spM
          rw [mI_sI_k (by decide), mI_sIr_k (by decide), mI_sIr_k (by decide), mI_sIr_k (by decide)]
          exact nt_I (Or.inl (by decide))
        generalize hτ : rdM (sI σ2 29 0 1 0) (toksF (gI σ 13 0) L) u1 n1 g1 k (nI p) = τ1 at *
        refine C174 (D := d + 60) (tx := gN σ 7 0) (L := L) (B := gI σ 13 0) (S0 := (gL σ 75 0, m)) S1 ha ((e4 45).trans hL) h3 (fun j hj => by rw [e76]; exact hB j hj) hB2 ((e4 27).trans x27) h12 (by omega) ((e4 42).trans hm) e75 hm2 ?_
        rw [hx]
        intro σ3 fr ov va le op tk n2 g2 h2 F3 ag ah
        refine ⟨_, rfl, rfl, ?_⟩
        have R := rE_f (fr := fr) (ov := ov) (va := va) (op := op) (tk := tk) (n := n2) (k := k) (p := nI p) (le := le) F3 ag ah
        refine Inv_tx hn I C R (BX_f bX C R ?_ ?_ (fun j => ?_) ?_ k30 (fun j => ?_) ?_ ?_ (fun j => ?_)) ?_
        · rw [← hτ]
          exact ((F1 7 (by decide) (by decide) (by decide)).2.2.2.1 0).trans (nt_N (a := a) (tx := gN σ 7 0) (by decide) (Or.inl (by decide)))
        · rw [← hτ]
          exact ((F1 8 (by decide) (by decide) (by decide)).2.2.2.1 0).trans (nt_N (a := a) (tx := gN σ 7 0) (by decide) (Or.inl (by decide)))
        · rw [← hτ]
          exact ((F1 8 (by decide) (by decide) (by decide)).2.2.1 0 j).trans (nt_R (a := a) (tx := gN σ 7 0) (Or.inl (by decide)))
        · rw [← hτ]
          exact (F1 18 (by decide) (by decide) (by decide)).2.2.2.2.trans (nt_C (a := a) (tx := gN σ 7 0) (by decide) (by decide))
        · rw [← hτ]
          exact ((F1 9 (by decide) (by decide) (by decide)).2.1 0 j).trans (nt_L (a := a) (tx := gN σ 7 0) (Or.inl (by decide)))
        · rw [rx_4 (by decide) (by decide) (by decide) (by decide) (by decide) (by decide) (by decide) (by decide), mI_sI_j (by decide), F3.1 4 (by omega), mI_sI_k (by decide), mI_sI_j (by decide)]
          exact e4 27
        · rw [rx_4 (by decide) (by decide) (by decide) (by decide) (by decide) (by decide) (by decide) (by decide), mI_sI_j (by decide), F3.1 4 (by omega), mI_sI_k (by decide), mI_sI_j (by decide)]
          exact e4 42
        · rw [rx_l (by decide)]
          exact (F3.2.1 75 (by decide) 0 j).trans (e75 j)
        · rw [rx_46, rx_a (by decide) (by decide) (by decide), mI_sI_k (by decide), F3.1 29 (by omega), mI_sI_k (by decide), mI_sI_k (by decide), ← hτ]
          exact rd_3
      · obtain ⟨hl, hall⟩ := ho l (by decide) hx
        obtain ⟨s1, -, -, -, -, -, s10, -, s13, -, -, -, -, -, -⟩ := cS S xC x18 H N
        have k4 : ∀ j, gI (tkM σ σ1 p) 4 0 j = gI σ 4 0 j := fun j => (s1 4 (by decide) (by decide) (by decide) (by decide) (by decide) (by decide)).1 0 j
        have k76 : ∀ j, gI (tkM σ σ1 p) 76 0 j = gI σ 76 0 j := fun j => (s1 76 (by decide) (by decide) (by decide) (by decide) (by decide) (by decide)).1 0 j
        have k75 : ∀ j, gL (tkM σ σ1 p) 75 0 j = gL σ 75 0 j := fun j => (s1 75 (by decide) (by decide) (by decide) (by decide) (by decide) (by decide)).2.1 0 j
        have S1 : Sh (tkM σ σ1 p) := by
          obtain ⟨u3, u4, u29, u30, u28, uC, uN, u33⟩ := s13
          have kN : ∀ K i, K ≠ 7 → K ≠ 8 → gN (tkM σ σ1 p) K i = gN σ1 K i := fun K i a7 a8 => by
            rw [gN_am_add, if_neg (fun q => a7 q.1), gN_am_ins, if_neg (fun q => a8 q.1)]
          have kR : ∀ K i j, K ≠ 7 → K ≠ 8 → gR (tkM σ σ1 p) K i j = gR σ1 K i j := fun K i j a7 a8 => by
            rw [gR_am_add, if_neg (fun q => a7 q.1), gR_am_ins, if_neg (fun q => a8 q.1)]
          have m7 : ∀ K, shS K = true → K ≠ 7 ∧ K ≠ 8 := fun K hK => ⟨fun e => by rw [e] at hK; exact absurd hK (by decide), fun e => by rw [e] at hK; exact absurd hK (by decide)⟩
          exact ⟨fun j => (kR 3 0 j (by decide) (by decide)).trans (u3 j), fun j => (kR 4 0 j (by decide) (by decide)).trans (u4 j), fun j => (kR 29 0 j (by decide) (by decide)).trans (u29 j), fun j hj => (kR 30 0 j (by decide) (by decide)).trans (u30 j hj), fun j => (kR 28 0 j (by decide) (by decide)).trans (u28 j), uC, fun K hK => (kN K 0 (m7 K hK).1 (m7 K hK).2).trans (uN K hK), u33⟩
        refine C174 (D := d + 60) (tx := gN σ 7 0) (L := L) (B := gI σ 13 0) (S0 := (gL σ 75 0, m)) S1 ha ((k4 45).trans hL) h3 (fun j hj => by rw [k76]; exact hB j hj) hB2 ((k4 27).trans x27) h12 (by omega) ((k4 42).trans hm) k75 hm2 ?_
        rw [hx]
        intro σ3 u2 n2 g2 h2 σ4 hn2 H2 N2
        refine ⟨_, rfl, rfl, ?_⟩
        obtain ⟨C, B⟩ := BX_s I h12 hm2 rfl hn1 hn2 hall (by omega) H N hp hp1 hp2 H2 N2
        have R := rE_s H2 N2
        refine Inv_tx hn I C R B ?_
        obtain ⟨v1, v2, v3, v4, v5, v6, v7⟩ := id N2
        rw [R.1 29 (by decide) (by decide), mI_sI_j (by decide), v5 4 0 46 (by decide) (Or.inr (by decide))]
        unfold rfF
        rw [mI_sI_k (by decide), mI_sI_k (by decide)]
        exact s10
    · have e12 : gN σ 7 0 = 12 := by omega
      have c1 : ¬ nI 12 < 12 := by decide
      have c2 : nI 12 = 12 := rfl
      rw [e12] at x27
      simp only [S79_0, S79_1, S79_4, S79_7, S79_8, S79_11, S79_14, S79_17, S79_19, S79_22, S79_23, S79_24, S79_27, S79_27q, S79_28, S79_29, S79_32, S79_35, S79_38, S79_39, S79_40, S79_43, S79_46, S79_47, S79_48, S79_51, S79_52, S79_55, S79_58, S79_59, S79_60, S79_63, S79_66, S79_67, S79_68, S79_69, S79_72, S79_73, S79_76, S79_77, S79_80, S174_0, S174_1, S174_2, S174_5, S174_6, S174_9, S174_12, S174_13, S174_16, S174_18, S174_21, S174_22, S174_23, S174_24, S174_25, S174_28, S174_29, S174_30, S174_33, S174_34, S174_35, S174_38, S174_39, S174_40, S174_43, S174_44, S174_45, S174_48, S174_49, S174_52, S174_53, S174_56, S174_57, S174_58, S174_59, S174_62, S174_63, S174_65, S174_68, S174_69, S174_72, S174_75, S174_76, S174_79, S174_80, S174_83, S174_84, S174_85, S174_88, S174_89, S174_92, S174_95, S174_96, S174_97, S174_100, S174_101, S174_102, S174_103, S174_106, S174_107, S174_110, S174_111, S174_114, S174_115, S174_116, S174_119, S174_120, S174_123, S174_124, S174_125, S174_127, S174_128, S174_131, S174_132, S174_134, S174_136, S174_137, S174_140, S174_141, S174_142, S174_145, S174_146, S174_149, S174_150, S174_151, S174_154, S174_155, S174_158, S174_159, S174_160, S174_162, S174_165, S174_166, S174_169, S174_170, S174_171, S174_172, S174_175, S174_176, S174_177, S174_180, S174_181, S174_184, S174_187, S174_188, S174_188q, S174_189, S174_192, S174_193, S174_194, S174_197, S174_198, S174_201, S174_202, S174_203, gL_sI, gR_sI, gN_sI, gC_sI, gB_sI, gI_sL, gR_sL, gN_sL, gC_sL, gB_sL, gI_sR, gL_sR, gN_sR, gC_sR, gB_sR, gL_sIr, gR_sIr, gN_sIr, gC_sIr, gB_sIr, gI_sLr, gR_sLr, gN_sLr, gC_sLr, gB_sLr, gI_sRr, gL_sRr, gN_sRr, gC_sRr, gB_sRr, gI_sN, gL_sN, gR_sN, gC_sN, gB_sN, gI_sC, gL_sC, gR_sC, gN_sC, gB_sC, gI_sB, gL_sB, gR_sB, gN_sB, gC_sB, gB_sB, gB_am_mk, gI_am_ml, gL_am_ml, gR_am_ml, gB_am_ml, gI_am_add, gL_am_add, gC_am_add, gB_am_add, gI_am_ins, gL_am_ins, gC_am_ins, gB_am_ins, gI_am_rem, gL_am_rem, gC_am_rem, gB_am_rem, gI_am_thr, gL_am_thr, gR_am_thr, gN_am_thr, gB_am_thr, mI_sI_k, mI_sI_j, mI_sI_b, mI_sI_s, mI_sI_i, mI_sI_c, mL_sL_k, mL_sL_j, mL_sL_b, mL_sL_s, mL_sL_i, mL_sL_c, mR_sR_k, mR_sR_j, mR_sR_b, mR_sR_s, mR_sR_i, mR_sR_c, mI_sIr_k, mI_sIr_s, mI_sIr_i, mL_sLr_k, mL_sLr_s, mL_sLr_i, mR_sRr_k, mR_sRr_s, mR_sRr_i, mN_sN_k, mN_sN_i, mN_am_add_k, mN_am_add_s, mR_am_add_k, mN_am_ins_k, mN_am_ins_s, mR_am_ins_k, mN_am_rem_k, mN_am_rem_s, mR_am_rem_k, mR_am_add_s, mR_am_ins_s, mR_am_rem_s, mI_am_mk_k, mI_am_mk_s, mI_am_mk_i, mL_am_mk_k, mL_am_mk_s, mL_am_mk_i, mR_am_mk_k, mR_am_mk_s, mR_am_mk_i, mN_am_mk_k, mN_am_mk_i, mC_am_mk_k, mC_am_mk_s, mN_am_ml_k, mN_am_ml_i, mC_am_ml_k, mC_am_ml_s, mC_sC_k, mC_am_thr_k, sC_3 S, sC_4 S, sC_29 S, sC_30 S, sR_3_8 S, sR_3_9 S, sR_4_28 S, sC_62 S, sN_62 S, sR_4_29 S, sC_63 S, sN_63 S, sR_4_30 S, sC_64 S, sN_64 S, sR_4_31 S, sC_65 S, sN_65 S, sR_4_33 S, sC_67 S, sN_67 S, sR_4_34 S, sC_68 S, sN_68 S, sR_30_0 S, sC_7 S, k0, k1, k2, k3, k4, k5, k6, k7, k8, k9, k10, k11, k12, k13, k14, k15, k16, k17, k18, k19, k20, k21, k22, k23, k24, k25, k26, k27, k28, k29, k30, k31, k32, k33, k34, k35, k36, k37, k38, k39, k40, k41, k42, k43, k44, k45, k46, k47, k48, k49, k50, k51, k52, k53, k54, k55, k56, k57, k58, k59, k60, k61, k62, k63, k64, k65, k66, k67, k68, k69, k70, k71, k72, k73, k74, k75, k76, k77, k78, k79, k80, k81, k82, k83, k84, k85, k86, k87, k88, k89, k90, k91, k92, k93, k94, k95, k96, k97, k98, k99, k100, C135, C141, ha, e12, c1, x27, c2, true_and, and_true, and_self, if_true, if_false, ite_true, ite_false, Nat.lt_irrefl, List.length_nil, List.length_cons, Nat.reduceAdd, Nat.reduceLeDiff, Nat.reduceLT, Nat.reduceEqDiff, Nat.zero_lt_one, not_true, not_false_iff, bI_0, bI_1, ne_eq, reduceCtorEq, false_and, and_false, or_true, true_or, or_false, false_or, Nat.lt_one_iff, eq_self, Nat.zero_le, am_ko_v, am_ko_0, am_kil, Nat.reduceBEq, Int32.reduceLT, Int32.reduceLE, Int32.reduceAdd, Int32.reduceSub, i32_10, i32_01, not_true_eq_false, not_false_eq_true, Classical.not_not, nor_self, Nat.lt_add_one, nI_1, nI_pred, rf_n, i32_m0, i32_m1, reduceIte]
      refine ⟨_, rfl, rfl, ?_⟩
      exact Inv_t (Inv_up hn I)
  · simp only [S79_0, S79_1, S79_4, S79_7, S79_8, S79_11, S79_14, S79_17, S79_19, S79_22, S79_23, S79_24, S79_27, S79_27q, S79_28, S79_29, S79_32, S79_35, S79_38, S79_39, S79_40, S79_43, S79_46, S79_47, S79_48, S79_51, S79_52, S79_55, S79_58, S79_59, S79_60, S79_63, S79_66, S79_67, S79_68, S79_69, S79_72, S79_73, S79_76, S79_77, S79_80, S174_0, S174_1, S174_2, S174_5, S174_6, S174_9, S174_12, S174_13, S174_16, S174_18, S174_21, S174_22, S174_23, S174_24, S174_25, S174_28, S174_29, S174_30, S174_33, S174_34, S174_35, S174_38, S174_39, S174_40, S174_43, S174_44, S174_45, S174_48, S174_49, S174_52, S174_53, S174_56, S174_57, S174_58, S174_59, S174_62, S174_63, S174_65, S174_68, S174_69, S174_72, S174_75, S174_76, S174_79, S174_80, S174_83, S174_84, S174_85, S174_88, S174_89, S174_92, S174_95, S174_96, S174_97, S174_100, S174_101, S174_102, S174_103, S174_106, S174_107, S174_110, S174_111, S174_114, S174_115, S174_116, S174_119, S174_120, S174_123, S174_124, S174_125, S174_127, S174_128, S174_131, S174_132, S174_134, S174_136, S174_137, S174_140, S174_141, S174_142, S174_145, S174_146, S174_149, S174_150, S174_151, S174_154, S174_155, S174_158, S174_159, S174_160, S174_162, S174_165, S174_166, S174_169, S174_170, S174_171, S174_172, S174_175, S174_176, S174_177, S174_180, S174_181, S174_184, S174_187, S174_188, S174_188q, S174_189, S174_192, S174_193, S174_194, S174_197, S174_198, S174_201, S174_202, S174_203, gL_sI, gR_sI, gN_sI, gC_sI, gB_sI, gI_sL, gR_sL, gN_sL, gC_sL, gB_sL, gI_sR, gL_sR, gN_sR, gC_sR, gB_sR, gL_sIr, gR_sIr, gN_sIr, gC_sIr, gB_sIr, gI_sLr, gR_sLr, gN_sLr, gC_sLr, gB_sLr, gI_sRr, gL_sRr, gN_sRr, gC_sRr, gB_sRr, gI_sN, gL_sN, gR_sN, gC_sN, gB_sN, gI_sC, gL_sC, gR_sC, gN_sC, gB_sC, gI_sB, gL_sB, gR_sB, gN_sB, gC_sB, gB_sB, gB_am_mk, gI_am_ml, gL_am_ml, gR_am_ml, gB_am_ml, gI_am_add, gL_am_add, gC_am_add, gB_am_add, gI_am_ins, gL_am_ins, gC_am_ins, gB_am_ins, gI_am_rem, gL_am_rem, gC_am_rem, gB_am_rem, gI_am_thr, gL_am_thr, gR_am_thr, gN_am_thr, gB_am_thr, mI_sI_k, mI_sI_j, mI_sI_b, mI_sI_s, mI_sI_i, mI_sI_c, mL_sL_k, mL_sL_j, mL_sL_b, mL_sL_s, mL_sL_i, mL_sL_c, mR_sR_k, mR_sR_j, mR_sR_b, mR_sR_s, mR_sR_i, mR_sR_c, mI_sIr_k, mI_sIr_s, mI_sIr_i, mL_sLr_k, mL_sLr_s, mL_sLr_i, mR_sRr_k, mR_sRr_s, mR_sRr_i, mN_sN_k, mN_sN_i, mN_am_add_k, mN_am_add_s, mR_am_add_k, mN_am_ins_k, mN_am_ins_s, mR_am_ins_k, mN_am_rem_k, mN_am_rem_s, mR_am_rem_k, mR_am_add_s, mR_am_ins_s, mR_am_rem_s, mI_am_mk_k, mI_am_mk_s, mI_am_mk_i, mL_am_mk_k, mL_am_mk_s, mL_am_mk_i, mR_am_mk_k, mR_am_mk_s, mR_am_mk_i, mN_am_mk_k, mN_am_mk_i, mC_am_mk_k, mC_am_mk_s, mN_am_ml_k, mN_am_ml_i, mC_am_ml_k, mC_am_ml_s, mC_sC_k, mC_am_thr_k, sC_3 S, sC_4 S, sC_29 S, sC_30 S, sR_3_8 S, sR_3_9 S, sR_4_28 S, sC_62 S, sN_62 S, sR_4_29 S, sC_63 S, sN_63 S, sR_4_30 S, sC_64 S, sN_64 S, sR_4_31 S, sC_65 S, sN_65 S, sR_4_33 S, sC_67 S, sN_67 S, sR_4_34 S, sC_68 S, sN_68 S, sR_30_0 S, sC_7 S, k0, k1, k2, k3, k4, k5, k6, k7, k8, k9, k10, k11, k12, k13, k14, k15, k16, k17, k18, k19, k20, k21, k22, k23, k24, k25, k26, k27, k28, k29, k30, k31, k32, k33, k34, k35, k36, k37, k38, k39, k40, k41, k42, k43, k44, k45, k46, k47, k48, k49, k50, k51, k52, k53, k54, k55, k56, k57, k58, k59, k60, k61, k62, k63, k64, k65, k66, k67, k68, k69, k70, k71, k72, k73, k74, k75, k76, k77, k78, k79, k80, k81, k82, k83, k84, k85, k86, k87, k88, k89, k90, k91, k92, k93, k94, k95, k96, k97, k98, k99, k100, C135, C141, ha, true_and, and_true, and_self, if_true, if_false, ite_true, ite_false, Nat.lt_irrefl, List.length_nil, List.length_cons, Nat.reduceAdd, Nat.reduceLeDiff, Nat.reduceLT, Nat.reduceEqDiff, Nat.zero_lt_one, not_true, not_false_iff, bI_0, bI_1, ne_eq, reduceCtorEq, false_and, and_false, or_true, true_or, or_false, false_or, Nat.lt_one_iff, eq_self, Nat.zero_le, am_ko_v, am_ko_0, am_kil, Nat.reduceBEq, Int32.reduceLT, Int32.reduceLE, Int32.reduceAdd, Int32.reduceSub, i32_10, i32_01, not_true_eq_false, not_false_eq_true, Classical.not_not, nor_self, Nat.lt_add_one, nI_1, nI_pred, rf_n, i32_m0, i32_m1, reduceIte]
    refine ⟨_, rfl, rfl, ?_⟩
    exact Inv_t (Inv_up hn I)
end TCA
