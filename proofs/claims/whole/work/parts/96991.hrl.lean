/-! a list's cells and the abstract list -/
section HRL
variable {D : va_G} {G : xG} {A : Nat → Prop} {s : State} {σ σ' : aM} {ad bk : sA} {ws u : va_W} {tys tys' : List (ClassId × FieldType)} {H H1 : Heap} {K i a : Nat}
theorem kT_14 {K : Nat} (hK : (kT K).1 = 0) : (kT K).2 < 14 := by
  rcases Nat.lt_or_ge K 101 with c | c
  · exact (show ∀ K, K < 101 → (kT K).1 = 0 → (kT K).2 < 14 by decide +kernel) K c hK
  · have : kT K = (99, 0) := by
      unfold kT List.getD
      rw [List.getElem?_eq_none (Nat.le_trans (by decide) c)]
      rfl
    rw [this] at hK; cases hK
/-- what the heap has of a list -/
def LSH (G : xG) (ad bk : sA) (σ : aM) (ws : va_W) (tys : List (ClassId × FieldType)) (K i a q0 : Nat) (m : Int32) (bb : Nat) (qb : Option Nat) (f : Nat → Option Nat) : Prop := ws[q0]? = some (a, lsE m (.ref bb) (gN σ K i)) ∧ BK G ws tys bb (gN σ K i) qb f ∧ (∀ j, j < gN σ K i → vrel ad (vr (gR σ K i j)) (va_rf (f j))) ∧ (qb = none → bk K i = none) ∧ ∀ q1, qb = some q1 → bk K i = some bb ∧ ∃ x, ws[q1]? = some (bb, x)
theorem lst_of (h : lirel ad bk σ ws tys G K i a) : ∃ (q0 : Nat) (m : Int32) (bb : Nat) (qb : Option Nat) (f : Nat → Option Nat), LSH G ad bk σ ws tys K i a q0 m bb qb f := by
  obtain ⟨q0, m, b, e1, e2⟩ := h
  rcases e2 with ⟨rfl, g2, g3⟩ | ⟨ba, q1, t0, cap, cA, f, rfl, g2, g3, g4, g5, g6, g7⟩
  · exact ⟨q0, m, _, none, fun _ => none, e1, Or.inl ⟨rfl, g2, rfl⟩, fun j hj => absurd hj (by omega), fun _ => g3, fun q1 e => (by cases e)⟩
  · exact ⟨q0, m, ba, some q1, f, e1, Or.inr ⟨q1, t0, cap, cA, rfl, g3, g4, g5, g6.1, g6.2⟩, g7, fun e => (by cases e), fun q e => by cases e; exact ⟨g2, _, g4⟩⟩
def bkN (bk : sA) (K i : Nat) (o : Option Nat) : sA := fun a b => if a = K ∧ b = i then o else bk a b
theorem bkN_s {K' i' : Nat} {o : Option Nat} (h : K' = K ∧ i' = i) : bkN bk K i o K' i' = o := if_pos h
theorem bkN_n {K' i' : Nat} {o : Option Nat} (h : ¬ (K' = K ∧ i' = i)) : bkN bk K i o K' i' = bk K' i' := if_neg h
theorem HR.lst (h : HR D G A s σ ad bk ws tys H) (hk : kT K = (5, 0)) (ha : ad K i = some a) {q0 bb n' : Nat} {m : Int32} {qb qb' : Option Nat} {f f' : Nat → Option Nat} (hl : LSH G ad bk σ ws tys K i a q0 m bb qb f) (hP : va_P D vwCl u H1) (hKK : va_K D vwCl tys' s) (hD : va_D A u) (hL : LST G u tys' q0 a n' qb' f') (hkeep : ∀ (q : Nat) (x : Nat × va_E), q ≠ q0 → qb' ≠ some q → ws[q]? = some x → u[q]? = some x) (hqb : qb' = qb ∨ ∃ q1, qb' = some q1 ∧ ws.length ≤ q1) (hT : keepT tys tys') (hag : agr σ σ' K i) (hN : gN σ' K i = n') (hR : ∀ j, j < n' → vrel ad (vr (gR σ' K i j)) (va_rf (f' j))) : ∃ bk', HR D G A s σ' ad bk' u tys' H1 := by
  obtain ⟨h1, h2, h3, h4, h5, h6, h7, h8, h9, h10, h11, h12⟩ := id h
  obtain ⟨l1, l2, l3, l4, l5⟩ := hl
  obtain ⟨m', bb', k1, k2⟩ := hL
  have hk1 : (kT K).1 = 5 := by rw [hk]
  -- a place of another cell is kept
  have pl : ∀ (q : Nat) (x : Nat × va_E), ws[q]? = some x → (∃ K' i', ¬ (K' = K ∧ i' = i) ∧ (((kT K').1 ≤ 5 ∧ ad K' i' = some x.1) ∨ bk K' i' = some x.1)) → q ≠ q0 ∧ qb' ≠ some q := by
    rintro q x hx ⟨K', i', hne, ho⟩
    constructor
    · rintro rfl
      rw [l1] at hx
      cases hx
      rcases ho with ⟨g1, g2⟩ | g2
      · exact hne (h7 _ _ _ _ _ g1 (by omega) g2 ha)
      · exact h9 K i K' i' a (by omega) ha g2
    · intro e
      rcases hqb with e1 | ⟨q1, e1, e2⟩
      · rw [e1] at e
        obtain ⟨g1, y, g2⟩ := l5 q e
        rw [g2] at hx
        cases hx
        rcases ho with ⟨g3, g4⟩ | g4
        · exact h9 K' i' K i bb g3 g4 g1
        · exact hne (h8 _ _ _ _ _ g4 g1)
      · rw [e1] at e
        cases e
        have := at_lt hx
        omega
  have kp : ∀ (q : Nat) (x : Nat × va_E), ws[q]? = some x → (∃ K' i', ¬ (K' = K ∧ i' = i) ∧ (((kT K').1 ≤ 5 ∧ ad K' i' = some x.1) ∨ bk K' i' = some x.1)) → u[q]? = some x := fun q x hx ho => hkeep q x (pl q x hx ho).1 (pl q x hx ho).2 hx
  have inws : ∀ K' i' a', (kT K').1 ≤ 5 → ad K' i' = some a' → ∃ (q1 : Nat) (x : Nat × va_E), ws[q1]? = some x ∧ x.1 = a' := by
    intro K' i' a' hk ha'
    by_cases c : (kT K').1 = 5
    · obtain ⟨q1, m, b, g, _⟩ := h6 _ _ _ ha' c
      exact ⟨q1, _, g, rfl⟩
    · obtain ⟨q1, e1, g, _⟩ := h5 _ _ _ ha' (by omega)
      exact ⟨q1, _, g, rfl⟩
  have inbk : ∀ K' i' a', bk K' i' = some a' → ∃ (q1 : Nat) (x : Nat × va_E), ws[q1]? = some x ∧ x.1 = a' := by
    intro K' i' a' hb
    obtain ⟨g1, a2, g2⟩ := h10 _ _ _ hb
    obtain ⟨q1, m, b, _, e2⟩ := h6 _ _ _ g2 g1
    rcases e2 with ⟨_, _, g3⟩ | ⟨ba, q2, t0, cap, cA, f, _, g3, _, g4, _⟩
    · rw [g3] at hb; cases hb
    · rw [g3] at hb; cases hb; exact ⟨q2, _, g4, rfl⟩
  -- the row's new address
  have nb : ∀ q1 x, qb' = some q1 → u[q1]? = some x → ∀ K' i', ¬ (K' = K ∧ i' = i) → (((kT K').1 ≤ 5 ∧ ad K' i' = some x.1) ∨ bk K' i' = some x.1) → False := by
    intro q1 x e hx K' i' hne ho
    obtain ⟨q2, y, g1, g2⟩ : ∃ (q2 : Nat) (y : Nat × va_E), ws[q2]? = some y ∧ y.1 = x.1 := by
      rcases ho with ⟨g1, g2⟩ | g2
      · exact inws _ _ _ g1 g2
      · exact inbk _ _ _ g2
    have ho' : ∃ K' i', ¬ (K' = K ∧ i' = i) ∧ (((kT K').1 ≤ 5 ∧ ad K' i' = some y.1) ∨ bk K' i' = some y.1) := ⟨K', i', hne, by rw [g2]; exact ho⟩
    have e9 := hD.1 q2 q1 y x (kp q2 y g1 ho') hx g2
    exact (pl q2 y g1 ho').2 (by rw [e9]; exact e)
  refine ⟨bkN bk K i (qb'.map fun _ => bb'), hP, hKK, hD, fun K' i' hK' => by rw [hag.1]; exact h4 K' i' hK', ?_, ?_, h7, ?_, ?_, ?_, ?_, h12⟩
  · intro K' i' a' ha' hk'
    have c : ¬ (K' = K ∧ i' = i) := fun g => by rw [g.1] at hk'; omega
    obtain ⟨q1, e1, g1, g2⟩ := h5 K' i' a' ha' hk'
    exact ⟨q1, e1, kp _ _ g1 ⟨K', i', c, Or.inl ⟨by omega, ha'⟩⟩, g2.mono (sm_le.refl ad) hT (hag.2 _ _ c)⟩
  · intro K' i' a' ha' hk'
    by_cases c : K' = K ∧ i' = i
    · obtain ⟨rfl, rfl⟩ := c
      rw [ha] at ha'
      cases ha'
      refine ⟨q0, m', _, by rw [hN]; exact k1, ?_⟩
      rcases k2 with ⟨e1, e2, e3⟩ | ⟨q1, t0, cap, cA, e1, e2, e3, e4, e5, e6⟩
      · exact Or.inl ⟨by rw [e1], by rw [hN]; exact e2, by rw [bkN_s ⟨rfl, rfl⟩, e3]; rfl⟩
      · exact Or.inr ⟨bb', q1, t0, cap, cA, f', rfl, by rw [bkN_s ⟨rfl, rfl⟩, e1]; rfl, e2, e3, by rw [hN]; exact e4, ⟨e5, e6⟩, fun j hj => hR j (by rw [← hN]; exact hj)⟩
    · refine (h6 K' i' a' ha' hk').mono (sm_le.refl ad) hT (bkN_n c) (fun q x hx ho => kp q x hx ⟨K', i', c, ?_⟩) (hag.2 _ _ c).2.2.2 (hag.2 _ _ c).2.2.1
      rcases ho with ho | ho
      · exact Or.inl ⟨by omega, by rw [ho]; exact ha'⟩
      · exact Or.inr ho
  · intro K1 i1 K2 i2 a' g1 g2
    have sd : ∀ q1, qb' = some q1 → ∃ x, u[q1]? = some x ∧ x.1 = bb' := by
      intro q1 e
      rcases k2 with ⟨_, _, e3⟩ | ⟨q2, t0, cap, cA, e1, e2, e3, _⟩
      · rw [e3] at e; cases e
      · rw [e1] at e; cases e; exact ⟨_, e3, rfl⟩
    by_cases c1 : K1 = K ∧ i1 = i <;> by_cases c2 : K2 = K ∧ i2 = i
    · exact ⟨c1.1.trans c2.1.symm, c1.2.trans c2.2.symm⟩
    · rw [bkN_s c1] at g1
      rw [bkN_n c2] at g2
      cases e : qb' with
      | none => rw [e] at g1; cases g1
      | some q1 =>
        rw [e] at g1
        cases g1
        obtain ⟨x, hx, ex⟩ := sd q1 e
        exact (nb q1 x e hx K2 i2 c2 (Or.inr (by rw [ex]; exact g2))).elim
    · rw [bkN_n c1] at g1
      rw [bkN_s c2] at g2
      cases e : qb' with
      | none => rw [e] at g2; cases g2
      | some q1 =>
        rw [e] at g2
        cases g2
        obtain ⟨x, hx, ex⟩ := sd q1 e
        exact (nb q1 x e hx K1 i1 c1 (Or.inr (by rw [ex]; exact g1))).elim
    · rw [bkN_n c1] at g1
      rw [bkN_n c2] at g2
      exact h8 _ _ _ _ _ g1 g2
  · intro K1 i1 K2 i2 a' hk1' g1 g2
    by_cases c2 : K2 = K ∧ i2 = i
    · rw [bkN_s c2] at g2
      cases e : qb' with
      | none => rw [e] at g2; cases g2
      | some q1 =>
        rw [e] at g2
        cases g2
        rcases k2 with ⟨_, _, e3⟩ | ⟨q2, t0, cap, cA, e1, e2, e3, _⟩
        · rw [e3] at e; cases e
        · rw [e1] at e
          cases e
          by_cases c1 : K1 = K ∧ i1 = i
          · rw [c1.1, c1.2, ha] at g1
            cases g1
            have e9 := hD.1 q0 q1 _ _ k1 e3 rfl
            exact ls_ne k1 e3 e9
          · exact nb q1 _ e1 e3 K1 i1 c1 (Or.inl ⟨hk1', g1⟩)
    · rw [bkN_n c2] at g2
      exact h9 _ _ _ _ _ hk1' g1 g2
  · intro K' i' a' g
    by_cases c : K' = K ∧ i' = i
    · exact ⟨by rw [c.1]; exact hk1, a, by rw [c.1, c.2]; exact ha⟩
    · rw [bkN_n c] at g
      exact h10 _ _ _ g
  · have c : ¬ ((0 : Nat) = K ∧ (0 : Nat) = i) := fun g => by
      have h3 := kT_low (K := K) (by omega)
      omega
    obtain ⟨g1, g2, g3, g4⟩ := hag.2 0 0 c
    exact ⟨h11.1, by rw [g4]; exact h11.2.1, fun j hj => by rw [g1]; exact h11.2.2 j hj⟩
/-- kinds of cells that the heap knows -/
def z4 (K : Nat) : Bool := Nat.ble (kT K).1 5
theorem HR.obj (h : HR D G A s σ ad bk ws tys H) {q : Nat × Nat} {y : Nat} (hz : z4 q.1 = true ∨ q.1 = 1) (hy : ad q.1 q.2 = some y) : OBJ G ws tys y := by
  obtain ⟨K, i⟩ := q
  obtain ⟨h1, h2, h3, h4, h5, h6, h7, h8, h9, h10, h11, h12⟩ := id h
  have hy : ad K i = some y := hy
  rcases hz with hz | hz
  · have hz : (kT K).1 ≤ 5 := Nat.le_of_ble_eq_true hz
    by_cases c : (kT K).1 = 5
    · obtain ⟨q1, m, b, g, _⟩ := h6 _ _ _ hy c
      exact Or.inl ⟨q1, 0, _, g, by omega⟩
    · have h44 : (kT K).1 ≤ 4 := Nat.le_of_lt_succ (Nat.lt_of_le_of_ne hz c)
      obtain ⟨q1, e1, g, k0, k1, k2, k3, k4⟩ := h5 _ _ _ hy h44
      rcases (show ∀ x : Nat, x ≤ 4 → x = 0 ∨ x = 1 ∨ x = 2 ∨ x = 3 ∨ x = 4 from fun x hx => by omega) _ h44 with c | c | c | c | c
      · obtain ⟨fs, rfl, _⟩ := k0 c
        exact Or.inl ⟨q1, _, fs, g, kT_14 c⟩
      · obtain ⟨cA, t0, g1, rfl⟩ := k1 c
        exact Or.inr (Or.inl ⟨q1, cA, _, t0, _, g, g1, Or.inl rfl⟩)
      · obtain ⟨cA, t0, g1, rfl⟩ := k2 c
        exact Or.inr (Or.inl ⟨q1, cA, _, t0, _, g, g1, Or.inr (Or.inl rfl)⟩)
      · obtain ⟨cA, t0, g1, rfl⟩ := k3 c
        exact Or.inr (Or.inl ⟨q1, cA, _, t0, _, g, g1, Or.inr (Or.inr (Or.inl rfl))⟩)
      · obtain ⟨cA, t0, g1, rfl⟩ := k4 c
        exact Or.inr (Or.inl ⟨q1, cA, _, t0, _, g, g1, Or.inr (Or.inr (Or.inr rfl))⟩)
  · have hz : K = 1 := hz
    subst hz
    have ht := h12.2 i y hy
    have e := h12.1 i ht
    rw [hy] at e
    cases e
    exact Or.inr (Or.inr ⟨i, ht, rfl⟩)
/-- the elements of a list are such -/
theorem HR.elm (h : HR D G A s σ ad bk ws tys H) {n : Nat} {f : Nat → Option Nat} (hz : ∀ j q, gR σ K i j = some q → z4 q.1 = true ∨ q.1 = 1) (hf : ∀ j, j < n → vrel ad (vr (gR σ K i j)) (va_rf (f j))) : ELm G ws tys n f := by
  intro j hj y e
  have g := hf j hj
  rw [e] at g
  cases hq : gR σ K i j with
  | none => rw [hq] at g; cases g
  | some q =>
    rw [hq] at g
    obtain ⟨a, g1, g2⟩ := g
    cases g2
    exact h.obj (hz j q hq) g1
end HRL
