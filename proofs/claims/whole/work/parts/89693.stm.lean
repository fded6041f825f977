/-! STATEMENTS: kind, letters, number, the class's value and cond, the reference's -/
abbrev rcT : Type := Nat × Int64 × Int32 × List Int32 × Option cdT × List Int32 × Option cdT
abbrev sP : Type := (Int32 × Nat) ⊕ (Nat × rcT)
def kdF (s : Int32) : Nat := (s - 259).toNatClampNeg
theorem rng_iff {x : Int32} {lo m : Nat} (h : lo + m < 2147483648) : (0 ≤ x - nI lo ∧ x - nI lo ≤ nI m) ↔ ∃ j, j ≤ m ∧ x = nI (lo + j) := by
  constructor
  · rintro ⟨h1, h2⟩
    obtain ⟨j, hj, e⟩ := nI_of (x := x - nI lo) (Int32.not_lt.mpr h1)
    rw [e] at h2
    refine ⟨j, (nI_leI hj (by omega)).mp h2, ?_⟩
    rw [Nat.add_comm, ← nI_add, ← e, Int32.sub_add_cancel]
  · rintro ⟨j, hj, rfl⟩
    rw [pk_sub (by omega), show lo + j - lo = j by omega]
    exact ⟨nI_pos' (by omega), nI_le hj (by omega)⟩
theorem rn2_iff {x : Int32} {lo m : Nat} (h : lo + m < 2147483648) : (nI lo ≤ x ∧ x ≤ nI (lo + m)) ↔ ∃ j, j ≤ m ∧ x = nI (lo + j) := by
  constructor
  · rintro ⟨h1, h2⟩
    obtain ⟨j, hj, e⟩ := nI_of (x := x) (fun q => absurd (Int32.lt_of_le_of_lt h1 q) (nI_pos (by omega)))
    subst e
    have a := (nI_leI (by omega) hj).mp h1
    have b := (nI_leI hj (by omega)).mp h2
    exact ⟨j - lo, by omega, by rw [show lo + (j - lo) = j by omega]⟩
  · rintro ⟨j, hj, rfl⟩
    exact ⟨nI_le (by omega) (by omega), nI_le (by omega) (by omega)⟩
theorem kdF_k {k : Nat} (h : k ≤ 7) : kdF (nI (259 + k)) = k := by
  unfold kdF
  rw [show (259 : Int32) = nI 259 from rfl, pk_sub (by omega), show 259 + k - 259 = k by omega, nI_clamp (by omega)]
section STMP
variable (T : tkT) (U : ukT)
def valP (k t : Nat) : pR := if k = 1 then numP T (fun t => (U t).1) 0 100 t else if k = 2 then numP T (fun t => (U t).1) 0 99 t else if k = 6 then numP T (fun t => (U t).1) 1 9999 t else if k = 3 then .inr (t, [], []) else sumP T (fun t => (U t).1) 4 t
def semP (t : Nat) (r : rcT) : sP := if (T t).1 = 59 then .inr (t + 1, r) else .inl (1, (T t).2.1)
def nmF (k t : Nat) : Int32 := if k = 3 then 1 else if k = 1 ∨ k = 2 ∨ k = 6 then (U t).1 else 0
def rvP (k : Nat) (r : cdT) : Option cdT := if k = 0 ∨ k = 4 ∨ k = 5 then some r else none
def endP (k : Nat) (le : Int64) (m : Int32) (c1 : List Int32) (rv : Option cdT) (t : Nat) : sP := if (T t).1 = 267 then (match cndP T (fun t => (U t).1) 4 (t + 1) with
  | .inl e => .inl e
  | .inr (t2, c2, r2) => semP T t2 (k, le, m, c1, rv, c2, some r2)) else semP T t (k, le, m, c1, rv, [], none)
def restP (k : Nat) (le : Int64) (t : Nat) : sP := match valP T U k t with
  | .inl e => .inl e
  | .inr (t1, c1, r1) => endP T U k le (nmF U k t) c1 (rvP k r1) t1
def stmP (i t : Nat) : sP := if ¬ (259 ≤ (T t).1 ∧ (T t).1 ≤ 266) then .inl (1, (T t).2.1) else if 10 ≤ i then .inl (4, (T t).2.1) else
  if (T t).1 = 266 then (if 259 ≤ (T (t + 1)).1 ∧ (T (t + 1)).1 ≤ 265 then semP T (t + 2) (7, 0, nI (kdF (T (t + 1)).1), [], none, [], none) else .inl (1, (T (t + 1)).2.1))
  else if (T t).1 = 265 then (if (T (t + 1)).1 < 258 ∨ 8 < (T (t + 1)).2.2 - (T (t + 1)).2.1 then .inl (1, (T (t + 1)).2.1) else restP T U 6 (U (t + 1)).2 (t + 2))
  else restP T U (kdF (T t).1) 0 (t + 1)
def txtP : Nat → Nat → Nat → (Int32 × Nat) ⊕ List rcT
  | 0, _, _ => .inr []
  | n + 1, i, t => if (T t).1 = 256 then .inr [] else match stmP T U i t with
    | .inl e => .inl e
    | .inr (t1, r) => match txtP n (i + 1) t1 with
      | .inl e => .inl e
      | .inr l => .inr (r :: l)
end STMP
section STMO
variable {T : tkT} {U : ukT}
theorem valP_ok (hT : ∀ t, (T t).1 ≠ 256 → t < 300) {k t t1 : Nat} {c : List Int32} {r : cdT} (ht : t ≤ 300) (h : valP T U k t = .inr (t1, c, r)) : t ≤ t1 ∧ t1 ≤ 300 ∧ t + c.length ≤ t1 ∧ t + r.length ≤ t1 := by
  unfold valP at h
  by_cases c1 : k = 1
  · rw [if_pos c1] at h
    have := numP_ok hT _ _ _ _ h
    omega
  rw [if_neg c1] at h
  by_cases c1 : k = 2
  · rw [if_pos c1] at h
    have := numP_ok hT _ _ _ _ h
    omega
  rw [if_neg c1] at h
  by_cases c1 : k = 6
  · rw [if_pos c1] at h
    have := numP_ok hT _ _ _ _ h
    omega
  rw [if_neg c1] at h
  by_cases c1 : k = 3
  · rw [if_pos c1] at h
    cases h
    simp only [List.length_nil]
    omega
  rw [if_neg c1] at h
  have := sumP_ok hT 4 _ _ _ _ h
  omega
theorem semP_ok (hT : ∀ t, (T t).1 ≠ 256 → t < 300) {t t1 : Nat} {r r1 : rcT} (h : semP T t r = .inr (t1, r1)) : t1 = t + 1 ∧ r1 = r ∧ t < 300 := by
  unfold semP at h
  by_cases c : (T t).1 = 59
  · rw [if_pos c] at h
    cases h
    exact ⟨rfl, rfl, hT t (by rw [c]; decide)⟩
  · rw [if_neg c] at h; cases h
/-- all that is said of a STATEMENT that was read: from t on to t1 -/
def rcOK (t t1 : Nat) (r : rcT) : Prop := t < t1 ∧ t1 ≤ 300 ∧ t + (r.2.2.2.1 ++ r.2.2.2.2.2.1).length ≤ t1 ∧ t + ((r.2.2.2.2.1.getD []) ++ (r.2.2.2.2.2.2.getD [])).length ≤ t1 ∧ r.1 ≤ 7 ∧
  ((r.2.2.2.2.2.2 = none ∧ r.2.2.2.2.2.1 = []) ∨ ∃ q, r.2.2.2.2.2.2 = some q ∧ Good true 14 r.2.2.2.2.2.1 q) ∧
  ((r.1 = 7 ∧ r.2.2.2.1 = [] ∧ r.2.2.2.2.1 = none ∧ ∃ k, k < 7 ∧ r.2.2.1 = nI k) ∨ (r.1 = 3 ∧ r.2.2.2.1 = [] ∧ r.2.2.2.2.1 = none ∧ r.2.2.1 = 1) ∨ ((r.1 = 1 ∨ r.1 = 2 ∨ r.1 = 6) ∧ r.2.2.2.2.1 = none ∧ r.2.2.2.1 = [r.2.2.1] ∧ ∃ N, r.2.2.1 = nI N ∧ N ≤ 9999 ∧ (r.1 = 1 → N ≤ 100) ∧ (r.1 = 2 → N ≤ 99) ∧ (r.1 = 6 → 1 ≤ N)) ∨ ((r.1 = 0 ∨ r.1 = 4 ∨ r.1 = 5) ∧ r.2.2.1 = 0 ∧ ∃ q, r.2.2.2.2.1 = some q ∧ Good false 11 r.2.2.2.1 q))
theorem numP_v {V : Nat → Int32} {lo hi : Int32} {t t1 : Nat} {c : List Int32} {r : cdT} (h : numP T V lo hi t = .inr (t1, c, r)) : c = [V t] ∧ lo ≤ V t ∧ V t ≤ hi := by
  unfold numP at h
  by_cases h1 : (T t).1 ≠ 257 ∨ 4 < (T t).2.2 - (T t).2.1
  · rw [if_pos h1] at h; cases h
  · rw [if_neg h1] at h
    by_cases h2 : lo ≤ V t ∧ V t ≤ hi
    · rw [if_pos h2] at h
      cases h
      exact ⟨rfl, h2⟩
    · rw [if_neg h2] at h; cases h
theorem val_n {x : Int32} {lo hi : Nat} (h1 : nI lo ≤ x) (h2 : x ≤ nI hi) (hh : hi < 2147483648) (hl : lo ≤ hi) : ∃ N, x = nI N ∧ lo ≤ N ∧ N ≤ hi := by
  have e : lo + (hi - lo) = hi := by omega
  obtain ⟨j, hj, e1⟩ := (rn2_iff (x := x) (lo := lo) (m := hi - lo) (by omega)).mp ⟨h1, by rw [e]; exact h2⟩
  exact ⟨lo + j, e1, by omega, by omega⟩
theorem endP_ok (k4 : tkOK T (fun t => (U t).1)) {k t1 t2 : Nat} {le : Int64} {m : Int32} {c1 : List Int32} {rv : Option cdT} {r : rcT} (ht : t1 ≤ 300) (h : endP T U k le m c1 rv t1 = .inr (t2, r)) : ∃ c2 q, r = (k, le, m, c1, rv, c2, q) ∧ t1 < t2 ∧ t2 ≤ 300 ∧ t1 + c2.length ≤ t2 ∧ t1 + (q.getD []).length ≤ t2 ∧ ((q = none ∧ c2 = []) ∨ ∃ q1, q = some q1 ∧ Good true 14 c2 q1) := by
  unfold endP at h
  by_cases c : (T t1).1 = 267
  · rw [if_pos c] at h
    cases hx : cndP T (fun t => (U t).1) 4 (t1 + 1) with
    | inl e => rw [hx] at h; cases h
    | inr e =>
      obtain ⟨t3, c2, r2⟩ := e
      rw [hx] at h
      obtain ⟨e1, e2, e3⟩ := semP_ok k4.1 h
      have a := cndP_ok k4.1 4 _ _ _ _ hx
      refine ⟨c2, some r2, e2, by omega, by omega, by omega, ?_, Or.inr ⟨r2, rfl, cndP_G k4 4 _ _ _ _ hx⟩⟩
      show t1 + r2.length ≤ t2
      omega
  · rw [if_neg c] at h
    obtain ⟨e1, e2, e3⟩ := semP_ok k4.1 h
    refine ⟨[], none, e2, by omega, by omega, ?_, ?_, Or.inl ⟨rfl, rfl⟩⟩
    · simp only [List.length_nil]; omega
    · show t1 + 0 ≤ t2
      omega
theorem restP_ok (k4 : tkOK T (fun t => (U t).1)) {k t t2 : Nat} {le : Int64} {r : rcT} (ht : t ≤ 300) (hk : k < 7) (h : restP T U k le t = .inr (t2, r)) : rcOK t t2 r := by
  unfold restP at h
  cases hx : valP T U k t with
  | inl e => rw [hx] at h; cases h
  | inr e =>
    obtain ⟨t1, c1, r1⟩ := e
    rw [hx] at h
    have a := valP_ok k4.1 ht hx
    obtain ⟨c2, q, rfl, b1, b2, b3, b4, b5⟩ := endP_ok k4 a.2.1 h
    refine ⟨by omega, b2, ?_, ?_, Nat.le_of_lt hk, b5, ?_⟩
    · show t + (c1 ++ c2).length ≤ t2
      rw [List.length_append]; omega
    · show t + ((rvP k r1).getD [] ++ q.getD []).length ≤ t2
      rw [List.length_append]
      have : ((rvP k r1).getD []).length ≤ r1.length := by
        unfold rvP
        by_cases c : k = 0 ∨ k = 4 ∨ k = 5
        · rw [if_pos c]; exact Nat.le_refl _
        · rw [if_neg c]; exact Nat.zero_le _
      omega
    · unfold valP at hx
      show (k = 7 ∧ _) ∨ (k = 3 ∧ c1 = [] ∧ rvP k r1 = none ∧ nmF U k t = 1) ∨ ((k = 1 ∨ k = 2 ∨ k = 6) ∧ rvP k r1 = none ∧ c1 = [nmF U k t] ∧ ∃ N, nmF U k t = nI N ∧ N ≤ 9999 ∧ (k = 1 → N ≤ 100) ∧ (k = 2 → N ≤ 99) ∧ (k = 6 → 1 ≤ N)) ∨ ((k = 0 ∨ k = 4 ∨ k = 5) ∧ nmF U k t = 0 ∧ ∃ q, rvP k r1 = some q ∧ Good false 11 c1 q)
      right
      by_cases c1 : k = 1
      · subst c1
        rw [if_pos rfl] at hx
        obtain ⟨e1, e2, e3⟩ := numP_v hx
        obtain ⟨N, eN, -, hN⟩ := val_n (lo := 0) (hi := 100) e2 e3 (by omega) (by omega)
        exact Or.inr (Or.inl ⟨Or.inl rfl, rfl, e1, N, eN, by omega, fun _ => hN, fun q => (by cases q), fun q => (by cases q)⟩)
      rw [if_neg c1] at hx
      by_cases c1 : k = 2
      · subst c1
        rw [if_pos rfl] at hx
        obtain ⟨e1, e2, e3⟩ := numP_v hx
        obtain ⟨N, eN, -, hN⟩ := val_n (lo := 0) (hi := 99) e2 e3 (by omega) (by omega)
        exact Or.inr (Or.inl ⟨Or.inr (Or.inl rfl), rfl, e1, N, eN, by omega, fun q => (by cases q), fun _ => hN, fun q => (by cases q)⟩)
      rw [if_neg c1] at hx
      by_cases c1 : k = 6
      · subst c1
        rw [if_pos rfl] at hx
        obtain ⟨e1, e2, e3⟩ := numP_v hx
        obtain ⟨N, eN, hN0, hN⟩ := val_n (lo := 1) (hi := 9999) e2 e3 (by omega) (by omega)
        exact Or.inr (Or.inl ⟨Or.inr (Or.inr rfl), rfl, e1, N, eN, by omega, fun q => (by cases q), fun q => (by cases q), fun _ => hN0⟩)
      rw [if_neg c1] at hx
      by_cases c1 : k = 3
      · subst c1
        rw [if_pos rfl] at hx
        cases hx
        exact Or.inl ⟨rfl, rfl, rfl, rfl⟩
      rw [if_neg c1] at hx
      have hk3 : k = 0 ∨ k = 4 ∨ k = 5 := by omega
      refine Or.inr (Or.inr ⟨hk3, ?_, r1, if_pos hk3, sumP_G k4 4 _ _ _ _ hx⟩)
      unfold nmF
      rw [if_neg c1, if_neg (by omega)]
theorem stmP_ok (k4 : tkOK T (fun t => (U t).1)) {i t t2 : Nat} {r : rcT} (h : stmP T U i t = .inr (t2, r)) : rcOK t t2 r ∧ i < 10 := by
  unfold stmP at h
  by_cases c1 : 259 ≤ (T t).1 ∧ (T t).1 ≤ 266
  · rw [if_neg (fun q => q c1)] at h
    have t300 := k4.1 t (fun e => absurd c1.1 (by rw [e]; decide))
    by_cases c2 : 10 ≤ i
    · rw [if_pos c2] at h; cases h
    rw [if_neg c2] at h
    refine ⟨?_, by omega⟩
    by_cases c3 : (T t).1 = 266
    · rw [if_pos c3] at h
      by_cases c4 : 259 ≤ (T (t + 1)).1 ∧ (T (t + 1)).1 ≤ 265
      · rw [if_pos c4] at h
        obtain ⟨e1, rfl, e3⟩ := semP_ok k4.1 h
        obtain ⟨j, hj, ej⟩ := (rn2_iff (lo := 259) (m := 6) (by omega)).mp c4
        refine ⟨by omega, by omega, ?_, ?_, Nat.le_refl _, Or.inl ⟨rfl, rfl⟩, Or.inl ⟨rfl, rfl, rfl, j, by omega, ?_⟩⟩
        · show t + 0 ≤ t2
          omega
        · show t + 0 ≤ t2
          omega
        · show nI (kdF (T (t + 1)).1) = nI j
          rw [ej, kdF_k (by omega)]
      · rw [if_neg c4] at h; cases h
    rw [if_neg c3] at h
    by_cases c4 : (T t).1 = 265
    · rw [if_pos c4] at h
      by_cases c5 : (T (t + 1)).1 < 258 ∨ 8 < (T (t + 1)).2.2 - (T (t + 1)).2.1
      · rw [if_pos c5] at h; cases h
      · rw [if_neg c5] at h
        have t301 := k4.1 (t + 1) (fun e => c5 (Or.inl (by rw [e]; decide)))
        have a := restP_ok k4 (by omega) (by omega) h
        obtain ⟨a1, a2, a3, a4, a5⟩ := a
        exact ⟨by omega, a2, by omega, by omega, a5⟩
    · rw [if_neg c4] at h
      obtain ⟨j, hj, ej⟩ := (rn2_iff (lo := 259) (m := 7) (by omega)).mp c1
      have hj7 : j ≠ 7 := fun q => c3 (by rw [ej, q]; rfl)
      have hj6 : j ≠ 6 := fun q => c4 (by rw [ej, q]; rfl)
      rw [ej, kdF_k hj] at h
      have a := restP_ok k4 (by omega) (by omega) h
      obtain ⟨a1, a2, a3, a4, a5⟩ := a
      exact ⟨by omega, a2, by omega, by omega, a5⟩
  · rw [if_pos c1] at h; cases h
end STMO
