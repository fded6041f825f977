/-! THE PARSE as a pure function of the TOKENS (sort, first byte, the byte behind; by their number): a fault (kind, place), or the number of the TOKEN behind, the class's code, the reference's -/
abbrev tkT : Type := Nat → Int32 × Nat × Nat
abbrev cdT : Type := List (Int32 × Int32)
abbrev pR : Type := (Int32 × Nat) ⊕ (Nat × List Int32 × cdT)
def pB (x : pR) (f : Nat → List Int32 → cdT → pR) : pR := match x with
  | .inl e => .inl e
  | .inr (t, c, r) => f t c r
section PARSE
variable (T : tkT) (V : Nat → Int32)
def numP (lo hi : Int32) (t : Nat) : pR := if (T t).1 ≠ 257 ∨ 4 < (T t).2.2 - (T t).2.1 then .inl (1, (T t).2.1) else if lo ≤ V t ∧ V t ≤ hi then .inr (t + 1, [V t], [(0, V t)]) else .inl (2, (T t).2.1)
def mulO (s : Int32) : Option (Int32 × Int32) := if s = 42 then some (-13, 4) else none
def sumO (s : Int32) : Option (Int32 × Int32) := if s = 43 then some (-11, 2) else if s = 45 then some (-12, 3) else none
def andO (s : Int32) : Option (Int32 × Int32) := if s = 268 then some (-17, 9) else none
def orO (s : Int32) : Option (Int32 × Int32) := if s = 269 then some (-18, 10) else none
def relO (s : Int32) : Option (Int32 × Int32) := if s = 60 then some (-14, 5) else if s = 62 then some (-15, 6) else if s = 61 then some (-16, 7) else none
/-- operators between like things, one behind another -/
def loopP (op : Int32 → Option (Int32 × Int32)) (item : Nat → pR) : Nat → Nat → pR
  | 0, t => .inr (t, [], [])
  | n + 1, t => match op (T t).1 with
    | none => .inr (t, [], [])
    | some (x, y) => pB (item (t + 1)) fun t1 c1 r1 => pB (loopP op item n t1) fun t2 c2 r2 => .inr (t2, c1 ++ x :: c2, r1 ++ (y, 0) :: r2)
def chnP (op : Int32 → Option (Int32 × Int32)) (item : Nat → pR) (t : Nat) : pR := pB (item t) fun t1 c1 r1 => pB (loopP T op item 300 t1) fun t2 c2 r2 => .inr (t2, c1 ++ c2, r1 ++ r2)
/-- a sign that closes -/
def clsF (s : Int32) (x : pR) : pR := pB x fun t c r => if (T t).1 = s then .inr (t + 1, c, r) else .inl (1, (T t).2.1)
def brP (sub : Option (Nat → pR)) (s : Int32) (t : Nat) : pR := match sub with
  | none => .inl (4, (T t).2.1)
  | some f => clsF T s (f (t + 1))
def facP (sub : Option (Nat → pR)) (t : Nat) : pR := if 258 ≤ (T t).1 then (if (T t).1 < 271 then .inl (3, (T t).2.1) else .inr (t + 1, [270 - (T t).1], [(1, (T t).1 - 271)])) else if (T t).1 = 40 then brP T sub 41 t else numP T V 0 9999 t
def sumW (sub : Option (Nat → pR)) : Nat → pR := chnP T sumO (chnP T mulO (facP T V sub))
/-- a SUM with so many brackets left -/
def sumP : Nat → Nat → pR
  | 0 => sumW T V none
  | k + 1 => sumW T V (some (sumP k))
def ntF : Nat → Nat → Nat
  | 0, _ => 0
  | n + 1, t => if (T t).1 = 270 then ntF n (t + 1) + 1 else 0
def cmpP (sm : Nat → pR) (t : Nat) : pR := pB (sm t) fun t1 c1 r1 => match relO (T t1).1 with
  | none => .inl (1, (T t1).2.1)
  | some (x, y) => pB (sm (t1 + 1)) fun t2 c2 r2 => .inr (t2, c1 ++ c2 ++ [x], r1 ++ r2 ++ [(y, 0)])
def parP (sub : Option (Nat → pR)) (sm : Nat → pR) (t : Nat) : pR :=
  pB (if (T (t + ntF T 300 t)).1 = 91 then brP T sub 93 (t + ntF T 300 t) else cmpP T sm (t + ntF T 300 t)) fun t1 c r => .inr (t1, c ++ (if ntF T 300 t % 2 = 1 then [-19] else []), r ++ List.replicate (ntF T 300 t) (8, 0))
def cndW (sub : Option (Nat → pR)) (sm : Nat → pR) : Nat → pR := chnP T orO (chnP T andO (parP T sub sm))
def cndP : Nat → Nat → pR
  | 0 => cndW T none (sumP T V 0)
  | k + 1 => cndW T (some (cndP k)) (sumP T V (k + 1))
end PARSE
/-! how far a parse comes -/
def prOK (f : Nat → pR) : Prop := ∀ t t1 c r, f t = .inr (t1, c, r) → t < t1 ∧ t1 ≤ 300 ∧ t + c.length ≤ t1 ∧ t + r.length ≤ t1
theorem pB_r {x : pR} {f : Nat → List Int32 → cdT → pR} {y : Nat × List Int32 × cdT} (h : pB x f = .inr y) : ∃ t c r, x = .inr (t, c, r) ∧ f t c r = .inr y := by
  rcases x with e | ⟨t, c, r⟩
  · cases h
  · exact ⟨t, c, r, rfl, h⟩
section PROK
variable {T : tkT} {V : Nat → Int32}
theorem numP_ok (hT : ∀ t, (T t).1 ≠ 256 → t < 300) {lo hi : Int32} : prOK (numP T V lo hi) := by
  intro t t1 c r h
  unfold numP at h
  by_cases h1 : (T t).1 ≠ 257 ∨ 4 < (T t).2.2 - (T t).2.1
  · rw [if_pos h1] at h; cases h
  · rw [if_neg h1] at h
    by_cases h2 : lo ≤ V t ∧ V t ≤ hi
    · rw [if_pos h2] at h
      cases h
      have e : (T t).1 = 257 := Classical.not_not.mp (fun q => h1 (Or.inl q))
      have := hT t (by rw [e]; decide)
      simp only [List.length_cons, List.length_nil]
      omega
    · rw [if_neg h2] at h; cases h
theorem loopP_ok (hT : ∀ t, (T t).1 ≠ 256 → t < 300) {op : Int32 → Option (Int32 × Int32)} {f : Nat → pR} (hf : prOK f) : ∀ n t t1 c r, t ≤ 300 → loopP T op f n t = .inr (t1, c, r) → t ≤ t1 ∧ t1 ≤ 300 ∧ t + c.length ≤ t1 ∧ t + r.length ≤ t1
  | 0, t, t1, c, r, ht, h => by
    cases h
    simp only [List.length_nil]
    omega
  | n + 1, t, t1, c, r, ht, h => by
    unfold loopP at h
    cases ho : op (T t).1 with
    | none =>
      rw [ho] at h
      cases h
      simp only [List.length_nil]
      omega
    | some q =>
      obtain ⟨x, y⟩ := q
      rw [ho] at h
      obtain ⟨t2, c2, r2, e2, h⟩ := pB_r h
      obtain ⟨t3, c3, r3, e3, h⟩ := pB_r h
      cases h
      have a := hf _ _ _ _ e2
      have b := loopP_ok hT hf n _ _ _ _ (by omega) e3
      simp only [List.length_append, List.length_cons]
      omega
theorem chnP_ok (hT : ∀ t, (T t).1 ≠ 256 → t < 300) {op : Int32 → Option (Int32 × Int32)} {f : Nat → pR} (hf : prOK f) : prOK (chnP T op f) := by
  intro t t1 c r h
  obtain ⟨t2, c2, r2, e2, h⟩ := pB_r h
  obtain ⟨t3, c3, r3, e3, h⟩ := pB_r h
  cases h
  have a := hf _ _ _ _ e2
  have b := loopP_ok hT hf _ _ _ _ _ (by omega) e3
  simp only [List.length_append]
  omega
theorem brP_ok (hT : ∀ t, (T t).1 ≠ 256 → t < 300) {sub : Option (Nat → pR)} {s : Int32} (hs : s ≠ 256) (hf : ∀ f, sub = some f → prOK f) : prOK (brP T sub s) := by
  intro t t1 c r h
  unfold brP at h
  cases sub with
  | none => cases h
  | some f =>
    obtain ⟨t2, c2, r2, e2, h⟩ := pB_r h
    by_cases h2 : (T t2).1 = s
    · rw [if_pos h2] at h
      cases h
      have a := hf f rfl _ _ _ _ e2
      have := hT t2 (by rw [h2]; exact hs)
      omega
    · rw [if_neg h2] at h; cases h
theorem facP_ok (hT : ∀ t, (T t).1 ≠ 256 → t < 300) {sub : Option (Nat → pR)} (hf : ∀ f, sub = some f → prOK f) : prOK (facP T V sub) := by
  intro t t1 c r h
  unfold facP at h
  by_cases h1 : 258 ≤ (T t).1
  · rw [if_pos h1] at h
    by_cases h2 : (T t).1 < 271
    · rw [if_pos h2] at h; cases h
    · rw [if_neg h2] at h
      cases h
      have := hT t (fun e => absurd h1 (by rw [e]; decide))
      simp only [List.length_cons, List.length_nil]
      omega
  · rw [if_neg h1] at h
    by_cases h3 : (T t).1 = 40
    · rw [if_pos h3] at h
      exact brP_ok hT (by decide) hf _ _ _ _ h
    · rw [if_neg h3] at h
      exact numP_ok hT _ _ _ _ h
theorem sumW_ok (hT : ∀ t, (T t).1 ≠ 256 → t < 300) {sub : Option (Nat → pR)} (hf : ∀ f, sub = some f → prOK f) : prOK (sumW T V sub) := chnP_ok hT (chnP_ok hT (facP_ok hT hf))
theorem sumP_ok (hT : ∀ t, (T t).1 ≠ 256 → t < 300) : ∀ k, prOK (sumP T V k)
  | 0 => sumW_ok hT (fun f h => by cases h)
  | k + 1 => sumW_ok hT (fun f h => by cases h; exact sumP_ok hT k)
theorem ntF_at : ∀ n t k, k < ntF T n t → (T (t + k)).1 = 270
  | 0, t, k, h => absurd h (Nat.not_lt_zero _)
  | n + 1, t, k, h => by
    unfold ntF at h
    by_cases c : (T t).1 = 270
    · rw [if_pos c] at h
      cases k with
      | zero => exact c
      | succ k =>
        have := ntF_at n (t + 1) k (by omega)
        rw [show t + (k + 1) = t + 1 + k by omega]
        exact this
    · rw [if_neg c] at h
      exact absurd h (Nat.not_lt_zero _)
theorem ntF_le : ∀ n t, ntF T n t ≤ n
  | 0, _ => Nat.le_refl _
  | n + 1, t => by
    unfold ntF
    by_cases c : (T t).1 = 270
    · rw [if_pos c]; exact Nat.succ_le_succ (ntF_le n _)
    · rw [if_neg c]; exact Nat.zero_le _
theorem ntF_300 (hT : ∀ t, (T t).1 ≠ 256 → t < 300) {t : Nat} (ht : t ≤ 300) : t + ntF T 300 t ≤ 300 := by
  by_cases c : ntF T 300 t = 0
  · omega
  · have := hT (t + (ntF T 300 t - 1)) (by rw [ntF_at 300 t _ (by omega)]; decide)
    omega
theorem cmpP_ok (hT : ∀ t, (T t).1 ≠ 256 → t < 300) {sm : Nat → pR} (hf : prOK sm) : prOK (cmpP T sm) := by
  intro t t1 c r h
  obtain ⟨t2, c2, r2, e2, h⟩ := pB_r h
  cases ho : relO (T t2).1 with
  | none => rw [ho] at h; cases h
  | some q =>
    obtain ⟨x, y⟩ := q
    rw [ho] at h
    obtain ⟨t3, c3, r3, e3, h⟩ := pB_r h
    cases h
    have a := hf _ _ _ _ e2
    have b := hf _ _ _ _ e3
    simp only [List.length_append, List.length_cons, List.length_nil]
    omega
theorem parP_ok (hT : ∀ t, (T t).1 ≠ 256 → t < 300) {sub : Option (Nat → pR)} {sm : Nat → pR} (hf : ∀ f, sub = some f → prOK f) (hs : prOK sm) : prOK (parP T sub sm) := by
  intro t t1 c r h
  obtain ⟨t2, c2, r2, e2, h⟩ := pB_r h
  have a : t + ntF T 300 t < t2 ∧ t2 ≤ 300 ∧ t + ntF T 300 t + c2.length ≤ t2 ∧ t + ntF T 300 t + r2.length ≤ t2 := by
    by_cases c : (T (t + ntF T 300 t)).1 = 91
    · rw [if_pos c] at e2
      exact brP_ok hT (by decide) hf _ _ _ _ e2
    · rw [if_neg c] at e2
      exact cmpP_ok hT hs _ _ _ _ e2
  have b : (if ntF T 300 t % 2 = 1 then [(-19 : Int32)] else []).length ≤ ntF T 300 t := by
    by_cases c : ntF T 300 t % 2 = 1
    · rw [if_pos c]; simp only [List.length_cons, List.length_nil]; omega
    · rw [if_neg c]; exact Nat.zero_le _
  cases h
  simp only [List.length_append, List.length_replicate]
  omega
theorem cndW_ok (hT : ∀ t, (T t).1 ≠ 256 → t < 300) {sub : Option (Nat → pR)} {sm : Nat → pR} (hf : ∀ f, sub = some f → prOK f) (hs : prOK sm) : prOK (cndW T sub sm) := chnP_ok hT (chnP_ok hT (parP_ok hT hf hs))
theorem cndP_ok (hT : ∀ t, (T t).1 ≠ 256 → t < 300) : ∀ k, prOK (cndP T V k)
  | 0 => cndW_ok hT (fun f h => by cases h) (sumP_ok hT 0)
  | k + 1 => cndW_ok hT (fun f h => by cases h; exact cndP_ok hT k) (sumP_ok hT (k + 1))
end PROK
