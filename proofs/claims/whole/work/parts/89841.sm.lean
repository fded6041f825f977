/-! memories as lists of writes -/
/-- a write: its sort (0 a list is made, 1 a cell is made, 2 an int, 3 a reference, 4 one more of a list), the kind, two numbers, an int, a reference -/
abbrev OP : Type := Nat × Nat × Nat × Nat × Int32 × Option (Nat × Nat)
def oml (K : Nat) : OP := (0, K, 0, 0, 0, none)
def omk (K n s : Nat) : OP := (1, K, n, s, 0, none)
def owI (K i j : Nat) (v : Int32) : OP := (2, K, i, j, v, none)
def owR (K i j : Nat) (q : Option (Nat × Nat)) : OP := (3, K, i, j, 0, q)
def oad (K i : Nat) (q : Option (Nat × Nat)) : OP := (4, K, i, 0, 0, q)
def op_ap (o : OP) (σ : aM) : aM := match o.1 with
  | 0 => am_ml σ o.2.1
  | 1 => am_mk σ o.2.1 o.2.2.1 o.2.2.2.1
  | 2 => sI σ o.2.1 o.2.2.1 o.2.2.2.1 o.2.2.2.2.1
  | 3 => sR σ o.2.1 o.2.2.1 o.2.2.2.1 o.2.2.2.2.2
  | _ => am_add σ o.2.1 o.2.2.1 o.2.2.2.2.2
def aps : List OP → aM → aM
  | [], σ => σ
  | o :: l, σ => aps l (op_ap o σ)
def lkC : List (Nat × Nat) → Nat → Nat
  | [], _ => 0
  | e :: t, K => if K = e.1 then e.2 else lkC t K
def lkN : List (Nat × Nat × Nat) → Nat → Nat → Nat
  | [], _, _ => 0
  | e :: t, K, i => if K = e.1 ∧ i = e.2.1 then e.2.2 else lkN t K i
def lkI : List (Nat × Nat × Option Nat × Int32) → Nat → Nat → Nat → Int32
  | [], _, _, _ => 0
  | e :: t, K, i, j => if K = e.1 ∧ i = e.2.1 ∧ (∀ k, e.2.2.1 = some k → j = k) then e.2.2.2 else lkI t K i j
def lkR : List (Nat × Nat × Option Nat × Option (Nat × Nat)) → Nat → Nat → Nat → Option (Nat × Nat)
  | [], K, i, j => R0 K i j
  | e :: t, K, i, j => if K = e.1 ∧ i = e.2.1 ∧ (∀ k, e.2.2.1 = some k → j = k) then e.2.2.2 else lkR t K i j
abbrev SM : Type := List (Nat × Nat) × List (Nat × Nat × Nat) × List (Nat × Nat × Option Nat × Int32) × List (Nat × Nat × Option Nat × Option (Nat × Nat)) × (Nat × Nat)
def smc (s : SM) := s.1
def smn (s : SM) := s.2.1
def smI (s : SM) := s.2.2.1
def smR (s : SM) := s.2.2.2.1
def smb (s : SM) := s.2.2.2.2
def op_st (o : OP) (s : SM) : SM := match o.1 with
  | 0 => ((o.2.1, lkC (smc s) o.2.1 + 1) :: smc s, (o.2.1, lkC (smc s) o.2.1, 0) :: smn s, smI s, smR s, ((smb s).1 + 1, (smb s).2 + 3))
  | 1 => ((o.2.1, lkC (smc s) o.2.1 + 1) :: smc s, (o.2.1, lkC (smc s) o.2.1, o.2.2.1) :: smn s, (o.2.1, lkC (smc s) o.2.1, none, 0) :: smI s, (o.2.1, lkC (smc s) o.2.1, none, none) :: smR s, ((smb s).1 + 1, (smb s).2 + o.2.2.2.1))
  | 2 => (smc s, smn s, (o.2.1, o.2.2.1, some o.2.2.2.1, o.2.2.2.2.1) :: smI s, smR s, smb s)
  | 3 => (smc s, smn s, smI s, (o.2.1, o.2.2.1, some o.2.2.2.1, o.2.2.2.2.2) :: smR s, smb s)
  | _ => (smc s, (o.2.1, o.2.2.1, lkN (smn s) o.2.1 o.2.2.1 + 1) :: smn s, smI s, (o.2.1, o.2.2.1, some (lkN (smn s) o.2.1 o.2.2.1), o.2.2.2.2.2) :: smR s, ((smb s).1 + 1, (smb s).2 + (lkN (smn s) o.2.1 o.2.2.1 + lkN (smn s) o.2.1 o.2.2.1 / 2 + 10)))
def sts : List OP → SM → SM
  | [], s => s
  | o :: l, s => sts l (op_st o s)
def SM0 : SM := ([], [], [], [], (0, 0))
def REP (L : Nat) (s : SM) (σ : aM) : Prop := (∀ K, gC σ K = lkC (smc s) K) ∧ (∀ K i, K ≠ 0 → gN σ K i = lkN (smn s) K i) ∧ gN σ 0 0 = L ∧ (∀ K i j, K ≠ 0 → gI σ K i j = lkI (smI s) K i j) ∧ (∀ K i j, gL σ K i j = 0) ∧ (∀ K i j, gR σ K i j = lkR (smR s) K i j) ∧ gB σ = (smb s)
section SMS
variable {L : Nat} {s : SM} {σ : aM}
theorem REP.of (h : M0 L σ) : REP L SM0 σ := h
theorem lkI_n {t : List (Nat × Nat × Option Nat × Int32)} {K i : Nat} {v : Int32} {a b c : Nat} : lkI ((K, i, none, v) :: t) a b c = if a = K ∧ b = i then v else lkI t a b c := by
  show (if a = K ∧ b = i ∧ (∀ k, (none : Option Nat) = some k → c = k) then v else lkI t a b c) = _
  by_cases h : a = K ∧ b = i
  · rw [if_pos h, if_pos ⟨h.1, h.2, fun k e => by cases e⟩]
  · rw [if_neg h, if_neg (fun e => h ⟨e.1, e.2.1⟩)]
theorem lkI_s {t : List (Nat × Nat × Option Nat × Int32)} {K i j : Nat} {v : Int32} {a b c : Nat} : lkI ((K, i, some j, v) :: t) a b c = if a = K ∧ b = i ∧ c = j then v else lkI t a b c := by
  show (if a = K ∧ b = i ∧ (∀ k, (some j : Option Nat) = some k → c = k) then v else lkI t a b c) = _
  by_cases h : a = K ∧ b = i ∧ c = j
  · rw [if_pos h, if_pos ⟨h.1, h.2.1, fun k e => by cases e; exact h.2.2⟩]
  · rw [if_neg h, if_neg (fun e => h ⟨e.1, e.2.1, e.2.2 j rfl⟩)]
theorem lkR_n {t : List (Nat × Nat × Option Nat × Option (Nat × Nat))} {K i : Nat} {v : Option (Nat × Nat)} {a b c : Nat} : lkR ((K, i, none, v) :: t) a b c = if a = K ∧ b = i then v else lkR t a b c := by
  show (if a = K ∧ b = i ∧ (∀ k, (none : Option Nat) = some k → c = k) then v else lkR t a b c) = _
  by_cases h : a = K ∧ b = i
  · rw [if_pos h, if_pos ⟨h.1, h.2, fun k e => by cases e⟩]
  · rw [if_neg h, if_neg (fun e => h ⟨e.1, e.2.1⟩)]
theorem lkR_s {t : List (Nat × Nat × Option Nat × Option (Nat × Nat))} {K i j : Nat} {v : Option (Nat × Nat)} {a b c : Nat} : lkR ((K, i, some j, v) :: t) a b c = if a = K ∧ b = i ∧ c = j then v else lkR t a b c := by
  show (if a = K ∧ b = i ∧ (∀ k, (some j : Option Nat) = some k → c = k) then v else lkR t a b c) = _
  by_cases h : a = K ∧ b = i ∧ c = j
  · rw [if_pos h, if_pos ⟨h.1, h.2.1, fun k e => by cases e; exact h.2.2⟩]
  · rw [if_neg h, if_neg (fun e => h ⟨e.1, e.2.1, e.2.2 j rfl⟩)]
theorem REP.st {o : OP} (hk : o.2.1 ≠ 0) (h : REP L s σ) : REP L (op_st o s) (op_ap o σ) := by
  obtain ⟨hC, hN, hL, hI, hLg, hR, hB⟩ := h
  obtain ⟨t, K, x, y, v, q⟩ := o
  have hk : K ≠ 0 := hk
  match t with
  | 0 =>
    refine ⟨fun a => ?_, fun a i ha => ?_, ?_, fun a i j ha => hI a i j ha, fun a i j => hLg a i j, fun a i j => hR a i j, ?_⟩
    · show (if a = K then gC σ K + 1 else gC σ a) = if a = K then lkC (smc s) K + 1 else lkC (smc s) a
      rw [hC, hC]
    · show (if a = K ∧ i = gC σ K then 0 else gN σ a i) = if a = K ∧ i = lkC (smc s) K then 0 else lkN (smn s) a i
      rw [hC, hN a i ha]
    · show (if 0 = K ∧ 0 = gC σ K then 0 else gN σ 0 0) = L
      rw [if_neg (fun e => hk e.1.symm)]; exact hL
    · show ((gB σ).1 + 1, (gB σ).2 + 3) = _
      rw [hB]; rfl
  | 1 =>
    refine ⟨fun a => ?_, fun a i ha => ?_, ?_, fun a i j ha => ?_, fun a i j => ?_, fun a i j => ?_, ?_⟩
    · show (if a = K then gC σ K + 1 else gC σ a) = if a = K then lkC (smc s) K + 1 else lkC (smc s) a
      rw [hC, hC]
    · show (if a = K ∧ i = gC σ K then x else gN σ a i) = if a = K ∧ i = lkC (smc s) K then x else lkN (smn s) a i
      rw [hC, hN a i ha]
    · show (if 0 = K ∧ 0 = gC σ K then x else gN σ 0 0) = L
      rw [if_neg (fun e => hk e.1.symm)]; exact hL
    · show (if a = K ∧ i = gC σ K then 0 else gI σ a i j) = lkI ((K, lkC (smc s) K, none, 0) :: (smI s)) a i j
      rw [lkI_n, hC, hI a i j ha]
    · show (if a = K ∧ i = gC σ K then 0 else gL σ a i j) = 0
      rw [hLg]; exact ite_self _
    · show (if a = K ∧ i = gC σ K then none else gR σ a i j) = lkR ((K, lkC (smc s) K, none, none) :: (smR s)) a i j
      rw [lkR_n, hC, hR a i j]
    · show ((gB σ).1 + 1, (gB σ).2 + y) = _
      rw [hB]; rfl
  | 2 =>
    refine ⟨fun a => hC a, fun a i ha => hN a i ha, hL, fun a i j ha => ?_, fun a i j => hLg a i j, fun a i j => hR a i j, hB⟩
    show (if a = K ∧ i = x ∧ j = y then v else gI σ a i j) = lkI ((K, x, some y, v) :: (smI s)) a i j
    rw [lkI_s, hI a i j ha]
  | 3 =>
    refine ⟨fun a => hC a, fun a i ha => hN a i ha, hL, fun a i j ha => hI a i j ha, fun a i j => hLg a i j, fun a i j => ?_, hB⟩
    show (if a = K ∧ i = x ∧ j = y then q else gR σ a i j) = lkR ((K, x, some y, q) :: (smR s)) a i j
    rw [lkR_s, hR a i j]
  | t + 4 =>
    refine ⟨fun a => hC a, fun a i ha => ?_, ?_, fun a i j ha => hI a i j ha, fun a i j => hLg a i j, fun a i j => ?_, ?_⟩
    · show (if a = K ∧ i = x then gN σ K x + 1 else gN σ a i) = if a = K ∧ i = x then lkN (smn s) K x + 1 else lkN (smn s) a i
      rw [hN K x hk, hN a i ha]
    · show (if 0 = K ∧ 0 = x then gN σ K x + 1 else gN σ 0 0) = L
      rw [if_neg (fun e => hk e.1.symm)]; exact hL
    · show (if a = K ∧ i = x ∧ j = gN σ K x then q else gR σ a i j) = lkR ((K, x, some (lkN (smn s) K x), q) :: (smR s)) a i j
      rw [lkR_s, hN K x hk, hR a i j]
    · show ((gB σ).1 + 1, (gB σ).2 + (gN σ K x + gN σ K x / 2 + 10)) = _
      rw [hB, hN K x hk]; rfl
theorem REP.aps : ∀ {l : List OP} {s : SM} {σ : aM}, (l.all (fun o => o.2.1 != 0)) = true → REP L s σ → REP L (sts l s) (aps l σ)
  | [], _, _, _, h => h
  | o :: l, s, σ, hk, h => by
    rw [List.all_cons, Bool.and_eq_true] at hk
    exact REP.aps (l := l) hk.2 (h.st (by simpa using hk.1))
/-- none of the writes is to K -/
theorem lkC_no : ∀ {l : List (Nat × Nat)} {K : Nat}, (∀ e ∈ l, e.1 ≠ K) → lkC l K = 0
  | [], _, _ => rfl
  | e :: l, K, h => by
    show (if K = e.1 then e.2 else lkC l K) = 0
    rw [if_neg (fun q => h e List.mem_cons_self q.symm)]
    exact lkC_no fun e he => h e (List.mem_cons_of_mem _ he)
theorem lkN_no : ∀ {l : List (Nat × Nat × Nat)} {K i : Nat}, (∀ e ∈ l, e.1 ≠ K) → lkN l K i = 0
  | [], _, _, _ => rfl
  | e :: l, K, i, h => by
    show (if K = e.1 ∧ i = e.2.1 then e.2.2 else lkN l K i) = 0
    rw [if_neg (fun q => h e List.mem_cons_self q.1.symm)]
    exact lkN_no fun e he => h e (List.mem_cons_of_mem _ he)
/-- all writes to (K, ·, ·) are of 0 -/
theorem lkI_no : ∀ {l : List (Nat × Nat × Option Nat × Int32)} {K i j : Nat}, (∀ e ∈ l, e.1 = K → e.2.2.2 = 0) → lkI l K i j = 0
  | [], _, _, _, _ => rfl
  | e :: l, K, i, j, h => by
    show (if K = e.1 ∧ i = e.2.1 ∧ (∀ k, e.2.2.1 = some k → j = k) then e.2.2.2 else lkI l K i j) = 0
    by_cases c : K = e.1 ∧ i = e.2.1 ∧ (∀ k, e.2.2.1 = some k → j = k)
    · rw [if_pos c]; exact h e List.mem_cons_self c.1.symm
    · rw [if_neg c]; exact lkI_no fun e he => h e (List.mem_cons_of_mem _ he)
/-- writes to (K, i, j), j < m, alone are not 0 -/
theorem lkI_hi : ∀ {l : List (Nat × Nat × Option Nat × Int32)} {K i j : Nat} (m : Nat), m ≤ j → (∀ e ∈ l, e.1 = K → e.2.2.2 = 0 ∨ ∃ k, e.2.2.1 = some k ∧ k < m) → lkI l K i j = 0
  | [], _, _, _, _, _, _ => rfl
  | e :: l, K, i, j, m, hm, h => by
    show (if K = e.1 ∧ i = e.2.1 ∧ (∀ k, e.2.2.1 = some k → j = k) then e.2.2.2 else lkI l K i j) = 0
    by_cases c : K = e.1 ∧ i = e.2.1 ∧ (∀ k, e.2.2.1 = some k → j = k)
    · rw [if_pos c]
      rcases h e List.mem_cons_self c.1.symm with h | ⟨k, h1, h2⟩
      · exact h
      · exact absurd (c.2.2 k h1) (by omega)
    · rw [if_neg c]; exact lkI_hi m hm fun e he => h e (List.mem_cons_of_mem _ he)
/-- writes to (K, i), i < m, alone are not 0 -/
theorem lkI_up : ∀ {l : List (Nat × Nat × Option Nat × Int32)} {K i j : Nat} (m : Nat), m ≤ i → (∀ e ∈ l, e.1 = K → e.2.1 < m) → lkI l K i j = 0
  | [], _, _, _, _, _, _ => rfl
  | e :: l, K, i, j, m, hm, h => by
    show (if K = e.1 ∧ i = e.2.1 ∧ (∀ k, e.2.2.1 = some k → j = k) then e.2.2.2 else lkI l K i j) = 0
    rw [if_neg (fun c => absurd (h e List.mem_cons_self c.1.symm) (by omega))]
    exact lkI_up m hm fun e he => h e (List.mem_cons_of_mem _ he)
theorem lkR_no : ∀ {l : List (Nat × Nat × Option Nat × Option (Nat × Nat))} {K i j : Nat}, (∀ e ∈ l, e.1 ≠ K) → lkR l K i j = R0 K i j
  | [], _, _, _, _ => rfl
  | e :: l, K, i, j, h => by
    show (if K = e.1 ∧ i = e.2.1 ∧ (∀ k, e.2.2.1 = some k → j = k) then e.2.2.2 else lkR l K i j) = R0 K i j
    rw [if_neg (fun q => h e List.mem_cons_self q.1.symm)]
    exact lkR_no fun e he => h e (List.mem_cons_of_mem _ he)
/-- beyond the writes a cell holds none, if it was made -/
theorem lkR_hi : ∀ {l : List (Nat × Nat × Option Nat × Option (Nat × Nat))} {K i j : Nat} (m : Nat), m ≤ j → (∀ e ∈ l, e.1 = K → e.2.1 = i → e.2.2.2 = none ∨ ∃ k, e.2.2.1 = some k ∧ k < m) → (∃ e ∈ l, e.1 = K ∧ e.2.1 = i ∧ e.2.2.1 = none) → lkR l K i j = none
  | [], _, _, _, _, _, _, ⟨e, he, _⟩ => by cases he
  | e :: l, K, i, j, m, hm, h, hx => by
    show (if K = e.1 ∧ i = e.2.1 ∧ (∀ k, e.2.2.1 = some k → j = k) then e.2.2.2 else lkR l K i j) = none
    by_cases c : K = e.1 ∧ i = e.2.1 ∧ (∀ k, e.2.2.1 = some k → j = k)
    · rw [if_pos c]
      rcases h e List.mem_cons_self c.1.symm c.2.1.symm with h | ⟨k, h1, h2⟩
      · exact h
      · exact absurd (c.2.2 k h1) (by omega)
    · rw [if_neg c]
      refine lkR_hi m hm (fun e he => h e (List.mem_cons_of_mem _ he)) ?_
      obtain ⟨e', he', g1, g2, g3⟩ := hx
      rcases List.mem_cons.mp he' with rfl | he'
      · exact absurd ⟨g1.symm, g2.symm, fun k e => by rw [g3] at e; cases e⟩ c
      · exact ⟨e', he', g1, g2, g3⟩
end SMS
