/-! what a parse leaves is Good: both codes make the same number, and stand no higher than h -/
theorem evC_app {w : Nat → Int64} : ∀ (a b : List Int32) (st : List Int64), evC w (a ++ b) st = evC w b (evC w a st)
  | [], _, _ => rfl
  | c :: a, b, st => by
    show evC w (a ++ b) (stC w c st) = _
    rw [evC_app a b]; rfl
theorem evR_app {w : Nat → Int64} : ∀ (a b : cdT) (st : List Int64), evR w (a ++ b) st = evR w b (evR w a st)
  | [], _, _ => rfl
  | c :: a, b, st => by
    show evR w (a ++ b) (stR w c st) = _
    rw [evR_app a b]; rfl
theorem sfR_app {w : Nat → Int64} : ∀ (a b : cdT) (st : List Int64), sfR a st.length → sfR b (evR w a st).length → sfR (a ++ b) st.length
  | [], _, _, _, h => h
  | c :: a, b, st, h1, h2 => by
    show sfR (c :: (a ++ b)) st.length
    unfold sfR at h1 ⊢
    have h2 : sfR b (evR w a (stR w c st)).length := h2
    unfold stR at h2
    by_cases c0 : c.1 = 0
    · rw [if_pos (Or.inl c0)] at h1 ⊢
      rw [if_pos c0] at h2
      exact ⟨h1.1, sfR_app (w := w) a b (c.2.toInt64 :: st) h1.2 h2⟩
    · rw [if_neg c0] at h2
      by_cases c1 : c.1 = 1
      · rw [if_pos (Or.inr c1)] at h1 ⊢
        rw [if_pos c1] at h2
        exact ⟨h1.1, sfR_app (w := w) a b (w c.2.toNatClampNeg :: st) h1.2 h2⟩
      · rw [if_neg c1] at h2
        rw [if_neg (fun q => q.elim c0 c1)] at h1 ⊢
        by_cases c8 : c.1 = 8
        · rw [if_pos c8] at h1 h2 ⊢
          cases st with
          | nil => exact absurd h1.1 (by decide)
          | cons x s => exact ⟨h1.1, sfR_app (w := w) a b ((1 - x) :: s) h1.2 h2⟩
        · rw [if_neg c8] at h1 h2 ⊢
          cases st with
          | nil => exact absurd h1.1 (by decide)
          | cons y s =>
            cases s with
            | nil => exact absurd h1.1 (by simp only [List.length_cons, List.length_nil]; omega)
            | cons x s => exact ⟨h1.1, sfR_app (w := w) a b (opR c.1 x y :: s) h1.2 h2⟩
theorem Good_up {bl : Bool} {h h1 : Nat} {c : List Int32} {r : cdT} (g : Good bl h c r) (e : h ≤ h1) : Good bl h1 c r :=
  ⟨g.1, fun n hn => g.2.1 n (by omega), fun w hw st hs => g.2.2 w hw st (by omega)⟩
theorem Good_weak {h : Nat} {c : List Int32} {r : cdT} (g : Good true h c r) : Good false h c r :=
  ⟨g.1, g.2.1, fun w hw st hs => by
    obtain ⟨v, e1, e2, -⟩ := g.2.2 w hw st hs
    exact ⟨v, e1, e2, fun q => by cases q⟩⟩
/-- an operator: of numbers (of bl: 0 and 1) it makes the same number on both sides -/
def opOK (bl0 bl : Bool) (x y : Int32) : Prop := x < -10 ∧ x ≠ -19 ∧ y ≠ 0 ∧ y ≠ 1 ∧ y ≠ 8 ∧ ∀ a b : Int32, (bl0 = true → a = 0 ∨ a = 1) → (bl0 = true → b = 0 ∨ b = 1) → ∃ v : Int32, opC x a.toInt64 b.toInt64 = v.toInt64 ∧ opR y a.toInt64 b.toInt64 = v.toInt64 ∧ (bl = true → v = 0 ∨ v = 1)
theorem Good_bin {bl0 bl : Bool} {h H : Nat} {c1 c2 : List Int32} {r1 r2 : cdT} {x y : Int32} (g1 : Good bl0 H c1 r1) (g2 : Good bl0 h c2 r2) (hh : h + 1 ≤ H) (o : opOK bl0 bl x y) : Good bl H (c1 ++ c2 ++ [x]) (r1 ++ r2 ++ [(y, 0)]) := by
  obtain ⟨o1, o2, o3, o4, o5, o6⟩ := o
  refine ⟨fun c hc e => ?_, fun n hn => ?_, fun w hw st hs => ?_⟩
  · rcases List.mem_append.mp hc with h | h
    · rcases List.mem_append.mp h with h | h
      · exact g1.1 c h e
      · exact g2.1 c h e
    · have : c = (y, 0) := List.mem_singleton.mp h
      subst this
      exact absurd e o4
  · have e0 : (List.replicate n (0 : Int64)).length = n := List.length_replicate
    have hw0 : ∀ k : Nat, ∃ x : Int32, (fun _ : Nat => (0 : Int64)) k = x.toInt64 := fun _ => ⟨0, rfl⟩
    obtain ⟨v1, -, e1, -⟩ := g1.2.2 (fun _ => 0) hw0 (List.replicate n 0) (by omega)
    obtain ⟨v2, -, e2, -⟩ := g2.2.2 (fun _ => 0) hw0 (v1.toInt64 :: List.replicate n 0) (by simp only [List.length_cons]; omega)
    rw [← e0]
    refine sfR_app (w := fun _ => 0) _ _ _ (sfR_app (w := fun _ => 0) _ _ _ ?_ ?_) ?_
    · exact g1.2.1 _ (by omega)
    · rw [e1]; exact g2.2.1 _ (by simp only [List.length_cons]; omega)
    · rw [evR_app, e1, e2]
      unfold sfR
      rw [if_neg (fun q => q.elim o3 o4), if_neg o5]
      simp only [List.length_cons]
      exact ⟨by omega, trivial⟩
  · obtain ⟨v1, a1, b1, k1⟩ := g1.2.2 w hw st hs
    obtain ⟨v2, a2, b2, k2⟩ := g2.2.2 w hw (v1.toInt64 :: st) (by simp only [List.length_cons]; omega)
    obtain ⟨v, p, q, k⟩ := o6 v1 v2 k1 k2
    refine ⟨v, ?_, ?_, k⟩
    · rw [evC_app, evC_app, a1, a2]
      show stC w x (v2.toInt64 :: v1.toInt64 :: st) = _
      unfold stC
      rw [if_pos o1, if_neg o2, ← p]
    · rw [evR_app, evR_app, b1, b2]
      show stR w (y, 0) (v2.toInt64 :: v1.toInt64 :: st) = _
      unfold stR
      rw [if_neg o3, if_neg o4, if_neg o5, ← q]
theorem heldF_32 (z : Int64) : ∃ v : Int32, heldF z = v.toInt64 := by
  unfold heldF
  by_cases c1 : 1000000000 < z
  · exact ⟨1000000000, by rw [if_pos c1]; decide⟩
  · by_cases c2 : z < -1000000000
    · exact ⟨-1000000000, by rw [if_neg c1, if_pos c2]; decide⟩
    · refine ⟨z.toInt32, ?_⟩
      rw [if_neg c1, if_neg c2]
      have a1 := Int64.le_iff_toInt_le.mp (Int64.not_lt.mp c1)
      have a2 := Int64.le_iff_toInt_le.mp (Int64.not_lt.mp c2)
      rw [show ((1000000000 : Int64)).toInt = 1000000000 from rfl] at a1
      rw [show ((-1000000000 : Int64)).toInt = -1000000000 from rfl] at a2
      rw [← Int64.toInt_inj, Int32.toInt_toInt64, Int64.toInt_toInt32, Int.bmod_eq_of_le (by omega) (by omega)]
theorem opC_mul {x y : Int64} : opC (-13) x y = heldF (x * y) := by unfold opC; rw [if_neg (by decide), if_neg (by decide), if_neg (by decide), if_neg (by decide), if_neg (by decide), if_neg (by decide), if_neg (by decide)]
theorem opC_add {x y : Int64} : opC (-11) x y = heldF (x + y) := by unfold opC; rw [if_neg (by decide), if_neg (by decide), if_neg (by decide), if_neg (by decide), if_neg (by decide), if_neg (by decide), if_pos rfl]
theorem opC_sub {x y : Int64} : opC (-12) x y = heldF (x - y) := by unfold opC; rw [if_neg (by decide), if_neg (by decide), if_neg (by decide), if_neg (by decide), if_neg (by decide), if_pos rfl]
theorem opR_mul {x y : Int64} : opR 4 x y = heldF (x * y) := by unfold opR; rw [if_neg (by decide), if_neg (by decide), if_pos rfl]
theorem opR_add {x y : Int64} : opR 2 x y = heldF (x + y) := by unfold opR; rw [if_pos rfl]
theorem opR_sub {x y : Int64} : opR 3 x y = heldF (x - y) := by unfold opR; rw [if_neg (by decide), if_pos rfl]
theorem opOK_mul {s x y : Int32} (h : mulO s = some (x, y)) : opOK false false x y := by
  unfold mulO at h
  by_cases c : s = 42
  · rw [if_pos c] at h
    cases h
    refine ⟨by decide, by decide, by decide, by decide, by decide, fun a b _ _ => ?_⟩
    obtain ⟨v, e⟩ := heldF_32 (a.toInt64 * b.toInt64)
    exact ⟨v, opC_mul.trans e, opR_mul.trans e, fun q => by cases q⟩
  · rw [if_neg c] at h; cases h
theorem opOK_sum {s x y : Int32} (h : sumO s = some (x, y)) : opOK false false x y := by
  unfold sumO at h
  by_cases c : s = 43
  · rw [if_pos c] at h
    cases h
    refine ⟨by decide, by decide, by decide, by decide, by decide, fun a b _ _ => ?_⟩
    obtain ⟨v, e⟩ := heldF_32 (a.toInt64 + b.toInt64)
    exact ⟨v, opC_add.trans e, opR_add.trans e, fun q => by cases q⟩
  · rw [if_neg c] at h
    by_cases c : s = 45
    · rw [if_pos c] at h
      cases h
      refine ⟨by decide, by decide, by decide, by decide, by decide, fun a b _ _ => ?_⟩
      obtain ⟨v, e⟩ := heldF_32 (a.toInt64 - b.toInt64)
      exact ⟨v, opC_sub.trans e, opR_sub.trans e, fun q => by cases q⟩
    · rw [if_neg c] at h; cases h
theorem opOK_rel {s x y : Int32} (h : relO s = some (x, y)) : opOK false true x y := by
  unfold relO at h
  have H : ∀ (P : Prop) [Decidable P], ∃ v : Int32, (if P then (1 : Int64) else 0) = v.toInt64 ∧ (v = 0 ∨ v = 1) := fun P _ => by
    by_cases c : P
    · exact ⟨1, by rw [if_pos c]; decide, Or.inr rfl⟩
    · exact ⟨0, by rw [if_neg c]; decide, Or.inl rfl⟩
  by_cases c : s = 60
  · rw [if_pos c] at h
    cases h
    refine ⟨by decide, by decide, by decide, by decide, by decide, fun a b _ _ => ?_⟩
    obtain ⟨v, e, k⟩ := H (a.toInt64 < b.toInt64)
    exact ⟨v, e, e, fun _ => k⟩
  · rw [if_neg c] at h
    by_cases c : s = 62
    · rw [if_pos c] at h
      cases h
      refine ⟨by decide, by decide, by decide, by decide, by decide, fun a b _ _ => ?_⟩
      obtain ⟨v, e, k⟩ := H (b.toInt64 < a.toInt64)
      exact ⟨v, e, e, fun _ => k⟩
    · rw [if_neg c] at h
      by_cases c : s = 61
      · rw [if_pos c] at h
        cases h
        refine ⟨by decide, by decide, by decide, by decide, by decide, fun a b _ _ => ?_⟩
        obtain ⟨v, e, k⟩ := H (a.toInt64 = b.toInt64)
        exact ⟨v, e, e, fun _ => k⟩
      · rw [if_neg c] at h; cases h
theorem opOK_and {s x y : Int32} (h : andO s = some (x, y)) : opOK true true x y := by
  unfold andO at h
  by_cases c : s = 268
  · rw [if_pos c] at h
    cases h
    refine ⟨by decide, by decide, by decide, by decide, by decide, fun a b ha hb => ?_⟩
    rcases ha rfl with rfl | rfl <;> rcases hb rfl with rfl | rfl
    · exact ⟨0, by decide, by decide, fun _ => Or.inl rfl⟩
    · exact ⟨0, by decide, by decide, fun _ => Or.inl rfl⟩
    · exact ⟨0, by decide, by decide, fun _ => Or.inl rfl⟩
    · exact ⟨1, by decide, by decide, fun _ => Or.inr rfl⟩
  · rw [if_neg c] at h; cases h
theorem opOK_or {s x y : Int32} (h : orO s = some (x, y)) : opOK true true x y := by
  unfold orO at h
  by_cases c : s = 269
  · rw [if_pos c] at h
    cases h
    refine ⟨by decide, by decide, by decide, by decide, by decide, fun a b ha hb => ?_⟩
    rcases ha rfl with rfl | rfl <;> rcases hb rfl with rfl | rfl
    · exact ⟨0, by decide, by decide, fun _ => Or.inl rfl⟩
    · exact ⟨1, by decide, by decide, fun _ => Or.inr rfl⟩
    · exact ⟨1, by decide, by decide, fun _ => Or.inr rfl⟩
    · exact ⟨1, by decide, by decide, fun _ => Or.inr rfl⟩
  · rw [if_neg c] at h; cases h
/-- all that it leaves is Good -/
def prG (bl : Bool) (h : Nat) (f : Nat → pR) : Prop := ∀ t t1 c r, f t = .inr (t1, c, r) → Good bl h c r
section PRG
variable {T : tkT} {V : Nat → Int32}
theorem loopP_G {bl : Bool} {h : Nat} {op : Int32 → Option (Int32 × Int32)} {f : Nat → pR} (ho : ∀ s x y, op s = some (x, y) → opOK bl bl x y) (hf : prG bl h f) : ∀ n t t1 c r c0 r0, Good bl (h + 1) c0 r0 → loopP T op f n t = .inr (t1, c, r) → Good bl (h + 1) (c0 ++ c) (r0 ++ r)
  | 0, t, t1, c, r, c0, r0, g, e => by
    cases e
    rw [List.append_nil, List.append_nil]; exact g
  | n + 1, t, t1, c, r, c0, r0, g, e => by
    unfold loopP at e
    cases o : op (T t).1 with
    | none =>
      rw [o] at e
      cases e
      rw [List.append_nil, List.append_nil]; exact g
    | some q =>
      obtain ⟨x, y⟩ := q
      rw [o] at e
      obtain ⟨t2, c2, r2, e2, e⟩ := pB_r e
      obtain ⟨t3, c3, r3, e3, e⟩ := pB_r e
      cases e
      have a := Good_bin g (hf _ _ _ _ e2) (Nat.le_refl _) (ho _ _ _ o)
      have b := loopP_G ho hf n _ _ _ _ _ _ a e3
      rw [show c0 ++ (c2 ++ x :: c3) = c0 ++ c2 ++ [x] ++ c3 by simp only [List.append_assoc, List.cons_append, List.nil_append], show r0 ++ (r2 ++ (y, 0) :: r3) = r0 ++ r2 ++ [(y, 0)] ++ r3 by simp only [List.append_assoc, List.cons_append, List.nil_append]]
      exact b
theorem chnP_G {bl : Bool} {h : Nat} {op : Int32 → Option (Int32 × Int32)} {f : Nat → pR} (ho : ∀ s x y, op s = some (x, y) → opOK bl bl x y) (hf : prG bl h f) : prG bl (h + 1) (chnP T op f) := by
  intro t t1 c r e
  obtain ⟨t2, c2, r2, e2, e⟩ := pB_r e
  obtain ⟨t3, c3, r3, e3, e⟩ := pB_r e
  cases e
  exact loopP_G ho hf _ _ _ _ _ _ _ (Good_up (hf _ _ _ _ e2) (Nat.le_succ _)) e3
theorem brP_G {bl : Bool} {h : Nat} {sub : Option (Nat → pR)} {s : Int32} (hf : ∀ f, sub = some f → prG bl h f) : prG bl h (brP T sub s) := by
  intro t t1 c r e
  unfold brP at e
  cases sub with
  | none => cases e
  | some f =>
    obtain ⟨t2, c2, r2, e2, e⟩ := pB_r e
    by_cases h2 : (T t2).1 = s
    · rw [if_pos h2] at e
      cases e
      exact hf f rfl _ _ _ _ e2
    · rw [if_neg h2] at e; cases e
theorem Good_num {h : Nat} (hh : 1 ≤ h) {v : Int32} (hv : 0 ≤ v) : Good false h [v] [(0, v)] := by
  refine ⟨fun c hc e => ?_, fun n hn => ?_, fun w hw st hs => ⟨v, ?_, rfl, fun q => by cases q⟩⟩
  · have : c = (0, v) := List.mem_singleton.mp hc
    subst this
    exact absurd e (show ¬ (0 : Int32) = 1 by decide)
  · unfold sfR
    rw [if_pos (Or.inl rfl)]
    exact ⟨by omega, trivial⟩
  · show stC w v st = _
    unfold stC
    have c1 : ¬ v < -10 := fun q => absurd (Int32.lt_of_le_of_lt hv q) (by decide)
    rw [if_neg c1, if_pos (by omega : st.length < 40), if_neg (Int32.not_lt.mpr hv)]
theorem Good_wd {h : Nat} (hh : 1 ≤ h) {k : Nat} (hk : k < 10) : Good false h [-1 - nI k] [(1, nI k)] := by
  have hx : ∀ k, k < 10 → (-1 - nI k < 0 ∧ ¬ -1 - nI k < -10) ∧ -1 - (-1 - nI k) = nI k := by decide
  obtain ⟨⟨x1, x2⟩, x3⟩ := hx k hk
  refine ⟨fun c hc _ => ?_, fun n hn => ?_, fun w hw st hs => ?_⟩
  · have : c = (1, nI k) := List.mem_singleton.mp hc
    subst this
    exact ⟨k, hk, rfl⟩
  · unfold sfR
    rw [if_pos (Or.inr rfl)]
    exact ⟨by omega, trivial⟩
  · obtain ⟨v, e⟩ := hw k
    refine ⟨v, ?_, ?_, fun q => by cases q⟩
    · show stC w (-1 - nI k) st = _
      unfold stC
      rw [if_neg x2, if_pos (by omega : st.length < 40), if_pos x1, x3, nI_clamp (by omega), e]
    · show stR w (1, nI k) st = _
      unfold stR
      rw [if_neg (show ¬ (1 : Int32) = 0 by decide), if_pos rfl, ← e]
      show w (nI k).toNatClampNeg :: st = _
      rw [nI_clamp (by omega)]
/-- of TOKENS: known words and no others stand above 270, numbers are no numbers below 0 -/
def tkOK (T : tkT) (V : Nat → Int32) : Prop := (∀ t, (T t).1 ≠ 256 → t < 300) ∧ (∀ t, (T t).1 ≤ 280) ∧ ∀ t, 0 ≤ V t
theorem numP_G {h : Nat} (hh : 1 ≤ h) (hV : ∀ t, 0 ≤ V t) {lo hi : Int32} : prG false h (numP T V lo hi) := by
  intro t t1 c r e
  unfold numP at e
  by_cases h1 : (T t).1 ≠ 257 ∨ 4 < (T t).2.2 - (T t).2.1
  · rw [if_pos h1] at e; cases e
  · rw [if_neg h1] at e
    by_cases h2 : lo ≤ V t ∧ V t ≤ hi
    · rw [if_pos h2] at e
      cases e
      exact Good_num hh (hV t)
    · rw [if_neg h2] at e; cases e
theorem wd_of {s : Int32} (h1 : ¬ s < 271) (h2 : s ≤ 280) : ∃ k, k < 10 ∧ s = nI (271 + k) ∧ 270 - s = -1 - nI k ∧ s - 271 = nI k := by
  obtain ⟨j, hj, rfl⟩ := nI_of (x := s) (fun q => h1 (Int32.lt_trans q (by decide)))
  have a : 271 ≤ j := by
    refine Classical.byContradiction fun q => h1 ?_
    exact nI_lt (b := 271) (by omega) (by omega)
  have b : j ≤ 280 := (nI_leI (b := 280) hj (by omega)).mp h2
  have hx : ∀ k, k < 10 → 270 - nI (271 + k) = -1 - nI k ∧ nI (271 + k) - 271 = nI k := by decide
  obtain ⟨x1, x2⟩ := hx (j - 271) (by omega)
  have e : 271 + (j - 271) = j := by omega
  rw [e] at x1 x2
  exact ⟨j - 271, by omega, by rw [e], x1, x2⟩
theorem facP_G {h : Nat} (hh : 1 ≤ h) (k : tkOK T V) {sub : Option (Nat → pR)} (hf : ∀ f, sub = some f → prG false h f) : prG false h (facP T V sub) := by
  intro t t1 c r e
  unfold facP at e
  by_cases h1 : 258 ≤ (T t).1
  · rw [if_pos h1] at e
    by_cases h2 : (T t).1 < 271
    · rw [if_pos h2] at e; cases e
    · rw [if_neg h2] at e
      cases e
      obtain ⟨q, hq, -, e1, e2⟩ := wd_of h2 (k.2.1 t)
      rw [e1, e2]
      exact Good_wd hh hq
  · rw [if_neg h1] at e
    by_cases h3 : (T t).1 = 40
    · rw [if_pos h3] at e
      exact brP_G hf _ _ _ _ e
    · rw [if_neg h3] at e
      exact numP_G hh k.2.2 _ _ _ _ e
theorem sumW_G {h : Nat} (hh : 1 ≤ h) (k : tkOK T V) {sub : Option (Nat → pR)} (hf : ∀ f, sub = some f → prG false h f) : prG false (h + 2) (sumW T V sub) := chnP_G (fun _ _ _ => opOK_sum) (chnP_G (fun _ _ _ => opOK_mul) (facP_G hh k hf))
theorem sumP_G (k : tkOK T V) : ∀ n, prG false (3 + 2 * n) (sumP T V n)
  | 0 => sumW_G (h := 1) (by omega) k (fun f h => by cases h)
  | n + 1 => sumW_G (h := 3 + 2 * n) (by omega) k (fun f h => by cases h; exact sumP_G k n)
theorem cmpP_G {h : Nat} {sm : Nat → pR} (hf : prG false h sm) : prG true (h + 1) (cmpP T sm) := by
  intro t t1 c r e
  obtain ⟨t2, c2, r2, e2, e⟩ := pB_r e
  cases ho : relO (T t2).1 with
  | none => rw [ho] at e; cases e
  | some q =>
    obtain ⟨x, y⟩ := q
    rw [ho] at e
    obtain ⟨t3, c3, r3, e3, e⟩ := pB_r e
    cases e
    exact Good_bin (Good_up (hf _ _ _ _ e2) (Nat.le_succ _)) (hf _ _ _ _ e3) (Nat.le_refl _) (opOK_rel ho)
theorem evR_nt {w : Nat → Int64} {st : List Int64} : ∀ (q : Nat) (v : Int32), (v = 0 ∨ v = 1) → evR w (List.replicate q (8, 0)) (v.toInt64 :: st) = (if q % 2 = 1 then 1 - v else v).toInt64 :: st
  | 0, v, _ => rfl
  | q + 1, v, h => by
    have e1 : (1 : Int64) - v.toInt64 = (1 - v).toInt64 := by rcases h with rfl | rfl <;> decide
    have e2 : 1 - (1 - v) = v := by rcases h with rfl | rfl <;> decide
    have h' : 1 - v = 0 ∨ 1 - v = 1 := by rcases h with rfl | rfl <;> decide
    show evR w (List.replicate q (8, 0)) ((1 - v.toInt64) :: st) = _
    rw [e1, evR_nt q (1 - v) h', e2]
    by_cases c : q % 2 = 1
    · rw [if_pos c, if_neg (by omega)]
    · rw [if_neg c, if_pos (by omega)]
theorem sfR_nt : ∀ (q n : Nat), 1 ≤ n → sfR (List.replicate q (8, 0)) n
  | 0, _, _ => trivial
  | q + 1, n, h => by
    show sfR ((8, 0) :: List.replicate q (8, 0)) n
    unfold sfR
    rw [if_neg (by decide), if_pos rfl]
    exact ⟨h, sfR_nt q n h⟩
theorem Good_not {h q : Nat} {c : List Int32} {r : cdT} (g : Good true h c r) : Good true h (c ++ (if q % 2 = 1 then [-19] else [])) (r ++ List.replicate q (8, 0)) := by
  refine ⟨fun x hx e => ?_, fun n hn => ?_, fun w hw st hs => ?_⟩
  · rcases List.mem_append.mp hx with k | k
    · exact g.1 x k e
    · rw [List.eq_of_mem_replicate k] at e
      exact absurd e (show ¬ (8 : Int32) = 1 by decide)
  · have e0 : (List.replicate n (0 : Int64)).length = n := List.length_replicate
    have hw0 : ∀ k : Nat, ∃ x : Int32, (fun _ : Nat => (0 : Int64)) k = x.toInt64 := fun _ => ⟨0, rfl⟩
    obtain ⟨v1, -, e1, -⟩ := g.2.2 (fun _ => 0) hw0 (List.replicate n 0) (by omega)
    rw [← e0]
    refine sfR_app (w := fun _ => 0) _ _ _ (g.2.1 _ (by omega)) ?_
    rw [e1]
    exact sfR_nt q _ (by simp only [List.length_cons]; omega)
  · obtain ⟨v, a, b, k⟩ := g.2.2 w hw st hs
    have k := k rfl
    refine ⟨if q % 2 = 1 then 1 - v else v, ?_, ?_, fun _ => ?_⟩
    · rw [evC_app, a]
      by_cases c : q % 2 = 1
      · rw [if_pos c, if_pos c]
        show stC w (-19) (v.toInt64 :: st) = _
        unfold stC
        rw [if_pos (by decide), if_pos rfl]
        show (1 - v.toInt64) :: st = _
        rw [show (1 : Int64) - v.toInt64 = (1 - v).toInt64 by rcases k with rfl | rfl <;> decide]
      · rw [if_neg c, if_neg c]; rfl
    · rw [evR_app, b, evR_nt q v k]
    · by_cases c : q % 2 = 1
      · rw [if_pos c]; rcases k with rfl | rfl <;> decide
      · rw [if_neg c]; exact k
theorem parP_G {h : Nat} {sub : Option (Nat → pR)} {sm : Nat → pR} (hf : ∀ f, sub = some f → prG true (h + 1) f) (hs : prG false h sm) : prG true (h + 1) (parP T sub sm) := by
  intro t t1 c r e
  obtain ⟨t2, c2, r2, e2, e⟩ := pB_r e
  cases e
  refine Good_not ?_
  by_cases c : (T (t + ntF T 300 t)).1 = 91
  · rw [if_pos c] at e2
    exact brP_G hf _ _ _ _ e2
  · rw [if_neg c] at e2
    exact cmpP_G hs _ _ _ _ e2
theorem cndW_G {h : Nat} {sub : Option (Nat → pR)} {sm : Nat → pR} (hf : ∀ f, sub = some f → prG true (h + 1) f) (hs : prG false h sm) : prG true (h + 3) (cndW T sub sm) := chnP_G (fun _ _ _ => opOK_or) (chnP_G (fun _ _ _ => opOK_and) (parP_G hf hs))
theorem cndP_G (k : tkOK T V) : ∀ n, prG true (6 + 2 * n) (cndP T V n)
  | 0 => cndW_G (h := 3) (fun f h => by cases h) (sumP_G k 0)
  | n + 1 => by
    have a := cndW_G (T := T) (h := 3 + 2 * (n + 1)) (sub := some (cndP T V n)) (fun f h => by cases h; exact (fun t t1 c r e => Good_up (cndP_G k n t t1 c r e) (by omega))) (sumP_G k (n + 1))
    exact fun t t1 c r e => Good_up (a t t1 c r e) (by omega)
end PRG
