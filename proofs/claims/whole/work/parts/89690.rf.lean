/-! THE REFERENCE'S READER: its memory while it reads -/
def rfX (σ : aM) (fr ov va : Int32) (le : Int64) (op tk n : Int32) (g h : Nat → Int32) (k p : Int32) : aM := sI (sI (sI (sI (sI (sI (sI (sI (sL (sIr (sIr σ 73 0 g) 74 0 h) 4 0 51 le) 4 0 48 fr) 4 0 49 ov) 4 0 50 va) 4 0 52 op) 4 0 53 tk) 4 0 41 n) 4 0 47 k) 4 0 46 p
section RX
variable {σ : aM} {fr ov va op tk n k p v : Int32} {le w : Int64} {g h : Nat → Int32} {a b c j : Nat}
theorem rx_48 : gI (rfX σ fr ov va le op tk n g h k p) 4 0 48 = fr := rfl
theorem rx_49 : gI (rfX σ fr ov va le op tk n g h k p) 4 0 49 = ov := rfl
theorem rx_50 : gI (rfX σ fr ov va le op tk n g h k p) 4 0 50 = va := rfl
theorem rx_52 : gI (rfX σ fr ov va le op tk n g h k p) 4 0 52 = op := rfl
theorem rx_53 : gI (rfX σ fr ov va le op tk n g h k p) 4 0 53 = tk := rfl
theorem rx_41 : gI (rfX σ fr ov va le op tk n g h k p) 4 0 41 = n := rfl
theorem rx_47 : gI (rfX σ fr ov va le op tk n g h k p) 4 0 47 = k := rfl
theorem rx_46 : gI (rfX σ fr ov va le op tk n g h k p) 4 0 46 = p := rfl
theorem rx_51 : gL (rfX σ fr ov va le op tk n g h k p) 4 0 51 = le := rfl
theorem rx_73 : gI (rfX σ fr ov va le op tk n g h k p) 73 0 j = g j := rfl
theorem rx_74 : gI (rfX σ fr ov va le op tk n g h k p) 74 0 j = h j := rfl
theorem rx_27 : gI (rfX σ fr ov va le op tk n g h k p) 4 0 27 = gI σ 4 0 27 := rfl
theorem rx_45 : gI (rfX σ fr ov va le op tk n g h k p) 4 0 45 = gI σ 4 0 45 := rfl
theorem rx_a (q4 : a ≠ 4) (q3 : a ≠ 73) (q5 : a ≠ 74) : gI (rfX σ fr ov va le op tk n g h k p) a b c = gI σ a b c := by
  show (if _ then _ else if _ then _ else if _ then _ else if _ then _ else if _ then _ else if _ then _ else if _ then _ else if _ then _ else if _ then _ else if _ then _ else _) = _
  rw [if_neg (fun q => q4 q.1), if_neg (fun q => q4 q.1), if_neg (fun q => q4 q.1), if_neg (fun q => q4 q.1), if_neg (fun q => q4 q.1), if_neg (fun q => q4 q.1), if_neg (fun q => q4 q.1), if_neg (fun q => q4 q.1), if_neg (fun q => q5 q.1), if_neg (fun q => q3 q.1)]
  rfl
theorem rx_l (q4 : a ≠ 4) : gL (rfX σ fr ov va le op tk n g h k p) a b c = gL σ a b c := if_neg (fun q => q4 q.1)
theorem rx_R : gR (rfX σ fr ov va le op tk n g h k p) a b c = gR σ a b c := rfl
theorem rx_N : gN (rfX σ fr ov va le op tk n g h k p) a b = gN σ a b := rfl
theorem rx_C : gC (rfX σ fr ov va le op tk n g h k p) a = gC σ a := rfl
theorem rx_B : gB (rfX σ fr ov va le op tk n g h k p) = gB σ := rfl
theorem Sh_rx (S : Sh σ) : Sh (rfX σ fr ov va le op tk n g h k p) := S
theorem sx_48 : sI (rfX σ fr ov va le op tk n g h k p) 4 0 48 v = rfX σ v ov va le op tk n g h k p := by
  unfold rfX sI sIr sL am_u3
  refine Prod.ext ?_ rfl
  funext a b c
  dsimp only
  by_cases c0 : a = 4 ∧ b = 0 ∧ c = 48
  · obtain ⟨rfl, rfl, rfl⟩ := c0; rfl
  · simp only [c0, if_false]
theorem sx_49 : sI (rfX σ fr ov va le op tk n g h k p) 4 0 49 v = rfX σ fr v va le op tk n g h k p := by
  unfold rfX sI sIr sL am_u3
  refine Prod.ext ?_ rfl
  funext a b c
  dsimp only
  by_cases c0 : a = 4 ∧ b = 0 ∧ c = 49
  · obtain ⟨rfl, rfl, rfl⟩ := c0; rfl
  · simp only [c0, if_false]
theorem sx_50 : sI (rfX σ fr ov va le op tk n g h k p) 4 0 50 v = rfX σ fr ov v le op tk n g h k p := by
  unfold rfX sI sIr sL am_u3
  refine Prod.ext ?_ rfl
  funext a b c
  dsimp only
  by_cases c0 : a = 4 ∧ b = 0 ∧ c = 50
  · obtain ⟨rfl, rfl, rfl⟩ := c0; rfl
  · simp only [c0, if_false]
theorem sx_52 : sI (rfX σ fr ov va le op tk n g h k p) 4 0 52 v = rfX σ fr ov va le v tk n g h k p := by
  unfold rfX sI sIr sL am_u3
  refine Prod.ext ?_ rfl
  funext a b c
  dsimp only
  by_cases c0 : a = 4 ∧ b = 0 ∧ c = 52
  · obtain ⟨rfl, rfl, rfl⟩ := c0; rfl
  · simp only [c0, if_false]
theorem sx_53 : sI (rfX σ fr ov va le op tk n g h k p) 4 0 53 v = rfX σ fr ov va le op v n g h k p := by
  unfold rfX sI sIr sL am_u3
  refine Prod.ext ?_ rfl
  funext a b c
  dsimp only
  by_cases c0 : a = 4 ∧ b = 0 ∧ c = 53
  · obtain ⟨rfl, rfl, rfl⟩ := c0; rfl
  · simp only [c0, if_false]
theorem sx_41 : sI (rfX σ fr ov va le op tk n g h k p) 4 0 41 v = rfX σ fr ov va le op tk v g h k p := by
  unfold rfX sI sIr sL am_u3
  refine Prod.ext ?_ rfl
  funext a b c
  dsimp only
  by_cases c0 : a = 4 ∧ b = 0 ∧ c = 41
  · obtain ⟨rfl, rfl, rfl⟩ := c0; rfl
  · simp only [c0, if_false]
theorem sx_47 : sI (rfX σ fr ov va le op tk n g h k p) 4 0 47 v = rfX σ fr ov va le op tk n g h v p := by
  unfold rfX sI sIr sL am_u3
  refine Prod.ext ?_ rfl
  funext a b c
  dsimp only
  by_cases c0 : a = 4 ∧ b = 0 ∧ c = 47
  · obtain ⟨rfl, rfl, rfl⟩ := c0; rfl
  · simp only [c0, if_false]
theorem sx_46 : sI (rfX σ fr ov va le op tk n g h k p) 4 0 46 v = rfX σ fr ov va le op tk n g h k v := by
  unfold rfX sI sIr sL am_u3
  refine Prod.ext ?_ rfl
  funext a b c
  dsimp only
  by_cases c0 : a = 4 ∧ b = 0 ∧ c = 46
  · obtain ⟨rfl, rfl, rfl⟩ := c0; rfl
  · simp only [c0, if_false]
theorem sx_73 : sI (rfX σ fr ov va le op tk n g h k p) 73 0 j v = rfX σ fr ov va le op tk n (fun i => if i = j then v else g i) h k p := by
  unfold rfX sI sIr sL am_u3
  refine Prod.ext ?_ rfl
  funext a b c
  dsimp only
  by_cases ha : a = 73
  · subst ha
    by_cases hb : b = 0
    · subst hb
      by_cases hc : c = j
      · subst hc; simp
      · simp [hc]
    · simp [hb]
  · simp [ha]
theorem sx_74 : sI (rfX σ fr ov va le op tk n g h k p) 74 0 j v = rfX σ fr ov va le op tk n g (fun i => if i = j then v else h i) k p := by
  unfold rfX sI sIr sL am_u3
  refine Prod.ext ?_ rfl
  funext a b c
  dsimp only
  by_cases ha : a = 74
  · subst ha
    by_cases hb : b = 0
    · subst hb
      by_cases hc : c = j
      · subst hc; simp
      · simp [hc]
    · simp [hb]
  · simp [ha]
theorem sx_51 : sL (rfX σ fr ov va le op tk n g h k p) 4 0 51 w = rfX σ fr ov va w op tk n g h k p := by
  unfold rfX sI sIr sL am_u3
  refine Prod.ext rfl (Prod.ext ?_ rfl)
  funext a b c
  dsimp only
  by_cases c0 : a = 4 ∧ b = 0 ∧ c = 51
  · obtain ⟨rfl, rfl, rfl⟩ := c0; rfl
  · simp only [c0, if_false]
end RX
def rfK (x : Int32 × Nat × Nat) : Int32 := if x.1 = 256 then 0 else if 258 ≤ x.1 then 1 else if x.1 = 257 ∧ x.2.2 - x.2.1 ≤ 4 then 2 else 3
/-- value and letters of TOKENS -/
abbrev ukT : Type := Nat → Int32 × Int64
def rfM (σ : aM) (T : tkT) (U : ukT) (t op n : Nat) (g h : Nat → Int32) (k p : Int32) : aM := rfX σ (nI (T t).2.1) (nI (T t).2.2) (U t).1 (U t).2 (nI op) (rfK (T t)) (nI n) g h k p
/-- alike below a place -/
def agF (ox : Nat) (g g1 : Nat → Int32) : Prop := ∀ j, j < ox → g1 j = g j
theorem agF_rf {ox : Nat} {g : Nat → Int32} : agF ox g g := fun _ _ => rfl
theorem agF_tr {ox : Nat} {g g1 g2 : Nat → Int32} (h1 : agF ox g g1) (h2 : agF ox g1 g2) : agF ox g g2 := fun j hj => (h2 j hj).trans (h1 j hj)
theorem agF_wc {ox n : Nat} {g : Nat → Int32} {c : List Int32} : agF ox g (wcF g (ox + n) c) := fun j hj => if_neg (fun q => by omega)
def rPost (σ : aM) (T : tkT) (U : ukT) (ox op n : Nat) (g h : Nat → Int32) (x : pR) (Q : aR → aM → Prop) : Prop := match x with
  | .inl (k, p) => ∀ fr ov va le op1 tk n1 g1 h1, agF ox g g1 → agF ox h h1 → Q (some (some (vi 0))) (rfX σ fr ov va le op1 tk n1 g1 h1 k (nI p))
  | .inr (t1, _, r) => Q (some (some (vi 1))) (rfM σ T U t1 op (n + r.length) (wcF g (ox + n) (r.map Prod.fst)) (wcF h (ox + n) (r.map Prod.snd)) 0 (-1))
theorem rPost_r {σ : aM} {T : tkT} {U : ukT} {ox op n t1 : Nat} {g h : Nat → Int32} {c : List Int32} {r : cdT} {Q : aR → aM → Prop} (q : Q (some (some (vi 1))) (rfM σ T U t1 op (n + r.length) (wcF g (ox + n) (r.map Prod.fst)) (wcF h (ox + n) (r.map Prod.snd)) 0 (-1))) : rPost σ T U ox op n g h (.inr (t1, c, r)) Q := q
def rOK (σ : aM) (T : tkT) (U : ukT) (ox op dd m : Nat) (E : aL) (f : Nat → pR) : Prop := ∀ D Q t n g h, dd ≤ D → n ≤ t → t ≤ 300 → rPost σ T U ox op n g h (f t) Q → WP D m 0 E [] (rfM σ T U t op n g h 0 (-1)) Q
/-- the reference reads these TOKENS: next, signs, words -/
def nxR (σ : aM) (T : tkT) (U : ukT) : Prop := ∀ {D : Nat} {Q : aR → aM → Prop} {t op n : Nat} {g h : Nat → Int32} {k p : Int32}, t ≤ 300 → (WP (D + 1) 152 0 [some (vr (some (4, 0))), none] [] (rfM σ T U t op n g h k p) Q ↔ Q (some none) (rfM σ T U (t + 1) op n g h k p))
def sxR (σ : aM) (T : tkT) (U : ukT) : Prop := ∀ {D : Nat} {Q : aR → aM → Prop} {t op n : Nat} {g h : Nat → Int32} {k p c : Int32}, c < 256 → (WP (D + 2) 154 0 [some (vr (some (4, 0))), some (vi c)] [] (rfM σ T U t op n g h k p) Q ↔ Q (some (some (vi (bI ((T t).1 = c))))) (rfM σ T U t op n g h k p))
def wdR (σ : aM) (T : tkT) (U : ukT) : Prop := ∀ {D : Nat} {Q : aR → aM → Prop} {t op n i : Nat} {g h : Nat → Int32} {k p : Int32}, i < 22 → (WP (D + 2) 153 0 [some (vr (some (4, 0))), some (vr (some (1, i))), none, none] [] (rfM σ T U t op n g h k p) Q ↔ Q (some (some (vi (bI ((T t).1 = nI (259 + i)))))) (rfM σ T U t op n g h k p))
theorem WP_iff {d m pc : Nat} {l : aL} {st : List aV} {σ s : aM} {v : aR} (h : ∀ Q : aR → aM → Prop, Q v s → WP d m pc l st σ Q) {Q : aR → aM → Prop} : WP d m pc l st σ Q ↔ Q v s := by
  refine ⟨fun k => ?_, h Q⟩
  obtain ⟨a, b, ⟨⟨e1, e2⟩, hq⟩, -⟩ := WP_one (WP_both (h (fun a b => a = v ∧ b = s) ⟨rfl, rfl⟩) k)
  rw [← e1, ← e2]; exact hq
section RM
variable {σ : aM} {T : tkT} {U : ukT} {t op n op1 : Nat} {g h : Nat → Int32} {k p : Int32} {a b c : Nat}
theorem rm_53 : gI (rfM σ T U t op n g h k p) 4 0 53 = rfK (T t) := rfl
theorem rm_50 : gI (rfM σ T U t op n g h k p) 4 0 50 = (U t).1 := rfl
theorem rm_51 : gL (rfM σ T U t op n g h k p) 4 0 51 = (U t).2 := rfl
theorem rm_48 : gI (rfM σ T U t op n g h k p) 4 0 48 = nI (T t).2.1 := rfl
theorem rm_49 : gI (rfM σ T U t op n g h k p) 4 0 49 = nI (T t).2.2 := rfl
theorem rm_52 : gI (rfM σ T U t op n g h k p) 4 0 52 = nI op := rfl
theorem rm_41 : gI (rfM σ T U t op n g h k p) 4 0 41 = nI n := rfl
theorem rm_47 : gI (rfM σ T U t op n g h k p) 4 0 47 = k := rfl
theorem rm_46 : gI (rfM σ T U t op n g h k p) 4 0 46 = p := rfl
theorem rm_27 : gI (rfM σ T U t op n g h k p) 4 0 27 = gI σ 4 0 27 := rfl
theorem rm_R : gR (rfM σ T U t op n g h k p) a b c = gR σ a b c := rfl
theorem rm_N : gN (rfM σ T U t op n g h k p) a b = gN σ a b := rfl
theorem rm_C : gC (rfM σ T U t op n g h k p) a = gC σ a := rfl
theorem rm_B : gB (rfM σ T U t op n g h k p) = gB σ := rfl
theorem rm_a (q4 : a ≠ 4) (q3 : a ≠ 73) (q5 : a ≠ 74) : gI (rfM σ T U t op n g h k p) a b c = gI σ a b c := rx_a q4 q3 q5
theorem sm_52 : sI (rfM σ T U t op n g h k p) 4 0 52 (nI op1) = rfM σ T U t op1 n g h k p := sx_52
theorem sm_47 {k1 : Int32} : sI (rfM σ T U t op n g h k p) 4 0 47 k1 = rfM σ T U t op n g h k1 p := sx_47
theorem sm_46 {p1 : Int32} : sI (rfM σ T U t op n g h k p) 4 0 46 p1 = rfM σ T U t op n g h k p1 := sx_46
theorem Sh_rm (S : Sh σ) : Sh (rfM σ T U t op n g h k p) := S
theorem Rd155 {d : Nat} {w : Int32} {Q : aR → aM → Prop} (S : Sh σ) : WP d 155 0 [some (vr (some (4, 0))), some (vi w)] [] (rfM σ T U t op n g h 0 p) Q ↔ Q (some (some (vi 0))) (rfM σ T U t op n g h w (nI (T t).2.1)) := by
  rw [C155n (Sh_rm S) rm_47, rm_48, sm_47, sm_46]
theorem Rd163 {d tx : Nat} {x y : Int32} {Q : aR → aM → Prop} (S : Sh σ) (ht : gI σ 4 0 27 = nI tx) (h12 : tx < 12) (hn : n < 320) : WP d 163 0 [some (vr (some (4, 0))), some (vi x), some (vi y)] [] (rfM σ T U t op n g h k p) Q ↔ Q (some none) (rfM σ T U t op (n + 1) (wcF g (320 * tx + n) [x]) (wcF h (320 * tx + n) [y]) k p) := by
  rw [C163 (Sh_rm S) (t := tx) (c := n) ht rm_41 h12 hn]
  unfold rfM
  rw [sx_73, sx_74, sx_41, wr_one, wr_one]
end RM
