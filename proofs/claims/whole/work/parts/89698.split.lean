/-! TOKENS: as the class comes to them, byte by byte -/
def rwF (s : Int32) : Int32 := if 258 ≤ s then 258 else s
theorem sr_258 {b : Int32} (h : b < 256) : srF b = 258 ↔ lwB b = true := by
  unfold srF lwB
  by_cases c1 : b = 32 ∨ b = 10
  · rw [if_pos c1]
    rcases c1 with rfl | rfl <;> decide
  · rw [if_neg c1]
    by_cases c2 : 97 ≤ b ∧ b ≤ 122
    · rw [if_pos c2]
      exact ⟨fun _ => decide_eq_true c2, fun _ => rfl⟩
    · rw [if_neg c2]
      refine ⟨fun e => ?_, fun e => absurd (of_decide_eq_true e) c2⟩
      by_cases c3 : 48 ≤ b ∧ b ≤ 57
      · rw [if_pos c3] at e; exact absurd e (by decide)
      · rw [if_neg c3] at e; rw [e] at h; exact absurd h (by decide)
theorem sr_257 {b : Int32} (h : b < 256) : srF b = 257 ↔ dgB b = true := by
  unfold srF dgB
  by_cases c1 : b = 32 ∨ b = 10
  · rw [if_pos c1]
    rcases c1 with rfl | rfl <;> decide
  · rw [if_neg c1]
    by_cases c2 : 97 ≤ b ∧ b ≤ 122
    · rw [if_pos c2]
      refine ⟨fun e => absurd e (by decide), fun e => ?_⟩
      have := (of_decide_eq_true e).2
      exact absurd (Int32.le_trans c2.1 this) (by decide)
    · rw [if_neg c2]
      by_cases c3 : 48 ≤ b ∧ b ≤ 57
      · rw [if_pos c3]
        exact ⟨fun _ => decide_eq_true c3, fun _ => rfl⟩
      · rw [if_neg c3]
        exact ⟨fun e => by rw [e] at h; exact absurd h (by decide), fun e => absurd (of_decide_eq_true e) c3⟩
theorem sr_256 {b : Int32} (h : b < 256) : srF b = 256 ↔ blB b = true := by
  unfold srF blB
  rw [Bool.or_eq_true, beq_iff_eq, beq_iff_eq]
  by_cases c1 : b = 32 ∨ b = 10
  · rw [if_pos c1]
    exact ⟨fun _ => c1, fun _ => rfl⟩
  · rw [if_neg c1]
    refine ⟨fun e => ?_, fun e => absurd e c1⟩
    by_cases c2 : 97 ≤ b ∧ b ≤ 122
    · rw [if_pos c2] at e; exact absurd e (by decide)
    · rw [if_neg c2] at e
      by_cases c3 : 48 ≤ b ∧ b ≤ 57
      · rw [if_pos c3] at e; exact absurd e (by decide)
      · rw [if_neg c3] at e; rw [e] at h; exact absurd h (by decide)
theorem sr_x {b : Int32} (h1 : blB b = false) (h2 : lwB b = false) (h3 : dgB b = false) : srF b = b := by
  unfold srF
  unfold blB at h1
  unfold lwB at h2
  unfold dgB at h3
  rw [if_neg (fun q => by
    rcases q with rfl | rfl <;> exact absurd h1 (by decide)), if_neg (of_decide_eq_false h2), if_neg (of_decide_eq_false h3)]
section SPL
variable {B : Nat → Int32} {L : Nat}
/-- what a TOKEN is made of -/
def tkIn (B : Nat → Int32) (L : Nat) (x : Int32 × Nat × Nat) : Prop := x.2.1 < x.2.2 ∧ x.2.2 ≤ L ∧ srF (B x.2.1) ≠ 256 ∧ rwF x.1 = srF (B x.2.1) ∧ (∀ j, x.2.1 < j → j < x.2.2 → srF (B j) = srF (B (j - 1)) ∧ (srF (B j) = 257 ∨ srF (B j) = 258)) ∧ (x.2.2 < L → ¬ (srF (B x.2.2) = srF (B (x.2.2 - 1)) ∧ (srF (B x.2.2) = 257 ∨ srF (B x.2.2) = 258))) ∧ (258 ≤ x.1 → x.1 = knL B x.2.1 x.2.2 22 0)
theorem tok_in (hB : ∀ j, 0 ≤ B j ∧ B j < 256) {x : Nat} (hx : x ≤ L) (h : (tokF B L x).1 ≠ 256) : x ≤ (tokF B L x).2.1 ∧ (∀ j, x ≤ j → j < (tokF B L x).2.1 → blB (B j) = true) ∧ tkIn B L (tokF B L x) := by
  rcases tok_cases (B := B) (L := L) x hx with ⟨e, -⟩ | ⟨s, b, e1, e2, h1, h2, h3, h4, h5, c⟩
  · rw [e] at h; exact absurd rfl h
  · unfold tkIn
    rw [e1, e2]
    refine ⟨h1, h4, h2, h3, fun e => ?_, ?_⟩
    · rw [(sr_256 (hB s).2).mp e] at h5; cases h5
    · rcases c with ⟨c, cb, cs⟩ | ⟨c, cb, cl, cs⟩ | ⟨c, cb, cl, cs⟩
      · have hin : ∀ j, s ≤ j → j < b → srF (B j) = 258 := fun j a1 a2 => (sr_258 (hB j).2).mpr (rn_in _ _ j a1 (by rw [← cb]; exact a2))
        rw [c]
        refine ⟨?_, fun j a1 a2 => ?_, fun a => ?_, fun _ => rfl⟩
        · unfold rwF
          rw [if_pos (knL_in (B := B) 22 0 s b rfl).1, hin s (Nat.le_refl _) h2]
        · rw [hin j (by omega) a2, hin (j - 1) (by omega) (by omega)]
          exact ⟨rfl, Or.inr rfl⟩
        · rintro ⟨q1, -⟩
          rw [hin (b - 1) (by omega) (by omega)] at q1
          have := rn_end (p := lwB) (B := B) (L - s) s (by rw [← cb]; omega)
          rw [← cb, (sr_258 (hB b).2).mp q1] at this
          cases this
      · have hin : ∀ j, s ≤ j → j < b → srF (B j) = 257 := fun j a1 a2 => (sr_257 (hB j).2).mpr (rn_in _ _ j a1 (by rw [← cb]; exact a2))
        rw [c]
        refine ⟨?_, fun j a1 a2 => ?_, fun a => ?_, fun q => absurd q (by decide)⟩
        · rw [hin s (Nat.le_refl _) h2]; decide
        · rw [hin j (by omega) a2, hin (j - 1) (by omega) (by omega)]
          exact ⟨rfl, Or.inl rfl⟩
        · rintro ⟨q1, -⟩
          rw [hin (b - 1) (by omega) (by omega)] at q1
          have := rn_end (p := dgB) (B := B) (L - s) s (by rw [← cb]; omega)
          rw [← cb, (sr_257 (hB b).2).mp q1] at this
          cases this
      · have e := sr_x h5 cl cs
        have hlt : ¬ 258 ≤ B s := fun q => absurd (Int32.lt_of_le_of_lt q (hB s).2) (by decide)
        rw [c]
        refine ⟨?_, fun j a1 a2 => by omega, fun a => ?_, fun q => absurd q hlt⟩
        · unfold rwF
          rw [if_neg hlt, e]
        · rintro ⟨q1, q2⟩
          rw [q1, cb, Nat.add_sub_cancel] at q2
          rcases q2 with q2 | q2
          · rw [(sr_257 (hB s).2).mp q2] at cs; cases cs
          · rw [(sr_258 (hB s).2).mp q2] at cl; cases cl
theorem tok_sk : ∀ k x, x + k ≤ L → (∀ j, x ≤ j → j < x + k → blB (B j) = true) → tokF B L x = tokF B L (x + k)
  | 0, _, _, _ => rfl
  | k + 1, x, h1, h2 => by
    rw [tok_bl (by omega) (h2 x (Nat.le_refl _) (by omega)), tok_sk k (x + 1) (by omega) (fun j a b => h2 j (by omega) (by omega))]
    rw [show x + 1 + k = x + (k + 1) by omega]
def bfF (B : Nat → Int32) (i : Nat) : Int32 := if i = 0 then 256 else srF (B (i - 1))
/-- what stands in the class's rows behind i bytes: c TOKENS -/
def spI (B : Nat → Int32) (L i c : Nat) (f g h : Nat → Int32) : Prop := c ≤ i ∧ (∀ t, t + 1 < c → f t = rwF (toksF B L t).1 ∧ g t = nI (toksF B L t).2.1 ∧ h t = nI (toksF B L t).2.2) ∧ (c = 0 → ∀ j, j < i → blB (B j) = true) ∧ ∀ q, c = q + 1 → (toksF B L q).1 ≠ 256 ∧ (toksF B L q).2.1 < i ∧ f q = rwF (toksF B L q).1 ∧ g q = nI (toksF B L q).2.1 ∧ h q = nI (min i (toksF B L q).2.2) ∧ ∀ j, (toksF B L q).2.2 ≤ j → j < i → blB (B j) = true
def upN (f : Nat → Int32) (j : Nat) (v : Int32) : Nat → Int32 := fun i => if i = j then v else f i
theorem spI_0 {f g h : Nat → Int32} : spI B L 0 0 f g h := ⟨Nat.le_refl _, fun t a => absurd a (by omega), fun _ j a => absurd a (by omega), fun q a => absurd a (by omega)⟩
theorem toks_in (hB : ∀ j, 0 ≤ B j ∧ B j < 256) {t : Nat} (h : (toksF B L t).1 ≠ 256) : tkIn B L (toksF B L t) := by
  rw [toks_tok] at h ⊢
  exact (tok_in hB (frF_le t) h).2.2
/-- the byte at i goes on with the TOKEN -/
theorem spI_more (hB : ∀ j, 0 ≤ B j ∧ B j < 256) {i c : Nat} {f g h : Nat → Int32} (H : spI B L i c f g h) (hi : i < L) (h1 : srF (B i) = bfF B i) (h2 : srF (B i) = 258 ∨ srF (B i) = 257) : ∃ q, c = q + 1 ∧ spI B L (i + 1) c f g (upN h q (nI (i + 1))) := by
  obtain ⟨H1, H2, H3, H4⟩ := H
  have i0 : i ≠ 0 := fun e => by
    unfold bfF at h1
    rw [if_pos e] at h1
    rw [h1] at h2
    exact absurd h2 (by decide)
  have h1 : srF (B i) = srF (B (i - 1)) := by
    unfold bfF at h1
    rw [if_neg i0] at h1; exact h1
  have nb : blB (B (i - 1)) = false := by
    refine Bool.eq_false_iff.mpr fun e => ?_
    have := (sr_256 (hB (i - 1)).2).mpr e
    rw [h1, this] at h2
    exact absurd h2 (by decide)
  cases c with
  | zero =>
    have := H3 rfl (i - 1) (by omega)
    rw [nb] at this; cases this
  | succ q =>
    obtain ⟨a1, a2, a3, a4, a5, a6⟩ := H4 q rfl
    obtain ⟨b1, b2, b3, b4, b5, b6, b7⟩ := toks_in hB a1
    have hb : i < (toksF B L q).2.2 := by
      refine Classical.byContradiction fun e => ?_
      by_cases c1 : (toksF B L q).2.2 = i
      · refine b6 (by omega) ?_
        rw [c1]
        exact ⟨h1, h2.symm⟩
      · have := a6 (i - 1) (by omega) (by omega)
        rw [nb] at this; cases this
    refine ⟨q, rfl, by omega, fun t ht => ?_, fun e => absurd e (by omega), fun q1 e => ?_⟩
    · obtain ⟨d1, d2, d3⟩ := H2 t ht
      refine ⟨d1, d2, ?_⟩
      unfold upN
      rw [if_neg (by omega)]; exact d3
    · have e : q1 = q := by omega
      subst e
      refine ⟨a1, by omega, a3, a4, ?_, fun j c1 c2 => by omega⟩
      unfold upN
      rw [if_pos rfl, Nat.min_eq_left (by omega)]
theorem spI_blank (hB : ∀ j, 0 ≤ B j ∧ B j < 256) {i c : Nat} {f g h : Nat → Int32} (H : spI B L i c f g h) (h1 : srF (B i) = 256) : spI B L (i + 1) c f g h := by
  obtain ⟨H1, H2, H3, H4⟩ := H
  have bl := (sr_256 (hB i).2).mp h1
  refine ⟨by omega, H2, fun e j hj => ?_, fun q e => ?_⟩
  · by_cases c1 : j = i
    · rw [c1]; exact bl
    · exact H3 e j (by omega)
  · obtain ⟨a1, a2, a3, a4, a5, a6⟩ := H4 q e
    obtain ⟨b1, b2, b3, b4, b5, b6, b7⟩ := toks_in hB a1
    have hb : (toksF B L q).2.2 ≤ i := by
      refine Classical.byContradiction fun e => ?_
      have := (b5 i a2 (by omega)).2
      rw [h1] at this
      exact absurd this (by decide)
    refine ⟨a1, by omega, a3, a4, ?_, fun j c1 c2 => ?_⟩
    · rw [a5, Nat.min_eq_right hb, Nat.min_eq_right (by omega)]
    · by_cases c3 : j = i
      · rw [c3]; exact bl
      · exact a6 j c1 (by omega)
/-- behind the last TOKEN the next is sought from i -/
theorem spI_fr {i c : Nat} {f g h : Nat → Int32} (H : spI B L i c f g h) (hi : i ≤ L) (hb : ∀ q, c = q + 1 → (toksF B L q).2.2 ≤ i) : toksF B L c = tokF B L i := by
  obtain ⟨H1, H2, H3, H4⟩ := H
  rw [toks_tok]
  cases c with
  | zero =>
    have := tok_sk (B := B) (L := L) i 0 (by omega) (fun j _ c2 => H3 rfl j (by omega))
    rw [Nat.zero_add] at this
    exact this
  | succ q =>
    have hb := hb q rfl
    have := tok_sk (B := B) (L := L) (i - (toksF B L q).2.2) (toksF B L q).2.2 (by omega) (fun j c1 c2 => (H4 q rfl).2.2.2.2.2 j c1 (by omega))
    rw [show (toksF B L q).2.2 + (i - (toksF B L q).2.2) = i by omega] at this
    exact this
theorem spI_new (hB : ∀ j, 0 ≤ B j ∧ B j < 256) {i c : Nat} {f g h : Nat → Int32} (H : spI B L i c f g h) (hi : i < L) (h1 : srF (B i) ≠ 256) (h2 : ¬ (srF (B i) = bfF B i ∧ (srF (B i) = 258 ∨ srF (B i) = 257))) : spI B L (i + 1) (c + 1) (upN f c (srF (B i))) (upN g c (nI i)) (upN h c (nI (i + 1))) := by
  have nb : blB (B i) = false := Bool.eq_false_iff.mpr fun e => h1 ((sr_256 (hB i).2).mpr e)
  have hb : ∀ q, c = q + 1 → (toksF B L q).2.2 ≤ i := fun q e => by
    obtain ⟨a1, a2, a3, a4, a5, a6⟩ := H.2.2.2 q e
    obtain ⟨b1, b2, b3, b4, b5, b6, b7⟩ := toks_in hB a1
    refine Classical.byContradiction fun e => ?_
    obtain ⟨d1, d2⟩ := b5 i a2 (by omega)
    refine h2 ⟨?_, d2.symm⟩
    unfold bfF
    rw [if_neg (by omega)]; exact d1
  have e0 := spI_fr H (by omega) hb
  have hn : (tokF B L i).1 ≠ 256 := by
    rcases tok_cases (B := B) (L := L) i (by omega) with ⟨e, a⟩ | ⟨s, b, e1, e2, a1, a2, a3, a4, a5, c1⟩
    · have := a i (Nat.le_refl _) hi
      rw [nb] at this; cases this
    · rcases c1 with ⟨c1, -⟩ | ⟨c1, -⟩ | ⟨c1, -⟩
      · rw [c1]; intro e
        have := (knL_in (B := B) 22 0 s b rfl).1
        rw [e] at this
        exact absurd this (by decide)
      · rw [c1]; decide
      · rw [c1]; intro e
        have := (hB s).2
        rw [e] at this
        exact absurd this (by decide)
  obtain ⟨k1, k2, k3⟩ := tok_in hB (by omega) hn
  have hs : (tokF B L i).2.1 = i := by
    refine Classical.byContradiction fun e => ?_
    have := k2 i (Nat.le_refl _) (by omega)
    rw [nb] at this; cases this
  obtain ⟨b1, b2, b3, b4, b5, b6, b7⟩ := k3
  rw [hs] at b1 b4
  obtain ⟨H1, H2, H3, H4⟩ := H
  refine ⟨by omega, fun t ht => ?_, fun e => absurd e (by omega), fun q e => ?_⟩
  · unfold upN
    rw [if_neg (by omega), if_neg (by omega), if_neg (by omega)]
    by_cases c1 : t + 1 < c
    · exact H2 t c1
    · obtain ⟨a1, a2, a3, a4, a5, a6⟩ := H4 t (by omega)
      refine ⟨a3, a4, ?_⟩
      rw [a5, Nat.min_eq_right (hb t (by omega))]
  · have e : q = c := by omega
    subst e
    rw [e0]
    unfold upN
    rw [if_pos rfl, if_pos rfl, if_pos rfl, hs]
    refine ⟨hn, by omega, b4.symm, rfl, ?_, fun j c1 c2 => by omega⟩
    rw [Nat.min_eq_left (by omega)]
/-- at the end of the bytes -/
theorem spI_L (hB : ∀ j, 0 ≤ B j ∧ B j < 256) {c : Nat} {f g h : Nat → Int32} (H : spI B L L c f g h) : c ≤ L ∧ (∀ t, t < c → (toksF B L t).1 ≠ 256 ∧ f t = rwF (toksF B L t).1 ∧ g t = nI (toksF B L t).2.1 ∧ h t = nI (toksF B L t).2.2) ∧ ∀ t, c ≤ t → toksF B L t = (256, L, L) := by
  have hb : ∀ q, c = q + 1 → (toksF B L q).2.2 ≤ L := fun q _ => (toks_le q).2
  have e0 := spI_fr H (Nat.le_refl _) hb
  have ee : (toksF B L c).1 = 256 := by
    rw [e0, tok_end (rn_le _ _).1]
  have up : ∀ k, (toksF B L (c + k)).1 = 256 := by
    intro k
    induction k with
    | zero => exact ee
    | succ k ih => exact toks_up hB ih
  have dn : ∀ t, t < c → (toksF B L t).1 ≠ 256 := by
    intro t ht e
    have up2 : ∀ k, (toksF B L (t + k)).1 = 256 := by
      intro k
      induction k with
      | zero => exact e
      | succ k ih => exact toks_up hB ih
    have := up2 (c - 1 - t)
    rw [show t + (c - 1 - t) = c - 1 by omega] at this
    exact (H.2.2.2 (c - 1) (by omega)).1 this
  refine ⟨H.1, fun t ht => ⟨dn t ht, ?_⟩, fun t ht => ?_⟩
  · by_cases c1 : t + 1 < c
    · exact H.2.1 t c1
    · obtain ⟨a1, a2, a3, a4, a5, a6⟩ := H.2.2.2 t (by omega)
      refine ⟨a3, a4, ?_⟩
      rw [a5, Nat.min_eq_right (hb t (by omega))]
  · have := up (t - c)
    rw [show c + (t - c) = t by omega] at this
    exact toks_end hB this
end SPL
