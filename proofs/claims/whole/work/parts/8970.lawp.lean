/-! the law's loop: what it keeps, and how a call is taken -/
def zQ (K : Nat) : Bool := K == 4 || Nat.ble 41 K
theorem setQ : mset zQ false mR := fun m hm => ⟨(setR m hm).1, fun pc K h => absurd ((setR m hm).2.1 pc K h).2 (by decide), fun ht => absurd ((setR m hm).2.2.1 ht).2 (by decide), (setR m hm).2.2.2⟩
theorem zQ_C {K : Nat} (h : zQ K = true) : zC K = false := by
  unfold zQ at h
  rw [Bool.or_eq_true] at h
  rcases h with h | h
  · have : K = 4 := beq_iff_eq.mp h
    subst this; rfl
  · have h := Nat.le_of_ble_eq_true h
    unfold zC
    have h1 : Nat.ble K 40 = false := by
      cases e : Nat.ble K 40 with
      | false => rfl
      | true => exact absurd (Nat.le_of_ble_eq_true e) (by omega)
    have h2 : (K == 2) = false := beq_eq_false_iff_ne.mpr (by omega)
    have h3 : (K == 3) = false := beq_eq_false_iff_ne.mpr (by omega)
    rw [h1, h2, h3, Bool.and_false]; rfl
theorem zC_Q {K : Nat} (h : zC K = true) : zQ K = false := by
  cases e : zQ K with
  | false => rfl
  | true => rw [zQ_C e] at h; cases h
theorem am_deep : ∀ (n d mid pc : Nat) (l : aL) (st : List aV) (σ : aM) (Q : aR → aM → Prop), am_ex n d mid pc l st σ Q → am_ex n (d + 1) mid pc l st σ Q := by
  intro n
  induction n with
  | zero => intro d mid pc l st σ Q h; exact h.elim
  | succ n ih =>
    intro d mid pc l st σ Q h
    unfold am_ex at h ⊢
    cases hd : decode (mcode mid) pc with
    | error e => rw [hd] at h; exact h.elim
    | ok q =>
      obtain ⟨i, len⟩ := q
      rw [hd] at h
      dsimp only at h ⊢
      cases hx : am_nx mid pc len i l st σ with
      | none => rw [hx] at h; exact h.elim
      | some y =>
        rw [hx] at h
        rcases y with ⟨pc', l', st', σ'⟩ | ⟨c, la, pc', r⟩ | ⟨v, σ'⟩
        · exact ih _ _ _ _ _ _ _ h
        · cases d with
          | zero => exact h.elim
          | succ d =>
            refine am_mono n 0 _ _ _ _ _ _ _ _ ?_ (ih _ _ _ _ _ _ _ h)
            intro v s hv
            rcases v with _ | _ | v
            · dsimp only at hv ⊢
              cases hh : hnd mid pc with
              | none => rw [hh] at hv; exact hv.elim
              | some h9 => rw [hh] at hv; exact ih _ _ _ _ _ _ _ hv
            · exact ih _ _ _ _ _ _ _ hv
            · exact ih _ _ _ _ _ _ _ hv
        · exact h
theorem WP_deep {d mid pc : Nat} {l : aL} {st : List aV} {σ : aM} {Q : aR → aM → Prop} (h : WP d mid pc l st σ Q) : WP (d + 1) mid pc l st σ Q := by
  obtain ⟨n, h⟩ := h
  exact ⟨n, am_deep _ _ _ _ _ _ _ _ h⟩
def LI (n L : Nat) (σ : aM) : Prop := Inv n σ ∧ zkM zC σ ∧ zkM zR σ ∧ zkM zQ σ ∧ gN σ 0 0 = L
/-- behind a run of the class -/
def Sc (σ s : aM) : Prop := (∀ j, gI s 0 0 j = gI σ 0 0 j) ∧ gN s 0 0 = gN σ 0 0 ∧ gC s 4 = gC σ 4 ∧ gC s 5 = gC σ 5 ∧ gN s 5 0 = gN σ 5 0
section LAW
variable {d n L m1 m2 : Nat} {l1 l2 : aL} {σ : aM} {Q1 : aR → aM → Prop}
theorem Sc_of {s : aM} (e : s = mxC s σ) : Sc σ s := ⟨fun j => by rw [e]; exact nix_gI rfl, by rw [e]; exact nix_gN rfl, by rw [e]; exact nix_gC rfl, by rw [e]; exact nix_gC rfl, by rw [e]; exact nix_gN rfl⟩
theorem zk_cls {s : aM} (z : zkM zC s) (e : s = mxC s σ) (h : LI n L σ) : zkM zR s ∧ zkM zQ s := by
  obtain ⟨h1, h2, h3, h4, h5⟩ := h
  refine ⟨by rw [e]; exact zkM_R h3, fun K i j hK => ?_⟩
  rw [e, nix_gR (zQ_C hK)]; exact h4 K i j hK
theorem zk_ref {s s2 : aM} (z : zkM zC s) (e : s2 = mix zQ false s2 s) : zkM zC s2 := fun K i j hK => by
  rw [e, nix_gR (zC_Q hK)]; exact z K i j hK
theorem law_ref {s : aM} {P : aR → aM → Prop} (hk2 : mR m2 = true) (hl2 : zkL zR l2) (hl3 : zkL zQ l2) (zc : zkM zC s) (zr : zkM zR s) (zq : zkM zQ s) (hN : gN s 0 0 = L) (h : WP d m2 0 l2 [] s P) : WP d m2 0 l2 [] s (fun w s2 => P w s2 ∧ zkM zC s2 ∧ zkM zR s2 ∧ zkM zQ s2 ∧ gN s2 0 0 = L) := by
  have A := ownR hk2 hl2 zkS_n zr h
  have B := own_WP setQ hk2 hl3 zkS_n zq h
  refine (WP_both A B).mono ?_
  rintro w s2 ⟨⟨a1, a2, a3, a4⟩, ⟨b1, b2, b3, b4⟩⟩
  exact ⟨a1, zk_ref zc b2, a3, b3, by rw [b2, nix_gN rfl]; exact hN⟩
theorem law_call (H : LI n L σ) (T : Two m1 m2 n d l1 l2 σ) (hk1 : mC m1 = true) (hl1 : zkL zC l1) (hk2 : mR m2 = true) (hl2 : zkL zR l2) (hl3 : zkL zQ l2) (h : ∀ x s, Sc σ s → WP (d + 60) m2 0 l2 [] s (fun w s2 => w = some (some (vi x)) ∧ LI (n + 1) L s2) → Q1 (some (some (vi x))) s) : WP (d + 60) m1 0 l1 [] σ Q1 := by
  refine (ownC hk1 hl1 zkS_n H.2.1 T).mono ?_
  rintro v s ⟨h2, e, zc, -⟩
  obtain ⟨zr, zq⟩ := zk_cls zc e H
  have hN : gN s 0 0 = L := by rw [e, nix_gN rfl]; exact H.2.2.2.2
  obtain ⟨w, s9, ⟨x, rfl, -, -⟩, -⟩ := WP_one h2
  refine h x s (Sc_of e) ((law_ref hk2 hl2 hl3 zc zr zq hN h2).mono ?_)
  rintro w s2 ⟨⟨x', e1, e2, I'⟩, c1, c2, c3, c4⟩
  cases e1
  exact ⟨e2, I', c1, c2, c3, c4⟩
theorem law_callL (H : LI n L σ) (T : TwoL m1 m2 n d l1 l2 σ) (hk1 : mC m1 = true) (hl1 : zkL zC l1) (hk2 : mR m2 = true) (hl2 : zkL zR l2) (hl3 : zkL zQ l2) (h : ∀ x s, Sc σ s → WP (d + 60) m2 0 l2 [] s (fun w s2 => w = some (some (vl x)) ∧ LI (n + 1) L s2) → Q1 (some (some (vl x))) s) : WP (d + 60) m1 0 l1 [] σ Q1 := by
  refine (ownC hk1 hl1 zkS_n H.2.1 T).mono ?_
  rintro v s ⟨h2, e, zc, -⟩
  obtain ⟨zr, zq⟩ := zk_cls zc e H
  have hN : gN s 0 0 = L := by rw [e, nix_gN rfl]; exact H.2.2.2.2
  obtain ⟨w, s9, ⟨x, rfl, -, -⟩, -⟩ := WP_one h2
  refine h x s (Sc_of e) ((law_ref hk2 hl2 hl3 zc zr zq hN h2).mono ?_)
  rintro w s2 ⟨⟨x', e1, e2, I'⟩, c1, c2, c3, c4⟩
  cases e1
  exact ⟨e2, I', c1, c2, c3, c4⟩
theorem Sc_out {s : aM} {o : Option Int32} (h : Sc σ s) : Sc σ (outM o s) := by
  cases o with
  | none => exact h
  | some x => exact h
theorem law_callX (H : LI n L σ) (T : TwoX m1 m2 n d l1 l2 σ) (hk1 : mC m1 = true) (hl1 : zkL zC l1) (hk2 : mR m2 = true) (hl2 : zkL zR l2) (hl3 : zkL zQ l2) (h : ∀ (o : Option Int32) s, Sc σ s → WP (d + 60) m2 0 l2 [] (outM o s) (fun w s2 => ∃ z, w = some (some (vi z)) ∧ LI (n + 1) L s2 ∧ gI s2 4 0 0 = (if o = none then 1 else 0) ∧ ∀ x, o = some x → z = x ∧ gL s2 5 0 0 = x.toInt64) → Q1 (o.map (fun x => some (vi x))) s) : WP (d + 60) m1 0 l1 [] σ Q1 := by
  refine (ownC hk1 hl1 zkS_n H.2.1 T).mono ?_
  rintro v s ⟨⟨o, rfl, h2⟩, e, zc, -⟩
  obtain ⟨zr, zq⟩ := zk_cls zc e H
  have hN : gN s 0 0 = L := by rw [e, nix_gN rfl]; exact H.2.2.2.2
  have zc' : zkM zC (outM o s) := by cases o <;> exact zc
  have zr' : zkM zR (outM o s) := by cases o <;> exact zr
  have zq' : zkM zQ (outM o s) := by cases o <;> exact zq
  have hN' : gN (outM o s) 0 0 = L := by cases o <;> exact hN
  refine h o s (Sc_of e) ((law_ref hk2 hl2 hl3 zc' zr' zq' hN' h2).mono ?_)
  rintro w s2 ⟨⟨z, e1, I', e2, e3⟩, c1, c2, c3, c4⟩
  exact ⟨z, e1, ⟨I', c1, c2, c3, c4⟩, e2, e3⟩
end LAW
