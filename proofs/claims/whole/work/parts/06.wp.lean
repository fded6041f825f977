/-! laws of the run: more fuel, a weaker end, one end; then a row an instruction, as an equivalence -/
theorem am_mono : ∀ (n k d mid pc : Nat) (l : aL) (st : List aV) (σ : aM) (Q Q' : aR → aM → Prop), (∀ r s, Q r s → Q' r s) → am_ex n d mid pc l st σ Q → am_ex (n + k) d mid pc l st σ Q' := by
  intro n
  induction n with
  | zero => intro k d mid pc l st σ Q Q' _ h; exact h.elim
  | succ n ih =>
    intro k d mid pc l st σ Q Q' hQ h
    rw [show n + 1 + k = (n + k) + 1 by omega]
    unfold am_ex at h ⊢
    cases hd : decode (mcode mid) pc with
    | error e => rw [hd] at h; exact h.elim
    | ok q =>
      obtain ⟨i, len⟩ := q
      rw [hd] at h
      dsimp only at h ⊢
      cases hx : am_nx mid pc len i l st σ with
      | none => rw [hx] at h; exact h.elim
      | some y =>
        rw [hx] at h
        rcases y with ⟨pc', l', st', σ'⟩ | ⟨c, la, pc', r⟩ | ⟨v, σ'⟩
        · exact ih k _ _ _ _ _ _ _ _ hQ h
        · cases d with
          | zero => exact h.elim
          | succ d =>
            refine ih k _ _ _ _ _ _ _ _ ?_ h
            intro v σ' hv
            rcases v with _ | _ | v
            · dsimp only at hv ⊢
              cases hh : hnd mid pc with
              | none => rw [hh] at hv; exact hv.elim
              | some h9 => rw [hh] at hv; exact ih k _ _ _ _ _ _ _ _ hQ hv
            · exact ih k _ _ _ _ _ _ _ _ hQ hv
            · exact ih k _ _ _ _ _ _ _ _ hQ hv
        · exact hQ _ _ h
theorem am_more {n m d mid pc : Nat} {l : aL} {st : List aV} {σ : aM} {Q : aR → aM → Prop} (h : n ≤ m) (k : am_ex n d mid pc l st σ Q) : am_ex m d mid pc l st σ Q := by
  obtain ⟨j, rfl⟩ := Nat.le.dest h
  exact am_mono n j _ _ _ _ _ _ _ _ (fun _ _ q => q) k
theorem am_one : ∀ (n d mid pc : Nat) (l : aL) (st : List aV) (σ : aM) (Q : aR → aM → Prop), am_ex n d mid pc l st σ Q → ∃ r s, Q r s ∧ am_ex n d mid pc l st σ (fun a b => a = r ∧ b = s) := by
  intro n
  induction n with
  | zero => intro d mid pc l st σ Q h; exact h.elim
  | succ n ih =>
    intro d mid pc l st σ Q h
    unfold am_ex at h
    unfold am_ex
    cases hd : decode (mcode mid) pc with
    | error e => rw [hd] at h; exact h.elim
    | ok q =>
      obtain ⟨i, len⟩ := q
      rw [hd] at h
      dsimp only at h ⊢
      cases hx : am_nx mid pc len i l st σ with
      | none => rw [hx] at h; exact h.elim
      | some y =>
        rw [hx] at h
        rcases y with ⟨pc', l', st', σ'⟩ | ⟨c, la, pc', r⟩ | ⟨v, σ'⟩
        · exact ih _ _ _ _ _ _ _ h
        · cases d with
          | zero => exact h.elim
          | succ d =>
            obtain ⟨r1, s1, hp, hc⟩ := ih _ _ _ _ _ _ _ h
            rcases r1 with _ | _ | v
            · dsimp only at hp
              cases hh : hnd mid pc with
              | none => rw [hh] at hp; exact hp.elim
              | some h9 =>
                rw [hh] at hp
                obtain ⟨r2, s2, hq, h2⟩ := ih _ _ _ _ _ _ _ hp
                refine ⟨r2, s2, hq, am_mono n 0 _ _ _ _ _ _ _ _ ?_ hc⟩
                rintro a b ⟨rfl, rfl⟩
                exact h2
            · obtain ⟨r2, s2, hq, h2⟩ := ih _ _ _ _ _ _ _ hp
              refine ⟨r2, s2, hq, am_mono n 0 _ _ _ _ _ _ _ _ ?_ hc⟩
              rintro a b ⟨rfl, rfl⟩
              exact h2
            · obtain ⟨r2, s2, hq, h2⟩ := ih _ _ _ _ _ _ _ hp
              refine ⟨r2, s2, hq, am_mono n 0 _ _ _ _ _ _ _ _ ?_ hc⟩
              rintro a b ⟨rfl, rfl⟩
              exact h2
        · exact ⟨v, σ', h, rfl, rfl⟩
/-- what goes on behind a call -/
def am_ko (d mid pc pc' : Nat) (l : aL) (r : List aV) (Q : aR → aM → Prop) : aR → aM → Prop := fun v σ => match v with
  | some (some v) => WP d mid pc' l (v :: r) σ Q
  | some none => WP d mid pc' l r σ Q
  | none => match hnd mid pc with
    | some h => WP d mid h l [vr (some (2, gC σ 2 - 1))] σ Q
    | none => False
theorem am_ko_v {d mid pc pc' : Nat} {l : aL} {r : List aV} {Q : aR → aM → Prop} {v : aV} {σ : aM} : am_ko d mid pc pc' l r Q (some (some v)) σ ↔ WP d mid pc' l (v :: r) σ Q := Iff.rfl
theorem am_ko_0 {d mid pc pc' : Nat} {l : aL} {r : List aV} {Q : aR → aM → Prop} {σ : aM} : am_ko d mid pc pc' l r Q (some none) σ ↔ WP d mid pc' l r σ Q := Iff.rfl
theorem am_ko_x {d mid pc pc' h : Nat} {l : aL} {r : List aV} {Q : aR → aM → Prop} {σ : aM} (hh : hnd mid pc = some h) : am_ko d mid pc pc' l r Q none σ ↔ WP d mid h l [vr (some (2, gC σ 2 - 1))] σ Q := by
  unfold am_ko; rw [hh]
section WPR
variable {d mid pc : Nat} {l : aL} {st : List aV} {σ : aM} {Q : aR → aM → Prop} {i : Instr} {len : Nat} {b : ByteArray}
theorem WP.mono {Q' : aR → aM → Prop} (h : WP d mid pc l st σ Q) (hQ : ∀ r s, Q r s → Q' r s) : WP d mid pc l st σ Q' := by
  obtain ⟨n, h⟩ := h
  exact ⟨n, am_mono n 0 _ _ _ _ _ _ _ _ hQ h⟩
theorem WP_step {pc' : Nat} {l' : aL} {st' : List aV} {σ' : aM} (hc : mcode mid = b) (hd : decode b pc = .ok (i, len)) (hn : am_nx mid pc len i l st σ = some (.inl (pc', l', st', σ'))) : WP d mid pc l st σ Q ↔ WP d mid pc' l' st' σ' Q := by
  subst hc
  constructor
  · rintro ⟨n, h⟩
    cases n with
    | zero => exact h.elim
    | succ n => unfold am_ex at h; rw [hd] at h; dsimp only at h; rw [hn] at h; exact ⟨n, h⟩
  · rintro ⟨n, h⟩
    refine ⟨n + 1, ?_⟩
    unfold am_ex; rw [hd]; dsimp only; rw [hn]; exact h
theorem WP_none (hc : mcode mid = b) (hd : decode b pc = .ok (i, len)) (hn : am_nx mid pc len i l st σ = none) : WP d mid pc l st σ Q ↔ False := by
  subst hc
  constructor
  · rintro ⟨n, h⟩
    cases n with
    | zero => exact h.elim
    | succ n => unfold am_ex at h; rw [hd] at h; dsimp only at h; rw [hn] at h; exact h
  · exact False.elim
theorem WP_ret {v : aR} {σ' : aM} (hc : mcode mid = b) (hd : decode b pc = .ok (i, len)) (hn : am_nx mid pc len i l st σ = some (.inr (.inr (v, σ')))) : WP d mid pc l st σ Q ↔ Q v σ' := by
  subst hc
  constructor
  · rintro ⟨n, h⟩
    cases n with
    | zero => exact h.elim
    | succ n => unfold am_ex at h; rw [hd] at h; dsimp only at h; rw [hn] at h; exact h
  · intro h
    refine ⟨1, ?_⟩
    unfold am_ex; rw [hd]; dsimp only; rw [hn]; exact h
theorem WP_call {c pc' : Nat} {la : aL} {r : List aV} (hc : mcode mid = b) (hd : decode b pc = .ok (i, len)) (hn : am_nx mid pc len i l st σ = some (.inr (.inl (c, la, pc', r)))) : WP (d + 1) mid pc l st σ Q ↔ WP d c 0 la [] σ (am_ko (d + 1) mid pc pc' l r Q) := by
  subst hc
  constructor
  · rintro ⟨n, h⟩
    cases n with
    | zero => exact h.elim
    | succ n =>
      unfold am_ex at h; rw [hd] at h; dsimp only at h; rw [hn] at h
      refine ⟨n, am_mono n 0 _ _ _ _ _ _ _ _ ?_ h⟩
      intro v s hv
      rcases v with _ | _ | v
      · dsimp only [am_ko] at hv ⊢
        cases hh : hnd mid pc with
        | none => rw [hh] at hv; exact hv.elim
        | some h9 => rw [hh] at hv; exact ⟨n, hv⟩
      · exact ⟨n, hv⟩
      · exact ⟨n, hv⟩
  · rintro ⟨n, h⟩
    obtain ⟨r1, s1, hp, h1⟩ := am_one _ _ _ _ _ _ _ _ h
    rcases r1 with _ | _ | v
    · dsimp only [am_ko] at hp
      cases hh : hnd mid pc with
      | none => rw [hh] at hp; exact hp.elim
      | some h9 =>
        rw [hh] at hp
        obtain ⟨k, hk⟩ := hp
        refine ⟨n + k + 1, ?_⟩
        unfold am_ex; rw [hd]; dsimp only; rw [hn]
        refine am_mono n k _ _ _ _ _ _ _ _ ?_ h1
        rintro a s ⟨rfl, rfl⟩
        rw [hh]
        exact am_more (by omega) hk
    · obtain ⟨k, hk⟩ := hp
      refine ⟨n + k + 1, ?_⟩
      unfold am_ex; rw [hd]; dsimp only; rw [hn]
      refine am_mono n k _ _ _ _ _ _ _ _ ?_ h1
      rintro a s ⟨rfl, rfl⟩
      exact am_more (by omega) hk
    · obtain ⟨k, hk⟩ := hp
      refine ⟨n + k + 1, ?_⟩
      unfold am_ex; rw [hd]; dsimp only; rw [hn]
      refine am_mono n k _ _ _ _ _ _ _ _ ?_ h1
      rintro a s ⟨rfl, rfl⟩
      exact am_more (by omega) hk
theorem WP_gd {c : Prop} [Decidable c] {pc' : Nat} {l' : aL} {st' : List aV} {σ' : aM} (hc : mcode mid = b) (hd : decode b pc = .ok (i, len)) (hn : am_nx mid pc len i l st σ = am_gd c (am_go pc' l' st' σ')) : WP d mid pc l st σ Q ↔ c ∧ WP d mid pc' l' st' σ' Q := by
  by_cases h : c
  · rw [WP_step hc hd (hn.trans (if_pos h))]
    exact ⟨fun k => ⟨h, k⟩, fun k => k.2⟩
  · rw [WP_none hc hd (hn.trans (if_neg h))]
    exact ⟨False.elim, fun k => h k.1⟩
theorem WP_gr {c : Prop} [Decidable c] {v : aR} {σ' : aM} (hc : mcode mid = b) (hd : decode b pc = .ok (i, len)) (hn : am_nx mid pc len i l st σ = am_gd c (some (.inr (.inr (v, σ'))))) : WP d mid pc l st σ Q ↔ c ∧ Q v σ' := by
  by_cases h : c
  · rw [WP_ret hc hd (hn.trans (if_pos h))]
    exact ⟨fun k => ⟨h, k⟩, fun k => k.2⟩
  · rw [WP_none hc hd (hn.trans (if_neg h))]
    exact ⟨False.elim, fun k => h k.1⟩
theorem WP_if {c : Prop} [Decidable c] {p1 p2 : Nat} {l1 l2 : aL} {s1 s2 : List aV} {m1 m2 : aM} (hc : mcode mid = b) (hd : decode b pc = .ok (i, len)) (hn : am_nx mid pc len i l st σ = if c then am_go p1 l1 s1 m1 else am_go p2 l2 s2 m2) : WP d mid pc l st σ Q ↔ if c then WP d mid p1 l1 s1 m1 Q else WP d mid p2 l2 s2 m2 Q := by
  by_cases h : c
  · rw [if_pos h]; exact WP_step hc hd (hn.trans (if_pos h))
  · rw [if_neg h]; exact WP_step hc hd (hn.trans (if_neg h))
theorem WP_gc {c : Prop} [Decidable c] {k pc' : Nat} {la : aL} {r : List aV} (hc : mcode mid = b) (hd : decode b pc = .ok (i, len)) (hn : am_nx mid pc len i l st σ = am_gd c (some (.inr (.inl (k, la, pc', r))))) : WP (d + 1) mid pc l st σ Q ↔ c ∧ WP d k 0 la [] σ (am_ko (d + 1) mid pc pc' l r Q) := by
  by_cases h : c
  · rw [WP_call hc hd (hn.trans (if_pos h))]
    exact ⟨fun k => ⟨h, k⟩, fun k => k.2⟩
  · rw [WP_none hc hd (hn.trans (if_neg h))]
    exact ⟨False.elim, fun k => h k.1⟩
theorem WP_ge {c e : Prop} [Decidable c] {pc' : Nat} {l' : aL} {st' : List aV} {σ' : aM} (c0 : c ↔ e) (hc : mcode mid = b) (hd : decode b pc = .ok (i, len)) (hn : am_nx mid pc len i l st σ = am_gd c (am_go pc' l' st' σ')) : WP d mid pc l st σ Q ↔ e ∧ WP d mid pc' l' st' σ' Q := (WP_gd hc hd hn).trans (and_congr_left' c0)
theorem WP_gce {c e : Prop} [Decidable c] {k pc' : Nat} {la : aL} {r : List aV} (c0 : c ↔ e) (hc : mcode mid = b) (hd : decode b pc = .ok (i, len)) (hn : am_nx mid pc len i l st σ = am_gd c (some (.inr (.inl (k, la, pc', r))))) : WP (d + 1) mid pc l st σ Q ↔ e ∧ WP d k 0 la [] σ (am_ko (d + 1) mid pc pc' l r Q) := (WP_gc hc hd hn).trans (and_congr_left' c0)
end WPR
theorem am_gg {X : Type} {c e : Prop} [Decidable c] [Decidable e] {k : Option X} : am_gd c (am_gd e k) = am_gd (c ∧ e) k := by
  by_cases h : c <;> by_cases g : e <;> simp [am_gd, h, g]
def am_jp (pc : Nat) (off : Int) (k : Nat → Prop) : Prop := match (pc : Int) + off with
  | .ofNat t => k t
  | _ => False
def am_sp (x : Int32) (pc : Nat) (d : Int) (k : Nat → Prop) : Int → List Int → Prop
  | _, [] => am_jp pc d k
  | lo, o :: r => if x = Int32.ofInt lo then am_jp pc o k else am_sp x pc d k (lo + 1) r
section WPO
variable {d mid pc : Nat} {l : aL} {r : List aV} {σ : aM} {Q : aR → aM → Prop} {b : ByteArray} {cl0 k K i : Nat}
theorem WP_iret {x : Int32} (hc : mcode mid = b) (hd : decode b pc = .ok (.ireturn, 1)) (ht : mrt mid = 1) : WP d mid pc l [vi x] σ Q ↔ Q (some (some (vi x))) σ :=
  (WP_gr (c := mrt mid = 1 ∨ (mrt mid = 2 ∧ (x = 0 ∨ x = 1))) hc hd rfl).trans (and_iff_right (Or.inl ht))
theorem WP_zret {x : Int32} (hc : mcode mid = b) (hd : decode b pc = .ok (.ireturn, 1)) (ht : mrt mid = 2) : WP d mid pc l [vi x] σ Q ↔ (x = 0 ∨ x = 1) ∧ Q (some (some (vi x))) σ :=
  (WP_gr (c := mrt mid = 1 ∨ (mrt mid = 2 ∧ (x = 0 ∨ x = 1))) hc hd rfl).trans (and_congr_left' ⟨fun h => h.elim (fun e => absurd (e.symm.trans ht) (by decide)) (fun e => e.2), fun h => Or.inr ⟨ht, h⟩⟩)
theorem WP_lret {y : Int64} (hc : mcode mid = b) (hd : decode b pc = .ok (.lreturn, 1)) (ht : mrt mid = 3) : WP d mid pc l [vl y] σ Q ↔ Q (some (some (vl y))) σ :=
  (WP_gr (c := mrt mid = 3) hc hd rfl).trans (and_iff_right ht)
theorem WP_aret {q : Option (Nat × Nat)} (hc : mcode mid = b) (hd : decode b pc = .ok (.areturn, 1)) (ht : mrt mid = 4) : WP d mid pc l [vr q] σ Q ↔ Q (some (some (vr q))) σ :=
  (WP_gr (c := mrt mid = 4) hc hd rfl).trans (and_iff_right ht)
theorem WP_vret (hc : mcode mid = b) (hd : decode b pc = .ok (.return_, 1)) (ht : mrt mid = 0) : WP d mid pc l [] σ Q ↔ Q (some none) σ :=
  (WP_gr (c := mrt mid = 0) hc hd rfl).trans (and_iff_right ht)
theorem WP_jm {off : Int} {i : Instr} {len : Nat} {st : List aV} (hc : mcode mid = b) (hd : decode b pc = .ok (i, len)) (hn : am_nx mid pc len i l st σ = am_jm pc off (fun t => am_go t l r σ)) : WP d mid pc l st σ Q ↔ am_jp pc off (fun t => WP d mid t l r σ Q) := by
  unfold am_jm at hn
  unfold am_jp
  cases h : (pc : Int) + off with
  | ofNat t => rw [h] at hn; exact WP_step hc hd hn
  | negSucc t => rw [h] at hn; exact WP_none hc hd hn
theorem WP_sw {off : Int} {i : Instr} {len : Nat} {st : List aV} {x : Int32} (hc : mcode mid = b) (hd : decode b pc = .ok (i, len)) : ∀ (os : List Int) (lo : Int), am_nx mid pc len i l st σ = am_sw x pc off (fun t => am_go t l r σ) lo os → (WP d mid pc l st σ Q ↔ am_sp x pc off (fun t => WP d mid t l r σ Q) lo os) := by
  intro os
  induction os with
  | nil => intro lo hn; exact WP_jm hc hd hn
  | cons o os ih =>
    intro lo hn
    unfold am_sw at hn
    unfold am_sp
    by_cases h : x = Int32.ofInt lo
    · rw [if_pos h] at hn ⊢; exact WP_jm hc hd hn
    · rw [if_neg h] at hn ⊢; exact ih _ hn
theorem WP_tsw {P : Prop} {dflt lo hi : Int} {offs : Array Int} {len : Nat} {x : Int32} (hc : mcode mid = b) (hd : decode b pc = .ok (.tableswitch dflt lo hi offs, len)) (hg : (offs.size : Int) = hi - lo + 1 ∧ -2147483648 ≤ lo ∧ hi < 2147483648 ∧ lo ≤ hi) (h : am_sp x pc dflt (fun t => WP d mid t l r σ Q) lo offs.toList ↔ P) : WP d mid pc l (vi x :: r) σ Q ↔ P :=
  (WP_sw hc hd offs.toList lo (by
    show am_gd _ _ = _
    exact if_pos hg)).trans h
theorem WP_getf {ci f t : Nat} (hc : mcode mid = b) (hm : mcl mid = cl0) (hd : decode b pc = .ok (.getfield k, 3)) (hf : fld cl0 k = some (ci, f, t)) (hk : kT K = (0, ci)) : WP d mid pc l (vr (some (K, i)) :: r) σ Q ↔ i < gC σ K ∧ WP d mid (pc + 3) l (am_fv σ K i f t :: r) σ Q := by
  refine WP_ge (c := kT K = (0, ci) ∧ i < gC σ K) (and_iff_right hk) hc hd ?_
  simp only [am_nx, hm, hf]; rfl
theorem WP_put {ci f t : Nat} {v : aV} {c : Prop} [Decidable c] {σ' : aM} (hc : mcode mid = b) (hm : mcl mid = cl0) (hd : decode b pc = .ok (.putfield k, 3)) (hf : fld cl0 k = some (ci, f, t)) (hk : kT K = (0, ci)) (hF : finS ci f = true → am_isi mid = true ∧ mcl mid = ci) (hp : am_pf σ K i f t v (fun σ => am_go (pc + 3) l r σ) = am_gd c (am_go (pc + 3) l r σ')) : WP d mid pc l (v :: vr (some (K, i)) :: r) σ Q ↔ (i < gC σ K ∧ c) ∧ WP d mid (pc + 3) l r σ' Q := by
  refine WP_ge (c := (kT K = (0, ci) ∧ i < gC σ K ∧ (finS ci f = true → am_isi mid = true ∧ mcl mid = ci)) ∧ c) ⟨fun h => ⟨h.1.2.1, h.2⟩, fun h => ⟨⟨hk, h.1, hF⟩, h.2⟩⟩ hc hd ?_
  have e : am_nx mid pc 3 (.putfield k) l (v :: vr (some (K, i)) :: r) σ = am_gd (kT K = (0, ci) ∧ i < gC σ K ∧ (finS ci f = true → am_isi mid = true ∧ mcl mid = ci)) (am_pf σ K i f t v (fun σ => am_go (pc + 3) l r σ)) := by
    simp only [am_nx, hm, hf]; rfl
  rw [e, hp, am_gg]
theorem WP_putI {ci f : Nat} {v : Int32} (hc : mcode mid = b) (hm : mcl mid = cl0) (hd : decode b pc = .ok (.putfield k, 3)) (hf : fld cl0 k = some (ci, f, 0)) (hk : kT K = (0, ci)) (hF : finS ci f = true → am_isi mid = true ∧ mcl mid = ci) : WP d mid pc l (vi v :: vr (some (K, i)) :: r) σ Q ↔ i < gC σ K ∧ WP d mid (pc + 3) l r (sI σ K i f v) Q :=
  (WP_put hc hm hd hf hk hF rfl).trans (by simp)
theorem WP_putZ {ci f : Nat} {v : Int32} (hc : mcode mid = b) (hm : mcl mid = cl0) (hd : decode b pc = .ok (.putfield k, 3)) (hf : fld cl0 k = some (ci, f, 3)) (hk : kT K = (0, ci)) (hF : finS ci f = true → am_isi mid = true ∧ mcl mid = ci) : WP d mid pc l (vi v :: vr (some (K, i)) :: r) σ Q ↔ (i < gC σ K ∧ (v = 0 ∨ v = 1)) ∧ WP d mid (pc + 3) l r (sI σ K i f v) Q :=
  (WP_put hc hm hd hf hk hF rfl).trans (by simp)
theorem WP_putL {ci f : Nat} {v : Int64} (hc : mcode mid = b) (hm : mcl mid = cl0) (hd : decode b pc = .ok (.putfield k, 3)) (hf : fld cl0 k = some (ci, f, 1)) (hk : kT K = (0, ci)) (hF : finS ci f = true → am_isi mid = true ∧ mcl mid = ci) : WP d mid pc l (vl v :: vr (some (K, i)) :: r) σ Q ↔ i < gC σ K ∧ WP d mid (pc + 3) l r (sL σ K i f v) Q :=
  (WP_put hc hm hd hf hk hF rfl).trans (by simp)
theorem WP_putR {ci f : Nat} {v : Option (Nat × Nat)} (hc : mcode mid = b) (hm : mcl mid = cl0) (hd : decode b pc = .ok (.putfield k, 3)) (hf : fld cl0 k = some (ci, f, 2)) (hk : kT K = (0, ci)) (hF : finS ci f = true → am_isi mid = true ∧ mcl mid = ci) : WP d mid pc l (vr v :: vr (some (K, i)) :: r) σ Q ↔ i < gC σ K ∧ WP d mid (pc + 3) l r (sR σ K i f v) Q :=
  (WP_put hc hm hd hf hk hF rfl).trans (by simp)
/-- room for what is made -/
abbrev am_ok (σ : aM) (c s : Nat) : Prop := (gB σ).1 + c ≤ 601024 ∧ (gB σ).2 + s ≤ 7293034
theorem WP_newO {st : List aV} {ci : Nat} (hc : mcode mid = b) (hm : mcl mid = cl0) (hd : decode b pc = .ok (.new k, 3)) (hf : clsP cl0 k = some (ci + 1)) (hs : kS mid pc = some K) (hk : kT K = (0, ci + 1)) (h98 : ci + 1 ≠ 98) : WP d mid pc l st σ Q ↔ am_ok σ 1 (am_nf (ci + 1)) ∧ WP d mid (pc + 3) l (vr (some (K, gC σ K)) :: st) (am_mk σ K 0 (am_nf (ci + 1))) Q := by
  refine WP_gd hc hd ?_
  have e : am_nx mid pc 3 (.new k) l st σ = am_new mid pc k l st σ := rfl
  rw [e]
  unfold am_new
  rw [hm, hf]
  dsimp only
  rw [if_neg h98, hs]
  dsimp only
  rw [if_neg (by omega)]
  unfold am_gd
  rw [if_pos hk]
  rfl
theorem WP_newL {st : List aV} (hc : mcode mid = b) (hm : mcl mid = cl0) (hd : decode b pc = .ok (.new k, 3)) (hf : clsP cl0 k = some 0) (hs : kS mid pc = some K) (hk : kT K = (5, 0)) (hl : am_nl mid pc = true) : WP d mid pc l st σ Q ↔ (st.length ≤ 3 ∧ am_ok σ 1 3) ∧ WP d mid (pc + 7) l (vr (some (K, gC σ K)) :: st) (am_ml σ K) Q := by
  refine WP_ge (c := (kT K = (5, 0) ∧ st.length ≤ 3 ∧ am_nl mid pc = true) ∧ am_ok σ 1 3) ⟨fun h => ⟨h.1.2.1, h.2⟩, fun h => ⟨⟨hk, h.1, hl⟩, h.2⟩⟩ hc hd ?_
  have e : am_nx mid pc 3 (.new k) l st σ = am_new mid pc k l st σ := rfl
  rw [e]
  unfold am_new
  rw [hm, hf]
  dsimp only
  rw [if_neg (by omega), hs]
  dsimp only
  rw [if_pos rfl]
  unfold am_bud
  rw [am_gg]
theorem WP_newX (hc : mcode mid = b) (hm : mcl mid = cl0) (hd : decode b pc = .ok (.new k, 3)) (hf : clsP cl0 k = some 98) (ht : mid ∈ thrL) : WP d mid pc l [] σ Q ↔ am_ok σ 1 6 ∧ Q none (am_thr σ) := by
  refine WP_gr hc hd ?_
  have e : am_nx mid pc 3 (.new k) l [] σ = am_new mid pc k l [] σ := rfl
  rw [e]
  unfold am_new
  rw [hm, hf]
  dsimp only
  rw [if_pos rfl]
  unfold am_gd
  rw [if_pos ⟨ht, rfl⟩]
  rfl
theorem WP_newa {t : ArrayType} {n : Int32} {tg : Nat} (hc : mcode mid = b) (hd : decode b pc = .ok (.newarray t, 2)) (hs : kS mid pc = some K) (hk : kT K = (tg, 0)) (ht : (tg = 1 ∧ t = .int) ∨ (tg = 2 ∧ t = .long) ∨ (tg = 3 ∧ t = .byte) ∨ (tg = 4 ∧ t = .boolean)) : WP d mid pc l (vi n :: r) σ Q ↔ ((¬ n < 0 ∧ n.toNatClampNeg ≤ 8000000) ∧ am_ok σ 1 n.toNatClampNeg) ∧ WP d mid (pc + 2) l (vr (some (K, gC σ K)) :: r) (am_mk σ K n.toNatClampNeg n.toNatClampNeg) Q := by
  have e : ((tg, 0) = ((1 : Nat), (0 : Nat)) ∧ t = .int ∨ (tg, 0) = ((2 : Nat), (0 : Nat)) ∧ t = .long ∨ (tg, 0) = ((3 : Nat), (0 : Nat)) ∧ t = .byte ∨ (tg, 0) = ((4 : Nat), (0 : Nat)) ∧ t = .boolean) := by
    rcases ht with h | h | h | h
    · exact Or.inl ⟨by rw [h.1], h.2⟩
    · exact Or.inr (Or.inl ⟨by rw [h.1], h.2⟩)
    · exact Or.inr (Or.inr (Or.inl ⟨by rw [h.1], h.2⟩))
    · exact Or.inr (Or.inr (Or.inr ⟨by rw [h.1], h.2⟩))
  refine WP_ge (c := (¬ n < 0 ∧ n.toNatClampNeg ≤ 8000000 ∧ ((tg, 0) = ((1 : Nat), (0 : Nat)) ∧ t = .int ∨ (tg, 0) = ((2 : Nat), (0 : Nat)) ∧ t = .long ∨ (tg, 0) = ((3 : Nat), (0 : Nat)) ∧ t = .byte ∨ (tg, 0) = ((4 : Nat), (0 : Nat)) ∧ t = .boolean)) ∧ am_ok σ 1 n.toNatClampNeg) ⟨fun h => ⟨⟨h.1.1, h.1.2.1⟩, h.2⟩, fun h => ⟨⟨h.1.1, h.1.2, e⟩, h.2⟩⟩ hc hd ?_
  rw [← am_gg, ← hk]
  have e2 : am_nx mid pc 2 (.newarray t) l (vi n :: r) σ = match kS mid pc with
    | some K => am_gd (¬ n < 0 ∧ n.toNatClampNeg ≤ 8000000 ∧ (kT K = (1, 0) ∧ t = .int ∨ kT K = (2, 0) ∧ t = .long ∨ kT K = (3, 0) ∧ t = .byte ∨ kT K = (4, 0) ∧ t = .boolean)) (am_bud σ 1 n.toNatClampNeg (am_go (pc + 2) l (vr (some (K, gC σ K)) :: r) (am_mk σ K n.toNatClampNeg n.toNatClampNeg)))
    | none => none := rfl
  rw [e2, hs]
  rfl
theorem WP_cast0 (hc : mcode mid = b) (hd : decode b pc = .ok (.checkcast k, 3)) : WP d mid pc l (vr none :: r) σ Q ↔ WP d mid (pc + 3) l (vr none :: r) σ Q := WP_step hc hd rfl
theorem WP_cast {ci : Nat} (hc : mcode mid = b) (hm : mcl mid = cl0) (hd : decode b pc = .ok (.checkcast k, 3)) (hf : clsP cl0 k = some ci) (hk : kT K = (0, ci)) : WP d mid pc l (vr (some (K, i)) :: r) σ Q ↔ i < gC σ K ∧ WP d mid (pc + 3) l (vr (some (K, i)) :: r) σ Q := by
  exact WP_ge (c := (kT K).1 = 0 ∧ i < gC σ K ∧ clsP (mcl mid) k = some (kT K).2) ⟨fun h => h.2.1, fun h => ⟨by rw [hk], h, by rw [hk, hm, hf]⟩⟩ hc hd rfl
theorem WP_ldcI {st : List aV} {v : Int32} (hc : mcode mid = b) (hm : mcl mid = cl0) (hd : decode b pc = .ok (.ldc k, 2)) (hf : cInt cl0 k = some v) : WP d mid pc l st σ Q ↔ WP d mid (pc + 2) l (vi v :: st) σ Q := WP_step hc hd (by simp only [am_nx, hm, hf]; rfl)
theorem WP_ldcS {st : List aV} {t : Nat} (hc : mcode mid = b) (hm : mcl mid = cl0) (hd : decode b pc = .ok (.ldc k, 2)) (h0 : cInt cl0 k = none) (hf : cStr cl0 k = some t) : WP d mid pc l st σ Q ↔ WP d mid (pc + 2) l (vr (some (1, t)) :: st) σ Q := WP_step hc hd (by simp only [am_nx, hm, h0, hf]; rfl)
theorem WP_ldcwI {st : List aV} {v : Int32} (hc : mcode mid = b) (hm : mcl mid = cl0) (hd : decode b pc = .ok (.ldc_w k, 3)) (hf : cInt cl0 k = some v) : WP d mid pc l st σ Q ↔ WP d mid (pc + 3) l (vi v :: st) σ Q := WP_step hc hd (by simp only [am_nx, hm, hf]; rfl)
theorem WP_ldcwS {st : List aV} {t : Nat} (hc : mcode mid = b) (hm : mcl mid = cl0) (hd : decode b pc = .ok (.ldc_w k, 3)) (h0 : cInt cl0 k = none) (hf : cStr cl0 k = some t) : WP d mid pc l st σ Q ↔ WP d mid (pc + 3) l (vr (some (1, t)) :: st) σ Q := WP_step hc hd (by simp only [am_nx, hm, h0, hf]; rfl)
theorem WP_ldc2 {st : List aV} {v : Int64} (hc : mcode mid = b) (hm : mcl mid = cl0) (hd : decode b pc = .ok (.ldc2_w k, 3)) (hf : cLong cl0 k = some v) : WP d mid pc l st σ Q ↔ WP d mid (pc + 3) l (vl v :: st) σ Q := WP_step hc hd (by simp only [am_nx, hm, hf]; rfl)
/-- an own method on an object -/
theorem WP_inv {st As : List aV} {c : Nat} {la : aL} {ci mx na : Nat} (hmx : mml c = mx) (har : mar c = na) (hc : mcode mid = b) (hm : mcl mid = cl0) (hd : decode b pc = .ok (.invokevirtual k, 3)) (hf : cal cl0 k = some (0, c)) (hk : kT K = (0, ci)) (hci : mcl c = ci) (hp : am_pop na st = some (As, vr (some (K, i)) :: r)) (hl : (am_ea (vr (some (K, i)) :: As)).length ≤ mx) (he : am_ent mx (vr (some (K, i)) :: As) = la) : WP (d + 1) mid pc l st σ Q ↔ (i < gC σ K ∧ r.length ≤ 4) ∧ WP d c 0 la [] σ (am_ko (d + 1) mid pc (pc + 3) l r Q) := by
  subst he hmx har
  refine WP_gce (c := (kT K).1 = 0 ∧ (kT K).2 = mcl c ∧ i < gC σ K ∧ r.length ≤ 4 ∧ (am_ea (vr (some (K, i)) :: As)).length ≤ mml c) ⟨fun h => ⟨h.2.2.1, h.2.2.2.1⟩, fun h => ⟨by rw [hk], by rw [hk, hci], h.1, h.2, hl⟩⟩ hc hd ?_
  simp only [am_nx, hm, hf, hp]; rfl
theorem WP_inS {st As : List aV} {c tg : Nat} {la : aL} {mx na : Nat} (hmx : mml c = mx) (har : mar c = na) (hc : mcode mid = b) (hm : mcl mid = cl0) (hd : decode b pc = .ok (.invokestatic k, 3)) (hf : cal cl0 k = some (tg, c)) (ht : tg = 1 ∨ tg = 2) (hp : am_pop na st = some (As, r)) (hl : (am_ea As).length ≤ mx) (he : am_ent mx As = la) : WP (d + 1) mid pc l st σ Q ↔ r.length ≤ 4 ∧ WP d c 0 la [] σ (am_ko (d + 1) mid pc (pc + 3) l r Q) := by
  subst he hmx har
  refine WP_gce (c := r.length ≤ 4 ∧ (am_ea As).length ≤ mml c) ⟨fun h => h.1, fun h => ⟨h, hl⟩⟩ hc hd ?_
  simp only [am_nx, hm, hf, hp, if_pos ht]; rfl
theorem WP_inI {st As : List aV} {c tg : Nat} {la : aL} {ci mx na : Nat} (hmx : mml c = mx) (har : mar c = na) (hc : mcode mid = b) (hm : mcl mid = cl0) (hd : decode b pc = .ok (.invokespecial k, 3)) (hf : cal cl0 k = some (tg, c)) (ht : tg = 3 ∨ tg = 4) (hk : kT K = (0, ci)) (hci : mcl c = ci) (hp : am_pop na st = some (As, vr (some (K, i)) :: r)) (hl : (am_ea (vr (some (K, i)) :: As)).length ≤ mx) (he : am_ent mx (vr (some (K, i)) :: As) = la) : WP (d + 1) mid pc l st σ Q ↔ (i < gC σ K ∧ r.length ≤ 4) ∧ WP d c 0 la [] σ (am_ko (d + 1) mid pc (pc + 3) l r Q) := by
  subst he hmx har
  refine WP_gce (c := (kT K).1 = 0 ∧ (kT K).2 = mcl c ∧ i < gC σ K ∧ r.length ≤ 4 ∧ (am_ea (vr (some (K, i)) :: As)).length ≤ mml c) ⟨fun h => ⟨h.2.2.1, h.2.2.2.1⟩, fun h => ⟨by rw [hk], by rw [hk, hci], h.1, h.2, hl⟩⟩ hc hd ?_
  simp only [am_nx, hm, hf, hp, if_pos ht]; rfl
theorem WP_obj {c : Nat} (hc : mcode mid = b) (hm : mcl mid = cl0) (hd : decode b pc = .ok (.invokespecial k, 3)) (hf : cal cl0 k = some (40, c)) : WP d mid pc l (vr (some (K, i)) :: r) σ Q ↔ r.length ≤ 4 ∧ WP d mid (pc + 3) l r σ Q :=
  WP_gd hc hd (by simp only [am_nx, hm, hf]; rfl)
/-- the library's instance methods -/
theorem WP_lib {st : List aV} {c tg : Nat} {e e9 : Prop} [Decidable e9] {pc' : Nat} {st' : List aV} {σ' : aM} (he : e9 ↔ e) (hc : mcode mid = b) (hm : mcl mid = cl0) (hd : decode b pc = .ok (.invokevirtual k, 3)) (hf : cal cl0 k = some (tg + 1, c)) (hx : am_lv (tg + 1) pc l st σ = am_gd e9 (am_go pc' l st' σ')) : WP d mid pc l st σ Q ↔ e ∧ WP d mid pc' l st' σ' Q :=
  WP_ge he hc hd (by simp only [am_nx, hm, hf]; exact hx)
theorem WP_libS {st : List aV} {c tg : Nat} {e e9 : Prop} [Decidable e9] {pc' : Nat} {st' : List aV} {σ' : aM} (he : e9 ↔ e) (hc : mcode mid = b) (hm : mcl mid = cl0) (hd : decode b pc = .ok (.invokestatic k, 3)) (hf : cal cl0 k = some (tg + 3, c)) (hx : am_ls (tg + 3) mid pc l st σ = am_gd e9 (am_go pc' l st' σ')) : WP d mid pc l st σ Q ↔ e ∧ WP d mid pc' l st' σ' Q :=
  WP_ge he hc hd (by simp only [am_nx, hm, hf]; rw [if_neg (by omega)]; exact hx)
section WPL
variable {c : Nat} {q : Option (Nat × Nat)} {j : Int32}
theorem WP_add (hc : mcode mid = b) (hm : mcl mid = cl0) (hd : decode b pc = .ok (.invokevirtual k, 3)) (hf : cal cl0 k = some (11, c)) : WP d mid pc l (vr q :: vr (some (K, i)) :: r) σ Q ↔ ((kT K = (5, 0) ∧ i < gC σ K ∧ gN σ K i ≤ 40000 ∧ r.length ≤ 4) ∧ am_ok σ 1 (gN σ K i + gN σ K i / 2 + 10)) ∧ WP d mid (pc + 3) l (vi 1 :: r) (am_add σ K i q) Q :=
  WP_lib (tg := 10) (e9 := (kT K = (5, 0) ∧ i < gC σ K ∧ gN σ K i ≤ 40000 ∧ r.length ≤ 4) ∧ am_ok σ 1 (gN σ K i + gN σ K i / 2 + 10)) Iff.rfl hc hm hd hf (by rw [← am_gg]; rfl)
theorem WP_ins (hc : mcode mid = b) (hm : mcl mid = cl0) (hd : decode b pc = .ok (.invokevirtual k, 3)) (hf : cal cl0 k = some (12, c)) : WP d mid pc l (vr q :: vi j :: vr (some (K, i)) :: r) σ Q ↔ ((kT K = (5, 0) ∧ i < gC σ K ∧ gN σ K i ≤ 40000 ∧ r.length ≤ 4 ∧ am_in j (gN σ K i + 1)) ∧ am_ok σ 1 (gN σ K i + gN σ K i / 2 + 10)) ∧ WP d mid (pc + 3) l r (am_ins σ K i j.toNatClampNeg q) Q :=
  WP_lib (tg := 11) (e9 := (kT K = (5, 0) ∧ i < gC σ K ∧ gN σ K i ≤ 40000 ∧ r.length ≤ 4 ∧ am_in j (gN σ K i + 1)) ∧ am_ok σ 1 (gN σ K i + gN σ K i / 2 + 10)) Iff.rfl hc hm hd hf (by rw [← am_gg]; rfl)
theorem WP_get (hc : mcode mid = b) (hm : mcl mid = cl0) (hd : decode b pc = .ok (.invokevirtual k, 3)) (hf : cal cl0 k = some (13, c)) : WP d mid pc l (vi j :: vr (some (K, i)) :: r) σ Q ↔ (kT K = (5, 0) ∧ i < gC σ K ∧ r.length ≤ 4 ∧ am_in j (gN σ K i)) ∧ WP d mid (pc + 3) l (vr (gR σ K i j.toNatClampNeg) :: r) σ Q :=
  WP_lib (tg := 12) (e9 := kT K = (5, 0) ∧ i < gC σ K ∧ r.length ≤ 4 ∧ am_in j (gN σ K i)) Iff.rfl hc hm hd hf rfl
theorem WP_rem (hc : mcode mid = b) (hm : mcl mid = cl0) (hd : decode b pc = .ok (.invokevirtual k, 3)) (hf : cal cl0 k = some (14, c)) : WP d mid pc l (vi j :: vr (some (K, i)) :: r) σ Q ↔ (kT K = (5, 0) ∧ i < gC σ K ∧ r.length ≤ 4 ∧ am_in j (gN σ K i)) ∧ WP d mid (pc + 3) l (vr (gR σ K i j.toNatClampNeg) :: r) (am_rem σ K i j.toNatClampNeg) Q :=
  WP_lib (tg := 13) (e9 := kT K = (5, 0) ∧ i < gC σ K ∧ r.length ≤ 4 ∧ am_in j (gN σ K i)) Iff.rfl hc hm hd hf rfl
theorem WP_size (hc : mcode mid = b) (hm : mcl mid = cl0) (hd : decode b pc = .ok (.invokevirtual k, 3)) (hf : cal cl0 k = some (15, c)) : WP d mid pc l (vr (some (K, i)) :: r) σ Q ↔ (kT K = (5, 0) ∧ i < gC σ K ∧ r.length ≤ 4) ∧ WP d mid (pc + 3) l (vi (nI (gN σ K i)) :: r) σ Q :=
  WP_lib (tg := 14) (e9 := kT K = (5, 0) ∧ i < gC σ K ∧ r.length ≤ 4) Iff.rfl hc hm hd hf rfl
theorem WP_clear (hc : mcode mid = b) (hm : mcl mid = cl0) (hd : decode b pc = .ok (.invokevirtual k, 3)) (hf : cal cl0 k = some (16, c)) : WP d mid pc l (vr (some (K, i)) :: r) σ Q ↔ (kT K = (5, 0) ∧ i < gC σ K ∧ r.length ≤ 4) ∧ WP d mid (pc + 3) l r (sN σ K i 0) Q :=
  WP_lib (tg := 15) (e9 := kT K = (5, 0) ∧ i < gC σ K ∧ r.length ≤ 4) Iff.rfl hc hm hd hf rfl
theorem WP_isEm (hc : mcode mid = b) (hm : mcl mid = cl0) (hd : decode b pc = .ok (.invokevirtual k, 3)) (hf : cal cl0 k = some (17, c)) : WP d mid pc l (vr (some (K, i)) :: r) σ Q ↔ (kT K = (5, 0) ∧ i < gC σ K ∧ r.length ≤ 4) ∧ WP d mid (pc + 3) l (vi (if gN σ K i = 0 then 1 else 0) :: r) σ Q :=
  WP_lib (tg := 16) (e9 := kT K = (5, 0) ∧ i < gC σ K ∧ r.length ≤ 4) Iff.rfl hc hm hd hf rfl
theorem WP_slen (hc : mcode mid = b) (hm : mcl mid = cl0) (hd : decode b pc = .ok (.invokevirtual k, 3)) (hf : cal cl0 k = some (21, c)) : WP d mid pc l (vr (some (1, i)) :: r) σ Q ↔ (i < stxt.length ∧ r.length ≤ 4) ∧ WP d mid (pc + 3) l (vi (nI (stxt.getD i []).length) :: r) σ Q :=
  WP_lib (tg := 20) (and_iff_right rfl) hc hm hd hf rfl
theorem WP_char (hc : mcode mid = b) (hm : mcl mid = cl0) (hd : decode b pc = .ok (.invokevirtual k, 3)) (hf : cal cl0 k = some (22, c)) : WP d mid pc l (vi j :: vr (some (1, i)) :: r) σ Q ↔ (i < stxt.length ∧ r.length ≤ 4 ∧ am_in j (stxt.getD i []).length) ∧ WP d mid (pc + 3) l (vi (nI ((stxt.getD i []).getD j.toNatClampNeg 0)) :: r) σ Q :=
  WP_lib (tg := 21) (and_iff_right rfl) hc hm hd hf rfl
theorem WP_copy {K2 : Nat} (hc : mcode mid = b) (hm : mcl mid = cl0) (hd : decode b pc = .ok (.invokestatic k, 3)) (hf : cal cl0 k = some (31, c)) (hs : kS mid pc = some K2) (hk2 : kT K2 = (1, 0)) (hk : kT K = (1, 0)) : WP d mid pc l (vi j :: vr (some (K, i)) :: r) σ Q ↔ ((i < gC σ K ∧ gN σ K i ≤ 100000 ∧ r.length ≤ 4 ∧ am_in j (gN σ K i + 1)) ∧ am_ok σ 1 j.toNatClampNeg) ∧ WP d mid (pc + 3) l (vr (some (K2, gC σ K2)) :: r) (sIr (am_mk σ K2 j.toNatClampNeg j.toNatClampNeg) K2 (gC σ K2) (gI σ K i)) Q :=
  WP_libS (tg := 28) (e9 := (kT K = (1, 0) ∧ kT K2 = (1, 0) ∧ i < gC σ K ∧ gN σ K i ≤ 100000 ∧ r.length ≤ 4 ∧ am_in j (gN σ K i + 1)) ∧ am_ok σ 1 j.toNatClampNeg) ⟨fun h => ⟨h.1.2.2, h.2⟩, fun h => ⟨⟨hk, hk2, h.1⟩, h.2⟩⟩ hc hm hd hf (by rw [← am_gg]; simp only [am_ls, am_i1, am_ro, hs]; rfl)
theorem WP_fill {v : Int64} (hc : mcode mid = b) (hm : mcl mid = cl0) (hd : decode b pc = .ok (.invokestatic k, 3)) (hf : cal cl0 k = some (32, c)) : WP d mid pc l (vl v :: vr (some (K, i)) :: r) σ Q ↔ (kT K = (2, 0) ∧ i < gC σ K ∧ gN σ K i ≤ 100000 ∧ r.length ≤ 4) ∧ WP d mid (pc + 3) l r (sLr σ K i (fun _ => v)) Q :=
  WP_libS (tg := 29) (e9 := kT K = (2, 0) ∧ i < gC σ K ∧ gN σ K i ≤ 100000 ∧ r.length ≤ 4) Iff.rfl hc hm hd hf rfl
theorem WP_min {x y : Int32} (hc : mcode mid = b) (hm : mcl mid = cl0) (hd : decode b pc = .ok (.invokestatic k, 3)) (hf : cal cl0 k = some (33, c)) : WP d mid pc l (vi y :: vi x :: r) σ Q ↔ r.length ≤ 4 ∧ WP d mid (pc + 3) l (vi (if y < x then y else x) :: r) σ Q :=
  WP_libS (tg := 30) Iff.rfl hc hm hd hf rfl
theorem WP_max {x y : Int64} (hc : mcode mid = b) (hm : mcl mid = cl0) (hd : decode b pc = .ok (.invokestatic k, 3)) (hf : cal cl0 k = some (34, c)) : WP d mid pc l (vl y :: vl x :: r) σ Q ↔ r.length ≤ 4 ∧ WP d mid (pc + 3) l (vl (if x < y then y else x) :: r) σ Q :=
  WP_libS (tg := 31) Iff.rfl hc hm hd hf rfl
theorem WP_bits {x : Int32} (hc : mcode mid = b) (hm : mcl mid = cl0) (hd : decode b pc = .ok (.invokestatic k, 3)) (hf : cal cl0 k = some (35, c)) : WP d mid pc l (vi x :: r) σ Q ↔ r.length ≤ 4 ∧ WP d mid (pc + 3) l (vi (am_bc x) :: r) σ Q :=
  WP_libS (tg := 32) Iff.rfl hc hm hd hf rfl
end WPL
end WPO
