section SIMZ
variable {D : va_G} {G : xG} {A : Nat → Prop} {lc : Launch}
theorem ex_mono_b : ∀ (n d mid pc : Nat) (l : aL) (st : List aV) (σ : aM) (v1 : aR) (σ1 : aM), am_ex n d mid pc l st σ (fun v t => v = v1 ∧ t = σ1) → (gB σ).1 ≤ (gB σ1).1 ∧ (gB σ).2 ≤ (gB σ1).2 := by
  intro n
  induction n with
  | zero => intro d mid pc l st σ v1 σ1 h; exact h.elim
  | succ n ih =>
    intro d mid pc l st σ v1 σ1 h
    unfold am_ex at h
    cases hd : decode (mcode mid) pc with
    | error e => rw [hd] at h; exact h.elim
    | ok q =>
      obtain ⟨i, len⟩ := q
      rw [hd] at h
      dsimp only at h
      cases hx : am_nx mid pc len i l st σ with
      | none => rw [hx] at h; exact h.elim
      | some y =>
        rw [hx] at h
        rcases y with ⟨pc', l', st', σ'⟩ | ⟨c, la, pc', r⟩ | ⟨v, σ'⟩
        · have h1 := st_mono hx
          have h2 := ih _ _ _ _ _ _ _ _ h
          exact ⟨Nat.le_trans h1.1 h2.1, Nat.le_trans h1.2 h2.2⟩
        · cases d with
          | zero => exact h.elim
          | succ d =>
            obtain ⟨r1, s1, hp, h1⟩ := am_one _ _ _ _ _ _ _ _ h
            have g1 := ih _ _ _ _ _ _ _ _ h1
            have g2 : (gB s1).1 ≤ (gB σ1).1 ∧ (gB s1).2 ≤ (gB σ1).2 := by
              rcases r1 with _ | _ | v
              · dsimp only at hp
                cases hh : hnd mid pc with
                | none => rw [hh] at hp; exact hp.elim
                | some h9 => rw [hh] at hp; exact ih _ _ _ _ _ _ _ _ hp
              · exact ih _ _ _ _ _ _ _ _ hp
              · exact ih _ _ _ _ _ _ _ _ hp
            exact ⟨Nat.le_trans g1.1 g2.1, Nat.le_trans g1.2 g2.2⟩
        · obtain ⟨rfl, rfl⟩ := h
          rcases nx_r hx with ⟨v, hz, _⟩ | ⟨_, _, _, _, _, _, _, hz, _⟩ | ⟨hz, _⟩
          · cases hz; exact ⟨Nat.le_refl _, Nat.le_refl _⟩
          · cases hz
          · cases hz; exact ⟨Nat.le_add_right _ _, Nat.le_add_right _ _⟩
theorem ex_room : ∀ {n d mid pc : Nat} {l : aL} {st : List aV} {σ : aM} {v1 : aR} {σ1 : aM}, am_ex n d mid pc l st σ (fun v t => v = v1 ∧ t = σ1) → (gB σ).1 ≤ 601024 ∧ (gB σ).2 ≤ 7293034 → (gB σ1).1 ≤ 601024 ∧ (gB σ1).2 ≤ 7293034 := by
  intro n
  induction n with
  | zero => intro d mid pc l st σ v1 σ1 h; exact h.elim
  | succ n ih =>
    intro d mid pc l st σ v1 σ1 h h0
    unfold am_ex at h
    cases hd : decode (mcode mid) pc with
    | error e => rw [hd] at h; exact h.elim
    | ok q =>
      obtain ⟨i, len⟩ := q
      rw [hd] at h
      dsimp only at h
      cases hx : am_nx mid pc len i l st σ with
      | none => rw [hx] at h; exact h.elim
      | some y =>
        rw [hx] at h
        rcases y with ⟨pc', l', st', σ'⟩ | ⟨c, la, pc', r⟩ | ⟨v, σ'⟩
        · exact ih h (st_bound hx h0)
        · cases d with
          | zero => exact h.elim
          | succ d =>
            obtain ⟨r1, s1, hp, h1⟩ := am_one _ _ _ _ _ _ _ _ h
            have g1 := ih h1 h0
            rcases r1 with _ | _ | v
            · dsimp only at hp
              cases hh : hnd mid pc with
              | none => rw [hh] at hp; exact hp.elim
              | some h9 => rw [hh] at hp; exact ih hp g1
            · exact ih hp g1
            · exact ih hp g1
        · obtain ⟨rfl, rfl⟩ := h
          rcases nx_r hx with ⟨v, hz, _⟩ | ⟨_, _, _, _, _, _, _, hz, _⟩ | ⟨hz, _, _, _, _, _, hb⟩
          · cases hz; exact h0
          · cases hz
          · cases hz; exact hb
/-- OPEN: a call whose callee has a table of its own, or throws -/
theorem rl_callX_open {n d mid cm k tg pc : Nat} {l : aL} {st As r : List aV} {σ σ1 s1 : aM} {r1 v1 : aR} {i9 : Instr} {p : Program} {e : Env} {R : Room} {s : State} {m : MethodId} {args : Array Value} {below : List Frame} {meth : Method} {c : Code} {Z : State → Prop} {ad0 : sA} {b0 : Nat × Nat} (ih : SIMn lc D G A n) (C : Cx mid (d + 1) G A p R s m args meth c) (hd : decode (mcode mid) pc = .ok (i9, 3)) (hf : cal (mcl mid) k = some (tg, cm)) (hcm : cm < 4 ∨ r1 = none) : Rl D G A mid p lc e R s m args below meth c Z ad0 b0 pc l st σ := sorry
theorem sim (n : Nat) : SIMn lc D G A n := by
  induction n with
  | zero => intro d mid pc l st σ v1 σ1 h; exact h.elim
  | succ n ih =>
    intro d mid pc l st σ v1 σ1 h p e R s m args below meth c Z ad0 b0 C hroom hfin
    unfold am_ex at h
    cases hd : decode (mcode mid) pc with
    | error e => rw [hd] at h; exact h.elim
    | ok q =>
      obtain ⟨i, len⟩ := q
      rw [hd] at h
      dsimp only at h
      cases hx : am_nx mid pc len i l st σ with
      | none => rw [hx] at h; exact h.elim
      | some y =>
        rw [hx] at h
        rcases y with ⟨pc', l', st', σ'⟩ | ⟨cc, la, pc', rr⟩ | ⟨v, σ'⟩
        · have hb := ex_mono_b _ _ _ _ _ _ _ _ _ h
          exact st_step C hd hx ⟨Nat.le_trans hb.1 hroom.1, Nat.le_trans hb.2 hroom.2⟩ (ih _ _ _ _ _ _ _ _ h p e R s m args below meth c Z ad0 b0 C hroom hfin)
        · cases d with
          | zero => exact h.elim
          | succ d =>
            obtain ⟨r1, s1, hp, h1⟩ := am_one _ _ _ _ _ _ _ _ h
            rcases nx_r hx with ⟨v, hz, _⟩ | ⟨k, tg, cm, As, r, rfl, hf, hz, hkind, hl, hr4⟩ | ⟨hz, _⟩
            · cases hz
            · cases hz
              by_cases hcm : 4 ≤ cc ∧ r1 ≠ none
              · have g1 := ex_mono_b _ _ _ _ _ _ _ _ _ h1
                have g2 : (gB s1).1 ≤ (gB σ1).1 ∧ (gB s1).2 ≤ (gB σ1).2 := by
                  rcases r1 with _ | _ | v
                  · exact absurd rfl hcm.2
                  · exact ex_mono_b _ _ _ _ _ _ _ _ _ hp
                  · exact ex_mono_b _ _ _ _ _ _ _ _ _ hp
                refine rl_call ih C hd hf hcm.1 hkind hl hr4 h1 g1 ⟨Nat.le_trans g2.1 hroom.1, Nat.le_trans g2.2 hroom.2⟩ ?_
                rcases r1 with _ | _ | v
                · exact absurd rfl hcm.2
                · exact ih _ _ _ _ _ _ _ _ hp p e R s m args below meth c Z ad0 b0 C hroom hfin
                · exact ih _ _ _ _ _ _ _ _ hp p e R s m args below meth c Z ad0 b0 C hroom hfin
              · refine rl_callX_open ih C hd hf (r1 := r1) (As := As) (r := rr) (σ1 := σ1) (s1 := s1) (v1 := v1) ?_
                rcases Nat.lt_or_ge cc 4 with c4 | c4
                · exact Or.inl c4
                · exact Or.inr (Classical.byContradiction fun g => hcm ⟨c4, g⟩)
            · cases hz
        · obtain ⟨rfl, rfl⟩ := h
          rcases nx_r hx with ⟨v, hz, rfl, hret⟩ | ⟨_, _, _, _, _, _, _, hz, _⟩ | ⟨hz, hthr⟩
          · cases hz
            intro H locs cells slots ls cst ad bk ws tys lv hH hS hle hl hlr hll hst h1 h2
            refine hfin H locs cells slots ls cst ad bk ws tys pc hH hS hle h1 h2 ?_
            rcases hret with ⟨rfl, rfl, rfl, ht⟩ | ⟨rfl, x, rfl, rfl, ht⟩ | ⟨rfl, x, rfl, rfl, ht⟩ | ⟨rfl, x, rfl, rfl, ht⟩
            · cases cst with
              | nil => exact ⟨hd, rfl, ht⟩
              | cons w c2 => exact hst.elim
            · obtain ⟨w, c2, rfl, hw, hs2⟩ := hst.cons
              cases c2 with
              | nil => cases hw; exact ⟨hd, rfl, ht⟩
              | cons w c2 => exact hs2.elim
            · obtain ⟨w, c2, rfl, hw, hs2⟩ := hst.cons
              cases c2 with
              | nil => cases hw; exact ⟨hd, rfl, ht⟩
              | cons w c2 => exact hs2.elim
            · obtain ⟨w, c2, rfl, hw, hs2⟩ := hst.cons
              cases c2 with
              | nil => exact ⟨hd, ⟨w, rfl, hw⟩, ht⟩
              | cons w c2 => exact hs2.elim
          · cases hz
          · sorry
end SIMZ
