/-! the simulation -/
section SIMZ
variable {D : va_G} {G : xG} {A : Nat → Prop} {lc : Launch}
theorem ex_mono_b : ∀ (n d mid pc : Nat) (l : aL) (st : List aV) (σ : aM) (v1 : aR) (σ1 : aM), am_ex n d mid pc l st σ (fun v t => v = v1 ∧ t = σ1) → (gB σ).1 ≤ (gB σ1).1 ∧ (gB σ).2 ≤ (gB σ1).2 := by
  intro n
  induction n with
  | zero => intro d mid pc l st σ v1 σ1 h; exact h.elim
  | succ n ih =>
    intro d mid pc l st σ v1 σ1 h
    unfold am_ex at h
    cases hd : decode (mcode mid) pc with
    | error e => rw [hd] at h; exact h.elim
    | ok q =>
      obtain ⟨i, len⟩ := q
      rw [hd] at h
      dsimp only at h
      cases hx : am_nx mid pc len i l st σ with
      | none => rw [hx] at h; exact h.elim
      | some y =>
        rw [hx] at h
        rcases y with ⟨pc', l', st', σ'⟩ | ⟨c, la, pc', r⟩ | ⟨v, σ'⟩
        · have h1 := st_mono hx
          have h2 := ih _ _ _ _ _ _ _ _ h
          exact ⟨Nat.le_trans h1.1 h2.1, Nat.le_trans h1.2 h2.2⟩
        · cases d with
          | zero => exact h.elim
          | succ d =>
            obtain ⟨r1, s1, hp, h1⟩ := am_one _ _ _ _ _ _ _ _ h
            have g1 := ih _ _ _ _ _ _ _ _ h1
            have g2 : (gB s1).1 ≤ (gB σ1).1 ∧ (gB s1).2 ≤ (gB σ1).2 := by
              rcases r1 with _ | _ | v
              · dsimp only at hp
                cases hh : hnd mid pc with
                | none => rw [hh] at hp; exact hp.elim
                | some h9 => rw [hh] at hp; exact ih _ _ _ _ _ _ _ _ hp
              · exact ih _ _ _ _ _ _ _ _ hp
              · exact ih _ _ _ _ _ _ _ _ hp
            exact ⟨Nat.le_trans g1.1 g2.1, Nat.le_trans g1.2 g2.2⟩
        · obtain ⟨rfl, rfl⟩ := h
          rcases nx_r hx with ⟨v, hz, _⟩ | ⟨_, _, _, _, _, _, _, hz, _⟩ | ⟨hz, _⟩
          · cases hz; exact ⟨Nat.le_refl _, Nat.le_refl _⟩
          · cases hz
          · cases hz; exact ⟨Nat.le_add_right _ _, Nat.le_add_right _ _⟩
theorem ex_room : ∀ {n d mid pc : Nat} {l : aL} {st : List aV} {σ : aM} {v1 : aR} {σ1 : aM}, am_ex n d mid pc l st σ (fun v t => v = v1 ∧ t = σ1) → (gB σ).1 ≤ 601024 ∧ (gB σ).2 ≤ 7293034 → (gB σ1).1 ≤ 601024 ∧ (gB σ1).2 ≤ 7293034 := by
  intro n
  induction n with
  | zero => intro d mid pc l st σ v1 σ1 h; exact h.elim
  | succ n ih =>
    intro d mid pc l st σ v1 σ1 h h0
    unfold am_ex at h
    cases hd : decode (mcode mid) pc with
    | error e => rw [hd] at h; exact h.elim
    | ok q =>
      obtain ⟨i, len⟩ := q
      rw [hd] at h
      dsimp only at h
      cases hx : am_nx mid pc len i l st σ with
      | none => rw [hx] at h; exact h.elim
      | some y =>
        rw [hx] at h
        rcases y with ⟨pc', l', st', σ'⟩ | ⟨c, la, pc', r⟩ | ⟨v, σ'⟩
        · exact ih h (st_bound hx h0)
        · cases d with
          | zero => exact h.elim
          | succ d =>
            obtain ⟨r1, s1, hp, h1⟩ := am_one _ _ _ _ _ _ _ _ h
            have g1 := ih h1 h0
            rcases r1 with _ | _ | v
            · dsimp only at hp
              cases hh : hnd mid pc with
              | none => rw [hh] at hp; exact hp.elim
              | some h9 => rw [hh] at hp; exact ih hp g1
            · exact ih hp g1
            · exact ih hp g1
        · obtain ⟨rfl, rfl⟩ := h
          rcases nx_r hx with ⟨v, hz, _⟩ | ⟨_, _, _, _, _, _, _, hz, _⟩ | ⟨hz, _, _, _, _, _, hb⟩
          · cases hz; exact h0
          · cases hz
          · cases hz; exact hb
theorem hnd_c4 {mid pc k tg cm h : Nat} {As st r : List aV} {i9 : Instr} (hh : hnd mid pc = some h) (hd : decode (mcode mid) pc = .ok (i9, 3)) (hf : cal (mcl mid) k = some (tg, cm))
    (hkind : (tg = 0 ∧ i9 = .invokevirtual k ∧ ∃ K i B, As = vr (some (K, i)) :: B ∧ st = B.reverse ++ vr (some (K, i)) :: r ∧ B.length = mar cm ∧ (kT K).1 = 0 ∧ (kT K).2 = mcl cm) ∨ ((tg = 1 ∨ tg = 2) ∧ i9 = .invokestatic k ∧ st = As.reverse ++ r ∧ As.length = mar cm) ∨ ((tg = 3 ∨ tg = 4) ∧ i9 = .invokespecial k ∧ ∃ K i B, As = vr (some (K, i)) :: B ∧ st = B.reverse ++ vr (some (K, i)) :: r ∧ B.length = mar cm ∧ (kT K).1 = 0)) : 4 ≤ cm := by
  obtain ⟨-, -, ⟨k9, hk9⟩, -⟩ := hnd_at hh
  have hiv : i9 = .invokevirtual k9 := by
    have := hd.symm.trans hk9
    cases this
    rfl
  rcases hkind with ⟨rfl, _⟩ | ⟨_, rfl, _⟩ | ⟨_, rfl, _⟩
  · exact ((ok_cal hf).2.1 rfl).1
  · cases hiv
  · cases hiv
theorem sim2 (hst9 : lc.stackTraces = false) (n : Nat) : SIM2 lc D G A n := by
  induction n with
  | zero => intro d mid pc l st σ v1 σ1 h; exact h.elim
  | succ n ih =>
    intro d mid pc l st σ v1 σ1 h hI hkm p e R s m args below meth c Z ad0 b0 C hwx hE hroom hfin
    unfold am_ex at h
    cases hd : decode (mcode mid) pc with
    | error e => rw [hd] at h; exact h.elim
    | ok q =>
      obtain ⟨i, len⟩ := q
      rw [hd] at h
      dsimp only at h
      cases hx : am_nx mid pc len i l st σ with
      | none => rw [hx] at h; exact h.elim
      | some y =>
        rw [hx] at h
        rcases y with ⟨pc', l', st', σ'⟩ | ⟨cc, la, pc', rr⟩ | ⟨v, σ'⟩
        · have hb := ex_mono_b _ _ _ _ _ _ _ _ _ h
          obtain ⟨g1, g2⟩ := FIV_nx hI hkm hd hx
          exact st_step (fun c => (hI.1 c).2) hkm C hd hx ⟨Nat.le_trans hb.1 hroom.1, Nat.le_trans hb.2 hroom.2⟩ (ih _ _ _ _ _ _ _ _ h g1 g2 p e R s m args below meth c Z ad0 b0 C hwx hE hroom hfin)
        · cases d with
          | zero => exact h.elim
          | succ d =>
            obtain ⟨r1, s1, hp, h1⟩ := am_one _ _ _ _ _ _ _ _ h
            rcases nx_r hx with ⟨v, hz, _⟩ | ⟨k, tg, cm, As, r, rfl, hf, hz, hkind, hl, hr4⟩ | ⟨hz, _⟩
            · cases hz
            · cases hz
              obtain ⟨f1, f2, f3⟩ := FIV_call hI hd hf hkind
              obtain ⟨k1, k2⟩ := ex_inv _ _ _ _ _ _ _ _ _ h1 f1 hkm
              have g1 := ex_mono_b _ _ _ _ _ _ _ _ _ h1
              rcases r1 with _ | _ | v
              · dsimp only at hp
                cases hh : hnd mid pc with
                | none => rw [hh] at hp; exact hp.elim
                | some h9 =>
                  rw [hh] at hp
                  have g2 := ex_mono_b _ _ _ _ _ _ _ _ _ hp
                  exact rl_callX hst9 ih f1 hkm hwx hE C hd hf (hnd_c4 hh hd hf hkind) hkind hl hr4 h1 g1 ⟨Nat.le_trans g2.1 hroom.1, Nat.le_trans g2.2 hroom.2⟩ hh (ih _ _ _ _ _ _ _ _ hp (f3 _ _ hh) k1 p e R s m args below meth c Z ad0 b0 C hwx hE hroom hfin)
              · have g2 := ex_mono_b _ _ _ _ _ _ _ _ _ hp
                have kk := ih _ _ _ _ _ _ _ _ hp ((f2 _ k2).2 rfl) k1 p e R s m args below meth c Z ad0 b0 C hwx hE hroom hfin
                by_cases c4 : 4 ≤ cc
                · exact rl_call2 ih f1 hkm hwx C hd hf c4 hkind hl hr4 h1 g1 ⟨Nat.le_trans g2.1 hroom.1, Nat.le_trans g2.2 hroom.2⟩ kk
                · exact rl_callH ih f1 hkm hwx C hd hf (Nat.lt_of_not_le c4) hkind hl hr4 h1 g1 ⟨Nat.le_trans g2.1 hroom.1, Nat.le_trans g2.2 hroom.2⟩ kk
              · have g2 := ex_mono_b _ _ _ _ _ _ _ _ _ hp
                have kk := ih _ _ _ _ _ _ _ _ hp ((f2 _ k2).1 _ rfl) k1 p e R s m args below meth c Z ad0 b0 C hwx hE hroom hfin
                by_cases c4 : 4 ≤ cc
                · exact rl_call2 ih f1 hkm hwx C hd hf c4 hkind hl hr4 h1 g1 ⟨Nat.le_trans g2.1 hroom.1, Nat.le_trans g2.2 hroom.2⟩ kk
                · exact rl_callH ih f1 hkm hwx C hd hf (Nat.lt_of_not_le c4) hkind hl hr4 h1 g1 ⟨Nat.le_trans g2.1 hroom.1, Nat.le_trans g2.2 hroom.2⟩ kk
            · cases hz
        · obtain ⟨rfl, rfl⟩ := h
          rcases nx_r hx with ⟨v, hz, rfl, hret⟩ | ⟨_, _, _, _, _, _, _, hz, _⟩ | ⟨hz, k, rfl, rfl, hcl, ⟨hth, hs0⟩, _⟩
          · cases hz
            intro H locs cells slots ls cst ad bk ws tys lv hH hS hle hl hlr hll hst h1 h2
            refine hfin.1 H locs cells slots ls cst ad bk ws tys pc hH hS hle h1 h2 ?_
            rcases hret with ⟨rfl, rfl, rfl, ht⟩ | ⟨rfl, x, rfl, rfl, ht⟩ | ⟨rfl, x, rfl, rfl, ht⟩ | ⟨rfl, x, rfl, rfl, ht⟩
            · cases cst with
              | nil => exact ⟨hd, rfl, ht⟩
              | cons w c2 => exact hst.elim
            · obtain ⟨w, c2, rfl, hw, hs2⟩ := hst.cons
              cases c2 with
              | nil => cases hw; exact ⟨hd, rfl, ht⟩
              | cons w c2 => exact hs2.elim
            · obtain ⟨w, c2, rfl, hw, hs2⟩ := hst.cons
              cases c2 with
              | nil => cases hw; exact ⟨hd, rfl, ht⟩
              | cons w c2 => exact hs2.elim
            · obtain ⟨w, c2, rfl, hw, hs2⟩ := hst.cons
              cases c2 with
              | nil => exact ⟨hd, ⟨w, rfl, hw⟩, ht⟩
              | cons w c2 => exact hs2.elim
          · cases hz
          · cases hz
            obtain rfl := List.length_eq_zero_iff.mp hs0
            intro H locs cells slots ls cst ad bk ws tys lv hH hS hle hl hlr hll hst h1 h2
            cases cst with
            | nil => exact hfin.2 rfl H locs cells slots ls ad bk ws tys pc k σ rfl hH hS hle hl.1 h1 h2 hd hcl hth
            | cons w c2 => exact hst.elim
end SIMZ
