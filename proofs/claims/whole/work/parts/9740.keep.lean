/-! what a run keeps; what is thrown -/
section FIVX
theorem u1_out {code : ByteArray} {pc : Nat} (h : ¬ pc < code.size) : (Reader.u1 : Decoder Nat) code pc = .error (HasTruncated.truncated pc) := by
  show (if h : pc < code.size then _ else (throw (HasTruncated.truncated pc) : Decoder Nat)) code pc = _
  rw [dif_neg h]
  rfl
theorem dec_lt {code : ByteArray} {pc : Nat} {q : Instr × Nat} (h : decode code pc = .ok q) : pc < code.size := by
  rcases Nat.lt_or_ge pc code.size with c | c
  · exact c
  · exfalso
    have e : Decoder.instr pc code pc = .error (HasTruncated.truncated pc) := by
      unfold Decoder.instr
      show Except.bind ((Reader.u1 : Decoder Nat) code pc) _ = _
      rw [u1_out (Nat.not_lt.mpr c)]
      rfl
    have e2 : decode code pc = Except.bind (Decoder.instr pc code pc) (fun z => pure (z.1, z.2 - pc)) := rfl
    rw [e2, e] at h
    cases h
variable {mid pc : Nat} {l : aL} {st : List aV} {σ : aM}
theorem FIV_nx {i : Instr} {len pc' : Nat} {l' : aL} {st' : List aV} {σ' : aM} (hI : FIV mid pc l st) (hm : KMe σ) (hd : decode (mcode mid) pc = .ok (i, len)) (hx : am_nx mid pc len i l st σ = some (.inl (pc', l', st', σ'))) : FIV mid pc' l' st' ∧ KMe σ' := by
  by_cases c : mcl mid = 14
  · have ht := ty_nx (hI.2 c).1 hd (hI.2 c) hx
    exact ⟨⟨fun h => absurd c h, fun _ => ht⟩, m_nx c hm hx⟩
  · obtain ⟨h1, h2⟩ := hI.1 c
    obtain ⟨g1, g2, g3⟩ := k_nx h1 h2 hm hx
    exact ⟨⟨fun _ => ⟨g1, g2⟩, fun h => absurd h c⟩, g3⟩
theorem RTY_n : RTY mid none := ⟨fun e => (by cases e), fun x e => (by cases e)⟩
theorem FIV_ret {i : Instr} {len : Nat} {v : aR} (hI : FIV mid pc l st) (hd : decode (mcode mid) pc = .ok (i, len)) (hr : RETA mid len i st v) : RTY mid v := by
  rcases hr with ⟨rfl, rfl, rfl, h⟩ | ⟨rfl, x, rfl, rfl, h⟩ | ⟨rfl, x, rfl, rfl, h⟩ | ⟨rfl, x, rfl, rfl, h⟩
  · exact ⟨fun _ => h, fun x e => (by cases e)⟩
  · refine ⟨fun e => (by cases e), fun y e => ?_⟩
    cases e
    exact ⟨Kv_i, Or.inl ⟨x, rfl, h.imp id And.left⟩⟩
  · refine ⟨fun e => (by cases e), fun y e => ?_⟩
    cases e
    exact ⟨Kv_l, Or.inr (Or.inl ⟨x, rfl, h⟩)⟩
  · refine ⟨fun e => (by cases e), fun y e => ?_⟩
    cases e
    refine ⟨?_, Or.inr (Or.inr ⟨x, rfl, h⟩)⟩
    by_cases c : mcl mid = 14
    · obtain ⟨hm, ts, g1, g2, g3⟩ := hI.2 c
      have hc := chk_at hm hd g1
      exact absurd (show false = true from hc) Bool.false_ne_true
    · exact KSt_h (hI.1 c).2
theorem ex_inv : ∀ (n d mid pc : Nat) (l : aL) (st : List aV) (σ : aM) (v1 : aR) (σ1 : aM), am_ex n d mid pc l st σ (fun v t => v = v1 ∧ t = σ1) → FIV mid pc l st → KMe σ → KMe σ1 ∧ RTY mid v1 := by
  intro n
  induction n with
  | zero => intro d mid pc l st σ v1 σ1 h; exact h.elim
  | succ n ih =>
    intro d mid pc l st σ v1 σ1 h hI hm
    unfold am_ex at h
    cases hd : decode (mcode mid) pc with
    | error e => rw [hd] at h; exact h.elim
    | ok q =>
      obtain ⟨i, len⟩ := q
      rw [hd] at h
      dsimp only at h
      cases hx : am_nx mid pc len i l st σ with
      | none => rw [hx] at h; exact h.elim
      | some y =>
        rw [hx] at h
        rcases y with ⟨pc', l', st', σ'⟩ | ⟨c, la, pc', r⟩ | ⟨v, σ'⟩
        · obtain ⟨g1, g2⟩ := FIV_nx hI hm hd hx
          exact ih _ _ _ _ _ _ _ _ h g1 g2
        · cases d with
          | zero => exact h.elim
          | succ d =>
            obtain ⟨r1, s1, hp, h1⟩ := am_one _ _ _ _ _ _ _ _ h
            rcases nx_r hx with ⟨v, hz, _⟩ | ⟨k, tg, cm, As, r2, rfl, hf, hz, hkind, hl, hr4⟩ | ⟨hz, _⟩
            · cases hz
            · cases hz
              obtain ⟨g1, g2, g3⟩ := FIV_call hI hd hf hkind
              obtain ⟨k1, k2⟩ := ih _ _ _ _ _ _ _ _ h1 g1 hm
              rcases r1 with _ | _ | v
              · dsimp only at hp
                cases hh : hnd mid pc with
                | none => rw [hh] at hp; exact hp.elim
                | some h9 => rw [hh] at hp; exact ih _ _ _ _ _ _ _ _ hp (g3 _ _ hh) k1
              · exact ih _ _ _ _ _ _ _ _ hp ((g2 _ k2).2 rfl) k1
              · exact ih _ _ _ _ _ _ _ _ hp ((g2 _ k2).1 _ rfl) k1
            · cases hz
        · obtain ⟨rfl, rfl⟩ := h
          rcases nx_r hx with ⟨v, hz, rfl, hret⟩ | ⟨_, _, _, _, _, _, _, hz, _⟩ | ⟨hz, ht⟩
          · cases hz; exact ⟨hm, FIV_ret hI hd hret⟩
          · cases hz
          · cases hz; exact ⟨fun K i j => hm K i j, RTY_n⟩
/-- where 'throw new NoSuchElementException()' stands -/
def thrC (mid pc : Nat) : Bool := match decode (mcode mid) pc with
  | .ok (.new k, 3) => !(decide (clsP (mcl mid) k = some 98)) || (decide (k = 148) && (decide (decode (mcode mid) (pc + 3) = .ok (.dup, 1)) && (decide (decode (mcode mid) (pc + 4) = .ok (.invokespecial 150, 3)) && decide (decode (mcode mid) (pc + 7) = .ok (.athrow, 1)))))
  | _ => true
set_option maxRecDepth 100000 in
theorem thrA : ∀ m ∈ thrL, (List.range (mcode m).size).all (thrC m) = true := by decide +kernel
theorem thr_cl : ∀ m ∈ thrL, mcl m = 12 := by decide +kernel
theorem thr_at {k : Nat} (ht : mid ∈ thrL) (hd : decode (mcode mid) pc = .ok (.new k, 3)) (hc : clsP (mcl mid) k = some 98) : k = 148 ∧ decode (mcode mid) (pc + 3) = .ok (.dup, 1) ∧ decode (mcode mid) (pc + 4) = .ok (.invokespecial 150, 3) ∧ decode (mcode mid) (pc + 7) = .ok (.athrow, 1) := by
  have h := List.all_eq_true.mp (thrA mid ht) pc (List.mem_range.mpr (dec_lt hd))
  unfold thrC at h
  rw [hd] at h
  have h : (!(decide (clsP (mcl mid) k = some 98)) || (decide (k = 148) && (decide (decode (mcode mid) (pc + 3) = .ok (.dup, 1)) && (decide (decode (mcode mid) (pc + 4) = .ok (.invokespecial 150, 3)) && decide (decode (mcode mid) (pc + 7) = .ok (.athrow, 1)))))) = true := h
  rw [hc] at h
  simp only [decide_true, Bool.not_true, Bool.false_or, Bool.and_eq_true, decide_eq_true_eq] at h
  exact h
def hhL (m : Nat) : List (Nat × Nat × Nat × Nat) := if m = 1 then [(0, 14, 17, 13)] else if m = 2 then [(0, 12, 15, 13)] else if m = 3 then [(0, 10, 13, 13)] else []
theorem hnd_at {h : Nat} (hh : hnd mid pc = some h) : mid < 4 ∧ mcl mid = 14 ∧ (∃ k, decode (mcode mid) pc = .ok (.invokevirtual k, 3)) ∧ ∃ a b, tableOf (hhL mid) = [⟨a, b, h, 13⟩] ∧ covers (⟨a, b, h, 13⟩ : ExceptionTableEntry) pc = true := by
  have hm : (mid, pc, h) ∈ hndL := lk_s (L := hndL) hh
  simp only [hndL, List.mem_cons, List.not_mem_nil, or_false, Prod.mk.injEq] at hm
  rcases hm with ⟨rfl, rfl, rfl⟩ | ⟨rfl, rfl, rfl⟩ | ⟨rfl, rfl, rfl⟩
  · exact ⟨by decide, by decide +kernel, ⟨7, by decide +kernel⟩, 0, 14, rfl, by decide +kernel⟩
  · exact ⟨by decide, by decide +kernel, ⟨15, by decide +kernel⟩, 0, 12, rfl, by decide +kernel⟩
  · exact ⟨by decide, by decide +kernel, ⟨19, by decide +kernel⟩, 0, 10, rfl, by decide +kernel⟩
end FIVX
