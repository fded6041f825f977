section SMN
variable {z : Nat → Bool} {b : Bool} {ok : Nat → Bool} {σ ρ : aM} {l : aL} {st : List aV}
theorem Sm_nx {mid pc len : Nat} {i : Instr} (hs' : mset z b ok) (hk : ok mid = true) (hl : zkL z l) (hs : zkS z st) (hm : zkM z σ) : Sm z b ok ρ (am_nx mid pc len i l st σ) (am_nx mid pc len i l st (mix z b σ ρ)) := by
  have G : ∀ {c : Prop} [Decidable c] {x y : Option aX}, (c → Sm z b ok ρ x y) → Sm z b ok ρ (am_gd c x) (am_gd c y) := fun k => Sm_gd Iff.rfl k
  obtain ⟨m1, m2, m3, m4⟩ := id (hs' mid hk)
  have CI : ∀ (k pc : Nat), Sm z b ok ρ (match cInt (mcl mid) k with
    | some v => am_go pc l (vi v :: st) σ
    | none => match cStr (mcl mid) k with
      | some t => am_go pc l (vr (some (1, t)) :: st) σ
      | none => none) (match cInt (mcl mid) k with
    | some v => am_go pc l (vi v :: st) (mix z b σ ρ)
    | none => match cStr (mcl mid) k with
      | some t => am_go pc l (vr (some (1, t)) :: st) (mix z b σ ρ)
      | none => none) := fun k pc => by
    cases cInt (mcl mid) k with
    | some v => exact Sm_go hl (zkS_c zkv_i hs) hm
    | none =>
      dsimp only
      cases cStr (mcl mid) k with
      | some t => exact Sm_go hl (zkS_c (zkv_r (zkq_s (Or.inr rfl))) hs) hm
      | none => exact Sm_n
  cases i
  case iconst n => exact G fun _ => Sm_go hl (zkS_c zkv_i hs) hm
  case bipush n => exact G fun _ => Sm_go hl (zkS_c zkv_i hs) hm
  case sipush n => exact G fun _ => Sm_go hl (zkS_c zkv_i hs) hm
  case lconst n => exact G fun _ => Sm_go hl (zkS_c zkv_l hs) hm
  case aconst_null => exact G fun _ => Sm_go hl (zkS_c (zkv_r zkq_n) hs) hm
  case ldc k => exact G fun _ => CI k _
  case ldc_w k => exact G fun _ => CI k _
  case ldc2_w k => 
    refine G fun _ => ?_
    cases cLong (mcl mid) k with
    | some v => exact Sm_go hl (zkS_c zkv_l hs) hm
    | none => exact Sm_n
  case iload_n k => exact G fun _ => Sm_li0 fun a => Sm_go hl (zkS_c zkv_i hs) hm
  case iload k => exact G fun _ => Sm_li0 fun a => Sm_go hl (zkS_c zkv_i hs) hm
  case lload_n k => exact G fun _ => Sm_ll0 fun a => Sm_go hl (zkS_c zkv_l hs) hm
  case lload k => exact G fun _ => Sm_ll0 fun a => Sm_go hl (zkS_c zkv_l hs) hm
  case aload_n k => exact G fun _ => Sm_lr0 hl fun q hq => Sm_go hl (zkS_c (zkv_r hq) hs) hm
  case aload k => exact G fun _ => Sm_lr0 hl fun q hq => Sm_go hl (zkS_c (zkv_r hq) hs) hm
  case istore_n k => exact G fun _ => Sm_i1 hs fun a r hr => Sm_go (zkL_s1 zkv_i hl) hr hm
  case istore k => exact G fun _ => Sm_i1 hs fun a r hr => Sm_go (zkL_s1 zkv_i hl) hr hm
  case lstore_n k => exact G fun _ => Sm_l1 hs fun a r hr => Sm_go (zkL_s2 zkv_l hl) hr hm
  case lstore k => exact G fun _ => Sm_l1 hs fun a r hr => Sm_go (zkL_s2 zkv_l hl) hr hm
  case astore_n k => exact G fun _ => Sm_rq hs fun a r hq hr => Sm_go (zkL_s1 (zkv_r hq) hl) hr hm
  case astore k => exact G fun _ => Sm_rq hs fun a r hq hr => Sm_go (zkL_s1 (zkv_r hq) hl) hr hm
  case iinc k n => exact G fun _ => Sm_li0 fun a => Sm_go (zkL_s1 zkv_i hl) hs hm
  case iadd => exact G fun _ => Sm_i2 hs fun a c r hr => Sm_go hl (zkS_c zkv_i hr) hm
  case isub => exact G fun _ => Sm_i2 hs fun a c r hr => Sm_go hl (zkS_c zkv_i hr) hm
  case imul => exact G fun _ => Sm_i2 hs fun a c r hr => Sm_go hl (zkS_c zkv_i hr) hm
  case iand => exact G fun _ => Sm_i2 hs fun a c r hr => Sm_go hl (zkS_c zkv_i hr) hm
  case ior => exact G fun _ => Sm_i2 hs fun a c r hr => Sm_go hl (zkS_c zkv_i hr) hm
  case ixor => exact G fun _ => Sm_i2 hs fun a c r hr => Sm_go hl (zkS_c zkv_i hr) hm
  case ishl => exact G fun _ => Sm_i2 hs fun a c r hr => Sm_go hl (zkS_c zkv_i hr) hm
  case ishr => exact G fun _ => Sm_i2 hs fun a c r hr => Sm_go hl (zkS_c zkv_i hr) hm
  case iushr => exact G fun _ => Sm_i2 hs fun a c r hr => Sm_go hl (zkS_c zkv_i hr) hm
  case idiv => exact G fun _ => Sm_i2 hs fun a c r hr => G fun _ => Sm_go hl (zkS_c zkv_i hr) hm
  case irem => exact G fun _ => Sm_i2 hs fun a c r hr => G fun _ => Sm_go hl (zkS_c zkv_i hr) hm
  case ladd => exact G fun _ => Sm_l2 hs fun a c r hr => Sm_go hl (zkS_c zkv_l hr) hm
  case lsub => exact G fun _ => Sm_l2 hs fun a c r hr => Sm_go hl (zkS_c zkv_l hr) hm
  case lmul => exact G fun _ => Sm_l2 hs fun a c r hr => Sm_go hl (zkS_c zkv_l hr) hm
  case land => exact G fun _ => Sm_l2 hs fun a c r hr => Sm_go hl (zkS_c zkv_l hr) hm
  case lor => exact G fun _ => Sm_l2 hs fun a c r hr => Sm_go hl (zkS_c zkv_l hr) hm
  case ldiv => exact G fun _ => Sm_l2 hs fun a c r hr => G fun _ => Sm_go hl (zkS_c zkv_l hr) hm
  case lshl => exact G fun _ => Sm_li hs fun a c r hr => Sm_go hl (zkS_c zkv_l hr) hm
  case lshr => exact G fun _ => Sm_li hs fun a c r hr => Sm_go hl (zkS_c zkv_l hr) hm
  case lcmp => exact G fun _ => Sm_l2 hs fun a c r hr => Sm_go hl (zkS_c zkv_i hr) hm
  case i2l => exact G fun _ => Sm_i1 hs fun a r hr => Sm_go hl (zkS_c zkv_l hr) hm
  case l2i => exact G fun _ => Sm_l1 hs fun a r hr => Sm_go hl (zkS_c zkv_i hr) hm
  case i2b => exact G fun _ => Sm_i1 hs fun a r hr => Sm_go hl (zkS_c zkv_i hr) hm
  case dup => 
    refine G fun _ => ?_
    rcases st with _ | ⟨a | a | a, r⟩
    · exact Sm_n
    · exact Sm_go hl (zkS_c zkv_i hs) hm
    · exact Sm_n
    · exact Sm_go hl (zkS_c (zkS_h hs) hs) hm
  case dup2 => 
    refine G fun _ => ?_
    rcases st with _ | ⟨a | a | a, _ | ⟨c | c | c, r⟩⟩
    · exact Sm_n
    · exact Sm_n
    · exact Sm_n
    · exact Sm_n
    · exact Sm_go hl (zkS_c zkv_i (zkS_c (zkS_h (zkS_t hs)) hs)) hm
    · exact Sm_n
    · exact Sm_n
    · exact Sm_n
    · exact Sm_n
    · exact Sm_n
    · exact Sm_n
    · exact Sm_n
    · exact Sm_n
  case pop => 
    refine G fun _ => ?_
    rcases st with _ | ⟨a | a | a, r⟩
    · exact Sm_n
    · exact Sm_go hl (zkS_t hs) hm
    · exact Sm_n
    · exact Sm_go hl (zkS_t hs) hm
  case goto o => exact G fun _ => Sm_jm fun t => Sm_go hl hs hm
  case ifCond c o => exact G fun _ => Sm_i1 hs fun a r hr => Sm_jm fun t => Sm_br (Sm_go hl hr hm) (Sm_go hl hr hm)
  case if_icmp c o => exact G fun _ => Sm_i2 hs fun a d r hr => Sm_jm fun t => Sm_br (Sm_go hl hr hm) (Sm_go hl hr hm)
  case ifnull o => exact G fun _ => Sm_rq hs fun q r hq hr => Sm_jm fun t => Sm_if (Sm_go hl hr hm) (Sm_go hl hr hm)
  case ifnonnull o => exact G fun _ => Sm_rq hs fun q r hq hr => Sm_jm fun t => Sm_if (Sm_go hl hr hm) (Sm_go hl hr hm)
  case tableswitch d lo hi offs => exact Sm_i1 hs fun x r hr => G fun _ => Sm_sw (fun t => Sm_go hl hr hm) _ _
  case getfield k => 
    refine G fun _ => ?_
    cases fld (mcl mid) k with
    | none => exact Sm_n
    | some q =>
      obtain ⟨ci, f, t⟩ := q
      refine Sm_ro hs fun K i r hK hr => ?_
      rcases hK with hz | rfl
      · rw [mix_gC hz, mix_fv hz]
        exact G fun _ => Sm_go hl (zkS_c (zk_fv hz hm) hr) hm
      · exact Sm_gn (fun h => kne h.1 (by decide)) (fun h => kne h.1 (by decide))
  case putfield k => 
    refine G fun _ => ?_
    cases fld (mcl mid) k with
    | none => exact Sm_n
    | some q =>
      obtain ⟨ci, f, t⟩ := q
      refine Sm_v1 hs fun v st hv hs => Sm_ro hs fun K i r hK hr => ?_
      rcases hK with hz | rfl
      · rw [mix_gC hz]
        exact G fun _ => Sm_pf hz hv hl hr hm
      · exact Sm_gn (fun h => kne h.1 (by decide)) (fun h => kne h.1 (by decide))
  case iaload => 
    refine G fun _ => Sm_i1 hs fun j st hs => Sm_ro hs fun K i r hK hr => ?_
    rcases hK with hz | rfl
    · rw [mix_gC hz, mix_gN hz, mix_gI hz]
      exact G fun _ => Sm_go hl (zkS_c zkv_i hr) hm
    · exact Sm_gn (fun h => by rcases h with ⟨⟨h, _⟩ | ⟨h, _⟩, _⟩; exact absurd h (by decide); exact absurd h (by decide)) (fun h => by rcases h with ⟨⟨h, _⟩ | ⟨h, _⟩, _⟩; exact absurd h (by decide); exact absurd h (by decide))
  case baload => 
    refine G fun _ => Sm_i1 hs fun j st hs => Sm_ro hs fun K i r hK hr => ?_
    rcases hK with hz | rfl
    · rw [mix_gC hz, mix_gN hz, mix_gI hz]
      exact G fun _ => Sm_go hl (zkS_c zkv_i hr) hm
    · exact Sm_gn (fun h => by rcases h with ⟨h | h, _⟩; exact absurd h (by decide); exact absurd h (by decide)) (fun h => by rcases h with ⟨h | h, _⟩; exact absurd h (by decide); exact absurd h (by decide))
  case laload => 
    refine G fun _ => Sm_i1 hs fun j st hs => Sm_ro hs fun K i r hK hr => ?_
    rcases hK with hz | rfl
    · rw [mix_gC hz, mix_gN hz, mix_gL hz]
      exact G fun _ => Sm_go hl (zkS_c zkv_l hr) hm
    · exact Sm_gn (fun h => absurd h.1 (by decide)) (fun h => absurd h.1 (by decide))
  case iastore => 
    refine G fun _ => Sm_i2 hs fun j x st hs => Sm_ro hs fun K i r hK hr => ?_
    rcases hK with hz | rfl
    · rw [mix_gC hz, mix_gN hz, mix_sI hz]
      exact G fun _ => Sm_go hl hr (zk_sI hm)
    · exact Sm_gn (fun h => absurd h.1 (by decide)) (fun h => absurd h.1 (by decide))
  case bastore => 
    refine G fun _ => Sm_i2 hs fun j x st hs => Sm_ro hs fun K i r hK hr => ?_
    rcases hK with hz | rfl
    · rw [mix_gC hz, mix_gN hz, mix_sI hz]
      exact G fun _ => Sm_go hl hr (zk_sI hm)
    · exact Sm_gn (fun h => by rcases h with ⟨h | ⟨h, _⟩, _⟩; exact absurd h (by decide); exact absurd h (by decide)) (fun h => by rcases h with ⟨h | ⟨h, _⟩, _⟩; exact absurd h (by decide); exact absurd h (by decide))
  case lastore => 
    refine G fun _ => Sm_l1 hs fun x st hs => Sm_i1 hs fun j st hs => Sm_ro hs fun K i r hK hr => ?_
    rcases hK with hz | rfl
    · rw [mix_gC hz, mix_gN hz, mix_sL hz]
      exact G fun _ => Sm_go hl hr (zk_sL hm)
    · exact Sm_gn (fun h => absurd h.1 (by decide)) (fun h => absurd h.1 (by decide))
  case arraylength => 
    refine G fun _ => Sm_ro hs fun K i r hK hr => ?_
    rcases hK with hz | rfl
    · rw [mix_gC hz, mix_gN hz]
      exact G fun _ => Sm_go hl (zkS_c zkv_i hr) hm
    · exact Sm_gn (fun h => by rcases h with ⟨h | h | h | h, _⟩ | ⟨h, _⟩; all_goals exact absurd h (by decide)) (fun h => by rcases h with ⟨h | h | h | h, _⟩ | ⟨h, _⟩; all_goals exact absurd h (by decide))
  case newarray t => 
    refine G fun _ => Sm_i1 hs fun n r hr => ?_
    cases e : kS mid pc with
    | none => exact Sm_n
    | some K =>
      obtain ⟨hz, hb⟩ := m2 pc K e
      dsimp only
      rw [mix_gC hz, mix_mk hz hb]
      exact G fun _ => Sm_bud hb (Sm_go hl (zkS_c (zkv_r (zkq_s (Or.inl hz))) hr) (zk_mk hm))
  case new k => exact G fun _ => Sm_new hs' hk hl hs hm
  case checkcast k => 
    refine G fun _ => Sm_rq hs fun q r hq hr => ?_
    rcases q with _ | ⟨K, i⟩
    · exact Sm_go hl (zkS_c (zkv_r zkq_n) hr) hm
    · dsimp only
      rcases hq K i rfl with hz | rfl
      · rw [mix_gC hz]
        exact G fun _ => Sm_go hl (zkS_c (zkv_r hq) hr) hm
      · exact Sm_gn (fun h => absurd h.1 (by decide)) (fun h => absurd h.1 (by decide))
  case invokevirtual k => 
    refine G fun _ => ?_
    cases e : cal (mcl mid) k with
    | none => exact Sm_n
    | some q =>
      obtain ⟨tag, c⟩ := q
      obtain ⟨hc, ht⟩ := m4 k tag c e
      dsimp only
      by_cases t0 : tag = 0
      · rw [if_pos t0, if_pos t0]
        cases ep : am_pop (mar c) st with
        | none => exact Sm_n
        | some y =>
          obtain ⟨As, st'⟩ := y
          obtain ⟨hA, hr⟩ := zk_pop ep hs
          rcases st' with _ | ⟨a | a | _ | ⟨K, i⟩, r⟩
          · exact Sm_n
          · exact Sm_n
          · exact Sm_n
          · exact Sm_n
          · dsimp only
            rcases (zkS_h hr) _ rfl K i rfl with hz | rfl
            · rw [mix_gC hz]
              exact G fun _ => ⟨⟨hc (by omega), zkL_ent (zkS_c (zkS_h hr) hA), zkS_t hr⟩, rfl⟩
            · exact Sm_gn (fun h => absurd h.1 (by decide)) (fun h => absurd h.1 (by decide))
      · rw [if_neg t0, if_neg t0]
        exact Sm_lv ht hl hs hm
  case invokestatic k => 
    refine G fun _ => ?_
    cases e : cal (mcl mid) k with
    | none => exact Sm_n
    | some q =>
      obtain ⟨tag, c⟩ := q
      obtain ⟨hc, ht⟩ := m4 k tag c e
      dsimp only
      by_cases t0 : tag = 1 ∨ tag = 2
      · rw [if_pos t0, if_pos t0]
        cases ep : am_pop (mar c) st with
        | none => exact Sm_n
        | some y =>
          obtain ⟨As, r⟩ := y
          obtain ⟨hA, hr⟩ := zk_pop ep hs
          exact G fun _ => ⟨⟨hc (by omega), zkL_ent hA, hr⟩, rfl⟩
      · rw [if_neg t0, if_neg t0]
        exact Sm_ls hs' hk hl hs hm
  case invokespecial k => 
    refine G fun _ => ?_
    cases e : cal (mcl mid) k with
    | none => exact Sm_n
    | some q =>
      obtain ⟨tag, c⟩ := q
      obtain ⟨hc, ht⟩ := m4 k tag c e
      dsimp only
      by_cases t0 : tag = 3 ∨ tag = 4
      · rw [if_pos t0, if_pos t0]
        cases ep : am_pop (mar c) st with
        | none => exact Sm_n
        | some y =>
          obtain ⟨As, st'⟩ := y
          obtain ⟨hA, hr⟩ := zk_pop ep hs
          rcases st' with _ | ⟨a | a | _ | ⟨K, i⟩, r⟩
          · exact Sm_n
          · exact Sm_n
          · exact Sm_n
          · exact Sm_n
          · dsimp only
            rcases (zkS_h hr) _ rfl K i rfl with hz | rfl
            · rw [mix_gC hz]
              exact G fun _ => ⟨⟨hc (by omega), zkL_ent (zkS_c (zkS_h hr) hA), zkS_t hr⟩, rfl⟩
            · exact Sm_gn (fun h => absurd h.1 (by decide)) (fun h => absurd h.1 (by decide))
      · rw [if_neg t0, if_neg t0]
        by_cases t40 : tag = 40
        · rw [if_pos t40, if_pos t40]
          exact Sm_ro hs fun K i r hK hr => G fun _ => Sm_go hl hr hm
        · rw [if_neg t40, if_neg t40]
          exact Sm_n
  case ireturn => 
    refine G fun _ => ?_
    rcases st with _ | ⟨a | a | a, _ | ⟨c, r⟩⟩
    · exact Sm_n
    · exact G fun _ => ⟨⟨fun v h => by cases h; exact zkv_i, hm⟩, rfl⟩
    all_goals exact Sm_n
  case lreturn => 
    refine G fun _ => ?_
    rcases st with _ | ⟨a | a | a, _ | ⟨c, r⟩⟩
    · exact Sm_n
    · exact Sm_n
    · exact Sm_n
    · exact G fun _ => ⟨⟨fun v h => by cases h; exact zkv_l, hm⟩, rfl⟩
    all_goals exact Sm_n
  case areturn => 
    refine G fun _ => ?_
    rcases st with _ | ⟨a | a | a, _ | ⟨c, r⟩⟩
    · exact Sm_n
    · exact Sm_n
    · exact Sm_n
    · exact Sm_n
    · exact Sm_n
    · exact G fun _ => ⟨⟨fun v h => by cases h; exact zkS_h hs, hm⟩, rfl⟩
    · exact Sm_n
  case return_ => 
    refine G fun _ => ?_
    rcases st with _ | ⟨a, r⟩
    · exact G fun _ => ⟨⟨fun v h => (by cases h), hm⟩, rfl⟩
    · exact Sm_n
  all_goals exact Sm_n
theorem mix_ex (hs' : mset z b ok) : ∀ (n d mid pc : Nat) (l : aL) (st : List aV) (σ : aM) (Q : aR → aM → Prop), ok mid = true → zkL z l → zkS z st → zkM z σ → am_ex n d mid pc l st σ Q → am_ex n d mid pc l st (mix z b σ ρ) (fun r s => ∃ s0, Q r s0 ∧ s = mix z b s0 ρ ∧ zkM z s0 ∧ zkR z r) := by
  intro n
  induction n with
  | zero => intro d mid pc l st σ Q _ _ _ _ h; exact h.elim
  | succ n ih =>
    intro d mid pc l st σ Q hk hl hs hm h
    have hx := fun (len : Nat) (i : Instr) => Sm_nx (b := b) (ρ := ρ) (mid := mid) (pc := pc) (len := len) (i := i) hs' hk hl hs hm
    unfold am_ex at h ⊢
    cases hd : decode (mcode mid) pc with
    | error e => rw [hd] at h; exact h.elim
    | ok q =>
      obtain ⟨i, len⟩ := q
      have hx := hx len i
      rw [hd] at h
      dsimp only at h ⊢
      cases hy : am_nx mid pc len i l st σ with
      | none => rw [hy] at h; exact h.elim
      | some y =>
        rw [hy] at h hx
        obtain ⟨hok, he⟩ := hx
        rw [he]
        rcases y with ⟨pc', l', st', σ'⟩ | ⟨c, la, pc', r⟩ | ⟨v, σ'⟩
        · exact ih _ _ _ _ _ _ _ hk hok.1 hok.2.1 hok.2.2 h
        · cases d with
          | zero => exact h.elim
          | succ d =>
            refine am_mono n 0 _ _ _ _ _ _ _ _ ?_ (ih _ _ _ _ _ _ _ hok.1 hok.2.1 zkS_n hm h)
            rintro v s ⟨s0, hv, rfl, hm0, hr0⟩
            rcases v with _ | _ | v
            · dsimp only at hv ⊢
              rw [(hs' mid hk).1 pc] at hv
              exact hv.elim
            · exact ih _ _ _ _ _ _ _ hk hl hok.2.2 hm0 hv
            · exact ih _ _ _ _ _ _ _ hk hl (zkS_c (hr0 v rfl) hok.2.2) hm0 hv
        · exact ⟨σ', h, rfl, hok.2, hok.1⟩
theorem mix_WP {d mid pc : Nat} {Q : aR → aM → Prop} (hs' : mset z b ok) (hk : ok mid = true) (hl : zkL z l) (hs : zkS z st) (hm : zkM z σ) (h : WP d mid pc l st σ Q) : WP d mid pc l st (mix z b σ ρ) (fun r s => ∃ s0, Q r s0 ∧ s = mix z b s0 ρ ∧ zkM z s0 ∧ zkR z r) := by
  obtain ⟨n, h⟩ := h
  exact ⟨n, mix_ex hs' n _ _ _ _ _ _ _ hk hl hs hm h⟩
theorem am_both : ∀ (n d mid pc : Nat) (l : aL) (st : List aV) (σ : aM) (Q1 Q2 : aR → aM → Prop), am_ex n d mid pc l st σ Q1 → am_ex n d mid pc l st σ Q2 → am_ex n d mid pc l st σ (fun r s => Q1 r s ∧ Q2 r s) := by
  intro n
  induction n with
  | zero => intro d mid pc l st σ Q1 Q2 h; exact h.elim
  | succ n ih =>
    intro d mid pc l st σ Q1 Q2 h1 h2
    unfold am_ex at h1 h2 ⊢
    cases hd : decode (mcode mid) pc with
    | error e => rw [hd] at h1; exact h1.elim
    | ok q =>
      obtain ⟨i, len⟩ := q
      rw [hd] at h1 h2
      dsimp only at h1 h2 ⊢
      cases hx : am_nx mid pc len i l st σ with
      | none => rw [hx] at h1; exact h1.elim
      | some y =>
        rw [hx] at h1 h2
        rcases y with ⟨pc', l', st', σ'⟩ | ⟨c, la, pc', r⟩ | ⟨v, σ'⟩
        · exact ih _ _ _ _ _ _ _ _ h1 h2
        · cases d with
          | zero => exact h1.elim
          | succ d =>
            refine am_mono n 0 _ _ _ _ _ _ _ _ ?_ (ih _ _ _ _ _ _ _ _ h1 h2)
            rintro v s ⟨k1, k2⟩
            rcases v with _ | _ | v
            · dsimp only at k1 k2 ⊢
              cases hh : hnd mid pc with
              | none => rw [hh] at k1; exact k1.elim
              | some h9 =>
                rw [hh] at k1 k2
                exact ih _ _ _ _ _ _ _ _ k1 k2
            · exact ih _ _ _ _ _ _ _ _ k1 k2
            · exact ih _ _ _ _ _ _ _ _ k1 k2
        · exact ⟨h1, h2⟩
theorem WP_both {d mid pc : Nat} {Q1 Q2 : aR → aM → Prop} (h1 : WP d mid pc l st σ Q1) (h2 : WP d mid pc l st σ Q2) : WP d mid pc l st σ (fun r s => Q1 r s ∧ Q2 r s) := by
  obtain ⟨n, h1⟩ := h1
  obtain ⟨m, h2⟩ := h2
  exact ⟨n + m, am_both _ _ _ _ _ _ _ _ _ (am_more (by omega) h1) (am_more (by omega) h2)⟩
theorem WP_one {d mid pc : Nat} {Q : aR → aM → Prop} (h : WP d mid pc l st σ Q) : ∃ r s, Q r s ∧ WP d mid pc l st σ (fun a c => a = r ∧ c = s) := by
  obtain ⟨n, h⟩ := h
  obtain ⟨r, s, hq, h1⟩ := am_one _ _ _ _ _ _ _ _ h
  exact ⟨r, s, hq, n, h1⟩
theorem WP_det {d mid pc : Nat} {Q1 Q2 : aR → aM → Prop} (h1 : WP d mid pc l st σ Q1) (h2 : WP d mid pc l st σ Q2) : ∃ r s, Q1 r s ∧ Q2 r s := by
  obtain ⟨r, s, hq, -⟩ := WP_one (WP_both h1 h2)
  exact ⟨r, s, hq⟩
/-- a run leaves all other kinds alone -/
theorem own_WP {d mid pc : Nat} {Q : aR → aM → Prop} (hs' : mset z b ok) (hk : ok mid = true) (hl : zkL z l) (hs : zkS z st) (hm : zkM z σ) (h : WP d mid pc l st σ Q) : WP d mid pc l st σ (fun r s => Q r s ∧ s = mix z b s σ ∧ zkM z s ∧ zkR z r) := by
  obtain ⟨r, s, hq, h1⟩ := WP_one h
  have h2 := mix_WP (ρ := σ) hs' hk hl hs hm h1
  rw [mix_id] at h2
  refine (WP_both h1 h2).mono ?_
  rintro r' s' ⟨⟨rfl, rfl⟩, s0, ⟨-, e⟩, e2, a, c⟩
  rw [e] at e2 a
  exact ⟨hq, e2, a, c⟩
end SMN
