section TYN
variable {mid pc : Nat} {l : aL} {st : List aV} {σ : aM}
theorem and_b {a b : Bool} (h : (a && b) = true) : a = true ∧ b = true := by simpa using h
theorem go_y {pc : Nat} {l : aL} {st : List aV} {σ : aM} {y : aX} (h : am_go pc l st σ = some y) : y = .inl (pc, l, st, σ) := (Option.some.inj h).symm
theorem br_y {c : ClassFile.Cond} {x y : Int32} {a b : Option aX} {z : aX} (h : am_br c x y a b = some z) : a = some z ∨ b = some z := by
  unfold am_br at h
  cases c <;> dsimp only at h <;> split at h <;> first | exact Or.inl h | exact Or.inr h
set_option maxHeartbeats 4000000 in
theorem ty_nx {i : Instr} {len : Nat} {y : aX} (hm : mid < 4) (hd : decode (mcode mid) pc = .ok (i, len)) (h : TYP mid pc l st) (hx : am_nx mid pc len i l st σ = some y) : TYX mid y := by
  obtain ⟨-, ts, h1, h2, h3⟩ := h
  have hc := chk_at hm hd h1
  cases i with
  | iconst n =>
    obtain ⟨_, hx⟩ := gd_s (show am_gd _ _ = some _ from hx)
    cases go_y hx
    exact ⟨hm, _, nxt_s hc, ⟨rfl, h2⟩, h3⟩
  | bipush n =>
    obtain ⟨_, hx⟩ := gd_s (show am_gd _ _ = some _ from hx)
    cases go_y hx
    exact ⟨hm, _, nxt_s hc, ⟨rfl, h2⟩, h3⟩
  | aload_n k =>
    obtain ⟨_, hx⟩ := gd_s (show am_gd _ _ = some _ from hx)
    obtain ⟨x, hv, hx⟩ := lr0_s hx
    cases go_y hx
    exact ⟨hm, _, nxt_s hc, ⟨h3 _ _ hv, h2⟩, h3⟩
  | aload k =>
    obtain ⟨_, hx⟩ := gd_s (show am_gd _ _ = some _ from hx)
    obtain ⟨x, hv, hx⟩ := lr0_s hx
    cases go_y hx
    exact ⟨hm, _, nxt_s hc, ⟨h3 _ _ hv, h2⟩, h3⟩
  | iload_n k =>
    obtain ⟨_, hx⟩ := gd_s (show am_gd _ _ = some _ from hx)
    obtain ⟨x, hv, hx⟩ := li0_s hx
    cases go_y hx
    exact ⟨hm, _, nxt_s hc, ⟨rfl, h2⟩, h3⟩
  | iload k =>
    obtain ⟨_, hx⟩ := gd_s (show am_gd _ _ = some _ from hx)
    obtain ⟨x, hv, hx⟩ := li0_s hx
    cases go_y hx
    exact ⟨hm, _, nxt_s hc, ⟨rfl, h2⟩, h3⟩
  | istore_n k =>
    obtain ⟨_, hx⟩ := gd_s (show am_gd _ _ = some _ from hx)
    obtain ⟨x, r, rfl, hx⟩ := i1_s hx
    obtain ⟨t, ts, rfl, e1, h5⟩ := tyS_c h2
    have e1 : t = 0 := e1
    subst e1
    obtain ⟨hk, hc⟩ := and_b hc
    cases go_y hx
    exact ⟨hm, _, nxt_s hc, h5, tyL_s1 (show tyv (vi x) (lcT mid k) from (of_decide_eq_true hk : lcT mid k = 0)) h3⟩
  | istore k =>
    obtain ⟨_, hx⟩ := gd_s (show am_gd _ _ = some _ from hx)
    obtain ⟨x, r, rfl, hx⟩ := i1_s hx
    obtain ⟨t, ts, rfl, e1, h5⟩ := tyS_c h2
    have e1 : t = 0 := e1
    subst e1
    obtain ⟨hk, hc⟩ := and_b hc
    cases go_y hx
    exact ⟨hm, _, nxt_s hc, h5, tyL_s1 (show tyv (vi x) (lcT mid k) from (of_decide_eq_true hk : lcT mid k = 0)) h3⟩
  | astore_n k =>
    obtain ⟨_, hx⟩ := gd_s (show am_gd _ _ = some _ from hx)
    obtain ⟨x, r, rfl, hx⟩ := rq_s hx
    obtain ⟨t, ts, rfl, e1, h2⟩ := tyS_c h2
    obtain ⟨hk, hc⟩ := and_b hc
    cases go_y hx
    exact ⟨hm, _, nxt_s hc, h2, tyL_s1 (by rw [of_decide_eq_true hk]; exact e1) h3⟩
  | astore k =>
    obtain ⟨_, hx⟩ := gd_s (show am_gd _ _ = some _ from hx)
    obtain ⟨x, r, rfl, hx⟩ := rq_s hx
    obtain ⟨t, ts, rfl, e1, h2⟩ := tyS_c h2
    obtain ⟨hk, hc⟩ := and_b hc
    cases go_y hx
    exact ⟨hm, _, nxt_s hc, h2, tyL_s1 (by rw [of_decide_eq_true hk]; exact e1) h3⟩
  | iinc k n =>
    obtain ⟨_, hx⟩ := gd_s (show am_gd _ _ = some _ from hx)
    obtain ⟨x, hv, hx⟩ := li0_s hx
    obtain ⟨hk, hc⟩ := and_b hc
    cases go_y hx
    exact ⟨hm, _, nxt_s hc, h2, tyL_s1 (show tyv (vi _) (lcT mid k) from (of_decide_eq_true hk : lcT mid k = 0)) h3⟩
  | isub =>
    obtain ⟨_, hx⟩ := gd_s (show am_gd _ _ = some _ from hx)
    obtain ⟨x, y, r, rfl, hx⟩ := i2_s hx
    obtain ⟨t, ts, rfl, -, h2⟩ := tyS_c h2
    obtain ⟨t, ts, rfl, -, h2⟩ := tyS_c h2
    cases go_y hx
    exact ⟨hm, _, nxt_s hc, ⟨rfl, h2⟩, h3⟩
  | iadd =>
    obtain ⟨_, hx⟩ := gd_s (show am_gd _ _ = some _ from hx)
    obtain ⟨x, y, r, rfl, hx⟩ := i2_s hx
    obtain ⟨t, ts, rfl, -, h2⟩ := tyS_c h2
    obtain ⟨t, ts, rfl, -, h2⟩ := tyS_c h2
    cases go_y hx
    exact ⟨hm, _, nxt_s hc, ⟨rfl, h2⟩, h3⟩
  | iand =>
    obtain ⟨_, hx⟩ := gd_s (show am_gd _ _ = some _ from hx)
    obtain ⟨x, y, r, rfl, hx⟩ := i2_s hx
    obtain ⟨t, ts, rfl, -, h2⟩ := tyS_c h2
    obtain ⟨t, ts, rfl, -, h2⟩ := tyS_c h2
    cases go_y hx
    exact ⟨hm, _, nxt_s hc, ⟨rfl, h2⟩, h3⟩
  | lcmp =>
    obtain ⟨_, hx⟩ := gd_s (show am_gd _ _ = some _ from hx)
    obtain ⟨x, y, r, rfl, hx⟩ := l2_s hx
    obtain ⟨t, ts, rfl, -, h2⟩ := tyS_c h2
    obtain ⟨t, ts, rfl, -, h2⟩ := tyS_c h2
    cases go_y hx
    exact ⟨hm, _, nxt_s hc, ⟨rfl, h2⟩, h3⟩
  | i2l =>
    obtain ⟨_, hx⟩ := gd_s (show am_gd _ _ = some _ from hx)
    obtain ⟨x, r, rfl, hx⟩ := i1_s hx
    obtain ⟨t, ts, rfl, -, h2⟩ := tyS_c h2
    cases go_y hx
    exact ⟨hm, _, nxt_s hc, ⟨rfl, h2⟩, h3⟩
  | laload =>
    obtain ⟨_, hx⟩ := gd_s (show am_gd _ _ = some _ from hx)
    obtain ⟨j, r1, rfl, hx⟩ := i1_s hx
    obtain ⟨K, i, r, rfl, hx⟩ := ro_s hx
    obtain ⟨_, hx⟩ := gd_s hx
    obtain ⟨t, ts, rfl, -, h2⟩ := tyS_c h2
    obtain ⟨t, ts, rfl, -, h2⟩ := tyS_c h2
    cases go_y hx
    exact ⟨hm, _, nxt_s hc, ⟨rfl, h2⟩, h3⟩
  | iaload =>
    obtain ⟨_, hx⟩ := gd_s (show am_gd _ _ = some _ from hx)
    obtain ⟨j, r1, rfl, hx⟩ := i1_s hx
    obtain ⟨K, i, r, rfl, hx⟩ := ro_s hx
    obtain ⟨_, hx⟩ := gd_s hx
    obtain ⟨t, ts, rfl, -, h2⟩ := tyS_c h2
    obtain ⟨t, ts, rfl, -, h2⟩ := tyS_c h2
    cases go_y hx
    exact ⟨hm, _, nxt_s hc, ⟨rfl, h2⟩, h3⟩
  | lastore =>
    obtain ⟨_, hx⟩ := gd_s (show am_gd _ _ = some _ from hx)
    obtain ⟨x, r2, rfl, hx⟩ := l1_s hx
    obtain ⟨j, r1, rfl, hx⟩ := i1_s hx
    obtain ⟨K, i, r, rfl, hx⟩ := ro_s hx
    obtain ⟨_, hx⟩ := gd_s hx
    obtain ⟨t, ts, rfl, -, h2⟩ := tyS_c h2
    obtain ⟨t, ts, rfl, -, h2⟩ := tyS_c h2
    obtain ⟨t, ts, rfl, -, h2⟩ := tyS_c h2
    cases go_y hx
    exact ⟨hm, _, nxt_s hc, h2, h3⟩
  | arraylength =>
    obtain ⟨_, hx⟩ := gd_s (show am_gd _ _ = some _ from hx)
    obtain ⟨K, i, r, rfl, hx⟩ := ro_s hx
    obtain ⟨_, hx⟩ := gd_s hx
    obtain ⟨t, ts, rfl, -, h2⟩ := tyS_c h2
    cases go_y hx
    exact ⟨hm, _, nxt_s hc, ⟨rfl, h2⟩, h3⟩
  | newarray t =>
    obtain ⟨_, hx⟩ := gd_s (show am_gd _ _ = some _ from hx)
    obtain ⟨n, r, rfl, hx⟩ := i1_s hx
    obtain ⟨t, ts, rfl, -, h2⟩ := tyS_c h2
    cases e : kS mid pc with
    | none => rw [e] at hx; cases hx
    | some K =>
      rw [e] at hx
      obtain ⟨_, hx⟩ := gd_s hx
      obtain ⟨_, hx⟩ := gd_s (show am_gd _ _ = some _ from hx)
      have hc : (match kS mid pc with
        | some K => nxt mid (pc + 2) ((K + 10) :: ts)
        | none => false) = true := by
        unfold chk at hc
        dsimp only at hc
        rw [e] at hc ⊢
        exact hc
      rw [e] at hc
      cases go_y hx
      exact ⟨hm, _, nxt_s hc, ⟨rfl, h2⟩, h3⟩
  | new k =>
    obtain ⟨_, hx⟩ := gd_s (show am_gd _ _ = some _ from hx)
    have hx : am_new mid pc k l st σ = some y := hx
    unfold am_new at hx
    unfold chk at hc
    dsimp only at hc
    cases e1 : clsP (mcl mid) k with
    | none => rw [e1] at hx; cases hx
    | some ci =>
      rw [e1] at hx hc
      cases e2 : kS mid pc with
      | none => rw [e2] at hc; cases hc
      | some K =>
        rw [e2] at hx hc
        dsimp only at hx hc
        obtain ⟨hk, hc⟩ := and_b hc
        have hk := of_decide_eq_true hk
        rw [if_neg hk.2] at hx
        try dsimp only at hx
        rw [if_neg hk.1] at hx
        obtain ⟨_, hx⟩ := gd_s hx
        obtain ⟨_, hx⟩ := gd_s (show am_gd _ _ = some _ from hx)
        cases go_y hx
        exact ⟨hm, _, nxt_s hc, ⟨rfl, h2⟩, h3⟩
  | dup =>
    obtain ⟨_, hx⟩ := gd_s (show am_gd _ _ = some _ from hx)
    rcases st with _ | ⟨v | v | v, r⟩
    · cases hx
    · obtain ⟨t, ts, rfl, e1, h2⟩ := tyS_c h2
      cases go_y hx
      exact ⟨hm, _, nxt_s hc, ⟨e1, e1, h2⟩, h3⟩
    · cases hx
    · obtain ⟨t, ts, rfl, e1, h2⟩ := tyS_c h2
      cases go_y hx
      exact ⟨hm, _, nxt_s hc, ⟨e1, e1, h2⟩, h3⟩
  | goto o =>
    obtain ⟨_, hx⟩ := gd_s (show am_gd _ _ = some _ from hx)
    obtain ⟨t, ht, hx⟩ := jm_s hx
    cases go_y hx
    exact ⟨hm, _, nxJ_s hc ht, h2, h3⟩
  | ifCond cc o =>
    obtain ⟨_, hx⟩ := gd_s (show am_gd _ _ = some _ from hx)
    obtain ⟨x, r, rfl, hx⟩ := i1_s hx
    obtain ⟨t, ts, rfl, -, h2⟩ := tyS_c h2
    obtain ⟨t, ht, hx⟩ := jm_s hx
    obtain ⟨hk, hc⟩ := and_b hc
    rcases br_y hx with hx | hx
    · cases go_y hx
      exact ⟨hm, _, nxJ_s hk ht, h2, h3⟩
    · cases go_y hx
      exact ⟨hm, _, nxt_s hc, h2, h3⟩
  | if_icmp cc o =>
    obtain ⟨_, hx⟩ := gd_s (show am_gd _ _ = some _ from hx)
    obtain ⟨x, y, r, rfl, hx⟩ := i2_s hx
    obtain ⟨t, ts, rfl, -, h2⟩ := tyS_c h2
    obtain ⟨t, ts, rfl, -, h2⟩ := tyS_c h2
    obtain ⟨t, ht, hx⟩ := jm_s hx
    obtain ⟨hk, hc⟩ := and_b hc
    rcases br_y hx with hx | hx
    · cases go_y hx
      exact ⟨hm, _, nxJ_s hk ht, h2, h3⟩
    · cases go_y hx
      exact ⟨hm, _, nxt_s hc, h2, h3⟩
  | tableswitch df lo hi offs =>
    obtain ⟨x, r, rfl, hx⟩ := i1_s (show am_i1 _ _ = some _ from hx)
    obtain ⟨hg, hx⟩ := gd_s hx
    obtain ⟨t, ts, rfl, -, h2⟩ := tyS_c h2
    obtain ⟨hk, hc⟩ := and_b hc
    rcases sw_s _ _ hx with ⟨j, o, t, ho, _, ht, hx⟩ | ⟨_, t, ht, hx⟩
    · cases go_y hx
      exact ⟨hm, _, nxJ_s (List.all_eq_true.mp hc o (List.mem_of_getElem? ho)) ht, h2, h3⟩
    · cases go_y hx
      exact ⟨hm, _, nxJ_s hk ht, h2, h3⟩
  | ireturn =>
    obtain ⟨_, hx⟩ := gd_s (show am_gd _ _ = some _ from hx)
    split at hx
    · obtain ⟨_, hx⟩ := gd_s hx
      cases hx
      trivial
    · cases hx
  | invokevirtual k =>
    obtain ⟨_, hx⟩ := gd_s (show am_gd _ _ = some _ from hx)
    unfold chk at hc
    try dsimp only at hc
    cases e1 : cal (mcl mid) k with
    | none => rw [e1] at hx; cases hx
    | some q =>
      obtain ⟨tg, c⟩ := q
      rw [e1] at hx hc
      try dsimp only at hx
      try dsimp only at hc
      obtain ⟨hc, _⟩ := and_b hc
      obtain ⟨hc, _⟩ := and_b hc
      rw [if_pos (of_decide_eq_true hc).1] at hx
      split at hx
      · obtain ⟨_, hx⟩ := gd_s hx
        cases hx
        trivial
      · cases hx
  | invokestatic k =>
    obtain ⟨_, hx⟩ := gd_s (show am_gd _ _ = some _ from hx)
    unfold chk at hc
    try dsimp only at hc
    cases e1 : cal (mcl mid) k with
    | none => rw [e1] at hx; cases hx
    | some q =>
      obtain ⟨tg, c⟩ := q
      rw [e1] at hx hc
      try dsimp only at hx
      try dsimp only at hc
      obtain ⟨hc, _⟩ := and_b hc
      obtain ⟨hc, _⟩ := and_b hc
      rw [if_pos (Or.inl (of_decide_eq_true hc).1)] at hx
      split at hx
      · obtain ⟨_, hx⟩ := gd_s hx
        cases hx
        trivial
      · cases hx
  | invokespecial k =>
    obtain ⟨_, hx⟩ := gd_s (show am_gd _ _ = some _ from hx)
    unfold chk at hc
    try dsimp only at hc
    cases e1 : cal (mcl mid) k with
    | none => rw [e1] at hx; cases hx
    | some q =>
      obtain ⟨tg, c⟩ := q
      rw [e1] at hx hc
      try dsimp only at hx
      try dsimp only at hc
      obtain ⟨hc, _⟩ := and_b hc
      rw [if_pos (Or.inl (of_decide_eq_true hc).1)] at hx
      split at hx
      · obtain ⟨_, hx⟩ := gd_s hx
        cases hx
        trivial
      · cases hx
  | _ => exact absurd hc (by simp [chk])
end TYN
