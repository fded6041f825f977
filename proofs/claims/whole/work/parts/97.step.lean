section SIMS
variable {D : va_G} {G : xG} {A : Nat → Prop} {mid d : Nat} {p : Program} {lc : Launch} {e : Env} {R : Room} {s : State} {m : MethodId} {args : Array Value} {below : List Frame} {meth : Method} {c : Code} {Z : State → Prop} {ad0 : sA} {b0 : Nat × Nat} {pc : Nat} {l : aL} {st r : List aV} {σ : aM}
theorem calM1x : ∀ e ∈ calL, (e.2.2.1 = 11 ∨ e.2.2.1 = 12 ∨ e.2.2.1 = 14 ∨ e.2.2.1 = 16) → e.1 ≠ 14 := by decide +kernel
theorem rl_lv {k tg cm pc' : Nat} {l' : aL} {st' : List aV} {σ' : aM} (hks : mcl mid ≠ 14 → KSt st) (hkm : KMe σ) (C : Cx mid d G A p R s m args meth c) (hd : decode (mcode mid) pc = .ok (.invokevirtual k, 3)) (hf : cal (mcl mid) k = some (tg, cm)) (hx : am_lv tg pc l st σ = some (.inl (pc', l', st', σ'))) (hB : (gB σ').1 ≤ R.cells + b0.1 ∧ (gB σ').2 ≤ R.slots + b0.2) (kk : Rl D G A mid p lc e R s m args below meth c Z ad0 b0 pc' l' st' σ') : Rl D G A mid p lc e R s m args below meth c Z ad0 b0 pc l st σ := by
  have hz : ∀ K i j q, gR σ K i j = some q → z4 q.1 = true ∨ q.1 = 1 := fun K i j q e => hkm K i j q e
  rcases lv_s hx with h | h | h | h | h | h | h | h | h
  · obtain ⟨rfl, q, K, i, r, rfl, hg, -, hy⟩ := h
    cases hy
    have h14 : mcl mid ≠ 14 := calM1x _ (lk_s (L := calL) hf) (Or.inl rfl)
    have hq := Kv_q (KSt_h (hks h14))
    rcases q with _ | q
    · exact rl_addN C hd hf hg.1 hg.2.2.1 (hz K i) hg.2.2.2 hB kk
    · exact rl_addR C hd hf hg.1 hg.2.2.1 (hq q rfl) (hz K i) hg.2.2.2 hB kk
  · obtain ⟨rfl, q, j, K, i, r, rfl, hg, -, hy⟩ := h
    cases hy
    have h14 : mcl mid ≠ 14 := calM1x _ (lk_s (L := calL) hf) (Or.inr (Or.inl rfl))
    have hq := Kv_q (KSt_h (hks h14))
    rcases q with _ | q
    · exact rl_insN C hd hf hg.1 hg.2.2.1 hg.2.2.2.2 (hz K i) hg.2.2.2.1 hB kk
    · exact rl_insR C hd hf hg.1 hg.2.2.1 hg.2.2.2.2 (hq q rfl) (hz K i) hg.2.2.2.1 hB kk
  · obtain ⟨rfl, j, K, i, r, rfl, hg, hy⟩ := h
    cases hy
    exact rl_gt C hd hf hg.1 hg.2.2.2 hg.2.2.1 hB kk
  · obtain ⟨rfl, j, K, i, r, rfl, hg, hy⟩ := h
    cases hy
    exact rl_rem C hd hf hg.1 hg.2.2.2 (hz K i) hg.2.2.1 hB kk
  · obtain ⟨rfl, K, i, r, rfl, hg, hy⟩ := h
    cases hy
    exact rl_sz C hd hf hg.1 hg.2.2 hB kk
  · obtain ⟨rfl, K, i, r, rfl, hg, hy⟩ := h
    cases hy
    exact rl_clr C hd hf hg.1 (hz K i) hg.2.2 hB kk
  · obtain ⟨rfl, K, i, r, rfl, hg, hy⟩ := h
    cases hy
    exact rl_em C hd hf hg.1 hg.2.2 hB kk
  · obtain ⟨rfl, i, r, rfl, hg, hy⟩ := h
    cases hy
    exact rl_len C hd hf hg.1 hg.2 hB kk
  · obtain ⟨rfl, j, i, r, rfl, hg, hy⟩ := h
    cases hy
    exact rl_cha C hd hf hg.1 hg.2.2 hg.2.1 hB kk
theorem rl_ls {k tg cm pc' : Nat} {l' : aL} {st' : List aV} {σ' : aM} (C : Cx mid d G A p R s m args meth c) (hd : decode (mcode mid) pc = .ok (.invokestatic k, 3)) (hf : cal (mcl mid) k = some (tg, cm)) (hx : am_ls tg mid pc l st σ = some (.inl (pc', l', st', σ'))) (hB : (gB σ').1 ≤ R.cells + b0.1 ∧ (gB σ').2 ≤ R.slots + b0.2) (kk : Rl D G A mid p lc e R s m args below meth c Z ad0 b0 pc' l' st' σ') : Rl D G A mid p lc e R s m args below meth c Z ad0 b0 pc l st σ := by
  rcases ls_s hx with h | h | h | h | h
  · obtain ⟨rfl, n, K, i, r, K2, rfl, -, hg, -, hy⟩ := h
    cases hy
    exact rl_copy C hd hf hg.1 hg.2.1 hg.2.2.2.1 hg.2.2.2.2.2 hg.2.2.2.2.1 hB kk
  · obtain ⟨rfl, v, K, i, r, rfl, hg, hy⟩ := h
    cases hy
    exact rl_fill C hd hf hg.1 hg.2.2.1 hg.2.2.2 hB kk
  · obtain ⟨rfl, a, b, r, rfl, hg, hy⟩ := h
    cases hy
    exact rl_min C hd hf hg hB kk
  · obtain ⟨rfl, a, b, r, rfl, hg, hy⟩ := h
    cases hy
    exact rl_maxL C hd hf hg hB kk
  · obtain ⟨rfl, a, r, rfl, hg, hy⟩ := h
    cases hy
    exact rl_bc C hd hf hg hB kk
set_option maxHeartbeats 4000000 in
theorem st_step {i : Instr} {len pc' : Nat} {l' : aL} {st' : List aV} {σ' : aM} (hks : mcl mid ≠ 14 → KSt st) (hkm : KMe σ) (C : Cx mid d G A p R s m args meth c) (hd : decode (mcode mid) pc = .ok (i, len)) (hx : am_nx mid pc len i l st σ = some (.inl (pc', l', st', σ'))) (hB : (gB σ').1 ≤ R.cells + b0.1 ∧ (gB σ').2 ≤ R.slots + b0.2) (kk : Rl D G A mid p lc e R s m args below meth c Z ad0 b0 pc' l' st' σ') : Rl D G A mid p lc e R s m args below meth c Z ad0 b0 pc l st σ := by
  cases i with
  | iconst n =>
    obtain ⟨rfl, hx1⟩ := gd_s (show am_gd _ _ = some _ from hx)
    obtain ⟨rfl, rfl, rfl, rfl⟩ := go_s hx1
    exact rl_iconst C hd kk
  | bipush n =>
    obtain ⟨rfl, hx1⟩ := gd_s (show am_gd _ _ = some _ from hx)
    obtain ⟨rfl, rfl, rfl, rfl⟩ := go_s hx1
    exact rl_bipush C hd kk
  | sipush n =>
    obtain ⟨rfl, hx1⟩ := gd_s (show am_gd _ _ = some _ from hx)
    obtain ⟨rfl, rfl, rfl, rfl⟩ := go_s hx1
    exact rl_sipush C hd kk
  | lconst n =>
    obtain ⟨rfl, hx1⟩ := gd_s (show am_gd _ _ = some _ from hx)
    obtain ⟨rfl, rfl, rfl, rfl⟩ := go_s hx1
    exact rl_lconst C hd kk
  | aconst_null =>
    obtain ⟨rfl, hx1⟩ := gd_s (show am_gd _ _ = some _ from hx)
    obtain ⟨rfl, rfl, rfl, rfl⟩ := go_s hx1
    exact rl_null C hd kk
  | ldc k =>
    obtain ⟨rfl, hx1⟩ := gd_s (show am_gd _ _ = some _ from hx)
    cases h1 : cInt (mcl mid) k with
    | some v =>
      rw [h1] at hx1
      obtain ⟨rfl, rfl, rfl, rfl⟩ := go_s hx1
      exact rl_ldcI h1 C hd kk
    | none =>
      rw [h1] at hx1
      cases h2 : cStr (mcl mid) k with
      | none => rw [h2] at hx1; cases hx1
      | some t =>
        rw [h2] at hx1
        obtain ⟨rfl, rfl, rfl, rfl⟩ := go_s hx1
        exact rl_ldcS h1 h2 C hd kk
  | ldc_w k =>
    obtain ⟨rfl, hx1⟩ := gd_s (show am_gd _ _ = some _ from hx)
    cases h1 : cInt (mcl mid) k with
    | some v =>
      rw [h1] at hx1
      obtain ⟨rfl, rfl, rfl, rfl⟩ := go_s hx1
      exact rl_ldc_wI h1 C hd kk
    | none =>
      rw [h1] at hx1
      cases h2 : cStr (mcl mid) k with
      | none => rw [h2] at hx1; cases hx1
      | some t =>
        rw [h2] at hx1
        obtain ⟨rfl, rfl, rfl, rfl⟩ := go_s hx1
        exact rl_ldc_wS h1 h2 C hd kk
  | ldc2_w k =>
    obtain ⟨rfl, hx1⟩ := gd_s (show am_gd _ _ = some _ from hx)
    cases h1 : cLong (mcl mid) k with
    | some v =>
      rw [h1] at hx1
      obtain ⟨rfl, rfl, rfl, rfl⟩ := go_s hx1
      exact rl_ldc2 h1 C hd kk
    | none => rw [h1] at hx1; cases hx1
  | iload_n k =>
    obtain ⟨rfl, hx1⟩ := gd_s (show am_gd _ _ = some _ from hx)
    obtain ⟨x, hv, hx2⟩ := li0_s hx1
    obtain ⟨rfl, rfl, rfl, rfl⟩ := go_s hx2
    exact rl_iload_n hv C hd kk
  | iload k =>
    obtain ⟨rfl, hx1⟩ := gd_s (show am_gd _ _ = some _ from hx)
    obtain ⟨x, hv, hx2⟩ := li0_s hx1
    obtain ⟨rfl, rfl, rfl, rfl⟩ := go_s hx2
    exact rl_iload hv C hd kk
  | lload_n k =>
    obtain ⟨rfl, hx1⟩ := gd_s (show am_gd _ _ = some _ from hx)
    obtain ⟨x, hv, hx2⟩ := ll0_s hx1
    obtain ⟨rfl, rfl, rfl, rfl⟩ := go_s hx2
    exact rl_lload_n hv C hd kk
  | lload k =>
    obtain ⟨rfl, hx1⟩ := gd_s (show am_gd _ _ = some _ from hx)
    obtain ⟨x, hv, hx2⟩ := ll0_s hx1
    obtain ⟨rfl, rfl, rfl, rfl⟩ := go_s hx2
    exact rl_lload hv C hd kk
  | aload_n k =>
    obtain ⟨rfl, hx1⟩ := gd_s (show am_gd _ _ = some _ from hx)
    obtain ⟨x, hv, hx2⟩ := lr0_s hx1
    obtain ⟨rfl, rfl, rfl, rfl⟩ := go_s hx2
    exact rl_aload_n hv C hd kk
  | aload k =>
    obtain ⟨rfl, hx1⟩ := gd_s (show am_gd _ _ = some _ from hx)
    obtain ⟨x, hv, hx2⟩ := lr0_s hx1
    obtain ⟨rfl, rfl, rfl, rfl⟩ := go_s hx2
    exact rl_aload hv C hd kk
  | istore_n k =>
    obtain ⟨⟨rfl, hg⟩, hx1⟩ := gd_s (show am_gd _ _ = some _ from hx)
    obtain ⟨x, r, rfl, hx2⟩ := i1_s hx1
    obtain ⟨rfl, rfl, rfl, rfl⟩ := go_s hx2
    exact rl_istore_n hg C hd kk
  | istore k =>
    obtain ⟨⟨rfl, hg⟩, hx1⟩ := gd_s (show am_gd _ _ = some _ from hx)
    obtain ⟨x, r, rfl, hx2⟩ := i1_s hx1
    obtain ⟨rfl, rfl, rfl, rfl⟩ := go_s hx2
    exact rl_istore hg C hd kk
  | lstore_n k =>
    obtain ⟨⟨rfl, hg⟩, hx1⟩ := gd_s (show am_gd _ _ = some _ from hx)
    obtain ⟨x, r, rfl, hx2⟩ := l1_s hx1
    obtain ⟨rfl, rfl, rfl, rfl⟩ := go_s hx2
    exact rl_lstore_n hg C hd kk
  | lstore k =>
    obtain ⟨⟨rfl, hg⟩, hx1⟩ := gd_s (show am_gd _ _ = some _ from hx)
    obtain ⟨x, r, rfl, hx2⟩ := l1_s hx1
    obtain ⟨rfl, rfl, rfl, rfl⟩ := go_s hx2
    exact rl_lstore hg C hd kk
  | astore_n k =>
    obtain ⟨⟨rfl, hg⟩, hx1⟩ := gd_s (show am_gd _ _ = some _ from hx)
    obtain ⟨x, r, rfl, hx2⟩ := rq_s hx1
    obtain ⟨rfl, rfl, rfl, rfl⟩ := go_s hx2
    exact rl_astore_n hg C hd kk
  | astore k =>
    obtain ⟨⟨rfl, hg⟩, hx1⟩ := gd_s (show am_gd _ _ = some _ from hx)
    obtain ⟨x, r, rfl, hx2⟩ := rq_s hx1
    obtain ⟨rfl, rfl, rfl, rfl⟩ := go_s hx2
    exact rl_astore hg C hd kk
  | iinc k n =>
    obtain ⟨⟨rfl, hg⟩, hx1⟩ := gd_s (show am_gd _ _ = some _ from hx)
    obtain ⟨x, hv, hx2⟩ := li0_s hx1
    obtain ⟨rfl, rfl, rfl, rfl⟩ := go_s hx2
    exact rl_iinc hg hv C hd kk
  | iadd =>
    obtain ⟨rfl, hx1⟩ := gd_s (show am_gd _ _ = some _ from hx)
    obtain ⟨a, b, r, rfl, hx2⟩ := i2_s hx1
    obtain ⟨rfl, rfl, rfl, rfl⟩ := go_s hx2
    exact rl_iadd C hd kk
  | isub =>
    obtain ⟨rfl, hx1⟩ := gd_s (show am_gd _ _ = some _ from hx)
    obtain ⟨a, b, r, rfl, hx2⟩ := i2_s hx1
    obtain ⟨rfl, rfl, rfl, rfl⟩ := go_s hx2
    exact rl_isub C hd kk
  | imul =>
    obtain ⟨rfl, hx1⟩ := gd_s (show am_gd _ _ = some _ from hx)
    obtain ⟨a, b, r, rfl, hx2⟩ := i2_s hx1
    obtain ⟨rfl, rfl, rfl, rfl⟩ := go_s hx2
    exact rl_imul C hd kk
  | iand =>
    obtain ⟨rfl, hx1⟩ := gd_s (show am_gd _ _ = some _ from hx)
    obtain ⟨a, b, r, rfl, hx2⟩ := i2_s hx1
    obtain ⟨rfl, rfl, rfl, rfl⟩ := go_s hx2
    exact rl_iand C hd kk
  | ior =>
    obtain ⟨rfl, hx1⟩ := gd_s (show am_gd _ _ = some _ from hx)
    obtain ⟨a, b, r, rfl, hx2⟩ := i2_s hx1
    obtain ⟨rfl, rfl, rfl, rfl⟩ := go_s hx2
    exact rl_ior C hd kk
  | ixor =>
    obtain ⟨rfl, hx1⟩ := gd_s (show am_gd _ _ = some _ from hx)
    obtain ⟨a, b, r, rfl, hx2⟩ := i2_s hx1
    obtain ⟨rfl, rfl, rfl, rfl⟩ := go_s hx2
    exact rl_ixor C hd kk
  | ishl =>
    obtain ⟨rfl, hx1⟩ := gd_s (show am_gd _ _ = some _ from hx)
    obtain ⟨a, b, r, rfl, hx2⟩ := i2_s hx1
    obtain ⟨rfl, rfl, rfl, rfl⟩ := go_s hx2
    exact rl_ishl C hd kk
  | ishr =>
    obtain ⟨rfl, hx1⟩ := gd_s (show am_gd _ _ = some _ from hx)
    obtain ⟨a, b, r, rfl, hx2⟩ := i2_s hx1
    obtain ⟨rfl, rfl, rfl, rfl⟩ := go_s hx2
    exact rl_ishr C hd kk
  | iushr =>
    obtain ⟨rfl, hx1⟩ := gd_s (show am_gd _ _ = some _ from hx)
    obtain ⟨a, b, r, rfl, hx2⟩ := i2_s hx1
    obtain ⟨rfl, rfl, rfl, rfl⟩ := go_s hx2
    exact rl_iushr C hd kk
  | idiv =>
    obtain ⟨rfl, hx1⟩ := gd_s (show am_gd _ _ = some _ from hx)
    obtain ⟨a, b, r, rfl, hx2⟩ := i2_s hx1
    obtain ⟨hn, hx3⟩ := gd_s hx2
    obtain ⟨rfl, rfl, rfl, rfl⟩ := go_s hx3
    exact rl_idiv hn C hd kk
  | irem =>
    obtain ⟨rfl, hx1⟩ := gd_s (show am_gd _ _ = some _ from hx)
    obtain ⟨a, b, r, rfl, hx2⟩ := i2_s hx1
    obtain ⟨hn, hx3⟩ := gd_s hx2
    obtain ⟨rfl, rfl, rfl, rfl⟩ := go_s hx3
    exact rl_irem hn C hd kk
  | ladd =>
    obtain ⟨rfl, hx1⟩ := gd_s (show am_gd _ _ = some _ from hx)
    obtain ⟨a, b, r, rfl, hx2⟩ := l2_s hx1
    obtain ⟨rfl, rfl, rfl, rfl⟩ := go_s hx2
    exact rl_ladd C hd kk
  | lsub =>
    obtain ⟨rfl, hx1⟩ := gd_s (show am_gd _ _ = some _ from hx)
    obtain ⟨a, b, r, rfl, hx2⟩ := l2_s hx1
    obtain ⟨rfl, rfl, rfl, rfl⟩ := go_s hx2
    exact rl_lsub C hd kk
  | lmul =>
    obtain ⟨rfl, hx1⟩ := gd_s (show am_gd _ _ = some _ from hx)
    obtain ⟨a, b, r, rfl, hx2⟩ := l2_s hx1
    obtain ⟨rfl, rfl, rfl, rfl⟩ := go_s hx2
    exact rl_lmul C hd kk
  | land =>
    obtain ⟨rfl, hx1⟩ := gd_s (show am_gd _ _ = some _ from hx)
    obtain ⟨a, b, r, rfl, hx2⟩ := l2_s hx1
    obtain ⟨rfl, rfl, rfl, rfl⟩ := go_s hx2
    exact rl_land C hd kk
  | lor =>
    obtain ⟨rfl, hx1⟩ := gd_s (show am_gd _ _ = some _ from hx)
    obtain ⟨a, b, r, rfl, hx2⟩ := l2_s hx1
    obtain ⟨rfl, rfl, rfl, rfl⟩ := go_s hx2
    exact rl_lor C hd kk
  | lcmp =>
    obtain ⟨rfl, hx1⟩ := gd_s (show am_gd _ _ = some _ from hx)
    obtain ⟨a, b, r, rfl, hx2⟩ := l2_s hx1
    obtain ⟨rfl, rfl, rfl, rfl⟩ := go_s hx2
    exact rl_lcmp C hd kk
  | ldiv =>
    obtain ⟨rfl, hx1⟩ := gd_s (show am_gd _ _ = some _ from hx)
    obtain ⟨a, b, r, rfl, hx2⟩ := l2_s hx1
    obtain ⟨hn, hx3⟩ := gd_s hx2
    obtain ⟨rfl, rfl, rfl, rfl⟩ := go_s hx3
    exact rl_ldiv hn C hd kk
  | lshl =>
    obtain ⟨rfl, hx1⟩ := gd_s (show am_gd _ _ = some _ from hx)
    obtain ⟨a, b, r, rfl, hx2⟩ := li_s hx1
    obtain ⟨rfl, rfl, rfl, rfl⟩ := go_s hx2
    exact rl_lshl C hd kk
  | lshr =>
    obtain ⟨rfl, hx1⟩ := gd_s (show am_gd _ _ = some _ from hx)
    obtain ⟨a, b, r, rfl, hx2⟩ := li_s hx1
    obtain ⟨rfl, rfl, rfl, rfl⟩ := go_s hx2
    exact rl_lshr C hd kk
  | i2l =>
    obtain ⟨rfl, hx1⟩ := gd_s (show am_gd _ _ = some _ from hx)
    obtain ⟨a, r, rfl, hx2⟩ := i1_s hx1
    obtain ⟨rfl, rfl, rfl, rfl⟩ := go_s hx2
    exact rl_i2l C hd kk
  | l2i =>
    obtain ⟨rfl, hx1⟩ := gd_s (show am_gd _ _ = some _ from hx)
    obtain ⟨a, r, rfl, hx2⟩ := l1_s hx1
    obtain ⟨rfl, rfl, rfl, rfl⟩ := go_s hx2
    exact rl_l2i C hd kk
  | i2b =>
    obtain ⟨rfl, hx1⟩ := gd_s (show am_gd _ _ = some _ from hx)
    obtain ⟨a, r, rfl, hx2⟩ := i1_s hx1
    obtain ⟨rfl, rfl, rfl, rfl⟩ := go_s hx2
    exact rl_i2b C hd kk
  | dup =>
    obtain ⟨rfl, hx1⟩ := gd_s (show am_gd _ _ = some _ from hx)
    split at hx1
    · obtain ⟨rfl, rfl, rfl, rfl⟩ := go_s hx1
      exact rl_dupI C hd kk
    · obtain ⟨rfl, rfl, rfl, rfl⟩ := go_s hx1
      exact rl_dupR C hd kk
    · cases hx1
  | pop =>
    obtain ⟨rfl, hx1⟩ := gd_s (show am_gd _ _ = some _ from hx)
    split at hx1
    · obtain ⟨rfl, rfl, rfl, rfl⟩ := go_s hx1
      exact rl_popI C hd kk
    · obtain ⟨rfl, rfl, rfl, rfl⟩ := go_s hx1
      exact rl_popR C hd kk
    · cases hx1
  | dup2 =>
    obtain ⟨rfl, hx1⟩ := gd_s (show am_gd _ _ = some _ from hx)
    split at hx1
    · obtain ⟨rfl, rfl, rfl, rfl⟩ := go_s hx1
      exact rl_dup2 C hd kk
    · cases hx1
  | goto o =>
    obtain ⟨rfl, hx1⟩ := gd_s (show am_gd _ _ = some _ from hx)
    obtain ⟨t, ht, hx2⟩ := jm_s hx1
    obtain ⟨rfl, rfl, rfl, rfl⟩ := go_s hx2
    exact rl_goto ht C hd kk
  | ifCond cc o =>
    obtain ⟨rfl, hx1⟩ := gd_s (show am_gd _ _ = some _ from hx)
    obtain ⟨a, r, rfl, hx2⟩ := i1_s hx1
    obtain ⟨t, ht, hx3⟩ := jm_s hx2
    cases cc with
    | eq =>
      have hx4 : (if a = 0 then am_go t l r σ else am_go (pc + 3) l r σ) = some (Sum.inl (pc', l', st', σ')) := hx3
      exact rl_if_eq ht C hd (fun h => by rw [if_pos h] at hx4; obtain ⟨rfl, rfl, rfl, rfl⟩ := go_s hx4; exact kk) (fun h => by rw [if_neg h] at hx4; obtain ⟨rfl, rfl, rfl, rfl⟩ := go_s hx4; exact kk)
    | ne =>
      have hx5 : (if a = 0 then am_go (pc + 3) l r σ else am_go t l r σ) = some (Sum.inl (pc', l', st', σ')) := hx3
      exact rl_if_ne ht C hd (fun h => by rw [if_neg h] at hx5; obtain ⟨rfl, rfl, rfl, rfl⟩ := go_s hx5; exact kk) (fun h => by rw [if_pos (Classical.byContradiction h)] at hx5; obtain ⟨rfl, rfl, rfl, rfl⟩ := go_s hx5; exact kk)
    | lt =>
      have hx6 : (if a < 0 then am_go t l r σ else am_go (pc + 3) l r σ) = some (Sum.inl (pc', l', st', σ')) := hx3
      exact rl_if_lt ht C hd (fun h => by rw [if_pos h] at hx6; obtain ⟨rfl, rfl, rfl, rfl⟩ := go_s hx6; exact kk) (fun h => by rw [if_neg h] at hx6; obtain ⟨rfl, rfl, rfl, rfl⟩ := go_s hx6; exact kk)
    | ge =>
      have hx7 : (if a < 0 then am_go (pc + 3) l r σ else am_go t l r σ) = some (Sum.inl (pc', l', st', σ')) := hx3
      exact rl_if_ge ht C hd (fun h => by rw [if_neg h] at hx7; obtain ⟨rfl, rfl, rfl, rfl⟩ := go_s hx7; exact kk) (fun h => by rw [if_pos (Classical.byContradiction h)] at hx7; obtain ⟨rfl, rfl, rfl, rfl⟩ := go_s hx7; exact kk)
    | gt =>
      have hx8 : (if 0 < a then am_go t l r σ else am_go (pc + 3) l r σ) = some (Sum.inl (pc', l', st', σ')) := hx3
      exact rl_if_gt ht C hd (fun h => by rw [if_pos h] at hx8; obtain ⟨rfl, rfl, rfl, rfl⟩ := go_s hx8; exact kk) (fun h => by rw [if_neg h] at hx8; obtain ⟨rfl, rfl, rfl, rfl⟩ := go_s hx8; exact kk)
    | le =>
      have hx9 : (if 0 < a then am_go (pc + 3) l r σ else am_go t l r σ) = some (Sum.inl (pc', l', st', σ')) := hx3
      exact rl_if_le ht C hd (fun h => by rw [if_neg h] at hx9; obtain ⟨rfl, rfl, rfl, rfl⟩ := go_s hx9; exact kk) (fun h => by rw [if_pos (Classical.byContradiction h)] at hx9; obtain ⟨rfl, rfl, rfl, rfl⟩ := go_s hx9; exact kk)
  | if_icmp cc o =>
    obtain ⟨rfl, hx1⟩ := gd_s (show am_gd _ _ = some _ from hx)
    obtain ⟨a, b, r, rfl, hx2⟩ := i2_s hx1
    obtain ⟨t, ht, hx3⟩ := jm_s hx2
    cases cc with
    | eq =>
      have hx4 : (if a = b then am_go t l r σ else am_go (pc + 3) l r σ) = some (Sum.inl (pc', l', st', σ')) := hx3
      exact rl_icmp_eq ht C hd (fun h => by rw [if_pos h] at hx4; obtain ⟨rfl, rfl, rfl, rfl⟩ := go_s hx4; exact kk) (fun h => by rw [if_neg h] at hx4; obtain ⟨rfl, rfl, rfl, rfl⟩ := go_s hx4; exact kk)
    | ne =>
      have hx5 : (if a = b then am_go (pc + 3) l r σ else am_go t l r σ) = some (Sum.inl (pc', l', st', σ')) := hx3
      exact rl_icmp_ne ht C hd (fun h => by rw [if_neg h] at hx5; obtain ⟨rfl, rfl, rfl, rfl⟩ := go_s hx5; exact kk) (fun h => by rw [if_pos (Classical.byContradiction h)] at hx5; obtain ⟨rfl, rfl, rfl, rfl⟩ := go_s hx5; exact kk)
    | lt =>
      have hx6 : (if a < b then am_go t l r σ else am_go (pc + 3) l r σ) = some (Sum.inl (pc', l', st', σ')) := hx3
      exact rl_icmp_lt ht C hd (fun h => by rw [if_pos h] at hx6; obtain ⟨rfl, rfl, rfl, rfl⟩ := go_s hx6; exact kk) (fun h => by rw [if_neg h] at hx6; obtain ⟨rfl, rfl, rfl, rfl⟩ := go_s hx6; exact kk)
    | ge =>
      have hx7 : (if a < b then am_go (pc + 3) l r σ else am_go t l r σ) = some (Sum.inl (pc', l', st', σ')) := hx3
      exact rl_icmp_ge ht C hd (fun h => by rw [if_neg h] at hx7; obtain ⟨rfl, rfl, rfl, rfl⟩ := go_s hx7; exact kk) (fun h => by rw [if_pos (Classical.byContradiction h)] at hx7; obtain ⟨rfl, rfl, rfl, rfl⟩ := go_s hx7; exact kk)
    | gt =>
      have hx8 : (if b < a then am_go t l r σ else am_go (pc + 3) l r σ) = some (Sum.inl (pc', l', st', σ')) := hx3
      exact rl_icmp_gt ht C hd (fun h => by rw [if_pos h] at hx8; obtain ⟨rfl, rfl, rfl, rfl⟩ := go_s hx8; exact kk) (fun h => by rw [if_neg h] at hx8; obtain ⟨rfl, rfl, rfl, rfl⟩ := go_s hx8; exact kk)
    | le =>
      have hx9 : (if b < a then am_go (pc + 3) l r σ else am_go t l r σ) = some (Sum.inl (pc', l', st', σ')) := hx3
      exact rl_icmp_le ht C hd (fun h => by rw [if_neg h] at hx9; obtain ⟨rfl, rfl, rfl, rfl⟩ := go_s hx9; exact kk) (fun h => by rw [if_pos (Classical.byContradiction h)] at hx9; obtain ⟨rfl, rfl, rfl, rfl⟩ := go_s hx9; exact kk)
  | ifnull o =>
    obtain ⟨rfl, hx1⟩ := gd_s (show am_gd _ _ = some _ from hx)
    obtain ⟨q, r, rfl, hx2⟩ := rq_s hx1
    obtain ⟨t, ht, hx3⟩ := jm_s hx2
    have hx4 : (if q = none then am_go t l r σ else am_go (pc + 3) l r σ) = some (Sum.inl (pc', l', st', σ')) := hx3
    exact rl_ifnull ht C hd (fun h => by rw [if_pos h] at hx4; obtain ⟨rfl, rfl, rfl, rfl⟩ := go_s hx4; exact kk) (fun h => by rw [if_neg h] at hx4; obtain ⟨rfl, rfl, rfl, rfl⟩ := go_s hx4; exact kk)
  | ifnonnull o =>
    obtain ⟨rfl, hx1⟩ := gd_s (show am_gd _ _ = some _ from hx)
    obtain ⟨q, r, rfl, hx2⟩ := rq_s hx1
    obtain ⟨t, ht, hx3⟩ := jm_s hx2
    have hx4 : (if q = none then am_go (pc + 3) l r σ else am_go t l r σ) = some (Sum.inl (pc', l', st', σ')) := hx3
    exact rl_ifnonnull ht C hd (fun h => by rw [if_pos h] at hx4; obtain ⟨rfl, rfl, rfl, rfl⟩ := go_s hx4; exact kk) (fun h => by rw [if_neg h] at hx4; obtain ⟨rfl, rfl, rfl, rfl⟩ := go_s hx4; exact kk)
  | tableswitch df lo hi offs =>
    obtain ⟨x, r, rfl, hx1⟩ := i1_s (show am_i1 _ _ = some _ from hx)
    obtain ⟨hg, hx2⟩ := gd_s hx1
    exact rl_tsw C hd hg hx2 (fun t ht => by obtain ⟨rfl, rfl, rfl, rfl⟩ := go_s ht; exact kk)
  | getfield k =>
    obtain ⟨rfl, hx1⟩ := gd_s (show am_gd _ _ = some _ from hx)
    cases h1 : fld (mcl mid) k with
    | none => rw [h1] at hx1; cases hx1
    | some q =>
      obtain ⟨ci, f, t⟩ := q
      rw [h1] at hx1
      obtain ⟨K, i, r, rfl, hx2⟩ := ro_s hx1
      obtain ⟨⟨hk, hi⟩, hx3⟩ := gd_s hx2
      obtain ⟨rfl, rfl, rfl, rfl⟩ := go_s hx3
      exact rl_getf C hd h1 hk kk
  | putfield k =>
    obtain ⟨rfl, hx1⟩ := gd_s (show am_gd _ _ = some _ from hx)
    cases h1 : fld (mcl mid) k with
    | none => rw [h1] at hx1; cases hx1
    | some q =>
      obtain ⟨ci, f, t⟩ := q
      rw [h1] at hx1
      obtain ⟨v, r1, rfl, hx2⟩ := v1_s hx1
      obtain ⟨K, i, r, rfl, hx3⟩ := ro_s hx2
      obtain ⟨⟨hk, hi, hF⟩, hx4⟩ := gd_s hx3
      rcases v with x | x | x
      · obtain ⟨ht, hx5⟩ := gd_s (show am_gd _ _ = some _ from hx4)
        obtain ⟨rfl, rfl, rfl, rfl⟩ := go_s hx5
        exact rl_putI C hd h1 hk hF ht kk
      · obtain ⟨rfl, hx6⟩ := gd_s (show am_gd _ _ = some _ from hx4)
        obtain ⟨rfl, rfl, rfl, rfl⟩ := go_s hx6
        exact rl_putL C hd h1 hk hF kk
      · obtain ⟨rfl, hx7⟩ := gd_s (show am_gd _ _ = some _ from hx4)
        obtain ⟨rfl, rfl, rfl, rfl⟩ := go_s hx7
        exact rl_putR C hd h1 hk hF kk
  | iaload =>
    obtain ⟨rfl, hx1⟩ := gd_s (show am_gd _ _ = some _ from hx)
    obtain ⟨j, r1, rfl, hx2⟩ := i1_s hx1
    obtain ⟨K, i, r, rfl, hx3⟩ := ro_s hx2
    obtain ⟨⟨hc, hin⟩, hx4⟩ := gd_s hx3
    obtain ⟨rfl, rfl, rfl, rfl⟩ := go_s hx4
    exact rl_iald C hd hc hin kk
  | baload =>
    obtain ⟨rfl, hx1⟩ := gd_s (show am_gd _ _ = some _ from hx)
    obtain ⟨j, r1, rfl, hx2⟩ := i1_s hx1
    obtain ⟨K, i, r, rfl, hx3⟩ := ro_s hx2
    obtain ⟨⟨hc, _, hin⟩, hx4⟩ := gd_s hx3
    obtain ⟨rfl, rfl, rfl, rfl⟩ := go_s hx4
    exact rl_bald C hd hc hin kk
  | laload =>
    obtain ⟨rfl, hx1⟩ := gd_s (show am_gd _ _ = some _ from hx)
    obtain ⟨j, r1, rfl, hx2⟩ := i1_s hx1
    obtain ⟨K, i, r, rfl, hx3⟩ := ro_s hx2
    obtain ⟨⟨hc, _, hin⟩, hx4⟩ := gd_s hx3
    obtain ⟨rfl, rfl, rfl, rfl⟩ := go_s hx4
    exact rl_lald C hd hc hin kk
  | iastore =>
    obtain ⟨rfl, hx1⟩ := gd_s (show am_gd _ _ = some _ from hx)
    obtain ⟨j, x, r1, rfl, hx2⟩ := i2_s hx1
    obtain ⟨K, i, r, rfl, hx3⟩ := ro_s hx2
    obtain ⟨⟨hc, _, hin⟩, hx4⟩ := gd_s hx3
    obtain ⟨rfl, rfl, rfl, rfl⟩ := go_s hx4
    exact rl_iast C hd hc hin kk
  | bastore =>
    obtain ⟨rfl, hx1⟩ := gd_s (show am_gd _ _ = some _ from hx)
    obtain ⟨j, x, r1, rfl, hx2⟩ := i2_s hx1
    obtain ⟨K, i, r, rfl, hx3⟩ := ro_s hx2
    obtain ⟨⟨hc, _, hin⟩, hx4⟩ := gd_s hx3
    obtain ⟨rfl, rfl, rfl, rfl⟩ := go_s hx4
    exact rl_bast C hd hc hin kk
  | lastore =>
    obtain ⟨rfl, hx1⟩ := gd_s (show am_gd _ _ = some _ from hx)
    obtain ⟨x, r2, rfl, hx2⟩ := l1_s hx1
    obtain ⟨j, r1, rfl, hx3⟩ := i1_s hx2
    obtain ⟨K, i, r, rfl, hx4⟩ := ro_s hx3
    obtain ⟨⟨hc, _, hin⟩, hx5⟩ := gd_s hx4
    obtain ⟨rfl, rfl, rfl, rfl⟩ := go_s hx5
    exact rl_last C hd hc hin kk
  | arraylength =>
    obtain ⟨rfl, hx1⟩ := gd_s (show am_gd _ _ = some _ from hx)
    obtain ⟨K, i, r, rfl, hx2⟩ := ro_s hx1
    obtain ⟨hc, hx3⟩ := gd_s hx2
    obtain ⟨rfl, rfl, rfl, rfl⟩ := go_s hx3
    exact rl_alen C hd hc kk
  | newarray t =>
    obtain ⟨rfl, hx1⟩ := gd_s (show am_gd _ _ = some _ from hx)
    obtain ⟨n, r, rfl, hx2⟩ := i1_s hx1
    cases h1 : kS mid pc with
    | none => rw [h1] at hx2; cases hx2
    | some K =>
      rw [h1] at hx2
      obtain ⟨⟨hn, h8, hk⟩, hx3⟩ := gd_s hx2
      obtain ⟨hbd, hx4⟩ := gd_s (show am_gd _ _ = some _ from hx3)
      obtain ⟨rfl, rfl, rfl, rfl⟩ := go_s hx4
      exact rl_newa C hd hn h8 hk hB kk
  | new k =>
    obtain ⟨rfl, hx1⟩ := gd_s (show am_gd _ _ = some _ from hx)
    have hx2 : am_new mid pc k l st σ = some (Sum.inl (pc', l', st', σ')) := hx1
    unfold am_new at hx2
    cases h1 : clsP (mcl mid) k with
    | none => rw [h1] at hx2; cases hx2
    | some ci =>
      rw [h1] at hx2
      dsimp only at hx2
      by_cases h98 : ci = 98
      · rw [if_pos h98] at hx2
        obtain ⟨hthr, hx3⟩ := gd_s hx2
        obtain ⟨hbd, hx4⟩ := gd_s (show am_gd _ _ = some _ from hx3)
        cases hx4
      · rw [if_neg h98] at hx2
        cases h2 : kS mid pc with
        | none => rw [h2] at hx2; cases hx2
        | some K =>
          rw [h2] at hx2
          dsimp only at hx2
          by_cases h0 : ci = 0
          · rw [if_pos h0] at hx2
            obtain ⟨⟨hk, h3, hnl⟩, hx5⟩ := gd_s hx2
            obtain ⟨hbd, hx6⟩ := gd_s (show am_gd _ _ = some _ from hx5)
            obtain ⟨rfl, rfl, rfl, rfl⟩ := go_s hx6
            subst h0
            exact rl_newL C hd h1 hk h3 hnl hB kk
          · rw [if_neg h0] at hx2
            obtain ⟨hk, hx7⟩ := gd_s hx2
            obtain ⟨hbd, hx8⟩ := gd_s (show am_gd _ _ = some _ from hx7)
            obtain ⟨rfl, rfl, rfl, rfl⟩ := go_s hx8
            exact rl_newO C hd h1 h98 hk hB kk
  | checkcast k =>
    obtain ⟨rfl, hx1⟩ := gd_s (show am_gd _ _ = some _ from hx)
    obtain ⟨q, r, rfl, hx2⟩ := rq_s hx1
    rcases q with _ | ⟨K, i⟩
    · obtain ⟨rfl, rfl, rfl, rfl⟩ := go_s hx2
      exact rl_cast0 C hd kk
    · obtain ⟨⟨hk, _, hf⟩, hx3⟩ := gd_s (show am_gd _ _ = some _ from hx2)
      obtain ⟨rfl, rfl, rfl, rfl⟩ := go_s hx3
      exact rl_cast C hd hk hf kk
  | invokevirtual k =>
    obtain ⟨rfl, hx1⟩ := gd_s (show am_gd _ _ = some _ from hx)
    cases h1 : cal (mcl mid) k with
    | none => rw [h1] at hx1; cases hx1
    | some q =>
      obtain ⟨tg, cm⟩ := q
      rw [h1] at hx1
      dsimp only at hx1
      by_cases h0 : tg = 0
      · rw [if_pos h0] at hx1
        split at hx1
        · obtain ⟨hg, hx2⟩ := gd_s hx1
          cases hx2
        · cases hx1
      · rw [if_neg h0] at hx1
        exact rl_lv hks hkm C hd h1 hx1 hB kk
  | invokestatic k =>
    obtain ⟨rfl, hx1⟩ := gd_s (show am_gd _ _ = some _ from hx)
    cases h1 : cal (mcl mid) k with
    | none => rw [h1] at hx1; cases hx1
    | some q =>
      obtain ⟨tg, cm⟩ := q
      rw [h1] at hx1
      dsimp only at hx1
      by_cases h0 : tg = 1 ∨ tg = 2
      · rw [if_pos h0] at hx1
        split at hx1
        · obtain ⟨hg, hx2⟩ := gd_s hx1
          cases hx2
        · cases hx1
      · rw [if_neg h0] at hx1
        exact rl_ls C hd h1 hx1 hB kk
  | invokespecial k =>
    obtain ⟨rfl, hx1⟩ := gd_s (show am_gd _ _ = some _ from hx)
    cases h1 : cal (mcl mid) k with
    | none => rw [h1] at hx1; cases hx1
    | some q =>
      obtain ⟨tg, cm⟩ := q
      rw [h1] at hx1
      dsimp only at hx1
      by_cases h0 : tg = 3 ∨ tg = 4
      · rw [if_pos h0] at hx1
        split at hx1
        · obtain ⟨hg, hx2⟩ := gd_s hx1
          cases hx2
        · cases hx1
      · rw [if_neg h0] at hx1
        by_cases h4 : tg = 40
        · rw [if_pos h4] at hx1
          obtain ⟨K, i, r, rfl, hx3⟩ := ro_s hx1
          obtain ⟨hr, hx4⟩ := gd_s hx3
          obtain ⟨rfl, rfl, rfl, rfl⟩ := go_s hx4
          subst h4
          exact rl_obj C hd h1 hr kk
        · rw [if_neg h4] at hx1; cases hx1
  | ireturn =>
    obtain ⟨rfl, hx1⟩ := gd_s (show am_gd _ _ = some _ from hx)
    split at hx1
    · obtain ⟨hg, hx2⟩ := gd_s hx1
      cases hx2
    · cases hx1
  | lreturn =>
    obtain ⟨rfl, hx1⟩ := gd_s (show am_gd _ _ = some _ from hx)
    split at hx1
    · obtain ⟨hg, hx2⟩ := gd_s hx1
      cases hx2
    · cases hx1
  | areturn =>
    obtain ⟨rfl, hx1⟩ := gd_s (show am_gd _ _ = some _ from hx)
    split at hx1
    · obtain ⟨hg, hx2⟩ := gd_s hx1
      cases hx2
    · cases hx1
  | return_ =>
    obtain ⟨rfl, hx1⟩ := gd_s (show am_gd _ _ = some _ from hx)
    split at hx1
    · obtain ⟨hg, hx2⟩ := gd_s hx1
      cases hx2
    · cases hx1
  | _ => exact absurd (show (none : Option aX) = some _ from hx) (by simp)
set_option maxHeartbeats 4000000 in
theorem st_mono {i : Instr} {len pc' : Nat} {l' : aL} {st' : List aV} {σ' : aM} (hx : am_nx mid pc len i l st σ = some (.inl (pc', l', st', σ'))) : (gB σ).1 ≤ (gB σ').1 ∧ (gB σ).2 ≤ (gB σ').2 := by
  cases i with
  | iconst n =>
    obtain ⟨rfl, hx1⟩ := gd_s (show am_gd _ _ = some _ from hx)
    obtain ⟨rfl, rfl, rfl, rfl⟩ := go_s hx1
    exact ⟨Nat.le_refl _, Nat.le_refl _⟩
  | bipush n =>
    obtain ⟨rfl, hx1⟩ := gd_s (show am_gd _ _ = some _ from hx)
    obtain ⟨rfl, rfl, rfl, rfl⟩ := go_s hx1
    exact ⟨Nat.le_refl _, Nat.le_refl _⟩
  | sipush n =>
    obtain ⟨rfl, hx1⟩ := gd_s (show am_gd _ _ = some _ from hx)
    obtain ⟨rfl, rfl, rfl, rfl⟩ := go_s hx1
    exact ⟨Nat.le_refl _, Nat.le_refl _⟩
  | lconst n =>
    obtain ⟨rfl, hx1⟩ := gd_s (show am_gd _ _ = some _ from hx)
    obtain ⟨rfl, rfl, rfl, rfl⟩ := go_s hx1
    exact ⟨Nat.le_refl _, Nat.le_refl _⟩
  | aconst_null =>
    obtain ⟨rfl, hx1⟩ := gd_s (show am_gd _ _ = some _ from hx)
    obtain ⟨rfl, rfl, rfl, rfl⟩ := go_s hx1
    exact ⟨Nat.le_refl _, Nat.le_refl _⟩
  | ldc k =>
    obtain ⟨rfl, hx1⟩ := gd_s (show am_gd _ _ = some _ from hx)
    cases h1 : cInt (mcl mid) k with
    | some v =>
      rw [h1] at hx1
      obtain ⟨rfl, rfl, rfl, rfl⟩ := go_s hx1
      exact ⟨Nat.le_refl _, Nat.le_refl _⟩
    | none =>
      rw [h1] at hx1
      cases h2 : cStr (mcl mid) k with
      | none => rw [h2] at hx1; cases hx1
      | some t =>
        rw [h2] at hx1
        obtain ⟨rfl, rfl, rfl, rfl⟩ := go_s hx1
        exact ⟨Nat.le_refl _, Nat.le_refl _⟩
  | ldc_w k =>
    obtain ⟨rfl, hx1⟩ := gd_s (show am_gd _ _ = some _ from hx)
    cases h1 : cInt (mcl mid) k with
    | some v =>
      rw [h1] at hx1
      obtain ⟨rfl, rfl, rfl, rfl⟩ := go_s hx1
      exact ⟨Nat.le_refl _, Nat.le_refl _⟩
    | none =>
      rw [h1] at hx1
      cases h2 : cStr (mcl mid) k with
      | none => rw [h2] at hx1; cases hx1
      | some t =>
        rw [h2] at hx1
        obtain ⟨rfl, rfl, rfl, rfl⟩ := go_s hx1
        exact ⟨Nat.le_refl _, Nat.le_refl _⟩
  | ldc2_w k =>
    obtain ⟨rfl, hx1⟩ := gd_s (show am_gd _ _ = some _ from hx)
    cases h1 : cLong (mcl mid) k with
    | some v =>
      rw [h1] at hx1
      obtain ⟨rfl, rfl, rfl, rfl⟩ := go_s hx1
      exact ⟨Nat.le_refl _, Nat.le_refl _⟩
    | none => rw [h1] at hx1; cases hx1
  | iload_n k =>
    obtain ⟨rfl, hx1⟩ := gd_s (show am_gd _ _ = some _ from hx)
    obtain ⟨x, hv, hx2⟩ := li0_s hx1
    obtain ⟨rfl, rfl, rfl, rfl⟩ := go_s hx2
    exact ⟨Nat.le_refl _, Nat.le_refl _⟩
  | iload k =>
    obtain ⟨rfl, hx1⟩ := gd_s (show am_gd _ _ = some _ from hx)
    obtain ⟨x, hv, hx2⟩ := li0_s hx1
    obtain ⟨rfl, rfl, rfl, rfl⟩ := go_s hx2
    exact ⟨Nat.le_refl _, Nat.le_refl _⟩
  | lload_n k =>
    obtain ⟨rfl, hx1⟩ := gd_s (show am_gd _ _ = some _ from hx)
    obtain ⟨x, hv, hx2⟩ := ll0_s hx1
    obtain ⟨rfl, rfl, rfl, rfl⟩ := go_s hx2
    exact ⟨Nat.le_refl _, Nat.le_refl _⟩
  | lload k =>
    obtain ⟨rfl, hx1⟩ := gd_s (show am_gd _ _ = some _ from hx)
    obtain ⟨x, hv, hx2⟩ := ll0_s hx1
    obtain ⟨rfl, rfl, rfl, rfl⟩ := go_s hx2
    exact ⟨Nat.le_refl _, Nat.le_refl _⟩
  | aload_n k =>
    obtain ⟨rfl, hx1⟩ := gd_s (show am_gd _ _ = some _ from hx)
    obtain ⟨x, hv, hx2⟩ := lr0_s hx1
    obtain ⟨rfl, rfl, rfl, rfl⟩ := go_s hx2
    exact ⟨Nat.le_refl _, Nat.le_refl _⟩
  | aload k =>
    obtain ⟨rfl, hx1⟩ := gd_s (show am_gd _ _ = some _ from hx)
    obtain ⟨x, hv, hx2⟩ := lr0_s hx1
    obtain ⟨rfl, rfl, rfl, rfl⟩ := go_s hx2
    exact ⟨Nat.le_refl _, Nat.le_refl _⟩
  | istore_n k =>
    obtain ⟨⟨rfl, hg⟩, hx1⟩ := gd_s (show am_gd _ _ = some _ from hx)
    obtain ⟨x, r, rfl, hx2⟩ := i1_s hx1
    obtain ⟨rfl, rfl, rfl, rfl⟩ := go_s hx2
    exact ⟨Nat.le_refl _, Nat.le_refl _⟩
  | istore k =>
    obtain ⟨⟨rfl, hg⟩, hx1⟩ := gd_s (show am_gd _ _ = some _ from hx)
    obtain ⟨x, r, rfl, hx2⟩ := i1_s hx1
    obtain ⟨rfl, rfl, rfl, rfl⟩ := go_s hx2
    exact ⟨Nat.le_refl _, Nat.le_refl _⟩
  | lstore_n k =>
    obtain ⟨⟨rfl, hg⟩, hx1⟩ := gd_s (show am_gd _ _ = some _ from hx)
    obtain ⟨x, r, rfl, hx2⟩ := l1_s hx1
    obtain ⟨rfl, rfl, rfl, rfl⟩ := go_s hx2
    exact ⟨Nat.le_refl _, Nat.le_refl _⟩
  | lstore k =>
    obtain ⟨⟨rfl, hg⟩, hx1⟩ := gd_s (show am_gd _ _ = some _ from hx)
    obtain ⟨x, r, rfl, hx2⟩ := l1_s hx1
    obtain ⟨rfl, rfl, rfl, rfl⟩ := go_s hx2
    exact ⟨Nat.le_refl _, Nat.le_refl _⟩
  | astore_n k =>
    obtain ⟨⟨rfl, hg⟩, hx1⟩ := gd_s (show am_gd _ _ = some _ from hx)
    obtain ⟨x, r, rfl, hx2⟩ := rq_s hx1
    obtain ⟨rfl, rfl, rfl, rfl⟩ := go_s hx2
    exact ⟨Nat.le_refl _, Nat.le_refl _⟩
  | astore k =>
    obtain ⟨⟨rfl, hg⟩, hx1⟩ := gd_s (show am_gd _ _ = some _ from hx)
    obtain ⟨x, r, rfl, hx2⟩ := rq_s hx1
    obtain ⟨rfl, rfl, rfl, rfl⟩ := go_s hx2
    exact ⟨Nat.le_refl _, Nat.le_refl _⟩
  | iinc k n =>
    obtain ⟨⟨rfl, hg⟩, hx1⟩ := gd_s (show am_gd _ _ = some _ from hx)
    obtain ⟨x, hv, hx2⟩ := li0_s hx1
    obtain ⟨rfl, rfl, rfl, rfl⟩ := go_s hx2
    exact ⟨Nat.le_refl _, Nat.le_refl _⟩
  | iadd =>
    obtain ⟨rfl, hx1⟩ := gd_s (show am_gd _ _ = some _ from hx)
    obtain ⟨a, b, r, rfl, hx2⟩ := i2_s hx1
    obtain ⟨rfl, rfl, rfl, rfl⟩ := go_s hx2
    exact ⟨Nat.le_refl _, Nat.le_refl _⟩
  | isub =>
    obtain ⟨rfl, hx1⟩ := gd_s (show am_gd _ _ = some _ from hx)
    obtain ⟨a, b, r, rfl, hx2⟩ := i2_s hx1
    obtain ⟨rfl, rfl, rfl, rfl⟩ := go_s hx2
    exact ⟨Nat.le_refl _, Nat.le_refl _⟩
  | imul =>
    obtain ⟨rfl, hx1⟩ := gd_s (show am_gd _ _ = some _ from hx)
    obtain ⟨a, b, r, rfl, hx2⟩ := i2_s hx1
    obtain ⟨rfl, rfl, rfl, rfl⟩ := go_s hx2
    exact ⟨Nat.le_refl _, Nat.le_refl _⟩
  | iand =>
    obtain ⟨rfl, hx1⟩ := gd_s (show am_gd _ _ = some _ from hx)
    obtain ⟨a, b, r, rfl, hx2⟩ := i2_s hx1
    obtain ⟨rfl, rfl, rfl, rfl⟩ := go_s hx2
    exact ⟨Nat.le_refl _, Nat.le_refl _⟩
  | ior =>
    obtain ⟨rfl, hx1⟩ := gd_s (show am_gd _ _ = some _ from hx)
    obtain ⟨a, b, r, rfl, hx2⟩ := i2_s hx1
    obtain ⟨rfl, rfl, rfl, rfl⟩ := go_s hx2
    exact ⟨Nat.le_refl _, Nat.le_refl _⟩
  | ixor =>
    obtain ⟨rfl, hx1⟩ := gd_s (show am_gd _ _ = some _ from hx)
    obtain ⟨a, b, r, rfl, hx2⟩ := i2_s hx1
    obtain ⟨rfl, rfl, rfl, rfl⟩ := go_s hx2
    exact ⟨Nat.le_refl _, Nat.le_refl _⟩
  | ishl =>
    obtain ⟨rfl, hx1⟩ := gd_s (show am_gd _ _ = some _ from hx)
    obtain ⟨a, b, r, rfl, hx2⟩ := i2_s hx1
    obtain ⟨rfl, rfl, rfl, rfl⟩ := go_s hx2
    exact ⟨Nat.le_refl _, Nat.le_refl _⟩
  | ishr =>
    obtain ⟨rfl, hx1⟩ := gd_s (show am_gd _ _ = some _ from hx)
    obtain ⟨a, b, r, rfl, hx2⟩ := i2_s hx1
    obtain ⟨rfl, rfl, rfl, rfl⟩ := go_s hx2
    exact ⟨Nat.le_refl _, Nat.le_refl _⟩
  | iushr =>
    obtain ⟨rfl, hx1⟩ := gd_s (show am_gd _ _ = some _ from hx)
    obtain ⟨a, b, r, rfl, hx2⟩ := i2_s hx1
    obtain ⟨rfl, rfl, rfl, rfl⟩ := go_s hx2
    exact ⟨Nat.le_refl _, Nat.le_refl _⟩
  | idiv =>
    obtain ⟨rfl, hx1⟩ := gd_s (show am_gd _ _ = some _ from hx)
    obtain ⟨a, b, r, rfl, hx2⟩ := i2_s hx1
    obtain ⟨hn, hx3⟩ := gd_s hx2
    obtain ⟨rfl, rfl, rfl, rfl⟩ := go_s hx3
    exact ⟨Nat.le_refl _, Nat.le_refl _⟩
  | irem =>
    obtain ⟨rfl, hx1⟩ := gd_s (show am_gd _ _ = some _ from hx)
    obtain ⟨a, b, r, rfl, hx2⟩ := i2_s hx1
    obtain ⟨hn, hx3⟩ := gd_s hx2
    obtain ⟨rfl, rfl, rfl, rfl⟩ := go_s hx3
    exact ⟨Nat.le_refl _, Nat.le_refl _⟩
  | ladd =>
    obtain ⟨rfl, hx1⟩ := gd_s (show am_gd _ _ = some _ from hx)
    obtain ⟨a, b, r, rfl, hx2⟩ := l2_s hx1
    obtain ⟨rfl, rfl, rfl, rfl⟩ := go_s hx2
    exact ⟨Nat.le_refl _, Nat.le_refl _⟩
  | lsub =>
    obtain ⟨rfl, hx1⟩ := gd_s (show am_gd _ _ = some _ from hx)
    obtain ⟨a, b, r, rfl, hx2⟩ := l2_s hx1
    obtain ⟨rfl, rfl, rfl, rfl⟩ := go_s hx2
    exact ⟨Nat.le_refl _, Nat.le_refl _⟩
  | lmul =>
    obtain ⟨rfl, hx1⟩ := gd_s (show am_gd _ _ = some _ from hx)
    obtain ⟨a, b, r, rfl, hx2⟩ := l2_s hx1
    obtain ⟨rfl, rfl, rfl, rfl⟩ := go_s hx2
    exact ⟨Nat.le_refl _, Nat.le_refl _⟩
  | land =>
    obtain ⟨rfl, hx1⟩ := gd_s (show am_gd _ _ = some _ from hx)
    obtain ⟨a, b, r, rfl, hx2⟩ := l2_s hx1
    obtain ⟨rfl, rfl, rfl, rfl⟩ := go_s hx2
    exact ⟨Nat.le_refl _, Nat.le_refl _⟩
  | lor =>
    obtain ⟨rfl, hx1⟩ := gd_s (show am_gd _ _ = some _ from hx)
    obtain ⟨a, b, r, rfl, hx2⟩ := l2_s hx1
    obtain ⟨rfl, rfl, rfl, rfl⟩ := go_s hx2
    exact ⟨Nat.le_refl _, Nat.le_refl _⟩
  | lcmp =>
    obtain ⟨rfl, hx1⟩ := gd_s (show am_gd _ _ = some _ from hx)
    obtain ⟨a, b, r, rfl, hx2⟩ := l2_s hx1
    obtain ⟨rfl, rfl, rfl, rfl⟩ := go_s hx2
    exact ⟨Nat.le_refl _, Nat.le_refl _⟩
  | ldiv =>
    obtain ⟨rfl, hx1⟩ := gd_s (show am_gd _ _ = some _ from hx)
    obtain ⟨a, b, r, rfl, hx2⟩ := l2_s hx1
    obtain ⟨hn, hx3⟩ := gd_s hx2
    obtain ⟨rfl, rfl, rfl, rfl⟩ := go_s hx3
    exact ⟨Nat.le_refl _, Nat.le_refl _⟩
  | lshl =>
    obtain ⟨rfl, hx1⟩ := gd_s (show am_gd _ _ = some _ from hx)
    obtain ⟨a, b, r, rfl, hx2⟩ := li_s hx1
    obtain ⟨rfl, rfl, rfl, rfl⟩ := go_s hx2
    exact ⟨Nat.le_refl _, Nat.le_refl _⟩
  | lshr =>
    obtain ⟨rfl, hx1⟩ := gd_s (show am_gd _ _ = some _ from hx)
    obtain ⟨a, b, r, rfl, hx2⟩ := li_s hx1
    obtain ⟨rfl, rfl, rfl, rfl⟩ := go_s hx2
    exact ⟨Nat.le_refl _, Nat.le_refl _⟩
  | i2l =>
    obtain ⟨rfl, hx1⟩ := gd_s (show am_gd _ _ = some _ from hx)
    obtain ⟨a, r, rfl, hx2⟩ := i1_s hx1
    obtain ⟨rfl, rfl, rfl, rfl⟩ := go_s hx2
    exact ⟨Nat.le_refl _, Nat.le_refl _⟩
  | l2i =>
    obtain ⟨rfl, hx1⟩ := gd_s (show am_gd _ _ = some _ from hx)
    obtain ⟨a, r, rfl, hx2⟩ := l1_s hx1
    obtain ⟨rfl, rfl, rfl, rfl⟩ := go_s hx2
    exact ⟨Nat.le_refl _, Nat.le_refl _⟩
  | i2b =>
    obtain ⟨rfl, hx1⟩ := gd_s (show am_gd _ _ = some _ from hx)
    obtain ⟨a, r, rfl, hx2⟩ := i1_s hx1
    obtain ⟨rfl, rfl, rfl, rfl⟩ := go_s hx2
    exact ⟨Nat.le_refl _, Nat.le_refl _⟩
  | dup =>
    obtain ⟨rfl, hx1⟩ := gd_s (show am_gd _ _ = some _ from hx)
    split at hx1
    · obtain ⟨rfl, rfl, rfl, rfl⟩ := go_s hx1
      exact ⟨Nat.le_refl _, Nat.le_refl _⟩
    · obtain ⟨rfl, rfl, rfl, rfl⟩ := go_s hx1
      exact ⟨Nat.le_refl _, Nat.le_refl _⟩
    · cases hx1
  | pop =>
    obtain ⟨rfl, hx1⟩ := gd_s (show am_gd _ _ = some _ from hx)
    split at hx1
    · obtain ⟨rfl, rfl, rfl, rfl⟩ := go_s hx1
      exact ⟨Nat.le_refl _, Nat.le_refl _⟩
    · obtain ⟨rfl, rfl, rfl, rfl⟩ := go_s hx1
      exact ⟨Nat.le_refl _, Nat.le_refl _⟩
    · cases hx1
  | dup2 =>
    obtain ⟨rfl, hx1⟩ := gd_s (show am_gd _ _ = some _ from hx)
    split at hx1
    · obtain ⟨rfl, rfl, rfl, rfl⟩ := go_s hx1
      exact ⟨Nat.le_refl _, Nat.le_refl _⟩
    · cases hx1
  | goto o =>
    obtain ⟨rfl, hx1⟩ := gd_s (show am_gd _ _ = some _ from hx)
    obtain ⟨t, ht, hx2⟩ := jm_s hx1
    obtain ⟨rfl, rfl, rfl, rfl⟩ := go_s hx2
    exact ⟨Nat.le_refl _, Nat.le_refl _⟩
  | ifCond cc o =>
    obtain ⟨rfl, hx1⟩ := gd_s (show am_gd _ _ = some _ from hx)
    obtain ⟨a, r, rfl, hx2⟩ := i1_s hx1
    obtain ⟨t, ht, hx3⟩ := jm_s hx2
    cases cc with
    | eq =>
      have hx4 : (if a = 0 then am_go t l r σ else am_go (pc + 3) l r σ) = some (Sum.inl (pc', l', st', σ')) := hx3
      split at hx4 <;> (obtain ⟨rfl, rfl, rfl, rfl⟩ := go_s hx4; exact ⟨Nat.le_refl _, Nat.le_refl _⟩)
    | ne =>
      have hx5 : (if a = 0 then am_go (pc + 3) l r σ else am_go t l r σ) = some (Sum.inl (pc', l', st', σ')) := hx3
      split at hx5 <;> (obtain ⟨rfl, rfl, rfl, rfl⟩ := go_s hx5; exact ⟨Nat.le_refl _, Nat.le_refl _⟩)
    | lt =>
      have hx6 : (if a < 0 then am_go t l r σ else am_go (pc + 3) l r σ) = some (Sum.inl (pc', l', st', σ')) := hx3
      split at hx6 <;> (obtain ⟨rfl, rfl, rfl, rfl⟩ := go_s hx6; exact ⟨Nat.le_refl _, Nat.le_refl _⟩)
    | ge =>
      have hx7 : (if a < 0 then am_go (pc + 3) l r σ else am_go t l r σ) = some (Sum.inl (pc', l', st', σ')) := hx3
      split at hx7 <;> (obtain ⟨rfl, rfl, rfl, rfl⟩ := go_s hx7; exact ⟨Nat.le_refl _, Nat.le_refl _⟩)
    | gt =>
      have hx8 : (if 0 < a then am_go t l r σ else am_go (pc + 3) l r σ) = some (Sum.inl (pc', l', st', σ')) := hx3
      split at hx8 <;> (obtain ⟨rfl, rfl, rfl, rfl⟩ := go_s hx8; exact ⟨Nat.le_refl _, Nat.le_refl _⟩)
    | le =>
      have hx9 : (if 0 < a then am_go (pc + 3) l r σ else am_go t l r σ) = some (Sum.inl (pc', l', st', σ')) := hx3
      split at hx9 <;> (obtain ⟨rfl, rfl, rfl, rfl⟩ := go_s hx9; exact ⟨Nat.le_refl _, Nat.le_refl _⟩)
  | if_icmp cc o =>
    obtain ⟨rfl, hx1⟩ := gd_s (show am_gd _ _ = some _ from hx)
    obtain ⟨a, b, r, rfl, hx2⟩ := i2_s hx1
    obtain ⟨t, ht, hx3⟩ := jm_s hx2
    cases cc with
    | eq =>
      have hx4 : (if a = b then am_go t l r σ else am_go (pc + 3) l r σ) = some (Sum.inl (pc', l', st', σ')) := hx3
      split at hx4 <;> (obtain ⟨rfl, rfl, rfl, rfl⟩ := go_s hx4; exact ⟨Nat.le_refl _, Nat.le_refl _⟩)
    | ne =>
      have hx5 : (if a = b then am_go (pc + 3) l r σ else am_go t l r σ) = some (Sum.inl (pc', l', st', σ')) := hx3
      split at hx5 <;> (obtain ⟨rfl, rfl, rfl, rfl⟩ := go_s hx5; exact ⟨Nat.le_refl _, Nat.le_refl _⟩)
    | lt =>
      have hx6 : (if a < b then am_go t l r σ else am_go (pc + 3) l r σ) = some (Sum.inl (pc', l', st', σ')) := hx3
      split at hx6 <;> (obtain ⟨rfl, rfl, rfl, rfl⟩ := go_s hx6; exact ⟨Nat.le_refl _, Nat.le_refl _⟩)
    | ge =>
      have hx7 : (if a < b then am_go (pc + 3) l r σ else am_go t l r σ) = some (Sum.inl (pc', l', st', σ')) := hx3
      split at hx7 <;> (obtain ⟨rfl, rfl, rfl, rfl⟩ := go_s hx7; exact ⟨Nat.le_refl _, Nat.le_refl _⟩)
    | gt =>
      have hx8 : (if b < a then am_go t l r σ else am_go (pc + 3) l r σ) = some (Sum.inl (pc', l', st', σ')) := hx3
      split at hx8 <;> (obtain ⟨rfl, rfl, rfl, rfl⟩ := go_s hx8; exact ⟨Nat.le_refl _, Nat.le_refl _⟩)
    | le =>
      have hx9 : (if b < a then am_go (pc + 3) l r σ else am_go t l r σ) = some (Sum.inl (pc', l', st', σ')) := hx3
      split at hx9 <;> (obtain ⟨rfl, rfl, rfl, rfl⟩ := go_s hx9; exact ⟨Nat.le_refl _, Nat.le_refl _⟩)
  | ifnull o =>
    obtain ⟨rfl, hx1⟩ := gd_s (show am_gd _ _ = some _ from hx)
    obtain ⟨q, r, rfl, hx2⟩ := rq_s hx1
    obtain ⟨t, ht, hx3⟩ := jm_s hx2
    have hx4 : (if q = none then am_go t l r σ else am_go (pc + 3) l r σ) = some (Sum.inl (pc', l', st', σ')) := hx3
    split at hx4 <;> (obtain ⟨rfl, rfl, rfl, rfl⟩ := go_s hx4; exact ⟨Nat.le_refl _, Nat.le_refl _⟩)
  | ifnonnull o =>
    obtain ⟨rfl, hx1⟩ := gd_s (show am_gd _ _ = some _ from hx)
    obtain ⟨q, r, rfl, hx2⟩ := rq_s hx1
    obtain ⟨t, ht, hx3⟩ := jm_s hx2
    have hx4 : (if q = none then am_go (pc + 3) l r σ else am_go t l r σ) = some (Sum.inl (pc', l', st', σ')) := hx3
    split at hx4 <;> (obtain ⟨rfl, rfl, rfl, rfl⟩ := go_s hx4; exact ⟨Nat.le_refl _, Nat.le_refl _⟩)
  | tableswitch df lo hi offs =>
    obtain ⟨x, r, rfl, hx1⟩ := i1_s (show am_i1 _ _ = some _ from hx)
    obtain ⟨hg, hx2⟩ := gd_s hx1
    rcases sw_s _ _ hx2 with ⟨_, _, t, _, _, _, ht⟩ | ⟨_, t, _, ht⟩ <;> (obtain ⟨rfl, rfl, rfl, rfl⟩ := go_s ht; exact ⟨Nat.le_refl _, Nat.le_refl _⟩)
  | getfield k =>
    obtain ⟨rfl, hx1⟩ := gd_s (show am_gd _ _ = some _ from hx)
    cases h1 : fld (mcl mid) k with
    | none => rw [h1] at hx1; cases hx1
    | some q =>
      obtain ⟨ci, f, t⟩ := q
      rw [h1] at hx1
      obtain ⟨K, i, r, rfl, hx2⟩ := ro_s hx1
      obtain ⟨⟨hk, hi⟩, hx3⟩ := gd_s hx2
      obtain ⟨rfl, rfl, rfl, rfl⟩ := go_s hx3
      exact ⟨Nat.le_refl _, Nat.le_refl _⟩
  | putfield k =>
    obtain ⟨rfl, hx1⟩ := gd_s (show am_gd _ _ = some _ from hx)
    cases h1 : fld (mcl mid) k with
    | none => rw [h1] at hx1; cases hx1
    | some q =>
      obtain ⟨ci, f, t⟩ := q
      rw [h1] at hx1
      obtain ⟨v, r1, rfl, hx2⟩ := v1_s hx1
      obtain ⟨K, i, r, rfl, hx3⟩ := ro_s hx2
      obtain ⟨⟨hk, hi, hF⟩, hx4⟩ := gd_s hx3
      rcases v with x | x | x
      · obtain ⟨ht, hx5⟩ := gd_s (show am_gd _ _ = some _ from hx4)
        obtain ⟨rfl, rfl, rfl, rfl⟩ := go_s hx5
        exact ⟨Nat.le_refl _, Nat.le_refl _⟩
      · obtain ⟨rfl, hx6⟩ := gd_s (show am_gd _ _ = some _ from hx4)
        obtain ⟨rfl, rfl, rfl, rfl⟩ := go_s hx6
        exact ⟨Nat.le_refl _, Nat.le_refl _⟩
      · obtain ⟨rfl, hx7⟩ := gd_s (show am_gd _ _ = some _ from hx4)
        obtain ⟨rfl, rfl, rfl, rfl⟩ := go_s hx7
        exact ⟨Nat.le_refl _, Nat.le_refl _⟩
  | iaload =>
    obtain ⟨rfl, hx1⟩ := gd_s (show am_gd _ _ = some _ from hx)
    obtain ⟨j, r1, rfl, hx2⟩ := i1_s hx1
    obtain ⟨K, i, r, rfl, hx3⟩ := ro_s hx2
    obtain ⟨⟨hc, hin⟩, hx4⟩ := gd_s hx3
    obtain ⟨rfl, rfl, rfl, rfl⟩ := go_s hx4
    exact ⟨Nat.le_refl _, Nat.le_refl _⟩
  | baload =>
    obtain ⟨rfl, hx1⟩ := gd_s (show am_gd _ _ = some _ from hx)
    obtain ⟨j, r1, rfl, hx2⟩ := i1_s hx1
    obtain ⟨K, i, r, rfl, hx3⟩ := ro_s hx2
    obtain ⟨⟨hc, _, hin⟩, hx4⟩ := gd_s hx3
    obtain ⟨rfl, rfl, rfl, rfl⟩ := go_s hx4
    exact ⟨Nat.le_refl _, Nat.le_refl _⟩
  | laload =>
    obtain ⟨rfl, hx1⟩ := gd_s (show am_gd _ _ = some _ from hx)
    obtain ⟨j, r1, rfl, hx2⟩ := i1_s hx1
    obtain ⟨K, i, r, rfl, hx3⟩ := ro_s hx2
    obtain ⟨⟨hc, _, hin⟩, hx4⟩ := gd_s hx3
    obtain ⟨rfl, rfl, rfl, rfl⟩ := go_s hx4
    exact ⟨Nat.le_refl _, Nat.le_refl _⟩
  | iastore =>
    obtain ⟨rfl, hx1⟩ := gd_s (show am_gd _ _ = some _ from hx)
    obtain ⟨j, x, r1, rfl, hx2⟩ := i2_s hx1
    obtain ⟨K, i, r, rfl, hx3⟩ := ro_s hx2
    obtain ⟨⟨hc, _, hin⟩, hx4⟩ := gd_s hx3
    obtain ⟨rfl, rfl, rfl, rfl⟩ := go_s hx4
    exact ⟨Nat.le_refl _, Nat.le_refl _⟩
  | bastore =>
    obtain ⟨rfl, hx1⟩ := gd_s (show am_gd _ _ = some _ from hx)
    obtain ⟨j, x, r1, rfl, hx2⟩ := i2_s hx1
    obtain ⟨K, i, r, rfl, hx3⟩ := ro_s hx2
    obtain ⟨⟨hc, _, hin⟩, hx4⟩ := gd_s hx3
    obtain ⟨rfl, rfl, rfl, rfl⟩ := go_s hx4
    exact ⟨Nat.le_refl _, Nat.le_refl _⟩
  | lastore =>
    obtain ⟨rfl, hx1⟩ := gd_s (show am_gd _ _ = some _ from hx)
    obtain ⟨x, r2, rfl, hx2⟩ := l1_s hx1
    obtain ⟨j, r1, rfl, hx3⟩ := i1_s hx2
    obtain ⟨K, i, r, rfl, hx4⟩ := ro_s hx3
    obtain ⟨⟨hc, _, hin⟩, hx5⟩ := gd_s hx4
    obtain ⟨rfl, rfl, rfl, rfl⟩ := go_s hx5
    exact ⟨Nat.le_refl _, Nat.le_refl _⟩
  | arraylength =>
    obtain ⟨rfl, hx1⟩ := gd_s (show am_gd _ _ = some _ from hx)
    obtain ⟨K, i, r, rfl, hx2⟩ := ro_s hx1
    obtain ⟨hc, hx3⟩ := gd_s hx2
    obtain ⟨rfl, rfl, rfl, rfl⟩ := go_s hx3
    exact ⟨Nat.le_refl _, Nat.le_refl _⟩
  | newarray t =>
    obtain ⟨rfl, hx1⟩ := gd_s (show am_gd _ _ = some _ from hx)
    obtain ⟨n, r, rfl, hx2⟩ := i1_s hx1
    cases h1 : kS mid pc with
    | none => rw [h1] at hx2; cases hx2
    | some K =>
      rw [h1] at hx2
      obtain ⟨⟨hn, h8, hk⟩, hx3⟩ := gd_s hx2
      obtain ⟨hbd, hx4⟩ := gd_s (show am_gd _ _ = some _ from hx3)
      obtain ⟨rfl, rfl, rfl, rfl⟩ := go_s hx4
      exact ⟨by rw [gB_am_mk]; exact Nat.le_add_right _ _, by rw [gB_am_mk]; exact Nat.le_add_right _ _⟩
  | new k =>
    obtain ⟨rfl, hx1⟩ := gd_s (show am_gd _ _ = some _ from hx)
    have hx2 : am_new mid pc k l st σ = some (Sum.inl (pc', l', st', σ')) := hx1
    unfold am_new at hx2
    cases h1 : clsP (mcl mid) k with
    | none => rw [h1] at hx2; cases hx2
    | some ci =>
      rw [h1] at hx2
      dsimp only at hx2
      by_cases h98 : ci = 98
      · rw [if_pos h98] at hx2
        obtain ⟨hthr, hx3⟩ := gd_s hx2
        obtain ⟨hbd, hx4⟩ := gd_s (show am_gd _ _ = some _ from hx3)
        cases hx4
      · rw [if_neg h98] at hx2
        cases h2 : kS mid pc with
        | none => rw [h2] at hx2; cases hx2
        | some K =>
          rw [h2] at hx2
          dsimp only at hx2
          by_cases h0 : ci = 0
          · rw [if_pos h0] at hx2
            obtain ⟨⟨hk, h3, hnl⟩, hx5⟩ := gd_s hx2
            obtain ⟨hbd, hx6⟩ := gd_s (show am_gd _ _ = some _ from hx5)
            obtain ⟨rfl, rfl, rfl, rfl⟩ := go_s hx6
            subst h0
            exact ⟨by rw [gB_am_ml]; exact Nat.le_add_right _ _, by rw [gB_am_ml]; exact Nat.le_add_right _ _⟩
          · rw [if_neg h0] at hx2
            obtain ⟨hk, hx7⟩ := gd_s hx2
            obtain ⟨hbd, hx8⟩ := gd_s (show am_gd _ _ = some _ from hx7)
            obtain ⟨rfl, rfl, rfl, rfl⟩ := go_s hx8
            exact ⟨by rw [gB_am_mk]; exact Nat.le_add_right _ _, by rw [gB_am_mk]; exact Nat.le_add_right _ _⟩
  | checkcast k =>
    obtain ⟨rfl, hx1⟩ := gd_s (show am_gd _ _ = some _ from hx)
    obtain ⟨q, r, rfl, hx2⟩ := rq_s hx1
    rcases q with _ | ⟨K, i⟩
    · obtain ⟨rfl, rfl, rfl, rfl⟩ := go_s hx2
      exact ⟨Nat.le_refl _, Nat.le_refl _⟩
    · obtain ⟨⟨hk, _, hf⟩, hx3⟩ := gd_s (show am_gd _ _ = some _ from hx2)
      obtain ⟨rfl, rfl, rfl, rfl⟩ := go_s hx3
      exact ⟨Nat.le_refl _, Nat.le_refl _⟩
  | invokevirtual k =>
    obtain ⟨rfl, hx1⟩ := gd_s (show am_gd _ _ = some _ from hx)
    cases h1 : cal (mcl mid) k with
    | none => rw [h1] at hx1; cases hx1
    | some q =>
      obtain ⟨tg, cm⟩ := q
      rw [h1] at hx1
      dsimp only at hx1
      by_cases h0 : tg = 0
      · rw [if_pos h0] at hx1
        split at hx1
        · obtain ⟨hg, hx2⟩ := gd_s hx1
          cases hx2
        · cases hx1
      · rw [if_neg h0] at hx1
        exact lv_mono hx1
  | invokestatic k =>
    obtain ⟨rfl, hx1⟩ := gd_s (show am_gd _ _ = some _ from hx)
    cases h1 : cal (mcl mid) k with
    | none => rw [h1] at hx1; cases hx1
    | some q =>
      obtain ⟨tg, cm⟩ := q
      rw [h1] at hx1
      dsimp only at hx1
      by_cases h0 : tg = 1 ∨ tg = 2
      · rw [if_pos h0] at hx1
        split at hx1
        · obtain ⟨hg, hx2⟩ := gd_s hx1
          cases hx2
        · cases hx1
      · rw [if_neg h0] at hx1
        exact ls_mono hx1
  | invokespecial k =>
    obtain ⟨rfl, hx1⟩ := gd_s (show am_gd _ _ = some _ from hx)
    cases h1 : cal (mcl mid) k with
    | none => rw [h1] at hx1; cases hx1
    | some q =>
      obtain ⟨tg, cm⟩ := q
      rw [h1] at hx1
      dsimp only at hx1
      by_cases h0 : tg = 3 ∨ tg = 4
      · rw [if_pos h0] at hx1
        split at hx1
        · obtain ⟨hg, hx2⟩ := gd_s hx1
          cases hx2
        · cases hx1
      · rw [if_neg h0] at hx1
        by_cases h4 : tg = 40
        · rw [if_pos h4] at hx1
          obtain ⟨K, i, r, rfl, hx3⟩ := ro_s hx1
          obtain ⟨hr, hx4⟩ := gd_s hx3
          obtain ⟨rfl, rfl, rfl, rfl⟩ := go_s hx4
          subst h4
          exact ⟨Nat.le_refl _, Nat.le_refl _⟩
        · rw [if_neg h4] at hx1; cases hx1
  | ireturn =>
    obtain ⟨rfl, hx1⟩ := gd_s (show am_gd _ _ = some _ from hx)
    split at hx1
    · obtain ⟨hg, hx2⟩ := gd_s hx1
      cases hx2
    · cases hx1
  | lreturn =>
    obtain ⟨rfl, hx1⟩ := gd_s (show am_gd _ _ = some _ from hx)
    split at hx1
    · obtain ⟨hg, hx2⟩ := gd_s hx1
      cases hx2
    · cases hx1
  | areturn =>
    obtain ⟨rfl, hx1⟩ := gd_s (show am_gd _ _ = some _ from hx)
    split at hx1
    · obtain ⟨hg, hx2⟩ := gd_s hx1
      cases hx2
    · cases hx1
  | return_ =>
    obtain ⟨rfl, hx1⟩ := gd_s (show am_gd _ _ = some _ from hx)
    split at hx1
    · obtain ⟨hg, hx2⟩ := gd_s hx1
      cases hx2
    · cases hx1
  | _ => exact absurd (show (none : Option aX) = some _ from hx) (by simp)
set_option maxHeartbeats 4000000 in
theorem st_bound {i : Instr} {len pc' : Nat} {l' : aL} {st' : List aV} {σ' : aM} (hx : am_nx mid pc len i l st σ = some (.inl (pc', l', st', σ'))) (h0b : (gB σ).1 ≤ 601024 ∧ (gB σ).2 ≤ 7293034) : (gB σ').1 ≤ 601024 ∧ (gB σ').2 ≤ 7293034 := by
  cases i with
  | iconst n =>
    obtain ⟨rfl, hx1⟩ := gd_s (show am_gd _ _ = some _ from hx)
    obtain ⟨rfl, rfl, rfl, rfl⟩ := go_s hx1
    exact h0b
  | bipush n =>
    obtain ⟨rfl, hx1⟩ := gd_s (show am_gd _ _ = some _ from hx)
    obtain ⟨rfl, rfl, rfl, rfl⟩ := go_s hx1
    exact h0b
  | sipush n =>
    obtain ⟨rfl, hx1⟩ := gd_s (show am_gd _ _ = some _ from hx)
    obtain ⟨rfl, rfl, rfl, rfl⟩ := go_s hx1
    exact h0b
  | lconst n =>
    obtain ⟨rfl, hx1⟩ := gd_s (show am_gd _ _ = some _ from hx)
    obtain ⟨rfl, rfl, rfl, rfl⟩ := go_s hx1
    exact h0b
  | aconst_null =>
    obtain ⟨rfl, hx1⟩ := gd_s (show am_gd _ _ = some _ from hx)
    obtain ⟨rfl, rfl, rfl, rfl⟩ := go_s hx1
    exact h0b
  | ldc k =>
    obtain ⟨rfl, hx1⟩ := gd_s (show am_gd _ _ = some _ from hx)
    cases h1 : cInt (mcl mid) k with
    | some v =>
      rw [h1] at hx1
      obtain ⟨rfl, rfl, rfl, rfl⟩ := go_s hx1
      exact h0b
    | none =>
      rw [h1] at hx1
      cases h2 : cStr (mcl mid) k with
      | none => rw [h2] at hx1; cases hx1
      | some t =>
        rw [h2] at hx1
        obtain ⟨rfl, rfl, rfl, rfl⟩ := go_s hx1
        exact h0b
  | ldc_w k =>
    obtain ⟨rfl, hx1⟩ := gd_s (show am_gd _ _ = some _ from hx)
    cases h1 : cInt (mcl mid) k with
    | some v =>
      rw [h1] at hx1
      obtain ⟨rfl, rfl, rfl, rfl⟩ := go_s hx1
      exact h0b
    | none =>
      rw [h1] at hx1
      cases h2 : cStr (mcl mid) k with
      | none => rw [h2] at hx1; cases hx1
      | some t =>
        rw [h2] at hx1
        obtain ⟨rfl, rfl, rfl, rfl⟩ := go_s hx1
        exact h0b
  | ldc2_w k =>
    obtain ⟨rfl, hx1⟩ := gd_s (show am_gd _ _ = some _ from hx)
    cases h1 : cLong (mcl mid) k with
    | some v =>
      rw [h1] at hx1
      obtain ⟨rfl, rfl, rfl, rfl⟩ := go_s hx1
      exact h0b
    | none => rw [h1] at hx1; cases hx1
  | iload_n k =>
    obtain ⟨rfl, hx1⟩ := gd_s (show am_gd _ _ = some _ from hx)
    obtain ⟨x, hv, hx2⟩ := li0_s hx1
    obtain ⟨rfl, rfl, rfl, rfl⟩ := go_s hx2
    exact h0b
  | iload k =>
    obtain ⟨rfl, hx1⟩ := gd_s (show am_gd _ _ = some _ from hx)
    obtain ⟨x, hv, hx2⟩ := li0_s hx1
    obtain ⟨rfl, rfl, rfl, rfl⟩ := go_s hx2
    exact h0b
  | lload_n k =>
    obtain ⟨rfl, hx1⟩ := gd_s (show am_gd _ _ = some _ from hx)
    obtain ⟨x, hv, hx2⟩ := ll0_s hx1
    obtain ⟨rfl, rfl, rfl, rfl⟩ := go_s hx2
    exact h0b
  | lload k =>
    obtain ⟨rfl, hx1⟩ := gd_s (show am_gd _ _ = some _ from hx)
    obtain ⟨x, hv, hx2⟩ := ll0_s hx1
    obtain ⟨rfl, rfl, rfl, rfl⟩ := go_s hx2
    exact h0b
  | aload_n k =>
    obtain ⟨rfl, hx1⟩ := gd_s (show am_gd _ _ = some _ from hx)
    obtain ⟨x, hv, hx2⟩ := lr0_s hx1
    obtain ⟨rfl, rfl, rfl, rfl⟩ := go_s hx2
    exact h0b
  | aload k =>
    obtain ⟨rfl, hx1⟩ := gd_s (show am_gd _ _ = some _ from hx)
    obtain ⟨x, hv, hx2⟩ := lr0_s hx1
    obtain ⟨rfl, rfl, rfl, rfl⟩ := go_s hx2
    exact h0b
  | istore_n k =>
    obtain ⟨⟨rfl, hg⟩, hx1⟩ := gd_s (show am_gd _ _ = some _ from hx)
    obtain ⟨x, r, rfl, hx2⟩ := i1_s hx1
    obtain ⟨rfl, rfl, rfl, rfl⟩ := go_s hx2
    exact h0b
  | istore k =>
    obtain ⟨⟨rfl, hg⟩, hx1⟩ := gd_s (show am_gd _ _ = some _ from hx)
    obtain ⟨x, r, rfl, hx2⟩ := i1_s hx1
    obtain ⟨rfl, rfl, rfl, rfl⟩ := go_s hx2
    exact h0b
  | lstore_n k =>
    obtain ⟨⟨rfl, hg⟩, hx1⟩ := gd_s (show am_gd _ _ = some _ from hx)
    obtain ⟨x, r, rfl, hx2⟩ := l1_s hx1
    obtain ⟨rfl, rfl, rfl, rfl⟩ := go_s hx2
    exact h0b
  | lstore k =>
    obtain ⟨⟨rfl, hg⟩, hx1⟩ := gd_s (show am_gd _ _ = some _ from hx)
    obtain ⟨x, r, rfl, hx2⟩ := l1_s hx1
    obtain ⟨rfl, rfl, rfl, rfl⟩ := go_s hx2
    exact h0b
  | astore_n k =>
    obtain ⟨⟨rfl, hg⟩, hx1⟩ := gd_s (show am_gd _ _ = some _ from hx)
    obtain ⟨x, r, rfl, hx2⟩ := rq_s hx1
    obtain ⟨rfl, rfl, rfl, rfl⟩ := go_s hx2
    exact h0b
  | astore k =>
    obtain ⟨⟨rfl, hg⟩, hx1⟩ := gd_s (show am_gd _ _ = some _ from hx)
    obtain ⟨x, r, rfl, hx2⟩ := rq_s hx1
    obtain ⟨rfl, rfl, rfl, rfl⟩ := go_s hx2
    exact h0b
  | iinc k n =>
    obtain ⟨⟨rfl, hg⟩, hx1⟩ := gd_s (show am_gd _ _ = some _ from hx)
    obtain ⟨x, hv, hx2⟩ := li0_s hx1
    obtain ⟨rfl, rfl, rfl, rfl⟩ := go_s hx2
    exact h0b
  | iadd =>
    obtain ⟨rfl, hx1⟩ := gd_s (show am_gd _ _ = some _ from hx)
    obtain ⟨a, b, r, rfl, hx2⟩ := i2_s hx1
    obtain ⟨rfl, rfl, rfl, rfl⟩ := go_s hx2
    exact h0b
  | isub =>
    obtain ⟨rfl, hx1⟩ := gd_s (show am_gd _ _ = some _ from hx)
    obtain ⟨a, b, r, rfl, hx2⟩ := i2_s hx1
    obtain ⟨rfl, rfl, rfl, rfl⟩ := go_s hx2
    exact h0b
  | imul =>
    obtain ⟨rfl, hx1⟩ := gd_s (show am_gd _ _ = some _ from hx)
    obtain ⟨a, b, r, rfl, hx2⟩ := i2_s hx1
    obtain ⟨rfl, rfl, rfl, rfl⟩ := go_s hx2
    exact h0b
  | iand =>
    obtain ⟨rfl, hx1⟩ := gd_s (show am_gd _ _ = some _ from hx)
    obtain ⟨a, b, r, rfl, hx2⟩ := i2_s hx1
    obtain ⟨rfl, rfl, rfl, rfl⟩ := go_s hx2
    exact h0b
  | ior =>
    obtain ⟨rfl, hx1⟩ := gd_s (show am_gd _ _ = some _ from hx)
    obtain ⟨a, b, r, rfl, hx2⟩ := i2_s hx1
    obtain ⟨rfl, rfl, rfl, rfl⟩ := go_s hx2
    exact h0b
  | ixor =>
    obtain ⟨rfl, hx1⟩ := gd_s (show am_gd _ _ = some _ from hx)
    obtain ⟨a, b, r, rfl, hx2⟩ := i2_s hx1
    obtain ⟨rfl, rfl, rfl, rfl⟩ := go_s hx2
    exact h0b
  | ishl =>
    obtain ⟨rfl, hx1⟩ := gd_s (show am_gd _ _ = some _ from hx)
    obtain ⟨a, b, r, rfl, hx2⟩ := i2_s hx1
    obtain ⟨rfl, rfl, rfl, rfl⟩ := go_s hx2
    exact h0b
  | ishr =>
    obtain ⟨rfl, hx1⟩ := gd_s (show am_gd _ _ = some _ from hx)
    obtain ⟨a, b, r, rfl, hx2⟩ := i2_s hx1
    obtain ⟨rfl, rfl, rfl, rfl⟩ := go_s hx2
    exact h0b
  | iushr =>
    obtain ⟨rfl, hx1⟩ := gd_s (show am_gd _ _ = some _ from hx)
    obtain ⟨a, b, r, rfl, hx2⟩ := i2_s hx1
    obtain ⟨rfl, rfl, rfl, rfl⟩ := go_s hx2
    exact h0b
  | idiv =>
    obtain ⟨rfl, hx1⟩ := gd_s (show am_gd _ _ = some _ from hx)
    obtain ⟨a, b, r, rfl, hx2⟩ := i2_s hx1
    obtain ⟨hn, hx3⟩ := gd_s hx2
    obtain ⟨rfl, rfl, rfl, rfl⟩ := go_s hx3
    exact h0b
  | irem =>
    obtain ⟨rfl, hx1⟩ := gd_s (show am_gd _ _ = some _ from hx)
    obtain ⟨a, b, r, rfl, hx2⟩ := i2_s hx1
    obtain ⟨hn, hx3⟩ := gd_s hx2
    obtain ⟨rfl, rfl, rfl, rfl⟩ := go_s hx3
    exact h0b
  | ladd =>
    obtain ⟨rfl, hx1⟩ := gd_s (show am_gd _ _ = some _ from hx)
    obtain ⟨a, b, r, rfl, hx2⟩ := l2_s hx1
    obtain ⟨rfl, rfl, rfl, rfl⟩ := go_s hx2
    exact h0b
  | lsub =>
    obtain ⟨rfl, hx1⟩ := gd_s (show am_gd _ _ = some _ from hx)
    obtain ⟨a, b, r, rfl, hx2⟩ := l2_s hx1
    obtain ⟨rfl, rfl, rfl, rfl⟩ := go_s hx2
    exact h0b
  | lmul =>
    obtain ⟨rfl, hx1⟩ := gd_s (show am_gd _ _ = some _ from hx)
    obtain ⟨a, b, r, rfl, hx2⟩ := l2_s hx1
    obtain ⟨rfl, rfl, rfl, rfl⟩ := go_s hx2
    exact h0b
  | land =>
    obtain ⟨rfl, hx1⟩ := gd_s (show am_gd _ _ = some _ from hx)
    obtain ⟨a, b, r, rfl, hx2⟩ := l2_s hx1
    obtain ⟨rfl, rfl, rfl, rfl⟩ := go_s hx2
    exact h0b
  | lor =>
    obtain ⟨rfl, hx1⟩ := gd_s (show am_gd _ _ = some _ from hx)
    obtain ⟨a, b, r, rfl, hx2⟩ := l2_s hx1
    obtain ⟨rfl, rfl, rfl, rfl⟩ := go_s hx2
    exact h0b
  | lcmp =>
    obtain ⟨rfl, hx1⟩ := gd_s (show am_gd _ _ = some _ from hx)
    obtain ⟨a, b, r, rfl, hx2⟩ := l2_s hx1
    obtain ⟨rfl, rfl, rfl, rfl⟩ := go_s hx2
    exact h0b
  | ldiv =>
    obtain ⟨rfl, hx1⟩ := gd_s (show am_gd _ _ = some _ from hx)
    obtain ⟨a, b, r, rfl, hx2⟩ := l2_s hx1
    obtain ⟨hn, hx3⟩ := gd_s hx2
    obtain ⟨rfl, rfl, rfl, rfl⟩ := go_s hx3
    exact h0b
  | lshl =>
    obtain ⟨rfl, hx1⟩ := gd_s (show am_gd _ _ = some _ from hx)
    obtain ⟨a, b, r, rfl, hx2⟩ := li_s hx1
    obtain ⟨rfl, rfl, rfl, rfl⟩ := go_s hx2
    exact h0b
  | lshr =>
    obtain ⟨rfl, hx1⟩ := gd_s (show am_gd _ _ = some _ from hx)
    obtain ⟨a, b, r, rfl, hx2⟩ := li_s hx1
    obtain ⟨rfl, rfl, rfl, rfl⟩ := go_s hx2
    exact h0b
  | i2l =>
    obtain ⟨rfl, hx1⟩ := gd_s (show am_gd _ _ = some _ from hx)
    obtain ⟨a, r, rfl, hx2⟩ := i1_s hx1
    obtain ⟨rfl, rfl, rfl, rfl⟩ := go_s hx2
    exact h0b
  | l2i =>
    obtain ⟨rfl, hx1⟩ := gd_s (show am_gd _ _ = some _ from hx)
    obtain ⟨a, r, rfl, hx2⟩ := l1_s hx1
    obtain ⟨rfl, rfl, rfl, rfl⟩ := go_s hx2
    exact h0b
  | i2b =>
    obtain ⟨rfl, hx1⟩ := gd_s (show am_gd _ _ = some _ from hx)
    obtain ⟨a, r, rfl, hx2⟩ := i1_s hx1
    obtain ⟨rfl, rfl, rfl, rfl⟩ := go_s hx2
    exact h0b
  | dup =>
    obtain ⟨rfl, hx1⟩ := gd_s (show am_gd _ _ = some _ from hx)
    split at hx1
    · obtain ⟨rfl, rfl, rfl, rfl⟩ := go_s hx1
      exact h0b
    · obtain ⟨rfl, rfl, rfl, rfl⟩ := go_s hx1
      exact h0b
    · cases hx1
  | pop =>
    obtain ⟨rfl, hx1⟩ := gd_s (show am_gd _ _ = some _ from hx)
    split at hx1
    · obtain ⟨rfl, rfl, rfl, rfl⟩ := go_s hx1
      exact h0b
    · obtain ⟨rfl, rfl, rfl, rfl⟩ := go_s hx1
      exact h0b
    · cases hx1
  | dup2 =>
    obtain ⟨rfl, hx1⟩ := gd_s (show am_gd _ _ = some _ from hx)
    split at hx1
    · obtain ⟨rfl, rfl, rfl, rfl⟩ := go_s hx1
      exact h0b
    · cases hx1
  | goto o =>
    obtain ⟨rfl, hx1⟩ := gd_s (show am_gd _ _ = some _ from hx)
    obtain ⟨t, ht, hx2⟩ := jm_s hx1
    obtain ⟨rfl, rfl, rfl, rfl⟩ := go_s hx2
    exact h0b
  | ifCond cc o =>
    obtain ⟨rfl, hx1⟩ := gd_s (show am_gd _ _ = some _ from hx)
    obtain ⟨a, r, rfl, hx2⟩ := i1_s hx1
    obtain ⟨t, ht, hx3⟩ := jm_s hx2
    cases cc with
    | eq =>
      have hx4 : (if a = 0 then am_go t l r σ else am_go (pc + 3) l r σ) = some (Sum.inl (pc', l', st', σ')) := hx3
      split at hx4 <;> (obtain ⟨rfl, rfl, rfl, rfl⟩ := go_s hx4; exact h0b)
    | ne =>
      have hx5 : (if a = 0 then am_go (pc + 3) l r σ else am_go t l r σ) = some (Sum.inl (pc', l', st', σ')) := hx3
      split at hx5 <;> (obtain ⟨rfl, rfl, rfl, rfl⟩ := go_s hx5; exact h0b)
    | lt =>
      have hx6 : (if a < 0 then am_go t l r σ else am_go (pc + 3) l r σ) = some (Sum.inl (pc', l', st', σ')) := hx3
      split at hx6 <;> (obtain ⟨rfl, rfl, rfl, rfl⟩ := go_s hx6; exact h0b)
    | ge =>
      have hx7 : (if a < 0 then am_go (pc + 3) l r σ else am_go t l r σ) = some (Sum.inl (pc', l', st', σ')) := hx3
      split at hx7 <;> (obtain ⟨rfl, rfl, rfl, rfl⟩ := go_s hx7; exact h0b)
    | gt =>
      have hx8 : (if 0 < a then am_go t l r σ else am_go (pc + 3) l r σ) = some (Sum.inl (pc', l', st', σ')) := hx3
      split at hx8 <;> (obtain ⟨rfl, rfl, rfl, rfl⟩ := go_s hx8; exact h0b)
    | le =>
      have hx9 : (if 0 < a then am_go (pc + 3) l r σ else am_go t l r σ) = some (Sum.inl (pc', l', st', σ')) := hx3
      split at hx9 <;> (obtain ⟨rfl, rfl, rfl, rfl⟩ := go_s hx9; exact h0b)
  | if_icmp cc o =>
    obtain ⟨rfl, hx1⟩ := gd_s (show am_gd _ _ = some _ from hx)
    obtain ⟨a, b, r, rfl, hx2⟩ := i2_s hx1
    obtain ⟨t, ht, hx3⟩ := jm_s hx2
    cases cc with
    | eq =>
      have hx4 : (if a = b then am_go t l r σ else am_go (pc + 3) l r σ) = some (Sum.inl (pc', l', st', σ')) := hx3
      split at hx4 <;> (obtain ⟨rfl, rfl, rfl, rfl⟩ := go_s hx4; exact h0b)
    | ne =>
      have hx5 : (if a = b then am_go (pc + 3) l r σ else am_go t l r σ) = some (Sum.inl (pc', l', st', σ')) := hx3
      split at hx5 <;> (obtain ⟨rfl, rfl, rfl, rfl⟩ := go_s hx5; exact h0b)
    | lt =>
      have hx6 : (if a < b then am_go t l r σ else am_go (pc + 3) l r σ) = some (Sum.inl (pc', l', st', σ')) := hx3
      split at hx6 <;> (obtain ⟨rfl, rfl, rfl, rfl⟩ := go_s hx6; exact h0b)
    | ge =>
      have hx7 : (if a < b then am_go (pc + 3) l r σ else am_go t l r σ) = some (Sum.inl (pc', l', st', σ')) := hx3
      split at hx7 <;> (obtain ⟨rfl, rfl, rfl, rfl⟩ := go_s hx7; exact h0b)
    | gt =>
      have hx8 : (if b < a then am_go t l r σ else am_go (pc + 3) l r σ) = some (Sum.inl (pc', l', st', σ')) := hx3
      split at hx8 <;> (obtain ⟨rfl, rfl, rfl, rfl⟩ := go_s hx8; exact h0b)
    | le =>
      have hx9 : (if b < a then am_go (pc + 3) l r σ else am_go t l r σ) = some (Sum.inl (pc', l', st', σ')) := hx3
      split at hx9 <;> (obtain ⟨rfl, rfl, rfl, rfl⟩ := go_s hx9; exact h0b)
  | ifnull o =>
    obtain ⟨rfl, hx1⟩ := gd_s (show am_gd _ _ = some _ from hx)
    obtain ⟨q, r, rfl, hx2⟩ := rq_s hx1
    obtain ⟨t, ht, hx3⟩ := jm_s hx2
    have hx4 : (if q = none then am_go t l r σ else am_go (pc + 3) l r σ) = some (Sum.inl (pc', l', st', σ')) := hx3
    split at hx4 <;> (obtain ⟨rfl, rfl, rfl, rfl⟩ := go_s hx4; exact h0b)
  | ifnonnull o =>
    obtain ⟨rfl, hx1⟩ := gd_s (show am_gd _ _ = some _ from hx)
    obtain ⟨q, r, rfl, hx2⟩ := rq_s hx1
    obtain ⟨t, ht, hx3⟩ := jm_s hx2
    have hx4 : (if q = none then am_go (pc + 3) l r σ else am_go t l r σ) = some (Sum.inl (pc', l', st', σ')) := hx3
    split at hx4 <;> (obtain ⟨rfl, rfl, rfl, rfl⟩ := go_s hx4; exact h0b)
  | tableswitch df lo hi offs =>
    obtain ⟨x, r, rfl, hx1⟩ := i1_s (show am_i1 _ _ = some _ from hx)
    obtain ⟨hg, hx2⟩ := gd_s hx1
    rcases sw_s _ _ hx2 with ⟨_, _, t, _, _, _, ht⟩ | ⟨_, t, _, ht⟩ <;> (obtain ⟨rfl, rfl, rfl, rfl⟩ := go_s ht; exact h0b)
  | getfield k =>
    obtain ⟨rfl, hx1⟩ := gd_s (show am_gd _ _ = some _ from hx)
    cases h1 : fld (mcl mid) k with
    | none => rw [h1] at hx1; cases hx1
    | some q =>
      obtain ⟨ci, f, t⟩ := q
      rw [h1] at hx1
      obtain ⟨K, i, r, rfl, hx2⟩ := ro_s hx1
      obtain ⟨⟨hk, hi⟩, hx3⟩ := gd_s hx2
      obtain ⟨rfl, rfl, rfl, rfl⟩ := go_s hx3
      exact h0b
  | putfield k =>
    obtain ⟨rfl, hx1⟩ := gd_s (show am_gd _ _ = some _ from hx)
    cases h1 : fld (mcl mid) k with
    | none => rw [h1] at hx1; cases hx1
    | some q =>
      obtain ⟨ci, f, t⟩ := q
      rw [h1] at hx1
      obtain ⟨v, r1, rfl, hx2⟩ := v1_s hx1
      obtain ⟨K, i, r, rfl, hx3⟩ := ro_s hx2
      obtain ⟨⟨hk, hi, hF⟩, hx4⟩ := gd_s hx3
      rcases v with x | x | x
      · obtain ⟨ht, hx5⟩ := gd_s (show am_gd _ _ = some _ from hx4)
        obtain ⟨rfl, rfl, rfl, rfl⟩ := go_s hx5
        exact h0b
      · obtain ⟨rfl, hx6⟩ := gd_s (show am_gd _ _ = some _ from hx4)
        obtain ⟨rfl, rfl, rfl, rfl⟩ := go_s hx6
        exact h0b
      · obtain ⟨rfl, hx7⟩ := gd_s (show am_gd _ _ = some _ from hx4)
        obtain ⟨rfl, rfl, rfl, rfl⟩ := go_s hx7
        exact h0b
  | iaload =>
    obtain ⟨rfl, hx1⟩ := gd_s (show am_gd _ _ = some _ from hx)
    obtain ⟨j, r1, rfl, hx2⟩ := i1_s hx1
    obtain ⟨K, i, r, rfl, hx3⟩ := ro_s hx2
    obtain ⟨⟨hc, hin⟩, hx4⟩ := gd_s hx3
    obtain ⟨rfl, rfl, rfl, rfl⟩ := go_s hx4
    exact h0b
  | baload =>
    obtain ⟨rfl, hx1⟩ := gd_s (show am_gd _ _ = some _ from hx)
    obtain ⟨j, r1, rfl, hx2⟩ := i1_s hx1
    obtain ⟨K, i, r, rfl, hx3⟩ := ro_s hx2
    obtain ⟨⟨hc, _, hin⟩, hx4⟩ := gd_s hx3
    obtain ⟨rfl, rfl, rfl, rfl⟩ := go_s hx4
    exact h0b
  | laload =>
    obtain ⟨rfl, hx1⟩ := gd_s (show am_gd _ _ = some _ from hx)
    obtain ⟨j, r1, rfl, hx2⟩ := i1_s hx1
    obtain ⟨K, i, r, rfl, hx3⟩ := ro_s hx2
    obtain ⟨⟨hc, _, hin⟩, hx4⟩ := gd_s hx3
    obtain ⟨rfl, rfl, rfl, rfl⟩ := go_s hx4
    exact h0b
  | iastore =>
    obtain ⟨rfl, hx1⟩ := gd_s (show am_gd _ _ = some _ from hx)
    obtain ⟨j, x, r1, rfl, hx2⟩ := i2_s hx1
    obtain ⟨K, i, r, rfl, hx3⟩ := ro_s hx2
    obtain ⟨⟨hc, _, hin⟩, hx4⟩ := gd_s hx3
    obtain ⟨rfl, rfl, rfl, rfl⟩ := go_s hx4
    exact h0b
  | bastore =>
    obtain ⟨rfl, hx1⟩ := gd_s (show am_gd _ _ = some _ from hx)
    obtain ⟨j, x, r1, rfl, hx2⟩ := i2_s hx1
    obtain ⟨K, i, r, rfl, hx3⟩ := ro_s hx2
    obtain ⟨⟨hc, _, hin⟩, hx4⟩ := gd_s hx3
    obtain ⟨rfl, rfl, rfl, rfl⟩ := go_s hx4
    exact h0b
  | lastore =>
    obtain ⟨rfl, hx1⟩ := gd_s (show am_gd _ _ = some _ from hx)
    obtain ⟨x, r2, rfl, hx2⟩ := l1_s hx1
    obtain ⟨j, r1, rfl, hx3⟩ := i1_s hx2
    obtain ⟨K, i, r, rfl, hx4⟩ := ro_s hx3
    obtain ⟨⟨hc, _, hin⟩, hx5⟩ := gd_s hx4
    obtain ⟨rfl, rfl, rfl, rfl⟩ := go_s hx5
    exact h0b
  | arraylength =>
    obtain ⟨rfl, hx1⟩ := gd_s (show am_gd _ _ = some _ from hx)
    obtain ⟨K, i, r, rfl, hx2⟩ := ro_s hx1
    obtain ⟨hc, hx3⟩ := gd_s hx2
    obtain ⟨rfl, rfl, rfl, rfl⟩ := go_s hx3
    exact h0b
  | newarray t =>
    obtain ⟨rfl, hx1⟩ := gd_s (show am_gd _ _ = some _ from hx)
    obtain ⟨n, r, rfl, hx2⟩ := i1_s hx1
    cases h1 : kS mid pc with
    | none => rw [h1] at hx2; cases hx2
    | some K =>
      rw [h1] at hx2
      obtain ⟨⟨hn, h8, hk⟩, hx3⟩ := gd_s hx2
      obtain ⟨hbd, hx4⟩ := gd_s (show am_gd _ _ = some _ from hx3)
      obtain ⟨rfl, rfl, rfl, rfl⟩ := go_s hx4
      exact hbd
  | new k =>
    obtain ⟨rfl, hx1⟩ := gd_s (show am_gd _ _ = some _ from hx)
    have hx2 : am_new mid pc k l st σ = some (Sum.inl (pc', l', st', σ')) := hx1
    unfold am_new at hx2
    cases h1 : clsP (mcl mid) k with
    | none => rw [h1] at hx2; cases hx2
    | some ci =>
      rw [h1] at hx2
      dsimp only at hx2
      by_cases h98 : ci = 98
      · rw [if_pos h98] at hx2
        obtain ⟨hthr, hx3⟩ := gd_s hx2
        obtain ⟨hbd, hx4⟩ := gd_s (show am_gd _ _ = some _ from hx3)
        cases hx4
      · rw [if_neg h98] at hx2
        cases h2 : kS mid pc with
        | none => rw [h2] at hx2; cases hx2
        | some K =>
          rw [h2] at hx2
          dsimp only at hx2
          by_cases h0 : ci = 0
          · rw [if_pos h0] at hx2
            obtain ⟨⟨hk, h3, hnl⟩, hx5⟩ := gd_s hx2
            obtain ⟨hbd, hx6⟩ := gd_s (show am_gd _ _ = some _ from hx5)
            obtain ⟨rfl, rfl, rfl, rfl⟩ := go_s hx6
            subst h0
            exact hbd
          · rw [if_neg h0] at hx2
            obtain ⟨hk, hx7⟩ := gd_s hx2
            obtain ⟨hbd, hx8⟩ := gd_s (show am_gd _ _ = some _ from hx7)
            obtain ⟨rfl, rfl, rfl, rfl⟩ := go_s hx8
            exact hbd
  | checkcast k =>
    obtain ⟨rfl, hx1⟩ := gd_s (show am_gd _ _ = some _ from hx)
    obtain ⟨q, r, rfl, hx2⟩ := rq_s hx1
    rcases q with _ | ⟨K, i⟩
    · obtain ⟨rfl, rfl, rfl, rfl⟩ := go_s hx2
      exact h0b
    · obtain ⟨⟨hk, _, hf⟩, hx3⟩ := gd_s (show am_gd _ _ = some _ from hx2)
      obtain ⟨rfl, rfl, rfl, rfl⟩ := go_s hx3
      exact h0b
  | invokevirtual k =>
    obtain ⟨rfl, hx1⟩ := gd_s (show am_gd _ _ = some _ from hx)
    cases h1 : cal (mcl mid) k with
    | none => rw [h1] at hx1; cases hx1
    | some q =>
      obtain ⟨tg, cm⟩ := q
      rw [h1] at hx1
      dsimp only at hx1
      by_cases h0 : tg = 0
      · rw [if_pos h0] at hx1
        split at hx1
        · obtain ⟨hg, hx2⟩ := gd_s hx1
          cases hx2
        · cases hx1
      · rw [if_neg h0] at hx1
        exact lv_bound hx1 h0b
  | invokestatic k =>
    obtain ⟨rfl, hx1⟩ := gd_s (show am_gd _ _ = some _ from hx)
    cases h1 : cal (mcl mid) k with
    | none => rw [h1] at hx1; cases hx1
    | some q =>
      obtain ⟨tg, cm⟩ := q
      rw [h1] at hx1
      dsimp only at hx1
      by_cases h0 : tg = 1 ∨ tg = 2
      · rw [if_pos h0] at hx1
        split at hx1
        · obtain ⟨hg, hx2⟩ := gd_s hx1
          cases hx2
        · cases hx1
      · rw [if_neg h0] at hx1
        exact ls_bound hx1 h0b
  | invokespecial k =>
    obtain ⟨rfl, hx1⟩ := gd_s (show am_gd _ _ = some _ from hx)
    cases h1 : cal (mcl mid) k with
    | none => rw [h1] at hx1; cases hx1
    | some q =>
      obtain ⟨tg, cm⟩ := q
      rw [h1] at hx1
      dsimp only at hx1
      by_cases h0 : tg = 3 ∨ tg = 4
      · rw [if_pos h0] at hx1
        split at hx1
        · obtain ⟨hg, hx2⟩ := gd_s hx1
          cases hx2
        · cases hx1
      · rw [if_neg h0] at hx1
        by_cases h4 : tg = 40
        · rw [if_pos h4] at hx1
          obtain ⟨K, i, r, rfl, hx3⟩ := ro_s hx1
          obtain ⟨hr, hx4⟩ := gd_s hx3
          obtain ⟨rfl, rfl, rfl, rfl⟩ := go_s hx4
          subst h4
          exact h0b
        · rw [if_neg h4] at hx1; cases hx1
  | ireturn =>
    obtain ⟨rfl, hx1⟩ := gd_s (show am_gd _ _ = some _ from hx)
    split at hx1
    · obtain ⟨hg, hx2⟩ := gd_s hx1
      cases hx2
    · cases hx1
  | lreturn =>
    obtain ⟨rfl, hx1⟩ := gd_s (show am_gd _ _ = some _ from hx)
    split at hx1
    · obtain ⟨hg, hx2⟩ := gd_s hx1
      cases hx2
    · cases hx1
  | areturn =>
    obtain ⟨rfl, hx1⟩ := gd_s (show am_gd _ _ = some _ from hx)
    split at hx1
    · obtain ⟨hg, hx2⟩ := gd_s hx1
      cases hx2
    · cases hx1
  | return_ =>
    obtain ⟨rfl, hx1⟩ := gd_s (show am_gd _ _ = some _ from hx)
    split at hx1
    · obtain ⟨hg, hx2⟩ := gd_s hx1
      cases hx2
    · cases hx1
  | _ => exact absurd (show (none : Option aX) = some _ from hx) (by simp)
theorem go_r {pc : Nat} {l : aL} {st : List aV} {σ : aM} {z : (Nat × aL × Nat × List aV) ⊕ (aR × aM)} (h : am_go pc l st σ = some (.inr z)) : False := by cases Option.some.inj h
def RETA (mid len : Nat) (i : Instr) (st : List aV) (v : aR) : Prop := (i = .return_ ∧ st = [] ∧ v = some none ∧ mrt mid = 0) ∨ (i = .ireturn ∧ ∃ x, st = [vi x] ∧ v = some (some (vi x)) ∧ (mrt mid = 1 ∨ (mrt mid = 2 ∧ (x = 0 ∨ x = 1)))) ∨ (i = .lreturn ∧ ∃ x, st = [vl x] ∧ v = some (some (vl x)) ∧ mrt mid = 3) ∨ (i = .areturn ∧ ∃ x, st = [vr x] ∧ v = some (some (vr x)) ∧ mrt mid = 4)
set_option maxHeartbeats 4000000 in
theorem nx_r {i : Instr} {len : Nat} {z : (Nat × aL × Nat × List aV) ⊕ (aR × aM)} (hx : am_nx mid pc len i l st σ = some (.inr z)) : (∃ v, z = .inr (v, σ) ∧ len = 1 ∧ RETA mid len i st v) ∨ (∃ k tg cm As r, len = 3 ∧ cal (mcl mid) k = some (tg, cm) ∧ z = .inl (cm, am_ent (mml cm) As, pc + 3, r) ∧ ((tg = 0 ∧ i = .invokevirtual k ∧ ∃ K i B, As = vr (some (K, i)) :: B ∧ st = B.reverse ++ vr (some (K, i)) :: r ∧ B.length = mar cm ∧ (kT K).1 = 0 ∧ (kT K).2 = mcl cm) ∨ ((tg = 1 ∨ tg = 2) ∧ i = .invokestatic k ∧ st = As.reverse ++ r ∧ As.length = mar cm) ∨ ((tg = 3 ∨ tg = 4) ∧ i = .invokespecial k ∧ ∃ K i B, As = vr (some (K, i)) :: B ∧ st = B.reverse ++ vr (some (K, i)) :: r ∧ B.length = mar cm ∧ (kT K).1 = 0)) ∧ (am_ea As).length ≤ mml cm ∧ r.length ≤ 4) ∨ (z = .inr (none, am_thr σ) ∧ ∃ k, i = .new k ∧ len = 3 ∧ clsP (mcl mid) k = some 98 ∧ (mid ∈ thrL ∧ st.length = 0) ∧ (gB σ).1 + 1 ≤ 601024 ∧ (gB σ).2 + 6 ≤ 7293034) := by
  cases i with
  | iconst n =>
    obtain ⟨rfl, hx1⟩ := gd_s (show am_gd _ _ = some _ from hx)
    exact (go_r hx1).elim
  | bipush n =>
    obtain ⟨rfl, hx1⟩ := gd_s (show am_gd _ _ = some _ from hx)
    exact (go_r hx1).elim
  | sipush n =>
    obtain ⟨rfl, hx1⟩ := gd_s (show am_gd _ _ = some _ from hx)
    exact (go_r hx1).elim
  | lconst n =>
    obtain ⟨rfl, hx1⟩ := gd_s (show am_gd _ _ = some _ from hx)
    exact (go_r hx1).elim
  | aconst_null =>
    obtain ⟨rfl, hx1⟩ := gd_s (show am_gd _ _ = some _ from hx)
    exact (go_r hx1).elim
  | ldc k =>
    obtain ⟨rfl, hx1⟩ := gd_s (show am_gd _ _ = some _ from hx)
    cases h1 : cInt (mcl mid) k with
    | some v =>
      rw [h1] at hx1
      exact (go_r hx1).elim
    | none =>
      rw [h1] at hx1
      cases h2 : cStr (mcl mid) k with
      | none => rw [h2] at hx1; cases hx1
      | some t =>
        rw [h2] at hx1
        exact (go_r hx1).elim
  | ldc_w k =>
    obtain ⟨rfl, hx1⟩ := gd_s (show am_gd _ _ = some _ from hx)
    cases h1 : cInt (mcl mid) k with
    | some v =>
      rw [h1] at hx1
      exact (go_r hx1).elim
    | none =>
      rw [h1] at hx1
      cases h2 : cStr (mcl mid) k with
      | none => rw [h2] at hx1; cases hx1
      | some t =>
        rw [h2] at hx1
        exact (go_r hx1).elim
  | ldc2_w k =>
    obtain ⟨rfl, hx1⟩ := gd_s (show am_gd _ _ = some _ from hx)
    cases h1 : cLong (mcl mid) k with
    | some v =>
      rw [h1] at hx1
      exact (go_r hx1).elim
    | none => rw [h1] at hx1; cases hx1
  | iload_n k =>
    obtain ⟨rfl, hx1⟩ := gd_s (show am_gd _ _ = some _ from hx)
    obtain ⟨x, hv, hx2⟩ := li0_s hx1
    exact (go_r hx2).elim
  | iload k =>
    obtain ⟨rfl, hx1⟩ := gd_s (show am_gd _ _ = some _ from hx)
    obtain ⟨x, hv, hx2⟩ := li0_s hx1
    exact (go_r hx2).elim
  | lload_n k =>
    obtain ⟨rfl, hx1⟩ := gd_s (show am_gd _ _ = some _ from hx)
    obtain ⟨x, hv, hx2⟩ := ll0_s hx1
    exact (go_r hx2).elim
  | lload k =>
    obtain ⟨rfl, hx1⟩ := gd_s (show am_gd _ _ = some _ from hx)
    obtain ⟨x, hv, hx2⟩ := ll0_s hx1
    exact (go_r hx2).elim
  | aload_n k =>
    obtain ⟨rfl, hx1⟩ := gd_s (show am_gd _ _ = some _ from hx)
    obtain ⟨x, hv, hx2⟩ := lr0_s hx1
    exact (go_r hx2).elim
  | aload k =>
    obtain ⟨rfl, hx1⟩ := gd_s (show am_gd _ _ = some _ from hx)
    obtain ⟨x, hv, hx2⟩ := lr0_s hx1
    exact (go_r hx2).elim
  | istore_n k =>
    obtain ⟨⟨rfl, hg⟩, hx1⟩ := gd_s (show am_gd _ _ = some _ from hx)
    obtain ⟨x, r, rfl, hx2⟩ := i1_s hx1
    exact (go_r hx2).elim
  | istore k =>
    obtain ⟨⟨rfl, hg⟩, hx1⟩ := gd_s (show am_gd _ _ = some _ from hx)
    obtain ⟨x, r, rfl, hx2⟩ := i1_s hx1
    exact (go_r hx2).elim
  | lstore_n k =>
    obtain ⟨⟨rfl, hg⟩, hx1⟩ := gd_s (show am_gd _ _ = some _ from hx)
    obtain ⟨x, r, rfl, hx2⟩ := l1_s hx1
    exact (go_r hx2).elim
  | lstore k =>
    obtain ⟨⟨rfl, hg⟩, hx1⟩ := gd_s (show am_gd _ _ = some _ from hx)
    obtain ⟨x, r, rfl, hx2⟩ := l1_s hx1
    exact (go_r hx2).elim
  | astore_n k =>
    obtain ⟨⟨rfl, hg⟩, hx1⟩ := gd_s (show am_gd _ _ = some _ from hx)
    obtain ⟨x, r, rfl, hx2⟩ := rq_s hx1
    exact (go_r hx2).elim
  | astore k =>
    obtain ⟨⟨rfl, hg⟩, hx1⟩ := gd_s (show am_gd _ _ = some _ from hx)
    obtain ⟨x, r, rfl, hx2⟩ := rq_s hx1
    exact (go_r hx2).elim
  | iinc k n =>
    obtain ⟨⟨rfl, hg⟩, hx1⟩ := gd_s (show am_gd _ _ = some _ from hx)
    obtain ⟨x, hv, hx2⟩ := li0_s hx1
    exact (go_r hx2).elim
  | iadd =>
    obtain ⟨rfl, hx1⟩ := gd_s (show am_gd _ _ = some _ from hx)
    obtain ⟨a, b, r, rfl, hx2⟩ := i2_s hx1
    exact (go_r hx2).elim
  | isub =>
    obtain ⟨rfl, hx1⟩ := gd_s (show am_gd _ _ = some _ from hx)
    obtain ⟨a, b, r, rfl, hx2⟩ := i2_s hx1
    exact (go_r hx2).elim
  | imul =>
    obtain ⟨rfl, hx1⟩ := gd_s (show am_gd _ _ = some _ from hx)
    obtain ⟨a, b, r, rfl, hx2⟩ := i2_s hx1
    exact (go_r hx2).elim
  | iand =>
    obtain ⟨rfl, hx1⟩ := gd_s (show am_gd _ _ = some _ from hx)
    obtain ⟨a, b, r, rfl, hx2⟩ := i2_s hx1
    exact (go_r hx2).elim
  | ior =>
    obtain ⟨rfl, hx1⟩ := gd_s (show am_gd _ _ = some _ from hx)
    obtain ⟨a, b, r, rfl, hx2⟩ := i2_s hx1
    exact (go_r hx2).elim
  | ixor =>
    obtain ⟨rfl, hx1⟩ := gd_s (show am_gd _ _ = some _ from hx)
    obtain ⟨a, b, r, rfl, hx2⟩ := i2_s hx1
    exact (go_r hx2).elim
  | ishl =>
    obtain ⟨rfl, hx1⟩ := gd_s (show am_gd _ _ = some _ from hx)
    obtain ⟨a, b, r, rfl, hx2⟩ := i2_s hx1
    exact (go_r hx2).elim
  | ishr =>
    obtain ⟨rfl, hx1⟩ := gd_s (show am_gd _ _ = some _ from hx)
    obtain ⟨a, b, r, rfl, hx2⟩ := i2_s hx1
    exact (go_r hx2).elim
  | iushr =>
    obtain ⟨rfl, hx1⟩ := gd_s (show am_gd _ _ = some _ from hx)
    obtain ⟨a, b, r, rfl, hx2⟩ := i2_s hx1
    exact (go_r hx2).elim
  | idiv =>
    obtain ⟨rfl, hx1⟩ := gd_s (show am_gd _ _ = some _ from hx)
    obtain ⟨a, b, r, rfl, hx2⟩ := i2_s hx1
    obtain ⟨hn, hx3⟩ := gd_s hx2
    exact (go_r hx3).elim
  | irem =>
    obtain ⟨rfl, hx1⟩ := gd_s (show am_gd _ _ = some _ from hx)
    obtain ⟨a, b, r, rfl, hx2⟩ := i2_s hx1
    obtain ⟨hn, hx3⟩ := gd_s hx2
    exact (go_r hx3).elim
  | ladd =>
    obtain ⟨rfl, hx1⟩ := gd_s (show am_gd _ _ = some _ from hx)
    obtain ⟨a, b, r, rfl, hx2⟩ := l2_s hx1
    exact (go_r hx2).elim
  | lsub =>
    obtain ⟨rfl, hx1⟩ := gd_s (show am_gd _ _ = some _ from hx)
    obtain ⟨a, b, r, rfl, hx2⟩ := l2_s hx1
    exact (go_r hx2).elim
  | lmul =>
    obtain ⟨rfl, hx1⟩ := gd_s (show am_gd _ _ = some _ from hx)
    obtain ⟨a, b, r, rfl, hx2⟩ := l2_s hx1
    exact (go_r hx2).elim
  | land =>
    obtain ⟨rfl, hx1⟩ := gd_s (show am_gd _ _ = some _ from hx)
    obtain ⟨a, b, r, rfl, hx2⟩ := l2_s hx1
    exact (go_r hx2).elim
  | lor =>
    obtain ⟨rfl, hx1⟩ := gd_s (show am_gd _ _ = some _ from hx)
    obtain ⟨a, b, r, rfl, hx2⟩ := l2_s hx1
    exact (go_r hx2).elim
  | lcmp =>
    obtain ⟨rfl, hx1⟩ := gd_s (show am_gd _ _ = some _ from hx)
    obtain ⟨a, b, r, rfl, hx2⟩ := l2_s hx1
    exact (go_r hx2).elim
  | ldiv =>
    obtain ⟨rfl, hx1⟩ := gd_s (show am_gd _ _ = some _ from hx)
    obtain ⟨a, b, r, rfl, hx2⟩ := l2_s hx1
    obtain ⟨hn, hx3⟩ := gd_s hx2
    exact (go_r hx3).elim
  | lshl =>
    obtain ⟨rfl, hx1⟩ := gd_s (show am_gd _ _ = some _ from hx)
    obtain ⟨a, b, r, rfl, hx2⟩ := li_s hx1
    exact (go_r hx2).elim
  | lshr =>
    obtain ⟨rfl, hx1⟩ := gd_s (show am_gd _ _ = some _ from hx)
    obtain ⟨a, b, r, rfl, hx2⟩ := li_s hx1
    exact (go_r hx2).elim
  | i2l =>
    obtain ⟨rfl, hx1⟩ := gd_s (show am_gd _ _ = some _ from hx)
    obtain ⟨a, r, rfl, hx2⟩ := i1_s hx1
    exact (go_r hx2).elim
  | l2i =>
    obtain ⟨rfl, hx1⟩ := gd_s (show am_gd _ _ = some _ from hx)
    obtain ⟨a, r, rfl, hx2⟩ := l1_s hx1
    exact (go_r hx2).elim
  | i2b =>
    obtain ⟨rfl, hx1⟩ := gd_s (show am_gd _ _ = some _ from hx)
    obtain ⟨a, r, rfl, hx2⟩ := i1_s hx1
    exact (go_r hx2).elim
  | dup =>
    obtain ⟨rfl, hx1⟩ := gd_s (show am_gd _ _ = some _ from hx)
    split at hx1
    · exact (go_r hx1).elim
    · exact (go_r hx1).elim
    · cases hx1
  | pop =>
    obtain ⟨rfl, hx1⟩ := gd_s (show am_gd _ _ = some _ from hx)
    split at hx1
    · exact (go_r hx1).elim
    · exact (go_r hx1).elim
    · cases hx1
  | dup2 =>
    obtain ⟨rfl, hx1⟩ := gd_s (show am_gd _ _ = some _ from hx)
    split at hx1
    · exact (go_r hx1).elim
    · cases hx1
  | goto o =>
    obtain ⟨rfl, hx1⟩ := gd_s (show am_gd _ _ = some _ from hx)
    obtain ⟨t, ht, hx2⟩ := jm_s hx1
    exact (go_r hx2).elim
  | ifCond cc o =>
    obtain ⟨rfl, hx1⟩ := gd_s (show am_gd _ _ = some _ from hx)
    obtain ⟨a, r, rfl, hx2⟩ := i1_s hx1
    obtain ⟨t, ht, hx3⟩ := jm_s hx2
    cases cc with
    | eq =>
      have hx4 : (if a = 0 then am_go t l r σ else am_go (pc + 3) l r σ) = some (Sum.inr z) := hx3
      exact (by split at hx4 <;> exact (go_r hx4).elim)
    | ne =>
      have hx5 : (if a = 0 then am_go (pc + 3) l r σ else am_go t l r σ) = some (Sum.inr z) := hx3
      exact (by split at hx5 <;> exact (go_r hx5).elim)
    | lt =>
      have hx6 : (if a < 0 then am_go t l r σ else am_go (pc + 3) l r σ) = some (Sum.inr z) := hx3
      exact (by split at hx6 <;> exact (go_r hx6).elim)
    | ge =>
      have hx7 : (if a < 0 then am_go (pc + 3) l r σ else am_go t l r σ) = some (Sum.inr z) := hx3
      exact (by split at hx7 <;> exact (go_r hx7).elim)
    | gt =>
      have hx8 : (if 0 < a then am_go t l r σ else am_go (pc + 3) l r σ) = some (Sum.inr z) := hx3
      exact (by split at hx8 <;> exact (go_r hx8).elim)
    | le =>
      have hx9 : (if 0 < a then am_go (pc + 3) l r σ else am_go t l r σ) = some (Sum.inr z) := hx3
      exact (by split at hx9 <;> exact (go_r hx9).elim)
  | if_icmp cc o =>
    obtain ⟨rfl, hx1⟩ := gd_s (show am_gd _ _ = some _ from hx)
    obtain ⟨a, b, r, rfl, hx2⟩ := i2_s hx1
    obtain ⟨t, ht, hx3⟩ := jm_s hx2
    cases cc with
    | eq =>
      have hx4 : (if a = b then am_go t l r σ else am_go (pc + 3) l r σ) = some (Sum.inr z) := hx3
      exact (by split at hx4 <;> exact (go_r hx4).elim)
    | ne =>
      have hx5 : (if a = b then am_go (pc + 3) l r σ else am_go t l r σ) = some (Sum.inr z) := hx3
      exact (by split at hx5 <;> exact (go_r hx5).elim)
    | lt =>
      have hx6 : (if a < b then am_go t l r σ else am_go (pc + 3) l r σ) = some (Sum.inr z) := hx3
      exact (by split at hx6 <;> exact (go_r hx6).elim)
    | ge =>
      have hx7 : (if a < b then am_go (pc + 3) l r σ else am_go t l r σ) = some (Sum.inr z) := hx3
      exact (by split at hx7 <;> exact (go_r hx7).elim)
    | gt =>
      have hx8 : (if b < a then am_go t l r σ else am_go (pc + 3) l r σ) = some (Sum.inr z) := hx3
      exact (by split at hx8 <;> exact (go_r hx8).elim)
    | le =>
      have hx9 : (if b < a then am_go (pc + 3) l r σ else am_go t l r σ) = some (Sum.inr z) := hx3
      exact (by split at hx9 <;> exact (go_r hx9).elim)
  | ifnull o =>
    obtain ⟨rfl, hx1⟩ := gd_s (show am_gd _ _ = some _ from hx)
    obtain ⟨q, r, rfl, hx2⟩ := rq_s hx1
    obtain ⟨t, ht, hx3⟩ := jm_s hx2
    have hx4 : (if q = none then am_go t l r σ else am_go (pc + 3) l r σ) = some (Sum.inr z) := hx3
    exact (by split at hx4 <;> exact (go_r hx4).elim)
  | ifnonnull o =>
    obtain ⟨rfl, hx1⟩ := gd_s (show am_gd _ _ = some _ from hx)
    obtain ⟨q, r, rfl, hx2⟩ := rq_s hx1
    obtain ⟨t, ht, hx3⟩ := jm_s hx2
    have hx4 : (if q = none then am_go (pc + 3) l r σ else am_go t l r σ) = some (Sum.inr z) := hx3
    exact (by split at hx4 <;> exact (go_r hx4).elim)
  | tableswitch df lo hi offs =>
    obtain ⟨x, r, rfl, hx1⟩ := i1_s (show am_i1 _ _ = some _ from hx)
    obtain ⟨hg, hx2⟩ := gd_s hx1
    rcases sw_s _ _ hx2 with ⟨_, _, t, _, _, _, ht⟩ | ⟨_, t, _, ht⟩ <;> exact (go_r ht).elim
  | getfield k =>
    obtain ⟨rfl, hx1⟩ := gd_s (show am_gd _ _ = some _ from hx)
    cases h1 : fld (mcl mid) k with
    | none => rw [h1] at hx1; cases hx1
    | some q =>
      obtain ⟨ci, f, t⟩ := q
      rw [h1] at hx1
      obtain ⟨K, i, r, rfl, hx2⟩ := ro_s hx1
      obtain ⟨⟨hk, hi⟩, hx3⟩ := gd_s hx2
      exact (go_r hx3).elim
  | putfield k =>
    obtain ⟨rfl, hx1⟩ := gd_s (show am_gd _ _ = some _ from hx)
    cases h1 : fld (mcl mid) k with
    | none => rw [h1] at hx1; cases hx1
    | some q =>
      obtain ⟨ci, f, t⟩ := q
      rw [h1] at hx1
      obtain ⟨v, r1, rfl, hx2⟩ := v1_s hx1
      obtain ⟨K, i, r, rfl, hx3⟩ := ro_s hx2
      obtain ⟨⟨hk, hi, hF⟩, hx4⟩ := gd_s hx3
      rcases v with x | x | x
      · obtain ⟨ht, hx5⟩ := gd_s (show am_gd _ _ = some _ from hx4)
        exact (go_r hx5).elim
      · obtain ⟨rfl, hx6⟩ := gd_s (show am_gd _ _ = some _ from hx4)
        exact (go_r hx6).elim
      · obtain ⟨rfl, hx7⟩ := gd_s (show am_gd _ _ = some _ from hx4)
        exact (go_r hx7).elim
  | iaload =>
    obtain ⟨rfl, hx1⟩ := gd_s (show am_gd _ _ = some _ from hx)
    obtain ⟨j, r1, rfl, hx2⟩ := i1_s hx1
    obtain ⟨K, i, r, rfl, hx3⟩ := ro_s hx2
    obtain ⟨⟨hc, hin⟩, hx4⟩ := gd_s hx3
    exact (go_r hx4).elim
  | baload =>
    obtain ⟨rfl, hx1⟩ := gd_s (show am_gd _ _ = some _ from hx)
    obtain ⟨j, r1, rfl, hx2⟩ := i1_s hx1
    obtain ⟨K, i, r, rfl, hx3⟩ := ro_s hx2
    obtain ⟨⟨hc, _, hin⟩, hx4⟩ := gd_s hx3
    exact (go_r hx4).elim
  | laload =>
    obtain ⟨rfl, hx1⟩ := gd_s (show am_gd _ _ = some _ from hx)
    obtain ⟨j, r1, rfl, hx2⟩ := i1_s hx1
    obtain ⟨K, i, r, rfl, hx3⟩ := ro_s hx2
    obtain ⟨⟨hc, _, hin⟩, hx4⟩ := gd_s hx3
    exact (go_r hx4).elim
  | iastore =>
    obtain ⟨rfl, hx1⟩ := gd_s (show am_gd _ _ = some _ from hx)
    obtain ⟨j, x, r1, rfl, hx2⟩ := i2_s hx1
    obtain ⟨K, i, r, rfl, hx3⟩ := ro_s hx2
    obtain ⟨⟨hc, _, hin⟩, hx4⟩ := gd_s hx3
    exact (go_r hx4).elim
  | bastore =>
    obtain ⟨rfl, hx1⟩ := gd_s (show am_gd _ _ = some _ from hx)
    obtain ⟨j, x, r1, rfl, hx2⟩ := i2_s hx1
    obtain ⟨K, i, r, rfl, hx3⟩ := ro_s hx2
    obtain ⟨⟨hc, _, hin⟩, hx4⟩ := gd_s hx3
    exact (go_r hx4).elim
  | lastore =>
    obtain ⟨rfl, hx1⟩ := gd_s (show am_gd _ _ = some _ from hx)
    obtain ⟨x, r2, rfl, hx2⟩ := l1_s hx1
    obtain ⟨j, r1, rfl, hx3⟩ := i1_s hx2
    obtain ⟨K, i, r, rfl, hx4⟩ := ro_s hx3
    obtain ⟨⟨hc, _, hin⟩, hx5⟩ := gd_s hx4
    exact (go_r hx5).elim
  | arraylength =>
    obtain ⟨rfl, hx1⟩ := gd_s (show am_gd _ _ = some _ from hx)
    obtain ⟨K, i, r, rfl, hx2⟩ := ro_s hx1
    obtain ⟨hc, hx3⟩ := gd_s hx2
    exact (go_r hx3).elim
  | newarray t =>
    obtain ⟨rfl, hx1⟩ := gd_s (show am_gd _ _ = some _ from hx)
    obtain ⟨n, r, rfl, hx2⟩ := i1_s hx1
    cases h1 : kS mid pc with
    | none => rw [h1] at hx2; cases hx2
    | some K =>
      rw [h1] at hx2
      obtain ⟨⟨hn, h8, hk⟩, hx3⟩ := gd_s hx2
      obtain ⟨hbd, hx4⟩ := gd_s (show am_gd _ _ = some _ from hx3)
      exact (go_r hx4).elim
  | new k =>
    obtain ⟨rfl, hx1⟩ := gd_s (show am_gd _ _ = some _ from hx)
    have hx2 : am_new mid pc k l st σ = some (Sum.inr z) := hx1
    unfold am_new at hx2
    cases h1 : clsP (mcl mid) k with
    | none => rw [h1] at hx2; cases hx2
    | some ci =>
      rw [h1] at hx2
      dsimp only at hx2
      by_cases h98 : ci = 98
      · rw [if_pos h98] at hx2
        obtain ⟨hthr, hx3⟩ := gd_s hx2
        obtain ⟨hbd, hx4⟩ := gd_s (show am_gd _ _ = some _ from hx3)
        cases hx4
        subst h98
        exact Or.inr (Or.inr ⟨rfl, k, rfl, rfl, h1, hthr, hbd⟩)
      · rw [if_neg h98] at hx2
        cases h2 : kS mid pc with
        | none => rw [h2] at hx2; cases hx2
        | some K =>
          rw [h2] at hx2
          dsimp only at hx2
          by_cases h0 : ci = 0
          · rw [if_pos h0] at hx2
            obtain ⟨⟨hk, h3, hnl⟩, hx5⟩ := gd_s hx2
            obtain ⟨hbd, hx6⟩ := gd_s (show am_gd _ _ = some _ from hx5)
            exact (go_r hx6).elim
          · rw [if_neg h0] at hx2
            obtain ⟨hk, hx7⟩ := gd_s hx2
            obtain ⟨hbd, hx8⟩ := gd_s (show am_gd _ _ = some _ from hx7)
            exact (go_r hx8).elim
  | checkcast k =>
    obtain ⟨rfl, hx1⟩ := gd_s (show am_gd _ _ = some _ from hx)
    obtain ⟨q, r, rfl, hx2⟩ := rq_s hx1
    rcases q with _ | ⟨K, i⟩
    · exact (go_r hx2).elim
    · obtain ⟨⟨hk, _, hf⟩, hx3⟩ := gd_s (show am_gd _ _ = some _ from hx2)
      exact (go_r hx3).elim
  | invokevirtual k =>
    obtain ⟨rfl, hx1⟩ := gd_s (show am_gd _ _ = some _ from hx)
    cases h1 : cal (mcl mid) k with
    | none => rw [h1] at hx1; cases hx1
    | some q =>
      obtain ⟨tg, cm⟩ := q
      rw [h1] at hx1
      dsimp only at hx1
      by_cases h0 : tg = 0
      · rw [if_pos h0] at hx1
        split at hx1
        · obtain ⟨hg, hx2⟩ := gd_s hx1
          next hp =>
            cases hx2
            obtain ⟨hp1, hp2⟩ := pop_s _ _ _ _ hp
            exact Or.inr (Or.inl ⟨_, _, _, _, _, rfl, h1, rfl, Or.inl ⟨h0, rfl, _, _, _, rfl, hp1, hp2, hg.1, hg.2.1⟩, hg.2.2.2.2, hg.2.2.2.1⟩)
        · cases hx1
      · rw [if_neg h0] at hx1
        exact (lv_r hx1).elim
  | invokestatic k =>
    obtain ⟨rfl, hx1⟩ := gd_s (show am_gd _ _ = some _ from hx)
    cases h1 : cal (mcl mid) k with
    | none => rw [h1] at hx1; cases hx1
    | some q =>
      obtain ⟨tg, cm⟩ := q
      rw [h1] at hx1
      dsimp only at hx1
      by_cases h0 : tg = 1 ∨ tg = 2
      · rw [if_pos h0] at hx1
        split at hx1
        · obtain ⟨hg, hx2⟩ := gd_s hx1
          next hp =>
            cases hx2
            obtain ⟨hp1, hp2⟩ := pop_s _ _ _ _ hp
            exact Or.inr (Or.inl ⟨_, _, _, _, _, rfl, h1, rfl, Or.inr (Or.inl ⟨h0, rfl, hp1, hp2⟩), hg.2, hg.1⟩)
        · cases hx1
      · rw [if_neg h0] at hx1
        exact (ls_r hx1).elim
  | invokespecial k =>
    obtain ⟨rfl, hx1⟩ := gd_s (show am_gd _ _ = some _ from hx)
    cases h1 : cal (mcl mid) k with
    | none => rw [h1] at hx1; cases hx1
    | some q =>
      obtain ⟨tg, cm⟩ := q
      rw [h1] at hx1
      dsimp only at hx1
      by_cases h0 : tg = 3 ∨ tg = 4
      · rw [if_pos h0] at hx1
        split at hx1
        · obtain ⟨hg, hx2⟩ := gd_s hx1
          next hp =>
            cases hx2
            obtain ⟨hp1, hp2⟩ := pop_s _ _ _ _ hp
            exact Or.inr (Or.inl ⟨_, _, _, _, _, rfl, h1, rfl, Or.inr (Or.inr ⟨h0, rfl, _, _, _, rfl, hp1, hp2, hg.1⟩), hg.2.2.2.2, hg.2.2.2.1⟩)
        · cases hx1
      · rw [if_neg h0] at hx1
        by_cases h4 : tg = 40
        · rw [if_pos h4] at hx1
          obtain ⟨K, i, r, rfl, hx3⟩ := ro_s hx1
          obtain ⟨hr, hx4⟩ := gd_s hx3
          exact (go_r hx4).elim
        · rw [if_neg h4] at hx1; cases hx1
  | ireturn =>
    obtain ⟨rfl, hx1⟩ := gd_s (show am_gd _ _ = some _ from hx)
    split at hx1
    · obtain ⟨hg, hx2⟩ := gd_s hx1
      cases hx2
      exact Or.inl ⟨_, rfl, rfl, Or.inr (Or.inl ⟨rfl, _, rfl, rfl, hg⟩)⟩
    · cases hx1
  | lreturn =>
    obtain ⟨rfl, hx1⟩ := gd_s (show am_gd _ _ = some _ from hx)
    split at hx1
    · obtain ⟨hg, hx2⟩ := gd_s hx1
      cases hx2
      exact Or.inl ⟨_, rfl, rfl, Or.inr (Or.inr (Or.inl ⟨rfl, _, rfl, rfl, hg⟩))⟩
    · cases hx1
  | areturn =>
    obtain ⟨rfl, hx1⟩ := gd_s (show am_gd _ _ = some _ from hx)
    split at hx1
    · obtain ⟨hg, hx2⟩ := gd_s hx1
      cases hx2
      exact Or.inl ⟨_, rfl, rfl, Or.inr (Or.inr (Or.inr ⟨rfl, _, rfl, rfl, hg⟩))⟩
    · cases hx1
  | return_ =>
    obtain ⟨rfl, hx1⟩ := gd_s (show am_gd _ _ = some _ from hx)
    split at hx1
    · obtain ⟨hg, hx2⟩ := gd_s hx1
      cases hx2
      exact Or.inl ⟨_, rfl, rfl, Or.inl ⟨rfl, rfl, rfl, hg⟩⟩
    · cases hx1
  | _ => exact absurd (show (none : Option aX) = some _ from hx) (by simp)
end SIMS
