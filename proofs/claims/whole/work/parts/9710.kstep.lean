section SIMKX
variable {mid pc : Nat} {l : aL} {st : List aV} {σ : aM}
set_option maxHeartbeats 4000000 in
theorem k_nx {i : Instr} {len pc' : Nat} {l' : aL} {st' : List aV} {σ' : aM} (hl : KLo l) (hs : KSt st) (hm : KMe σ) (hx : am_nx mid pc len i l st σ = some (.inl (pc', l', st', σ'))) : KLo l' ∧ KSt st' ∧ KMe σ' := by
  cases i with
  | iconst n =>
    obtain ⟨rfl, hx1⟩ := gd_s (show am_gd _ _ = some _ from hx)
    obtain ⟨rfl, rfl, rfl, rfl⟩ := go_s hx1
    exact ⟨by first | exact hl | (first | refine KLo_s1 ?_ hl | refine KLo_s2 ?_ hl) <;> (first | exact Kv_i | exact Kv_l | exact Kv_r Kq_n | exact Kv_r (Kq_s (Or.inr rfl)) | exact KSt_h hs | exact KSt_h (KSt_t hs) | exact KSt_h (KSt_t (KSt_t hs)) | exact KLo_get hl (by assumption) | exact Kv_fv hm | exact Kq_K (z4_5 (by assumption)) | exact Kq_K (z4_0 (by assumption)) | exact Kq_K (z4_a (by assumption)) | exact Kq_K (z4_1 (by assumption)) | exact Kv_r (hm _ _ _)), by (repeat (first | (first | exact hs | exact KSt_t hs | exact KSt_t (KSt_t hs) | exact KSt_t (KSt_t (KSt_t hs)) | exact KSt_n) | refine KSt_c ?_ ?_ | (first | exact Kv_i | exact Kv_l | exact Kv_r Kq_n | exact Kv_r (Kq_s (Or.inr rfl)) | exact KSt_h hs | exact KSt_h (KSt_t hs) | exact KSt_h (KSt_t (KSt_t hs)) | exact KLo_get hl (by assumption) | exact Kv_fv hm | exact Kq_K (z4_5 (by assumption)) | exact Kq_K (z4_0 (by assumption)) | exact Kq_K (z4_a (by assumption)) | exact Kq_K (z4_1 (by assumption)) | exact Kv_r (hm _ _ _)))), by first | exact hm | exact KMe_mk hm | exact KMe_sR (Kv_q (KSt_h hs)) hm | exact KMe_add (Kv_q (KSt_h hs)) hm | exact KMe_ins (Kv_q (KSt_h hs)) hm | exact KMe_rem hm⟩
  | bipush n =>
    obtain ⟨rfl, hx1⟩ := gd_s (show am_gd _ _ = some _ from hx)
    obtain ⟨rfl, rfl, rfl, rfl⟩ := go_s hx1
    exact ⟨by first | exact hl | (first | refine KLo_s1 ?_ hl | refine KLo_s2 ?_ hl) <;> (first | exact Kv_i | exact Kv_l | exact Kv_r Kq_n | exact Kv_r (Kq_s (Or.inr rfl)) | exact KSt_h hs | exact KSt_h (KSt_t hs) | exact KSt_h (KSt_t (KSt_t hs)) | exact KLo_get hl (by assumption) | exact Kv_fv hm | exact Kq_K (z4_5 (by assumption)) | exact Kq_K (z4_0 (by assumption)) | exact Kq_K (z4_a (by assumption)) | exact Kq_K (z4_1 (by assumption)) | exact Kv_r (hm _ _ _)), by (repeat (first | (first | exact hs | exact KSt_t hs | exact KSt_t (KSt_t hs) | exact KSt_t (KSt_t (KSt_t hs)) | exact KSt_n) | refine KSt_c ?_ ?_ | (first | exact Kv_i | exact Kv_l | exact Kv_r Kq_n | exact Kv_r (Kq_s (Or.inr rfl)) | exact KSt_h hs | exact KSt_h (KSt_t hs) | exact KSt_h (KSt_t (KSt_t hs)) | exact KLo_get hl (by assumption) | exact Kv_fv hm | exact Kq_K (z4_5 (by assumption)) | exact Kq_K (z4_0 (by assumption)) | exact Kq_K (z4_a (by assumption)) | exact Kq_K (z4_1 (by assumption)) | exact Kv_r (hm _ _ _)))), by first | exact hm | exact KMe_mk hm | exact KMe_sR (Kv_q (KSt_h hs)) hm | exact KMe_add (Kv_q (KSt_h hs)) hm | exact KMe_ins (Kv_q (KSt_h hs)) hm | exact KMe_rem hm⟩
  | sipush n =>
    obtain ⟨rfl, hx1⟩ := gd_s (show am_gd _ _ = some _ from hx)
    obtain ⟨rfl, rfl, rfl, rfl⟩ := go_s hx1
    exact ⟨by first | exact hl | (first | refine KLo_s1 ?_ hl | refine KLo_s2 ?_ hl) <;> (first | exact Kv_i | exact Kv_l | exact Kv_r Kq_n | exact Kv_r (Kq_s (Or.inr rfl)) | exact KSt_h hs | exact KSt_h (KSt_t hs) | exact KSt_h (KSt_t (KSt_t hs)) | exact KLo_get hl (by assumption) | exact Kv_fv hm | exact Kq_K (z4_5 (by assumption)) | exact Kq_K (z4_0 (by assumption)) | exact Kq_K (z4_a (by assumption)) | exact Kq_K (z4_1 (by assumption)) | exact Kv_r (hm _ _ _)), by (repeat (first | (first | exact hs | exact KSt_t hs | exact KSt_t (KSt_t hs) | exact KSt_t (KSt_t (KSt_t hs)) | exact KSt_n) | refine KSt_c ?_ ?_ | (first | exact Kv_i | exact Kv_l | exact Kv_r Kq_n | exact Kv_r (Kq_s (Or.inr rfl)) | exact KSt_h hs | exact KSt_h (KSt_t hs) | exact KSt_h (KSt_t (KSt_t hs)) | exact KLo_get hl (by assumption) | exact Kv_fv hm | exact Kq_K (z4_5 (by assumption)) | exact Kq_K (z4_0 (by assumption)) | exact Kq_K (z4_a (by assumption)) | exact Kq_K (z4_1 (by assumption)) | exact Kv_r (hm _ _ _)))), by first | exact hm | exact KMe_mk hm | exact KMe_sR (Kv_q (KSt_h hs)) hm | exact KMe_add (Kv_q (KSt_h hs)) hm | exact KMe_ins (Kv_q (KSt_h hs)) hm | exact KMe_rem hm⟩
  | lconst n =>
    obtain ⟨rfl, hx1⟩ := gd_s (show am_gd _ _ = some _ from hx)
    obtain ⟨rfl, rfl, rfl, rfl⟩ := go_s hx1
    exact ⟨by first | exact hl | (first | refine KLo_s1 ?_ hl | refine KLo_s2 ?_ hl) <;> (first | exact Kv_i | exact Kv_l | exact Kv_r Kq_n | exact Kv_r (Kq_s (Or.inr rfl)) | exact KSt_h hs | exact KSt_h (KSt_t hs) | exact KSt_h (KSt_t (KSt_t hs)) | exact KLo_get hl (by assumption) | exact Kv_fv hm | exact Kq_K (z4_5 (by assumption)) | exact Kq_K (z4_0 (by assumption)) | exact Kq_K (z4_a (by assumption)) | exact Kq_K (z4_1 (by assumption)) | exact Kv_r (hm _ _ _)), by (repeat (first | (first | exact hs | exact KSt_t hs | exact KSt_t (KSt_t hs) | exact KSt_t (KSt_t (KSt_t hs)) | exact KSt_n) | refine KSt_c ?_ ?_ | (first | exact Kv_i | exact Kv_l | exact Kv_r Kq_n | exact Kv_r (Kq_s (Or.inr rfl)) | exact KSt_h hs | exact KSt_h (KSt_t hs) | exact KSt_h (KSt_t (KSt_t hs)) | exact KLo_get hl (by assumption) | exact Kv_fv hm | exact Kq_K (z4_5 (by assumption)) | exact Kq_K (z4_0 (by assumption)) | exact Kq_K (z4_a (by assumption)) | exact Kq_K (z4_1 (by assumption)) | exact Kv_r (hm _ _ _)))), by first | exact hm | exact KMe_mk hm | exact KMe_sR (Kv_q (KSt_h hs)) hm | exact KMe_add (Kv_q (KSt_h hs)) hm | exact KMe_ins (Kv_q (KSt_h hs)) hm | exact KMe_rem hm⟩
  | aconst_null =>
    obtain ⟨rfl, hx1⟩ := gd_s (show am_gd _ _ = some _ from hx)
    obtain ⟨rfl, rfl, rfl, rfl⟩ := go_s hx1
    exact ⟨by first | exact hl | (first | refine KLo_s1 ?_ hl | refine KLo_s2 ?_ hl) <;> (first | exact Kv_i | exact Kv_l | exact Kv_r Kq_n | exact Kv_r (Kq_s (Or.inr rfl)) | exact KSt_h hs | exact KSt_h (KSt_t hs) | exact KSt_h (KSt_t (KSt_t hs)) | exact KLo_get hl (by assumption) | exact Kv_fv hm | exact Kq_K (z4_5 (by assumption)) | exact Kq_K (z4_0 (by assumption)) | exact Kq_K (z4_a (by assumption)) | exact Kq_K (z4_1 (by assumption)) | exact Kv_r (hm _ _ _)), by (repeat (first | (first | exact hs | exact KSt_t hs | exact KSt_t (KSt_t hs) | exact KSt_t (KSt_t (KSt_t hs)) | exact KSt_n) | refine KSt_c ?_ ?_ | (first | exact Kv_i | exact Kv_l | exact Kv_r Kq_n | exact Kv_r (Kq_s (Or.inr rfl)) | exact KSt_h hs | exact KSt_h (KSt_t hs) | exact KSt_h (KSt_t (KSt_t hs)) | exact KLo_get hl (by assumption) | exact Kv_fv hm | exact Kq_K (z4_5 (by assumption)) | exact Kq_K (z4_0 (by assumption)) | exact Kq_K (z4_a (by assumption)) | exact Kq_K (z4_1 (by assumption)) | exact Kv_r (hm _ _ _)))), by first | exact hm | exact KMe_mk hm | exact KMe_sR (Kv_q (KSt_h hs)) hm | exact KMe_add (Kv_q (KSt_h hs)) hm | exact KMe_ins (Kv_q (KSt_h hs)) hm | exact KMe_rem hm⟩
  | ldc k =>
    obtain ⟨rfl, hx1⟩ := gd_s (show am_gd _ _ = some _ from hx)
    cases h1 : cInt (mcl mid) k with
    | some v =>
      rw [h1] at hx1
      obtain ⟨rfl, rfl, rfl, rfl⟩ := go_s hx1
      exact ⟨by first | exact hl | (first | refine KLo_s1 ?_ hl | refine KLo_s2 ?_ hl) <;> (first | exact Kv_i | exact Kv_l | exact Kv_r Kq_n | exact Kv_r (Kq_s (Or.inr rfl)) | exact KSt_h hs | exact KSt_h (KSt_t hs) | exact KSt_h (KSt_t (KSt_t hs)) | exact KLo_get hl (by assumption) | exact Kv_fv hm | exact Kq_K (z4_5 (by assumption)) | exact Kq_K (z4_0 (by assumption)) | exact Kq_K (z4_a (by assumption)) | exact Kq_K (z4_1 (by assumption)) | exact Kv_r (hm _ _ _)), by (repeat (first | (first | exact hs | exact KSt_t hs | exact KSt_t (KSt_t hs) | exact KSt_t (KSt_t (KSt_t hs)) | exact KSt_n) | refine KSt_c ?_ ?_ | (first | exact Kv_i | exact Kv_l | exact Kv_r Kq_n | exact Kv_r (Kq_s (Or.inr rfl)) | exact KSt_h hs | exact KSt_h (KSt_t hs) | exact KSt_h (KSt_t (KSt_t hs)) | exact KLo_get hl (by assumption) | exact Kv_fv hm | exact Kq_K (z4_5 (by assumption)) | exact Kq_K (z4_0 (by assumption)) | exact Kq_K (z4_a (by assumption)) | exact Kq_K (z4_1 (by assumption)) | exact Kv_r (hm _ _ _)))), by first | exact hm | exact KMe_mk hm | exact KMe_sR (Kv_q (KSt_h hs)) hm | exact KMe_add (Kv_q (KSt_h hs)) hm | exact KMe_ins (Kv_q (KSt_h hs)) hm | exact KMe_rem hm⟩
    | none =>
      rw [h1] at hx1
      cases h2 : cStr (mcl mid) k with
      | none => rw [h2] at hx1; cases hx1
      | some t =>
        rw [h2] at hx1
        obtain ⟨rfl, rfl, rfl, rfl⟩ := go_s hx1
        exact ⟨by first | exact hl | (first | refine KLo_s1 ?_ hl | refine KLo_s2 ?_ hl) <;> (first | exact Kv_i | exact Kv_l | exact Kv_r Kq_n | exact Kv_r (Kq_s (Or.inr rfl)) | exact KSt_h hs | exact KSt_h (KSt_t hs) | exact KSt_h (KSt_t (KSt_t hs)) | exact KLo_get hl (by assumption) | exact Kv_fv hm | exact Kq_K (z4_5 (by assumption)) | exact Kq_K (z4_0 (by assumption)) | exact Kq_K (z4_a (by assumption)) | exact Kq_K (z4_1 (by assumption)) | exact Kv_r (hm _ _ _)), by (repeat (first | (first | exact hs | exact KSt_t hs | exact KSt_t (KSt_t hs) | exact KSt_t (KSt_t (KSt_t hs)) | exact KSt_n) | refine KSt_c ?_ ?_ | (first | exact Kv_i | exact Kv_l | exact Kv_r Kq_n | exact Kv_r (Kq_s (Or.inr rfl)) | exact KSt_h hs | exact KSt_h (KSt_t hs) | exact KSt_h (KSt_t (KSt_t hs)) | exact KLo_get hl (by assumption) | exact Kv_fv hm | exact Kq_K (z4_5 (by assumption)) | exact Kq_K (z4_0 (by assumption)) | exact Kq_K (z4_a (by assumption)) | exact Kq_K (z4_1 (by assumption)) | exact Kv_r (hm _ _ _)))), by first | exact hm | exact KMe_mk hm | exact KMe_sR (Kv_q (KSt_h hs)) hm | exact KMe_add (Kv_q (KSt_h hs)) hm | exact KMe_ins (Kv_q (KSt_h hs)) hm | exact KMe_rem hm⟩
  | ldc_w k =>
    obtain ⟨rfl, hx1⟩ := gd_s (show am_gd _ _ = some _ from hx)
    cases h1 : cInt (mcl mid) k with
    | some v =>
      rw [h1] at hx1
      obtain ⟨rfl, rfl, rfl, rfl⟩ := go_s hx1
      exact ⟨by first | exact hl | (first | refine KLo_s1 ?_ hl | refine KLo_s2 ?_ hl) <;> (first | exact Kv_i | exact Kv_l | exact Kv_r Kq_n | exact Kv_r (Kq_s (Or.inr rfl)) | exact KSt_h hs | exact KSt_h (KSt_t hs) | exact KSt_h (KSt_t (KSt_t hs)) | exact KLo_get hl (by assumption) | exact Kv_fv hm | exact Kq_K (z4_5 (by assumption)) | exact Kq_K (z4_0 (by assumption)) | exact Kq_K (z4_a (by assumption)) | exact Kq_K (z4_1 (by assumption)) | exact Kv_r (hm _ _ _)), by (repeat (first | (first | exact hs | exact KSt_t hs | exact KSt_t (KSt_t hs) | exact KSt_t (KSt_t (KSt_t hs)) | exact KSt_n) | refine KSt_c ?_ ?_ | (first | exact Kv_i | exact Kv_l | exact Kv_r Kq_n | exact Kv_r (Kq_s (Or.inr rfl)) | exact KSt_h hs | exact KSt_h (KSt_t hs) | exact KSt_h (KSt_t (KSt_t hs)) | exact KLo_get hl (by assumption) | exact Kv_fv hm | exact Kq_K (z4_5 (by assumption)) | exact Kq_K (z4_0 (by assumption)) | exact Kq_K (z4_a (by assumption)) | exact Kq_K (z4_1 (by assumption)) | exact Kv_r (hm _ _ _)))), by first | exact hm | exact KMe_mk hm | exact KMe_sR (Kv_q (KSt_h hs)) hm | exact KMe_add (Kv_q (KSt_h hs)) hm | exact KMe_ins (Kv_q (KSt_h hs)) hm | exact KMe_rem hm⟩
    | none =>
      rw [h1] at hx1
      cases h2 : cStr (mcl mid) k with
      | none => rw [h2] at hx1; cases hx1
      | some t =>
        rw [h2] at hx1
        obtain ⟨rfl, rfl, rfl, rfl⟩ := go_s hx1
        exact ⟨by first | exact hl | (first | refine KLo_s1 ?_ hl | refine KLo_s2 ?_ hl) <;> (first | exact Kv_i | exact Kv_l | exact Kv_r Kq_n | exact Kv_r (Kq_s (Or.inr rfl)) | exact KSt_h hs | exact KSt_h (KSt_t hs) | exact KSt_h (KSt_t (KSt_t hs)) | exact KLo_get hl (by assumption) | exact Kv_fv hm | exact Kq_K (z4_5 (by assumption)) | exact Kq_K (z4_0 (by assumption)) | exact Kq_K (z4_a (by assumption)) | exact Kq_K (z4_1 (by assumption)) | exact Kv_r (hm _ _ _)), by (repeat (first | (first | exact hs | exact KSt_t hs | exact KSt_t (KSt_t hs) | exact KSt_t (KSt_t (KSt_t hs)) | exact KSt_n) | refine KSt_c ?_ ?_ | (first | exact Kv_i | exact Kv_l | exact Kv_r Kq_n | exact Kv_r (Kq_s (Or.inr rfl)) | exact KSt_h hs | exact KSt_h (KSt_t hs) | exact KSt_h (KSt_t (KSt_t hs)) | exact KLo_get hl (by assumption) | exact Kv_fv hm | exact Kq_K (z4_5 (by assumption)) | exact Kq_K (z4_0 (by assumption)) | exact Kq_K (z4_a (by assumption)) | exact Kq_K (z4_1 (by assumption)) | exact Kv_r (hm _ _ _)))), by first | exact hm | exact KMe_mk hm | exact KMe_sR (Kv_q (KSt_h hs)) hm | exact KMe_add (Kv_q (KSt_h hs)) hm | exact KMe_ins (Kv_q (KSt_h hs)) hm | exact KMe_rem hm⟩
  | ldc2_w k =>
    obtain ⟨rfl, hx1⟩ := gd_s (show am_gd _ _ = some _ from hx)
    cases h1 : cLong (mcl mid) k with
    | some v =>
      rw [h1] at hx1
      obtain ⟨rfl, rfl, rfl, rfl⟩ := go_s hx1
      exact ⟨by first | exact hl | (first | refine KLo_s1 ?_ hl | refine KLo_s2 ?_ hl) <;> (first | exact Kv_i | exact Kv_l | exact Kv_r Kq_n | exact Kv_r (Kq_s (Or.inr rfl)) | exact KSt_h hs | exact KSt_h (KSt_t hs) | exact KSt_h (KSt_t (KSt_t hs)) | exact KLo_get hl (by assumption) | exact Kv_fv hm | exact Kq_K (z4_5 (by assumption)) | exact Kq_K (z4_0 (by assumption)) | exact Kq_K (z4_a (by assumption)) | exact Kq_K (z4_1 (by assumption)) | exact Kv_r (hm _ _ _)), by (repeat (first | (first | exact hs | exact KSt_t hs | exact KSt_t (KSt_t hs) | exact KSt_t (KSt_t (KSt_t hs)) | exact KSt_n) | refine KSt_c ?_ ?_ | (first | exact Kv_i | exact Kv_l | exact Kv_r Kq_n | exact Kv_r (Kq_s (Or.inr rfl)) | exact KSt_h hs | exact KSt_h (KSt_t hs) | exact KSt_h (KSt_t (KSt_t hs)) | exact KLo_get hl (by assumption) | exact Kv_fv hm | exact Kq_K (z4_5 (by assumption)) | exact Kq_K (z4_0 (by assumption)) | exact Kq_K (z4_a (by assumption)) | exact Kq_K (z4_1 (by assumption)) | exact Kv_r (hm _ _ _)))), by first | exact hm | exact KMe_mk hm | exact KMe_sR (Kv_q (KSt_h hs)) hm | exact KMe_add (Kv_q (KSt_h hs)) hm | exact KMe_ins (Kv_q (KSt_h hs)) hm | exact KMe_rem hm⟩
    | none => rw [h1] at hx1; cases hx1
  | iload_n k =>
    obtain ⟨rfl, hx1⟩ := gd_s (show am_gd _ _ = some _ from hx)
    obtain ⟨x, hv, hx2⟩ := li0_s hx1
    obtain ⟨rfl, rfl, rfl, rfl⟩ := go_s hx2
    exact ⟨by first | exact hl | (first | refine KLo_s1 ?_ hl | refine KLo_s2 ?_ hl) <;> (first | exact Kv_i | exact Kv_l | exact Kv_r Kq_n | exact Kv_r (Kq_s (Or.inr rfl)) | exact KSt_h hs | exact KSt_h (KSt_t hs) | exact KSt_h (KSt_t (KSt_t hs)) | exact KLo_get hl (by assumption) | exact Kv_fv hm | exact Kq_K (z4_5 (by assumption)) | exact Kq_K (z4_0 (by assumption)) | exact Kq_K (z4_a (by assumption)) | exact Kq_K (z4_1 (by assumption)) | exact Kv_r (hm _ _ _)), by (repeat (first | (first | exact hs | exact KSt_t hs | exact KSt_t (KSt_t hs) | exact KSt_t (KSt_t (KSt_t hs)) | exact KSt_n) | refine KSt_c ?_ ?_ | (first | exact Kv_i | exact Kv_l | exact Kv_r Kq_n | exact Kv_r (Kq_s (Or.inr rfl)) | exact KSt_h hs | exact KSt_h (KSt_t hs) | exact KSt_h (KSt_t (KSt_t hs)) | exact KLo_get hl (by assumption) | exact Kv_fv hm | exact Kq_K (z4_5 (by assumption)) | exact Kq_K (z4_0 (by assumption)) | exact Kq_K (z4_a (by assumption)) | exact Kq_K (z4_1 (by assumption)) | exact Kv_r (hm _ _ _)))), by first | exact hm | exact KMe_mk hm | exact KMe_sR (Kv_q (KSt_h hs)) hm | exact KMe_add (Kv_q (KSt_h hs)) hm | exact KMe_ins (Kv_q (KSt_h hs)) hm | exact KMe_rem hm⟩
  | iload k =>
    obtain ⟨rfl, hx1⟩ := gd_s (show am_gd _ _ = some _ from hx)
    obtain ⟨x, hv, hx2⟩ := li0_s hx1
    obtain ⟨rfl, rfl, rfl, rfl⟩ := go_s hx2
    exact ⟨by first | exact hl | (first | refine KLo_s1 ?_ hl | refine KLo_s2 ?_ hl) <;> (first | exact Kv_i | exact Kv_l | exact Kv_r Kq_n | exact Kv_r (Kq_s (Or.inr rfl)) | exact KSt_h hs | exact KSt_h (KSt_t hs) | exact KSt_h (KSt_t (KSt_t hs)) | exact KLo_get hl (by assumption) | exact Kv_fv hm | exact Kq_K (z4_5 (by assumption)) | exact Kq_K (z4_0 (by assumption)) | exact Kq_K (z4_a (by assumption)) | exact Kq_K (z4_1 (by assumption)) | exact Kv_r (hm _ _ _)), by (repeat (first | (first | exact hs | exact KSt_t hs | exact KSt_t (KSt_t hs) | exact KSt_t (KSt_t (KSt_t hs)) | exact KSt_n) | refine KSt_c ?_ ?_ | (first | exact Kv_i | exact Kv_l | exact Kv_r Kq_n | exact Kv_r (Kq_s (Or.inr rfl)) | exact KSt_h hs | exact KSt_h (KSt_t hs) | exact KSt_h (KSt_t (KSt_t hs)) | exact KLo_get hl (by assumption) | exact Kv_fv hm | exact Kq_K (z4_5 (by assumption)) | exact Kq_K (z4_0 (by assumption)) | exact Kq_K (z4_a (by assumption)) | exact Kq_K (z4_1 (by assumption)) | exact Kv_r (hm _ _ _)))), by first | exact hm | exact KMe_mk hm | exact KMe_sR (Kv_q (KSt_h hs)) hm | exact KMe_add (Kv_q (KSt_h hs)) hm | exact KMe_ins (Kv_q (KSt_h hs)) hm | exact KMe_rem hm⟩
  | lload_n k =>
    obtain ⟨rfl, hx1⟩ := gd_s (show am_gd _ _ = some _ from hx)
    obtain ⟨x, hv, hx2⟩ := ll0_s hx1
    obtain ⟨rfl, rfl, rfl, rfl⟩ := go_s hx2
    exact ⟨by first | exact hl | (first | refine KLo_s1 ?_ hl | refine KLo_s2 ?_ hl) <;> (first | exact Kv_i | exact Kv_l | exact Kv_r Kq_n | exact Kv_r (Kq_s (Or.inr rfl)) | exact KSt_h hs | exact KSt_h (KSt_t hs) | exact KSt_h (KSt_t (KSt_t hs)) | exact KLo_get hl (by assumption) | exact Kv_fv hm | exact Kq_K (z4_5 (by assumption)) | exact Kq_K (z4_0 (by assumption)) | exact Kq_K (z4_a (by assumption)) | exact Kq_K (z4_1 (by assumption)) | exact Kv_r (hm _ _ _)), by (repeat (first | (first | exact hs | exact KSt_t hs | exact KSt_t (KSt_t hs) | exact KSt_t (KSt_t (KSt_t hs)) | exact KSt_n) | refine KSt_c ?_ ?_ | (first | exact Kv_i | exact Kv_l | exact Kv_r Kq_n | exact Kv_r (Kq_s (Or.inr rfl)) | exact KSt_h hs | exact KSt_h (KSt_t hs) | exact KSt_h (KSt_t (KSt_t hs)) | exact KLo_get hl (by assumption) | exact Kv_fv hm | exact Kq_K (z4_5 (by assumption)) | exact Kq_K (z4_0 (by assumption)) | exact Kq_K (z4_a (by assumption)) | exact Kq_K (z4_1 (by assumption)) | exact Kv_r (hm _ _ _)))), by first | exact hm | exact KMe_mk hm | exact KMe_sR (Kv_q (KSt_h hs)) hm | exact KMe_add (Kv_q (KSt_h hs)) hm | exact KMe_ins (Kv_q (KSt_h hs)) hm | exact KMe_rem hm⟩
  | lload k =>
    obtain ⟨rfl, hx1⟩ := gd_s (show am_gd _ _ = some _ from hx)
    obtain ⟨x, hv, hx2⟩ := ll0_s hx1
    obtain ⟨rfl, rfl, rfl, rfl⟩ := go_s hx2
    exact ⟨by first | exact hl | (first | refine KLo_s1 ?_ hl | refine KLo_s2 ?_ hl) <;> (first | exact Kv_i | exact Kv_l | exact Kv_r Kq_n | exact Kv_r (Kq_s (Or.inr rfl)) | exact KSt_h hs | exact KSt_h (KSt_t hs) | exact KSt_h (KSt_t (KSt_t hs)) | exact KLo_get hl (by assumption) | exact Kv_fv hm | exact Kq_K (z4_5 (by assumption)) | exact Kq_K (z4_0 (by assumption)) | exact Kq_K (z4_a (by assumption)) | exact Kq_K (z4_1 (by assumption)) | exact Kv_r (hm _ _ _)), by (repeat (first | (first | exact hs | exact KSt_t hs | exact KSt_t (KSt_t hs) | exact KSt_t (KSt_t (KSt_t hs)) | exact KSt_n) | refine KSt_c ?_ ?_ | (first | exact Kv_i | exact Kv_l | exact Kv_r Kq_n | exact Kv_r (Kq_s (Or.inr rfl)) | exact KSt_h hs | exact KSt_h (KSt_t hs) | exact KSt_h (KSt_t (KSt_t hs)) | exact KLo_get hl (by assumption) | exact Kv_fv hm | exact Kq_K (z4_5 (by assumption)) | exact Kq_K (z4_0 (by assumption)) | exact Kq_K (z4_a (by assumption)) | exact Kq_K (z4_1 (by assumption)) | exact Kv_r (hm _ _ _)))), by first | exact hm | exact KMe_mk hm | exact KMe_sR (Kv_q (KSt_h hs)) hm | exact KMe_add (Kv_q (KSt_h hs)) hm | exact KMe_ins (Kv_q (KSt_h hs)) hm | exact KMe_rem hm⟩
  | aload_n k =>
    obtain ⟨rfl, hx1⟩ := gd_s (show am_gd _ _ = some _ from hx)
    obtain ⟨x, hv, hx2⟩ := lr0_s hx1
    obtain ⟨rfl, rfl, rfl, rfl⟩ := go_s hx2
    exact ⟨by first | exact hl | (first | refine KLo_s1 ?_ hl | refine KLo_s2 ?_ hl) <;> (first | exact Kv_i | exact Kv_l | exact Kv_r Kq_n | exact Kv_r (Kq_s (Or.inr rfl)) | exact KSt_h hs | exact KSt_h (KSt_t hs) | exact KSt_h (KSt_t (KSt_t hs)) | exact KLo_get hl (by assumption) | exact Kv_fv hm | exact Kq_K (z4_5 (by assumption)) | exact Kq_K (z4_0 (by assumption)) | exact Kq_K (z4_a (by assumption)) | exact Kq_K (z4_1 (by assumption)) | exact Kv_r (hm _ _ _)), by (repeat (first | (first | exact hs | exact KSt_t hs | exact KSt_t (KSt_t hs) | exact KSt_t (KSt_t (KSt_t hs)) | exact KSt_n) | refine KSt_c ?_ ?_ | (first | exact Kv_i | exact Kv_l | exact Kv_r Kq_n | exact Kv_r (Kq_s (Or.inr rfl)) | exact KSt_h hs | exact KSt_h (KSt_t hs) | exact KSt_h (KSt_t (KSt_t hs)) | exact KLo_get hl (by assumption) | exact Kv_fv hm | exact Kq_K (z4_5 (by assumption)) | exact Kq_K (z4_0 (by assumption)) | exact Kq_K (z4_a (by assumption)) | exact Kq_K (z4_1 (by assumption)) | exact Kv_r (hm _ _ _)))), by first | exact hm | exact KMe_mk hm | exact KMe_sR (Kv_q (KSt_h hs)) hm | exact KMe_add (Kv_q (KSt_h hs)) hm | exact KMe_ins (Kv_q (KSt_h hs)) hm | exact KMe_rem hm⟩
  | aload k =>
    obtain ⟨rfl, hx1⟩ := gd_s (show am_gd _ _ = some _ from hx)
    obtain ⟨x, hv, hx2⟩ := lr0_s hx1
    obtain ⟨rfl, rfl, rfl, rfl⟩ := go_s hx2
    exact ⟨by first | exact hl | (first | refine KLo_s1 ?_ hl | refine KLo_s2 ?_ hl) <;> (first | exact Kv_i | exact Kv_l | exact Kv_r Kq_n | exact Kv_r (Kq_s (Or.inr rfl)) | exact KSt_h hs | exact KSt_h (KSt_t hs) | exact KSt_h (KSt_t (KSt_t hs)) | exact KLo_get hl (by assumption) | exact Kv_fv hm | exact Kq_K (z4_5 (by assumption)) | exact Kq_K (z4_0 (by assumption)) | exact Kq_K (z4_a (by assumption)) | exact Kq_K (z4_1 (by assumption)) | exact Kv_r (hm _ _ _)), by (repeat (first | (first | exact hs | exact KSt_t hs | exact KSt_t (KSt_t hs) | exact KSt_t (KSt_t (KSt_t hs)) | exact KSt_n) | refine KSt_c ?_ ?_ | (first | exact Kv_i | exact Kv_l | exact Kv_r Kq_n | exact Kv_r (Kq_s (Or.inr rfl)) | exact KSt_h hs | exact KSt_h (KSt_t hs) | exact KSt_h (KSt_t (KSt_t hs)) | exact KLo_get hl (by assumption) | exact Kv_fv hm | exact Kq_K (z4_5 (by assumption)) | exact Kq_K (z4_0 (by assumption)) | exact Kq_K (z4_a (by assumption)) | exact Kq_K (z4_1 (by assumption)) | exact Kv_r (hm _ _ _)))), by first | exact hm | exact KMe_mk hm | exact KMe_sR (Kv_q (KSt_h hs)) hm | exact KMe_add (Kv_q (KSt_h hs)) hm | exact KMe_ins (Kv_q (KSt_h hs)) hm | exact KMe_rem hm⟩
  | istore_n k =>
    obtain ⟨⟨rfl, hg⟩, hx1⟩ := gd_s (show am_gd _ _ = some _ from hx)
    obtain ⟨x, r, rfl, hx2⟩ := i1_s hx1
    obtain ⟨rfl, rfl, rfl, rfl⟩ := go_s hx2
    exact ⟨by first | exact hl | (first | refine KLo_s1 ?_ hl | refine KLo_s2 ?_ hl) <;> (first | exact Kv_i | exact Kv_l | exact Kv_r Kq_n | exact Kv_r (Kq_s (Or.inr rfl)) | exact KSt_h hs | exact KSt_h (KSt_t hs) | exact KSt_h (KSt_t (KSt_t hs)) | exact KLo_get hl (by assumption) | exact Kv_fv hm | exact Kq_K (z4_5 (by assumption)) | exact Kq_K (z4_0 (by assumption)) | exact Kq_K (z4_a (by assumption)) | exact Kq_K (z4_1 (by assumption)) | exact Kv_r (hm _ _ _)), by (repeat (first | (first | exact hs | exact KSt_t hs | exact KSt_t (KSt_t hs) | exact KSt_t (KSt_t (KSt_t hs)) | exact KSt_n) | refine KSt_c ?_ ?_ | (first | exact Kv_i | exact Kv_l | exact Kv_r Kq_n | exact Kv_r (Kq_s (Or.inr rfl)) | exact KSt_h hs | exact KSt_h (KSt_t hs) | exact KSt_h (KSt_t (KSt_t hs)) | exact KLo_get hl (by assumption) | exact Kv_fv hm | exact Kq_K (z4_5 (by assumption)) | exact Kq_K (z4_0 (by assumption)) | exact Kq_K (z4_a (by assumption)) | exact Kq_K (z4_1 (by assumption)) | exact Kv_r (hm _ _ _)))), by first | exact hm | exact KMe_mk hm | exact KMe_sR (Kv_q (KSt_h hs)) hm | exact KMe_add (Kv_q (KSt_h hs)) hm | exact KMe_ins (Kv_q (KSt_h hs)) hm | exact KMe_rem hm⟩
  | istore k =>
    obtain ⟨⟨rfl, hg⟩, hx1⟩ := gd_s (show am_gd _ _ = some _ from hx)
    obtain ⟨x, r, rfl, hx2⟩ := i1_s hx1
    obtain ⟨rfl, rfl, rfl, rfl⟩ := go_s hx2
    exact ⟨by first | exact hl | (first | refine KLo_s1 ?_ hl | refine KLo_s2 ?_ hl) <;> (first | exact Kv_i | exact Kv_l | exact Kv_r Kq_n | exact Kv_r (Kq_s (Or.inr rfl)) | exact KSt_h hs | exact KSt_h (KSt_t hs) | exact KSt_h (KSt_t (KSt_t hs)) | exact KLo_get hl (by assumption) | exact Kv_fv hm | exact Kq_K (z4_5 (by assumption)) | exact Kq_K (z4_0 (by assumption)) | exact Kq_K (z4_a (by assumption)) | exact Kq_K (z4_1 (by assumption)) | exact Kv_r (hm _ _ _)), by (repeat (first | (first | exact hs | exact KSt_t hs | exact KSt_t (KSt_t hs) | exact KSt_t (KSt_t (KSt_t hs)) | exact KSt_n) | refine KSt_c ?_ ?_ | (first | exact Kv_i | exact Kv_l | exact Kv_r Kq_n | exact Kv_r (Kq_s (Or.inr rfl)) | exact KSt_h hs | exact KSt_h (KSt_t hs) | exact KSt_h (KSt_t (KSt_t hs)) | exact KLo_get hl (by assumption) | exact Kv_fv hm | exact Kq_K (z4_5 (by assumption)) | exact Kq_K (z4_0 (by assumption)) | exact Kq_K (z4_a (by assumption)) | exact Kq_K (z4_1 (by assumption)) | exact Kv_r (hm _ _ _)))), by first | exact hm | exact KMe_mk hm | exact KMe_sR (Kv_q (KSt_h hs)) hm | exact KMe_add (Kv_q (KSt_h hs)) hm | exact KMe_ins (Kv_q (KSt_h hs)) hm | exact KMe_rem hm⟩
  | lstore_n k =>
    obtain ⟨⟨rfl, hg⟩, hx1⟩ := gd_s (show am_gd _ _ = some _ from hx)
    obtain ⟨x, r, rfl, hx2⟩ := l1_s hx1
    obtain ⟨rfl, rfl, rfl, rfl⟩ := go_s hx2
    exact ⟨by first | exact hl | (first | refine KLo_s1 ?_ hl | refine KLo_s2 ?_ hl) <;> (first | exact Kv_i | exact Kv_l | exact Kv_r Kq_n | exact Kv_r (Kq_s (Or.inr rfl)) | exact KSt_h hs | exact KSt_h (KSt_t hs) | exact KSt_h (KSt_t (KSt_t hs)) | exact KLo_get hl (by assumption) | exact Kv_fv hm | exact Kq_K (z4_5 (by assumption)) | exact Kq_K (z4_0 (by assumption)) | exact Kq_K (z4_a (by assumption)) | exact Kq_K (z4_1 (by assumption)) | exact Kv_r (hm _ _ _)), by (repeat (first | (first | exact hs | exact KSt_t hs | exact KSt_t (KSt_t hs) | exact KSt_t (KSt_t (KSt_t hs)) | exact KSt_n) | refine KSt_c ?_ ?_ | (first | exact Kv_i | exact Kv_l | exact Kv_r Kq_n | exact Kv_r (Kq_s (Or.inr rfl)) | exact KSt_h hs | exact KSt_h (KSt_t hs) | exact KSt_h (KSt_t (KSt_t hs)) | exact KLo_get hl (by assumption) | exact Kv_fv hm | exact Kq_K (z4_5 (by assumption)) | exact Kq_K (z4_0 (by assumption)) | exact Kq_K (z4_a (by assumption)) | exact Kq_K (z4_1 (by assumption)) | exact Kv_r (hm _ _ _)))), by first | exact hm | exact KMe_mk hm | exact KMe_sR (Kv_q (KSt_h hs)) hm | exact KMe_add (Kv_q (KSt_h hs)) hm | exact KMe_ins (Kv_q (KSt_h hs)) hm | exact KMe_rem hm⟩
  | lstore k =>
    obtain ⟨⟨rfl, hg⟩, hx1⟩ := gd_s (show am_gd _ _ = some _ from hx)
    obtain ⟨x, r, rfl, hx2⟩ := l1_s hx1
    obtain ⟨rfl, rfl, rfl, rfl⟩ := go_s hx2
    exact ⟨by first | exact hl | (first | refine KLo_s1 ?_ hl | refine KLo_s2 ?_ hl) <;> (first | exact Kv_i | exact Kv_l | exact Kv_r Kq_n | exact Kv_r (Kq_s (Or.inr rfl)) | exact KSt_h hs | exact KSt_h (KSt_t hs) | exact KSt_h (KSt_t (KSt_t hs)) | exact KLo_get hl (by assumption) | exact Kv_fv hm | exact Kq_K (z4_5 (by assumption)) | exact Kq_K (z4_0 (by assumption)) | exact Kq_K (z4_a (by assumption)) | exact Kq_K (z4_1 (by assumption)) | exact Kv_r (hm _ _ _)), by (repeat (first | (first | exact hs | exact KSt_t hs | exact KSt_t (KSt_t hs) | exact KSt_t (KSt_t (KSt_t hs)) | exact KSt_n) | refine KSt_c ?_ ?_ | (first | exact Kv_i | exact Kv_l | exact Kv_r Kq_n | exact Kv_r (Kq_s (Or.inr rfl)) | exact KSt_h hs | exact KSt_h (KSt_t hs) | exact KSt_h (KSt_t (KSt_t hs)) | exact KLo_get hl (by assumption) | exact Kv_fv hm | exact Kq_K (z4_5 (by assumption)) | exact Kq_K (z4_0 (by assumption)) | exact Kq_K (z4_a (by assumption)) | exact Kq_K (z4_1 (by assumption)) | exact Kv_r (hm _ _ _)))), by first | exact hm | exact KMe_mk hm | exact KMe_sR (Kv_q (KSt_h hs)) hm | exact KMe_add (Kv_q (KSt_h hs)) hm | exact KMe_ins (Kv_q (KSt_h hs)) hm | exact KMe_rem hm⟩
  | astore_n k =>
    obtain ⟨⟨rfl, hg⟩, hx1⟩ := gd_s (show am_gd _ _ = some _ from hx)
    obtain ⟨x, r, rfl, hx2⟩ := rq_s hx1
    obtain ⟨rfl, rfl, rfl, rfl⟩ := go_s hx2
    exact ⟨by first | exact hl | (first | refine KLo_s1 ?_ hl | refine KLo_s2 ?_ hl) <;> (first | exact Kv_i | exact Kv_l | exact Kv_r Kq_n | exact Kv_r (Kq_s (Or.inr rfl)) | exact KSt_h hs | exact KSt_h (KSt_t hs) | exact KSt_h (KSt_t (KSt_t hs)) | exact KLo_get hl (by assumption) | exact Kv_fv hm | exact Kq_K (z4_5 (by assumption)) | exact Kq_K (z4_0 (by assumption)) | exact Kq_K (z4_a (by assumption)) | exact Kq_K (z4_1 (by assumption)) | exact Kv_r (hm _ _ _)), by (repeat (first | (first | exact hs | exact KSt_t hs | exact KSt_t (KSt_t hs) | exact KSt_t (KSt_t (KSt_t hs)) | exact KSt_n) | refine KSt_c ?_ ?_ | (first | exact Kv_i | exact Kv_l | exact Kv_r Kq_n | exact Kv_r (Kq_s (Or.inr rfl)) | exact KSt_h hs | exact KSt_h (KSt_t hs) | exact KSt_h (KSt_t (KSt_t hs)) | exact KLo_get hl (by assumption) | exact Kv_fv hm | exact Kq_K (z4_5 (by assumption)) | exact Kq_K (z4_0 (by assumption)) | exact Kq_K (z4_a (by assumption)) | exact Kq_K (z4_1 (by assumption)) | exact Kv_r (hm _ _ _)))), by first | exact hm | exact KMe_mk hm | exact KMe_sR (Kv_q (KSt_h hs)) hm | exact KMe_add (Kv_q (KSt_h hs)) hm | exact KMe_ins (Kv_q (KSt_h hs)) hm | exact KMe_rem hm⟩
  | astore k =>
    obtain ⟨⟨rfl, hg⟩, hx1⟩ := gd_s (show am_gd _ _ = some _ from hx)
    obtain ⟨x, r, rfl, hx2⟩ := rq_s hx1
    obtain ⟨rfl, rfl, rfl, rfl⟩ := go_s hx2
    exact ⟨by first | exact hl | (first | refine KLo_s1 ?_ hl | refine KLo_s2 ?_ hl) <;> (first | exact Kv_i | exact Kv_l | exact Kv_r Kq_n | exact Kv_r (Kq_s (Or.inr rfl)) | exact KSt_h hs | exact KSt_h (KSt_t hs) | exact KSt_h (KSt_t (KSt_t hs)) | exact KLo_get hl (by assumption) | exact Kv_fv hm | exact Kq_K (z4_5 (by assumption)) | exact Kq_K (z4_0 (by assumption)) | exact Kq_K (z4_a (by assumption)) | exact Kq_K (z4_1 (by assumption)) | exact Kv_r (hm _ _ _)), by (repeat (first | (first | exact hs | exact KSt_t hs | exact KSt_t (KSt_t hs) | exact KSt_t (KSt_t (KSt_t hs)) | exact KSt_n) | refine KSt_c ?_ ?_ | (first | exact Kv_i | exact Kv_l | exact Kv_r Kq_n | exact Kv_r (Kq_s (Or.inr rfl)) | exact KSt_h hs | exact KSt_h (KSt_t hs) | exact KSt_h (KSt_t (KSt_t hs)) | exact KLo_get hl (by assumption) | exact Kv_fv hm | exact Kq_K (z4_5 (by assumption)) | exact Kq_K (z4_0 (by assumption)) | exact Kq_K (z4_a (by assumption)) | exact Kq_K (z4_1 (by assumption)) | exact Kv_r (hm _ _ _)))), by first | exact hm | exact KMe_mk hm | exact KMe_sR (Kv_q (KSt_h hs)) hm | exact KMe_add (Kv_q (KSt_h hs)) hm | exact KMe_ins (Kv_q (KSt_h hs)) hm | exact KMe_rem hm⟩
  | iinc k n =>
    obtain ⟨⟨rfl, hg⟩, hx1⟩ := gd_s (show am_gd _ _ = some _ from hx)
    obtain ⟨x, hv, hx2⟩ := li0_s hx1
    obtain ⟨rfl, rfl, rfl, rfl⟩ := go_s hx2
    exact ⟨by first | exact hl | (first | refine KLo_s1 ?_ hl | refine KLo_s2 ?_ hl) <;> (first | exact Kv_i | exact Kv_l | exact Kv_r Kq_n | exact Kv_r (Kq_s (Or.inr rfl)) | exact KSt_h hs | exact KSt_h (KSt_t hs) | exact KSt_h (KSt_t (KSt_t hs)) | exact KLo_get hl (by assumption) | exact Kv_fv hm | exact Kq_K (z4_5 (by assumption)) | exact Kq_K (z4_0 (by assumption)) | exact Kq_K (z4_a (by assumption)) | exact Kq_K (z4_1 (by assumption)) | exact Kv_r (hm _ _ _)), by (repeat (first | (first | exact hs | exact KSt_t hs | exact KSt_t (KSt_t hs) | exact KSt_t (KSt_t (KSt_t hs)) | exact KSt_n) | refine KSt_c ?_ ?_ | (first | exact Kv_i | exact Kv_l | exact Kv_r Kq_n | exact Kv_r (Kq_s (Or.inr rfl)) | exact KSt_h hs | exact KSt_h (KSt_t hs) | exact KSt_h (KSt_t (KSt_t hs)) | exact KLo_get hl (by assumption) | exact Kv_fv hm | exact Kq_K (z4_5 (by assumption)) | exact Kq_K (z4_0 (by assumption)) | exact Kq_K (z4_a (by assumption)) | exact Kq_K (z4_1 (by assumption)) | exact Kv_r (hm _ _ _)))), by first | exact hm | exact KMe_mk hm | exact KMe_sR (Kv_q (KSt_h hs)) hm | exact KMe_add (Kv_q (KSt_h hs)) hm | exact KMe_ins (Kv_q (KSt_h hs)) hm | exact KMe_rem hm⟩
  | iadd =>
    obtain ⟨rfl, hx1⟩ := gd_s (show am_gd _ _ = some _ from hx)
    obtain ⟨a, b, r, rfl, hx2⟩ := i2_s hx1
    obtain ⟨rfl, rfl, rfl, rfl⟩ := go_s hx2
    exact ⟨by first | exact hl | (first | refine KLo_s1 ?_ hl | refine KLo_s2 ?_ hl) <;> (first | exact Kv_i | exact Kv_l | exact Kv_r Kq_n | exact Kv_r (Kq_s (Or.inr rfl)) | exact KSt_h hs | exact KSt_h (KSt_t hs) | exact KSt_h (KSt_t (KSt_t hs)) | exact KLo_get hl (by assumption) | exact Kv_fv hm | exact Kq_K (z4_5 (by assumption)) | exact Kq_K (z4_0 (by assumption)) | exact Kq_K (z4_a (by assumption)) | exact Kq_K (z4_1 (by assumption)) | exact Kv_r (hm _ _ _)), by (repeat (first | (first | exact hs | exact KSt_t hs | exact KSt_t (KSt_t hs) | exact KSt_t (KSt_t (KSt_t hs)) | exact KSt_n) | refine KSt_c ?_ ?_ | (first | exact Kv_i | exact Kv_l | exact Kv_r Kq_n | exact Kv_r (Kq_s (Or.inr rfl)) | exact KSt_h hs | exact KSt_h (KSt_t hs) | exact KSt_h (KSt_t (KSt_t hs)) | exact KLo_get hl (by assumption) | exact Kv_fv hm | exact Kq_K (z4_5 (by assumption)) | exact Kq_K (z4_0 (by assumption)) | exact Kq_K (z4_a (by assumption)) | exact Kq_K (z4_1 (by assumption)) | exact Kv_r (hm _ _ _)))), by first | exact hm | exact KMe_mk hm | exact KMe_sR (Kv_q (KSt_h hs)) hm | exact KMe_add (Kv_q (KSt_h hs)) hm | exact KMe_ins (Kv_q (KSt_h hs)) hm | exact KMe_rem hm⟩
  | isub =>
    obtain ⟨rfl, hx1⟩ := gd_s (show am_gd _ _ = some _ from hx)
    obtain ⟨a, b, r, rfl, hx2⟩ := i2_s hx1
    obtain ⟨rfl, rfl, rfl, rfl⟩ := go_s hx2
    exact ⟨by first | exact hl | (first | refine KLo_s1 ?_ hl | refine KLo_s2 ?_ hl) <;> (first | exact Kv_i | exact Kv_l | exact Kv_r Kq_n | exact Kv_r (Kq_s (Or.inr rfl)) | exact KSt_h hs | exact KSt_h (KSt_t hs) | exact KSt_h (KSt_t (KSt_t hs)) | exact KLo_get hl (by assumption) | exact Kv_fv hm | exact Kq_K (z4_5 (by assumption)) | exact Kq_K (z4_0 (by assumption)) | exact Kq_K (z4_a (by assumption)) | exact Kq_K (z4_1 (by assumption)) | exact Kv_r (hm _ _ _)), by (repeat (first | (first | exact hs | exact KSt_t hs | exact KSt_t (KSt_t hs) | exact KSt_t (KSt_t (KSt_t hs)) | exact KSt_n) | refine KSt_c ?_ ?_ | (first | exact Kv_i | exact Kv_l | exact Kv_r Kq_n | exact Kv_r (Kq_s (Or.inr rfl)) | exact KSt_h hs | exact KSt_h (KSt_t hs) | exact KSt_h (KSt_t (KSt_t hs)) | exact KLo_get hl (by assumption) | exact Kv_fv hm | exact Kq_K (z4_5 (by assumption)) | exact Kq_K (z4_0 (by assumption)) | exact Kq_K (z4_a (by assumption)) | exact Kq_K (z4_1 (by assumption)) | exact Kv_r (hm _ _ _)))), by first | exact hm | exact KMe_mk hm | exact KMe_sR (Kv_q (KSt_h hs)) hm | exact KMe_add (Kv_q (KSt_h hs)) hm | exact KMe_ins (Kv_q (KSt_h hs)) hm | exact KMe_rem hm⟩
  | imul =>
    obtain ⟨rfl, hx1⟩ := gd_s (show am_gd _ _ = some _ from hx)
    obtain ⟨a, b, r, rfl, hx2⟩ := i2_s hx1
    obtain ⟨rfl, rfl, rfl, rfl⟩ := go_s hx2
    exact ⟨by first | exact hl | (first | refine KLo_s1 ?_ hl | refine KLo_s2 ?_ hl) <;> (first | exact Kv_i | exact Kv_l | exact Kv_r Kq_n | exact Kv_r (Kq_s (Or.inr rfl)) | exact KSt_h hs | exact KSt_h (KSt_t hs) | exact KSt_h (KSt_t (KSt_t hs)) | exact KLo_get hl (by assumption) | exact Kv_fv hm | exact Kq_K (z4_5 (by assumption)) | exact Kq_K (z4_0 (by assumption)) | exact Kq_K (z4_a (by assumption)) | exact Kq_K (z4_1 (by assumption)) | exact Kv_r (hm _ _ _)), by (repeat (first | (first | exact hs | exact KSt_t hs | exact KSt_t (KSt_t hs) | exact KSt_t (KSt_t (KSt_t hs)) | exact KSt_n) | refine KSt_c ?_ ?_ | (first | exact Kv_i | exact Kv_l | exact Kv_r Kq_n | exact Kv_r (Kq_s (Or.inr rfl)) | exact KSt_h hs | exact KSt_h (KSt_t hs) | exact KSt_h (KSt_t (KSt_t hs)) | exact KLo_get hl (by assumption) | exact Kv_fv hm | exact Kq_K (z4_5 (by assumption)) | exact Kq_K (z4_0 (by assumption)) | exact Kq_K (z4_a (by assumption)) | exact Kq_K (z4_1 (by assumption)) | exact Kv_r (hm _ _ _)))), by first | exact hm | exact KMe_mk hm | exact KMe_sR (Kv_q (KSt_h hs)) hm | exact KMe_add (Kv_q (KSt_h hs)) hm | exact KMe_ins (Kv_q (KSt_h hs)) hm | exact KMe_rem hm⟩
  | iand =>
    obtain ⟨rfl, hx1⟩ := gd_s (show am_gd _ _ = some _ from hx)
    obtain ⟨a, b, r, rfl, hx2⟩ := i2_s hx1
    obtain ⟨rfl, rfl, rfl, rfl⟩ := go_s hx2
    exact ⟨by first | exact hl | (first | refine KLo_s1 ?_ hl | refine KLo_s2 ?_ hl) <;> (first | exact Kv_i | exact Kv_l | exact Kv_r Kq_n | exact Kv_r (Kq_s (Or.inr rfl)) | exact KSt_h hs | exact KSt_h (KSt_t hs) | exact KSt_h (KSt_t (KSt_t hs)) | exact KLo_get hl (by assumption) | exact Kv_fv hm | exact Kq_K (z4_5 (by assumption)) | exact Kq_K (z4_0 (by assumption)) | exact Kq_K (z4_a (by assumption)) | exact Kq_K (z4_1 (by assumption)) | exact Kv_r (hm _ _ _)), by (repeat (first | (first | exact hs | exact KSt_t hs | exact KSt_t (KSt_t hs) | exact KSt_t (KSt_t (KSt_t hs)) | exact KSt_n) | refine KSt_c ?_ ?_ | (first | exact Kv_i | exact Kv_l | exact Kv_r Kq_n | exact Kv_r (Kq_s (Or.inr rfl)) | exact KSt_h hs | exact KSt_h (KSt_t hs) | exact KSt_h (KSt_t (KSt_t hs)) | exact KLo_get hl (by assumption) | exact Kv_fv hm | exact Kq_K (z4_5 (by assumption)) | exact Kq_K (z4_0 (by assumption)) | exact Kq_K (z4_a (by assumption)) | exact Kq_K (z4_1 (by assumption)) | exact Kv_r (hm _ _ _)))), by first | exact hm | exact KMe_mk hm | exact KMe_sR (Kv_q (KSt_h hs)) hm | exact KMe_add (Kv_q (KSt_h hs)) hm | exact KMe_ins (Kv_q (KSt_h hs)) hm | exact KMe_rem hm⟩
  | ior =>
    obtain ⟨rfl, hx1⟩ := gd_s (show am_gd _ _ = some _ from hx)
    obtain ⟨a, b, r, rfl, hx2⟩ := i2_s hx1
    obtain ⟨rfl, rfl, rfl, rfl⟩ := go_s hx2
    exact ⟨by first | exact hl | (first | refine KLo_s1 ?_ hl | refine KLo_s2 ?_ hl) <;> (first | exact Kv_i | exact Kv_l | exact Kv_r Kq_n | exact Kv_r (Kq_s (Or.inr rfl)) | exact KSt_h hs | exact KSt_h (KSt_t hs) | exact KSt_h (KSt_t (KSt_t hs)) | exact KLo_get hl (by assumption) | exact Kv_fv hm | exact Kq_K (z4_5 (by assumption)) | exact Kq_K (z4_0 (by assumption)) | exact Kq_K (z4_a (by assumption)) | exact Kq_K (z4_1 (by assumption)) | exact Kv_r (hm _ _ _)), by (repeat (first | (first | exact hs | exact KSt_t hs | exact KSt_t (KSt_t hs) | exact KSt_t (KSt_t (KSt_t hs)) | exact KSt_n) | refine KSt_c ?_ ?_ | (first | exact Kv_i | exact Kv_l | exact Kv_r Kq_n | exact Kv_r (Kq_s (Or.inr rfl)) | exact KSt_h hs | exact KSt_h (KSt_t hs) | exact KSt_h (KSt_t (KSt_t hs)) | exact KLo_get hl (by assumption) | exact Kv_fv hm | exact Kq_K (z4_5 (by assumption)) | exact Kq_K (z4_0 (by assumption)) | exact Kq_K (z4_a (by assumption)) | exact Kq_K (z4_1 (by assumption)) | exact Kv_r (hm _ _ _)))), by first | exact hm | exact KMe_mk hm | exact KMe_sR (Kv_q (KSt_h hs)) hm | exact KMe_add (Kv_q (KSt_h hs)) hm | exact KMe_ins (Kv_q (KSt_h hs)) hm | exact KMe_rem hm⟩
  | ixor =>
    obtain ⟨rfl, hx1⟩ := gd_s (show am_gd _ _ = some _ from hx)
    obtain ⟨a, b, r, rfl, hx2⟩ := i2_s hx1
    obtain ⟨rfl, rfl, rfl, rfl⟩ := go_s hx2
    exact ⟨by first | exact hl | (first | refine KLo_s1 ?_ hl | refine KLo_s2 ?_ hl) <;> (first | exact Kv_i | exact Kv_l | exact Kv_r Kq_n | exact Kv_r (Kq_s (Or.inr rfl)) | exact KSt_h hs | exact KSt_h (KSt_t hs) | exact KSt_h (KSt_t (KSt_t hs)) | exact KLo_get hl (by assumption) | exact Kv_fv hm | exact Kq_K (z4_5 (by assumption)) | exact Kq_K (z4_0 (by assumption)) | exact Kq_K (z4_a (by assumption)) | exact Kq_K (z4_1 (by assumption)) | exact Kv_r (hm _ _ _)), by (repeat (first | (first | exact hs | exact KSt_t hs | exact KSt_t (KSt_t hs) | exact KSt_t (KSt_t (KSt_t hs)) | exact KSt_n) | refine KSt_c ?_ ?_ | (first | exact Kv_i | exact Kv_l | exact Kv_r Kq_n | exact Kv_r (Kq_s (Or.inr rfl)) | exact KSt_h hs | exact KSt_h (KSt_t hs) | exact KSt_h (KSt_t (KSt_t hs)) | exact KLo_get hl (by assumption) | exact Kv_fv hm | exact Kq_K (z4_5 (by assumption)) | exact Kq_K (z4_0 (by assumption)) | exact Kq_K (z4_a (by assumption)) | exact Kq_K (z4_1 (by assumption)) | exact Kv_r (hm _ _ _)))), by first | exact hm | exact KMe_mk hm | exact KMe_sR (Kv_q (KSt_h hs)) hm | exact KMe_add (Kv_q (KSt_h hs)) hm | exact KMe_ins (Kv_q (KSt_h hs)) hm | exact KMe_rem hm⟩
  | ishl =>
    obtain ⟨rfl, hx1⟩ := gd_s (show am_gd _ _ = some _ from hx)
    obtain ⟨a, b, r, rfl, hx2⟩ := i2_s hx1
    obtain ⟨rfl, rfl, rfl, rfl⟩ := go_s hx2
    exact ⟨by first | exact hl | (first | refine KLo_s1 ?_ hl | refine KLo_s2 ?_ hl) <;> (first | exact Kv_i | exact Kv_l | exact Kv_r Kq_n | exact Kv_r (Kq_s (Or.inr rfl)) | exact KSt_h hs | exact KSt_h (KSt_t hs) | exact KSt_h (KSt_t (KSt_t hs)) | exact KLo_get hl (by assumption) | exact Kv_fv hm | exact Kq_K (z4_5 (by assumption)) | exact Kq_K (z4_0 (by assumption)) | exact Kq_K (z4_a (by assumption)) | exact Kq_K (z4_1 (by assumption)) | exact Kv_r (hm _ _ _)), by (repeat (first | (first | exact hs | exact KSt_t hs | exact KSt_t (KSt_t hs) | exact KSt_t (KSt_t (KSt_t hs)) | exact KSt_n) | refine KSt_c ?_ ?_ | (first | exact Kv_i | exact Kv_l | exact Kv_r Kq_n | exact Kv_r (Kq_s (Or.inr rfl)) | exact KSt_h hs | exact KSt_h (KSt_t hs) | exact KSt_h (KSt_t (KSt_t hs)) | exact KLo_get hl (by assumption) | exact Kv_fv hm | exact Kq_K (z4_5 (by assumption)) | exact Kq_K (z4_0 (by assumption)) | exact Kq_K (z4_a (by assumption)) | exact Kq_K (z4_1 (by assumption)) | exact Kv_r (hm _ _ _)))), by first | exact hm | exact KMe_mk hm | exact KMe_sR (Kv_q (KSt_h hs)) hm | exact KMe_add (Kv_q (KSt_h hs)) hm | exact KMe_ins (Kv_q (KSt_h hs)) hm | exact KMe_rem hm⟩
  | ishr =>
    obtain ⟨rfl, hx1⟩ := gd_s (show am_gd _ _ = some _ from hx)
    obtain ⟨a, b, r, rfl, hx2⟩ := i2_s hx1
    obtain ⟨rfl, rfl, rfl, rfl⟩ := go_s hx2
    exact ⟨by first | exact hl | (first | refine KLo_s1 ?_ hl | refine KLo_s2 ?_ hl) <;> (first | exact Kv_i | exact Kv_l | exact Kv_r Kq_n | exact Kv_r (Kq_s (Or.inr rfl)) | exact KSt_h hs | exact KSt_h (KSt_t hs) | exact KSt_h (KSt_t (KSt_t hs)) | exact KLo_get hl (by assumption) | exact Kv_fv hm | exact Kq_K (z4_5 (by assumption)) | exact Kq_K (z4_0 (by assumption)) | exact Kq_K (z4_a (by assumption)) | exact Kq_K (z4_1 (by assumption)) | exact Kv_r (hm _ _ _)), by (repeat (first | (first | exact hs | exact KSt_t hs | exact KSt_t (KSt_t hs) | exact KSt_t (KSt_t (KSt_t hs)) | exact KSt_n) | refine KSt_c ?_ ?_ | (first | exact Kv_i | exact Kv_l | exact Kv_r Kq_n | exact Kv_r (Kq_s (Or.inr rfl)) | exact KSt_h hs | exact KSt_h (KSt_t hs) | exact KSt_h (KSt_t (KSt_t hs)) | exact KLo_get hl (by assumption) | exact Kv_fv hm | exact Kq_K (z4_5 (by assumption)) | exact Kq_K (z4_0 (by assumption)) | exact Kq_K (z4_a (by assumption)) | exact Kq_K (z4_1 (by assumption)) | exact Kv_r (hm _ _ _)))), by first | exact hm | exact KMe_mk hm | exact KMe_sR (Kv_q (KSt_h hs)) hm | exact KMe_add (Kv_q (KSt_h hs)) hm | exact KMe_ins (Kv_q (KSt_h hs)) hm | exact KMe_rem hm⟩
  | iushr =>
    obtain ⟨rfl, hx1⟩ := gd_s (show am_gd _ _ = some _ from hx)
    obtain ⟨a, b, r, rfl, hx2⟩ := i2_s hx1
    obtain ⟨rfl, rfl, rfl, rfl⟩ := go_s hx2
    exact ⟨by first | exact hl | (first | refine KLo_s1 ?_ hl | refine KLo_s2 ?_ hl) <;> (first | exact Kv_i | exact Kv_l | exact Kv_r Kq_n | exact Kv_r (Kq_s (Or.inr rfl)) | exact KSt_h hs | exact KSt_h (KSt_t hs) | exact KSt_h (KSt_t (KSt_t hs)) | exact KLo_get hl (by assumption) | exact Kv_fv hm | exact Kq_K (z4_5 (by assumption)) | exact Kq_K (z4_0 (by assumption)) | exact Kq_K (z4_a (by assumption)) | exact Kq_K (z4_1 (by assumption)) | exact Kv_r (hm _ _ _)), by (repeat (first | (first | exact hs | exact KSt_t hs | exact KSt_t (KSt_t hs) | exact KSt_t (KSt_t (KSt_t hs)) | exact KSt_n) | refine KSt_c ?_ ?_ | (first | exact Kv_i | exact Kv_l | exact Kv_r Kq_n | exact Kv_r (Kq_s (Or.inr rfl)) | exact KSt_h hs | exact KSt_h (KSt_t hs) | exact KSt_h (KSt_t (KSt_t hs)) | exact KLo_get hl (by assumption) | exact Kv_fv hm | exact Kq_K (z4_5 (by assumption)) | exact Kq_K (z4_0 (by assumption)) | exact Kq_K (z4_a (by assumption)) | exact Kq_K (z4_1 (by assumption)) | exact Kv_r (hm _ _ _)))), by first | exact hm | exact KMe_mk hm | exact KMe_sR (Kv_q (KSt_h hs)) hm | exact KMe_add (Kv_q (KSt_h hs)) hm | exact KMe_ins (Kv_q (KSt_h hs)) hm | exact KMe_rem hm⟩
  | idiv =>
    obtain ⟨rfl, hx1⟩ := gd_s (show am_gd _ _ = some _ from hx)
    obtain ⟨a, b, r, rfl, hx2⟩ := i2_s hx1
    obtain ⟨hn, hx3⟩ := gd_s hx2
    obtain ⟨rfl, rfl, rfl, rfl⟩ := go_s hx3
    exact ⟨by first | exact hl | (first | refine KLo_s1 ?_ hl | refine KLo_s2 ?_ hl) <;> (first | exact Kv_i | exact Kv_l | exact Kv_r Kq_n | exact Kv_r (Kq_s (Or.inr rfl)) | exact KSt_h hs | exact KSt_h (KSt_t hs) | exact KSt_h (KSt_t (KSt_t hs)) | exact KLo_get hl (by assumption) | exact Kv_fv hm | exact Kq_K (z4_5 (by assumption)) | exact Kq_K (z4_0 (by assumption)) | exact Kq_K (z4_a (by assumption)) | exact Kq_K (z4_1 (by assumption)) | exact Kv_r (hm _ _ _)), by (repeat (first | (first | exact hs | exact KSt_t hs | exact KSt_t (KSt_t hs) | exact KSt_t (KSt_t (KSt_t hs)) | exact KSt_n) | refine KSt_c ?_ ?_ | (first | exact Kv_i | exact Kv_l | exact Kv_r Kq_n | exact Kv_r (Kq_s (Or.inr rfl)) | exact KSt_h hs | exact KSt_h (KSt_t hs) | exact KSt_h (KSt_t (KSt_t hs)) | exact KLo_get hl (by assumption) | exact Kv_fv hm | exact Kq_K (z4_5 (by assumption)) | exact Kq_K (z4_0 (by assumption)) | exact Kq_K (z4_a (by assumption)) | exact Kq_K (z4_1 (by assumption)) | exact Kv_r (hm _ _ _)))), by first | exact hm | exact KMe_mk hm | exact KMe_sR (Kv_q (KSt_h hs)) hm | exact KMe_add (Kv_q (KSt_h hs)) hm | exact KMe_ins (Kv_q (KSt_h hs)) hm | exact KMe_rem hm⟩
  | irem =>
    obtain ⟨rfl, hx1⟩ := gd_s (show am_gd _ _ = some _ from hx)
    obtain ⟨a, b, r, rfl, hx2⟩ := i2_s hx1
    obtain ⟨hn, hx3⟩ := gd_s hx2
    obtain ⟨rfl, rfl, rfl, rfl⟩ := go_s hx3
    exact ⟨by first | exact hl | (first | refine KLo_s1 ?_ hl | refine KLo_s2 ?_ hl) <;> (first | exact Kv_i | exact Kv_l | exact Kv_r Kq_n | exact Kv_r (Kq_s (Or.inr rfl)) | exact KSt_h hs | exact KSt_h (KSt_t hs) | exact KSt_h (KSt_t (KSt_t hs)) | exact KLo_get hl (by assumption) | exact Kv_fv hm | exact Kq_K (z4_5 (by assumption)) | exact Kq_K (z4_0 (by assumption)) | exact Kq_K (z4_a (by assumption)) | exact Kq_K (z4_1 (by assumption)) | exact Kv_r (hm _ _ _)), by (repeat (first | (first | exact hs | exact KSt_t hs | exact KSt_t (KSt_t hs) | exact KSt_t (KSt_t (KSt_t hs)) | exact KSt_n) | refine KSt_c ?_ ?_ | (first | exact Kv_i | exact Kv_l | exact Kv_r Kq_n | exact Kv_r (Kq_s (Or.inr rfl)) | exact KSt_h hs | exact KSt_h (KSt_t hs) | exact KSt_h (KSt_t (KSt_t hs)) | exact KLo_get hl (by assumption) | exact Kv_fv hm | exact Kq_K (z4_5 (by assumption)) | exact Kq_K (z4_0 (by assumption)) | exact Kq_K (z4_a (by assumption)) | exact Kq_K (z4_1 (by assumption)) | exact Kv_r (hm _ _ _)))), by first | exact hm | exact KMe_mk hm | exact KMe_sR (Kv_q (KSt_h hs)) hm | exact KMe_add (Kv_q (KSt_h hs)) hm | exact KMe_ins (Kv_q (KSt_h hs)) hm | exact KMe_rem hm⟩
  | ladd =>
    obtain ⟨rfl, hx1⟩ := gd_s (show am_gd _ _ = some _ from hx)
    obtain ⟨a, b, r, rfl, hx2⟩ := l2_s hx1
    obtain ⟨rfl, rfl, rfl, rfl⟩ := go_s hx2
    exact ⟨by first | exact hl | (first | refine KLo_s1 ?_ hl | refine KLo_s2 ?_ hl) <;> (first | exact Kv_i | exact Kv_l | exact Kv_r Kq_n | exact Kv_r (Kq_s (Or.inr rfl)) | exact KSt_h hs | exact KSt_h (KSt_t hs) | exact KSt_h (KSt_t (KSt_t hs)) | exact KLo_get hl (by assumption) | exact Kv_fv hm | exact Kq_K (z4_5 (by assumption)) | exact Kq_K (z4_0 (by assumption)) | exact Kq_K (z4_a (by assumption)) | exact Kq_K (z4_1 (by assumption)) | exact Kv_r (hm _ _ _)), by (repeat (first | (first | exact hs | exact KSt_t hs | exact KSt_t (KSt_t hs) | exact KSt_t (KSt_t (KSt_t hs)) | exact KSt_n) | refine KSt_c ?_ ?_ | (first | exact Kv_i | exact Kv_l | exact Kv_r Kq_n | exact Kv_r (Kq_s (Or.inr rfl)) | exact KSt_h hs | exact KSt_h (KSt_t hs) | exact KSt_h (KSt_t (KSt_t hs)) | exact KLo_get hl (by assumption) | exact Kv_fv hm | exact Kq_K (z4_5 (by assumption)) | exact Kq_K (z4_0 (by assumption)) | exact Kq_K (z4_a (by assumption)) | exact Kq_K (z4_1 (by assumption)) | exact Kv_r (hm _ _ _)))), by first | exact hm | exact KMe_mk hm | exact KMe_sR (Kv_q (KSt_h hs)) hm | exact KMe_add (Kv_q (KSt_h hs)) hm | exact KMe_ins (Kv_q (KSt_h hs)) hm | exact KMe_rem hm⟩
  | lsub =>
    obtain ⟨rfl, hx1⟩ := gd_s (show am_gd _ _ = some _ from hx)
    obtain ⟨a, b, r, rfl, hx2⟩ := l2_s hx1
    obtain ⟨rfl, rfl, rfl, rfl⟩ := go_s hx2
    exact ⟨by first | exact hl | (first | refine KLo_s1 ?_ hl | refine KLo_s2 ?_ hl) <;> (first | exact Kv_i | exact Kv_l | exact Kv_r Kq_n | exact Kv_r (Kq_s (Or.inr rfl)) | exact KSt_h hs | exact KSt_h (KSt_t hs) | exact KSt_h (KSt_t (KSt_t hs)) | exact KLo_get hl (by assumption) | exact Kv_fv hm | exact Kq_K (z4_5 (by assumption)) | exact Kq_K (z4_0 (by assumption)) | exact Kq_K (z4_a (by assumption)) | exact Kq_K (z4_1 (by assumption)) | exact Kv_r (hm _ _ _)), by (repeat (first | (first | exact hs | exact KSt_t hs | exact KSt_t (KSt_t hs) | exact KSt_t (KSt_t (KSt_t hs)) | exact KSt_n) | refine KSt_c ?_ ?_ | (first | exact Kv_i | exact Kv_l | exact Kv_r Kq_n | exact Kv_r (Kq_s (Or.inr rfl)) | exact KSt_h hs | exact KSt_h (KSt_t hs) | exact KSt_h (KSt_t (KSt_t hs)) | exact KLo_get hl (by assumption) | exact Kv_fv hm | exact Kq_K (z4_5 (by assumption)) | exact Kq_K (z4_0 (by assumption)) | exact Kq_K (z4_a (by assumption)) | exact Kq_K (z4_1 (by assumption)) | exact Kv_r (hm _ _ _)))), by first | exact hm | exact KMe_mk hm | exact KMe_sR (Kv_q (KSt_h hs)) hm | exact KMe_add (Kv_q (KSt_h hs)) hm | exact KMe_ins (Kv_q (KSt_h hs)) hm | exact KMe_rem hm⟩
  | lmul =>
    obtain ⟨rfl, hx1⟩ := gd_s (show am_gd _ _ = some _ from hx)
    obtain ⟨a, b, r, rfl, hx2⟩ := l2_s hx1
    obtain ⟨rfl, rfl, rfl, rfl⟩ := go_s hx2
    exact ⟨by first | exact hl | (first | refine KLo_s1 ?_ hl | refine KLo_s2 ?_ hl) <;> (first | exact Kv_i | exact Kv_l | exact Kv_r Kq_n | exact Kv_r (Kq_s (Or.inr rfl)) | exact KSt_h hs | exact KSt_h (KSt_t hs) | exact KSt_h (KSt_t (KSt_t hs)) | exact KLo_get hl (by assumption) | exact Kv_fv hm | exact Kq_K (z4_5 (by assumption)) | exact Kq_K (z4_0 (by assumption)) | exact Kq_K (z4_a (by assumption)) | exact Kq_K (z4_1 (by assumption)) | exact Kv_r (hm _ _ _)), by (repeat (first | (first | exact hs | exact KSt_t hs | exact KSt_t (KSt_t hs) | exact KSt_t (KSt_t (KSt_t hs)) | exact KSt_n) | refine KSt_c ?_ ?_ | (first | exact Kv_i | exact Kv_l | exact Kv_r Kq_n | exact Kv_r (Kq_s (Or.inr rfl)) | exact KSt_h hs | exact KSt_h (KSt_t hs) | exact KSt_h (KSt_t (KSt_t hs)) | exact KLo_get hl (by assumption) | exact Kv_fv hm | exact Kq_K (z4_5 (by assumption)) | exact Kq_K (z4_0 (by assumption)) | exact Kq_K (z4_a (by assumption)) | exact Kq_K (z4_1 (by assumption)) | exact Kv_r (hm _ _ _)))), by first | exact hm | exact KMe_mk hm | exact KMe_sR (Kv_q (KSt_h hs)) hm | exact KMe_add (Kv_q (KSt_h hs)) hm | exact KMe_ins (Kv_q (KSt_h hs)) hm | exact KMe_rem hm⟩
  | land =>
    obtain ⟨rfl, hx1⟩ := gd_s (show am_gd _ _ = some _ from hx)
    obtain ⟨a, b, r, rfl, hx2⟩ := l2_s hx1
    obtain ⟨rfl, rfl, rfl, rfl⟩ := go_s hx2
    exact ⟨by first | exact hl | (first | refine KLo_s1 ?_ hl | refine KLo_s2 ?_ hl) <;> (first | exact Kv_i | exact Kv_l | exact Kv_r Kq_n | exact Kv_r (Kq_s (Or.inr rfl)) | exact KSt_h hs | exact KSt_h (KSt_t hs) | exact KSt_h (KSt_t (KSt_t hs)) | exact KLo_get hl (by assumption) | exact Kv_fv hm | exact Kq_K (z4_5 (by assumption)) | exact Kq_K (z4_0 (by assumption)) | exact Kq_K (z4_a (by assumption)) | exact Kq_K (z4_1 (by assumption)) | exact Kv_r (hm _ _ _)), by (repeat (first | (first | exact hs | exact KSt_t hs | exact KSt_t (KSt_t hs) | exact KSt_t (KSt_t (KSt_t hs)) | exact KSt_n) | refine KSt_c ?_ ?_ | (first | exact Kv_i | exact Kv_l | exact Kv_r Kq_n | exact Kv_r (Kq_s (Or.inr rfl)) | exact KSt_h hs | exact KSt_h (KSt_t hs) | exact KSt_h (KSt_t (KSt_t hs)) | exact KLo_get hl (by assumption) | exact Kv_fv hm | exact Kq_K (z4_5 (by assumption)) | exact Kq_K (z4_0 (by assumption)) | exact Kq_K (z4_a (by assumption)) | exact Kq_K (z4_1 (by assumption)) | exact Kv_r (hm _ _ _)))), by first | exact hm | exact KMe_mk hm | exact KMe_sR (Kv_q (KSt_h hs)) hm | exact KMe_add (Kv_q (KSt_h hs)) hm | exact KMe_ins (Kv_q (KSt_h hs)) hm | exact KMe_rem hm⟩
  | lor =>
    obtain ⟨rfl, hx1⟩ := gd_s (show am_gd _ _ = some _ from hx)
    obtain ⟨a, b, r, rfl, hx2⟩ := l2_s hx1
    obtain ⟨rfl, rfl, rfl, rfl⟩ := go_s hx2
    exact ⟨by first | exact hl | (first | refine KLo_s1 ?_ hl | refine KLo_s2 ?_ hl) <;> (first | exact Kv_i | exact Kv_l | exact Kv_r Kq_n | exact Kv_r (Kq_s (Or.inr rfl)) | exact KSt_h hs | exact KSt_h (KSt_t hs) | exact KSt_h (KSt_t (KSt_t hs)) | exact KLo_get hl (by assumption) | exact Kv_fv hm | exact Kq_K (z4_5 (by assumption)) | exact Kq_K (z4_0 (by assumption)) | exact Kq_K (z4_a (by assumption)) | exact Kq_K (z4_1 (by assumption)) | exact Kv_r (hm _ _ _)), by (repeat (first | (first | exact hs | exact KSt_t hs | exact KSt_t (KSt_t hs) | exact KSt_t (KSt_t (KSt_t hs)) | exact KSt_n) | refine KSt_c ?_ ?_ | (first | exact Kv_i | exact Kv_l | exact Kv_r Kq_n | exact Kv_r (Kq_s (Or.inr rfl)) | exact KSt_h hs | exact KSt_h (KSt_t hs) | exact KSt_h (KSt_t (KSt_t hs)) | exact KLo_get hl (by assumption) | exact Kv_fv hm | exact Kq_K (z4_5 (by assumption)) | exact Kq_K (z4_0 (by assumption)) | exact Kq_K (z4_a (by assumption)) | exact Kq_K (z4_1 (by assumption)) | exact Kv_r (hm _ _ _)))), by first | exact hm | exact KMe_mk hm | exact KMe_sR (Kv_q (KSt_h hs)) hm | exact KMe_add (Kv_q (KSt_h hs)) hm | exact KMe_ins (Kv_q (KSt_h hs)) hm | exact KMe_rem hm⟩
  | lcmp =>
    obtain ⟨rfl, hx1⟩ := gd_s (show am_gd _ _ = some _ from hx)
    obtain ⟨a, b, r, rfl, hx2⟩ := l2_s hx1
    obtain ⟨rfl, rfl, rfl, rfl⟩ := go_s hx2
    exact ⟨by first | exact hl | (first | refine KLo_s1 ?_ hl | refine KLo_s2 ?_ hl) <;> (first | exact Kv_i | exact Kv_l | exact Kv_r Kq_n | exact Kv_r (Kq_s (Or.inr rfl)) | exact KSt_h hs | exact KSt_h (KSt_t hs) | exact KSt_h (KSt_t (KSt_t hs)) | exact KLo_get hl (by assumption) | exact Kv_fv hm | exact Kq_K (z4_5 (by assumption)) | exact Kq_K (z4_0 (by assumption)) | exact Kq_K (z4_a (by assumption)) | exact Kq_K (z4_1 (by assumption)) | exact Kv_r (hm _ _ _)), by (repeat (first | (first | exact hs | exact KSt_t hs | exact KSt_t (KSt_t hs) | exact KSt_t (KSt_t (KSt_t hs)) | exact KSt_n) | refine KSt_c ?_ ?_ | (first | exact Kv_i | exact Kv_l | exact Kv_r Kq_n | exact Kv_r (Kq_s (Or.inr rfl)) | exact KSt_h hs | exact KSt_h (KSt_t hs) | exact KSt_h (KSt_t (KSt_t hs)) | exact KLo_get hl (by assumption) | exact Kv_fv hm | exact Kq_K (z4_5 (by assumption)) | exact Kq_K (z4_0 (by assumption)) | exact Kq_K (z4_a (by assumption)) | exact Kq_K (z4_1 (by assumption)) | exact Kv_r (hm _ _ _)))), by first | exact hm | exact KMe_mk hm | exact KMe_sR (Kv_q (KSt_h hs)) hm | exact KMe_add (Kv_q (KSt_h hs)) hm | exact KMe_ins (Kv_q (KSt_h hs)) hm | exact KMe_rem hm⟩
  | ldiv =>
    obtain ⟨rfl, hx1⟩ := gd_s (show am_gd _ _ = some _ from hx)
    obtain ⟨a, b, r, rfl, hx2⟩ := l2_s hx1
    obtain ⟨hn, hx3⟩ := gd_s hx2
    obtain ⟨rfl, rfl, rfl, rfl⟩ := go_s hx3
    exact ⟨by first | exact hl | (first | refine KLo_s1 ?_ hl | refine KLo_s2 ?_ hl) <;> (first | exact Kv_i | exact Kv_l | exact Kv_r Kq_n | exact Kv_r (Kq_s (Or.inr rfl)) | exact KSt_h hs | exact KSt_h (KSt_t hs) | exact KSt_h (KSt_t (KSt_t hs)) | exact KLo_get hl (by assumption) | exact Kv_fv hm | exact Kq_K (z4_5 (by assumption)) | exact Kq_K (z4_0 (by assumption)) | exact Kq_K (z4_a (by assumption)) | exact Kq_K (z4_1 (by assumption)) | exact Kv_r (hm _ _ _)), by (repeat (first | (first | exact hs | exact KSt_t hs | exact KSt_t (KSt_t hs) | exact KSt_t (KSt_t (KSt_t hs)) | exact KSt_n) | refine KSt_c ?_ ?_ | (first | exact Kv_i | exact Kv_l | exact Kv_r Kq_n | exact Kv_r (Kq_s (Or.inr rfl)) | exact KSt_h hs | exact KSt_h (KSt_t hs) | exact KSt_h (KSt_t (KSt_t hs)) | exact KLo_get hl (by assumption) | exact Kv_fv hm | exact Kq_K (z4_5 (by assumption)) | exact Kq_K (z4_0 (by assumption)) | exact Kq_K (z4_a (by assumption)) | exact Kq_K (z4_1 (by assumption)) | exact Kv_r (hm _ _ _)))), by first | exact hm | exact KMe_mk hm | exact KMe_sR (Kv_q (KSt_h hs)) hm | exact KMe_add (Kv_q (KSt_h hs)) hm | exact KMe_ins (Kv_q (KSt_h hs)) hm | exact KMe_rem hm⟩
  | lshl =>
    obtain ⟨rfl, hx1⟩ := gd_s (show am_gd _ _ = some _ from hx)
    obtain ⟨a, b, r, rfl, hx2⟩ := li_s hx1
    obtain ⟨rfl, rfl, rfl, rfl⟩ := go_s hx2
    exact ⟨by first | exact hl | (first | refine KLo_s1 ?_ hl | refine KLo_s2 ?_ hl) <;> (first | exact Kv_i | exact Kv_l | exact Kv_r Kq_n | exact Kv_r (Kq_s (Or.inr rfl)) | exact KSt_h hs | exact KSt_h (KSt_t hs) | exact KSt_h (KSt_t (KSt_t hs)) | exact KLo_get hl (by assumption) | exact Kv_fv hm | exact Kq_K (z4_5 (by assumption)) | exact Kq_K (z4_0 (by assumption)) | exact Kq_K (z4_a (by assumption)) | exact Kq_K (z4_1 (by assumption)) | exact Kv_r (hm _ _ _)), by (repeat (first | (first | exact hs | exact KSt_t hs | exact KSt_t (KSt_t hs) | exact KSt_t (KSt_t (KSt_t hs)) | exact KSt_n) | refine KSt_c ?_ ?_ | (first | exact Kv_i | exact Kv_l | exact Kv_r Kq_n | exact Kv_r (Kq_s (Or.inr rfl)) | exact KSt_h hs | exact KSt_h (KSt_t hs) | exact KSt_h (KSt_t (KSt_t hs)) | exact KLo_get hl (by assumption) | exact Kv_fv hm | exact Kq_K (z4_5 (by assumption)) | exact Kq_K (z4_0 (by assumption)) | exact Kq_K (z4_a (by assumption)) | exact Kq_K (z4_1 (by assumption)) | exact Kv_r (hm _ _ _)))), by first | exact hm | exact KMe_mk hm | exact KMe_sR (Kv_q (KSt_h hs)) hm | exact KMe_add (Kv_q (KSt_h hs)) hm | exact KMe_ins (Kv_q (KSt_h hs)) hm | exact KMe_rem hm⟩
  | lshr =>
    obtain ⟨rfl, hx1⟩ := gd_s (show am_gd _ _ = some _ from hx)
    obtain ⟨a, b, r, rfl, hx2⟩ := li_s hx1
    obtain ⟨rfl, rfl, rfl, rfl⟩ := go_s hx2
    exact ⟨by first | exact hl | (first | refine KLo_s1 ?_ hl | refine KLo_s2 ?_ hl) <;> (first | exact Kv_i | exact Kv_l | exact Kv_r Kq_n | exact Kv_r (Kq_s (Or.inr rfl)) | exact KSt_h hs | exact KSt_h (KSt_t hs) | exact KSt_h (KSt_t (KSt_t hs)) | exact KLo_get hl (by assumption) | exact Kv_fv hm | exact Kq_K (z4_5 (by assumption)) | exact Kq_K (z4_0 (by assumption)) | exact Kq_K (z4_a (by assumption)) | exact Kq_K (z4_1 (by assumption)) | exact Kv_r (hm _ _ _)), by (repeat (first | (first | exact hs | exact KSt_t hs | exact KSt_t (KSt_t hs) | exact KSt_t (KSt_t (KSt_t hs)) | exact KSt_n) | refine KSt_c ?_ ?_ | (first | exact Kv_i | exact Kv_l | exact Kv_r Kq_n | exact Kv_r (Kq_s (Or.inr rfl)) | exact KSt_h hs | exact KSt_h (KSt_t hs) | exact KSt_h (KSt_t (KSt_t hs)) | exact KLo_get hl (by assumption) | exact Kv_fv hm | exact Kq_K (z4_5 (by assumption)) | exact Kq_K (z4_0 (by assumption)) | exact Kq_K (z4_a (by assumption)) | exact Kq_K (z4_1 (by assumption)) | exact Kv_r (hm _ _ _)))), by first | exact hm | exact KMe_mk hm | exact KMe_sR (Kv_q (KSt_h hs)) hm | exact KMe_add (Kv_q (KSt_h hs)) hm | exact KMe_ins (Kv_q (KSt_h hs)) hm | exact KMe_rem hm⟩
  | i2l =>
    obtain ⟨rfl, hx1⟩ := gd_s (show am_gd _ _ = some _ from hx)
    obtain ⟨a, r, rfl, hx2⟩ := i1_s hx1
    obtain ⟨rfl, rfl, rfl, rfl⟩ := go_s hx2
    exact ⟨by first | exact hl | (first | refine KLo_s1 ?_ hl | refine KLo_s2 ?_ hl) <;> (first | exact Kv_i | exact Kv_l | exact Kv_r Kq_n | exact Kv_r (Kq_s (Or.inr rfl)) | exact KSt_h hs | exact KSt_h (KSt_t hs) | exact KSt_h (KSt_t (KSt_t hs)) | exact KLo_get hl (by assumption) | exact Kv_fv hm | exact Kq_K (z4_5 (by assumption)) | exact Kq_K (z4_0 (by assumption)) | exact Kq_K (z4_a (by assumption)) | exact Kq_K (z4_1 (by assumption)) | exact Kv_r (hm _ _ _)), by (repeat (first | (first | exact hs | exact KSt_t hs | exact KSt_t (KSt_t hs) | exact KSt_t (KSt_t (KSt_t hs)) | exact KSt_n) | refine KSt_c ?_ ?_ | (first | exact Kv_i | exact Kv_l | exact Kv_r Kq_n | exact Kv_r (Kq_s (Or.inr rfl)) | exact KSt_h hs | exact KSt_h (KSt_t hs) | exact KSt_h (KSt_t (KSt_t hs)) | exact KLo_get hl (by assumption) | exact Kv_fv hm | exact Kq_K (z4_5 (by assumption)) | exact Kq_K (z4_0 (by assumption)) | exact Kq_K (z4_a (by assumption)) | exact Kq_K (z4_1 (by assumption)) | exact Kv_r (hm _ _ _)))), by first | exact hm | exact KMe_mk hm | exact KMe_sR (Kv_q (KSt_h hs)) hm | exact KMe_add (Kv_q (KSt_h hs)) hm | exact KMe_ins (Kv_q (KSt_h hs)) hm | exact KMe_rem hm⟩
  | l2i =>
    obtain ⟨rfl, hx1⟩ := gd_s (show am_gd _ _ = some _ from hx)
    obtain ⟨a, r, rfl, hx2⟩ := l1_s hx1
    obtain ⟨rfl, rfl, rfl, rfl⟩ := go_s hx2
    exact ⟨by first | exact hl | (first | refine KLo_s1 ?_ hl | refine KLo_s2 ?_ hl) <;> (first | exact Kv_i | exact Kv_l | exact Kv_r Kq_n | exact Kv_r (Kq_s (Or.inr rfl)) | exact KSt_h hs | exact KSt_h (KSt_t hs) | exact KSt_h (KSt_t (KSt_t hs)) | exact KLo_get hl (by assumption) | exact Kv_fv hm | exact Kq_K (z4_5 (by assumption)) | exact Kq_K (z4_0 (by assumption)) | exact Kq_K (z4_a (by assumption)) | exact Kq_K (z4_1 (by assumption)) | exact Kv_r (hm _ _ _)), by (repeat (first | (first | exact hs | exact KSt_t hs | exact KSt_t (KSt_t hs) | exact KSt_t (KSt_t (KSt_t hs)) | exact KSt_n) | refine KSt_c ?_ ?_ | (first | exact Kv_i | exact Kv_l | exact Kv_r Kq_n | exact Kv_r (Kq_s (Or.inr rfl)) | exact KSt_h hs | exact KSt_h (KSt_t hs) | exact KSt_h (KSt_t (KSt_t hs)) | exact KLo_get hl (by assumption) | exact Kv_fv hm | exact Kq_K (z4_5 (by assumption)) | exact Kq_K (z4_0 (by assumption)) | exact Kq_K (z4_a (by assumption)) | exact Kq_K (z4_1 (by assumption)) | exact Kv_r (hm _ _ _)))), by first | exact hm | exact KMe_mk hm | exact KMe_sR (Kv_q (KSt_h hs)) hm | exact KMe_add (Kv_q (KSt_h hs)) hm | exact KMe_ins (Kv_q (KSt_h hs)) hm | exact KMe_rem hm⟩
  | i2b =>
    obtain ⟨rfl, hx1⟩ := gd_s (show am_gd _ _ = some _ from hx)
    obtain ⟨a, r, rfl, hx2⟩ := i1_s hx1
    obtain ⟨rfl, rfl, rfl, rfl⟩ := go_s hx2
    exact ⟨by first | exact hl | (first | refine KLo_s1 ?_ hl | refine KLo_s2 ?_ hl) <;> (first | exact Kv_i | exact Kv_l | exact Kv_r Kq_n | exact Kv_r (Kq_s (Or.inr rfl)) | exact KSt_h hs | exact KSt_h (KSt_t hs) | exact KSt_h (KSt_t (KSt_t hs)) | exact KLo_get hl (by assumption) | exact Kv_fv hm | exact Kq_K (z4_5 (by assumption)) | exact Kq_K (z4_0 (by assumption)) | exact Kq_K (z4_a (by assumption)) | exact Kq_K (z4_1 (by assumption)) | exact Kv_r (hm _ _ _)), by (repeat (first | (first | exact hs | exact KSt_t hs | exact KSt_t (KSt_t hs) | exact KSt_t (KSt_t (KSt_t hs)) | exact KSt_n) | refine KSt_c ?_ ?_ | (first | exact Kv_i | exact Kv_l | exact Kv_r Kq_n | exact Kv_r (Kq_s (Or.inr rfl)) | exact KSt_h hs | exact KSt_h (KSt_t hs) | exact KSt_h (KSt_t (KSt_t hs)) | exact KLo_get hl (by assumption) | exact Kv_fv hm | exact Kq_K (z4_5 (by assumption)) | exact Kq_K (z4_0 (by assumption)) | exact Kq_K (z4_a (by assumption)) | exact Kq_K (z4_1 (by assumption)) | exact Kv_r (hm _ _ _)))), by first | exact hm | exact KMe_mk hm | exact KMe_sR (Kv_q (KSt_h hs)) hm | exact KMe_add (Kv_q (KSt_h hs)) hm | exact KMe_ins (Kv_q (KSt_h hs)) hm | exact KMe_rem hm⟩
  | dup =>
    obtain ⟨rfl, hx1⟩ := gd_s (show am_gd _ _ = some _ from hx)
    split at hx1
    · obtain ⟨rfl, rfl, rfl, rfl⟩ := go_s hx1
      exact ⟨by first | exact hl | (first | refine KLo_s1 ?_ hl | refine KLo_s2 ?_ hl) <;> (first | exact Kv_i | exact Kv_l | exact Kv_r Kq_n | exact Kv_r (Kq_s (Or.inr rfl)) | exact KSt_h hs | exact KSt_h (KSt_t hs) | exact KSt_h (KSt_t (KSt_t hs)) | exact KLo_get hl (by assumption) | exact Kv_fv hm | exact Kq_K (z4_5 (by assumption)) | exact Kq_K (z4_0 (by assumption)) | exact Kq_K (z4_a (by assumption)) | exact Kq_K (z4_1 (by assumption)) | exact Kv_r (hm _ _ _)), by (repeat (first | (first | exact hs | exact KSt_t hs | exact KSt_t (KSt_t hs) | exact KSt_t (KSt_t (KSt_t hs)) | exact KSt_n) | refine KSt_c ?_ ?_ | (first | exact Kv_i | exact Kv_l | exact Kv_r Kq_n | exact Kv_r (Kq_s (Or.inr rfl)) | exact KSt_h hs | exact KSt_h (KSt_t hs) | exact KSt_h (KSt_t (KSt_t hs)) | exact KLo_get hl (by assumption) | exact Kv_fv hm | exact Kq_K (z4_5 (by assumption)) | exact Kq_K (z4_0 (by assumption)) | exact Kq_K (z4_a (by assumption)) | exact Kq_K (z4_1 (by assumption)) | exact Kv_r (hm _ _ _)))), by first | exact hm | exact KMe_mk hm | exact KMe_sR (Kv_q (KSt_h hs)) hm | exact KMe_add (Kv_q (KSt_h hs)) hm | exact KMe_ins (Kv_q (KSt_h hs)) hm | exact KMe_rem hm⟩
    · obtain ⟨rfl, rfl, rfl, rfl⟩ := go_s hx1
      exact ⟨by first | exact hl | (first | refine KLo_s1 ?_ hl | refine KLo_s2 ?_ hl) <;> (first | exact Kv_i | exact Kv_l | exact Kv_r Kq_n | exact Kv_r (Kq_s (Or.inr rfl)) | exact KSt_h hs | exact KSt_h (KSt_t hs) | exact KSt_h (KSt_t (KSt_t hs)) | exact KLo_get hl (by assumption) | exact Kv_fv hm | exact Kq_K (z4_5 (by assumption)) | exact Kq_K (z4_0 (by assumption)) | exact Kq_K (z4_a (by assumption)) | exact Kq_K (z4_1 (by assumption)) | exact Kv_r (hm _ _ _)), by (repeat (first | (first | exact hs | exact KSt_t hs | exact KSt_t (KSt_t hs) | exact KSt_t (KSt_t (KSt_t hs)) | exact KSt_n) | refine KSt_c ?_ ?_ | (first | exact Kv_i | exact Kv_l | exact Kv_r Kq_n | exact Kv_r (Kq_s (Or.inr rfl)) | exact KSt_h hs | exact KSt_h (KSt_t hs) | exact KSt_h (KSt_t (KSt_t hs)) | exact KLo_get hl (by assumption) | exact Kv_fv hm | exact Kq_K (z4_5 (by assumption)) | exact Kq_K (z4_0 (by assumption)) | exact Kq_K (z4_a (by assumption)) | exact Kq_K (z4_1 (by assumption)) | exact Kv_r (hm _ _ _)))), by first | exact hm | exact KMe_mk hm | exact KMe_sR (Kv_q (KSt_h hs)) hm | exact KMe_add (Kv_q (KSt_h hs)) hm | exact KMe_ins (Kv_q (KSt_h hs)) hm | exact KMe_rem hm⟩
    · cases hx1
  | pop =>
    obtain ⟨rfl, hx1⟩ := gd_s (show am_gd _ _ = some _ from hx)
    split at hx1
    · obtain ⟨rfl, rfl, rfl, rfl⟩ := go_s hx1
      exact ⟨by first | exact hl | (first | refine KLo_s1 ?_ hl | refine KLo_s2 ?_ hl) <;> (first | exact Kv_i | exact Kv_l | exact Kv_r Kq_n | exact Kv_r (Kq_s (Or.inr rfl)) | exact KSt_h hs | exact KSt_h (KSt_t hs) | exact KSt_h (KSt_t (KSt_t hs)) | exact KLo_get hl (by assumption) | exact Kv_fv hm | exact Kq_K (z4_5 (by assumption)) | exact Kq_K (z4_0 (by assumption)) | exact Kq_K (z4_a (by assumption)) | exact Kq_K (z4_1 (by assumption)) | exact Kv_r (hm _ _ _)), by (repeat (first | (first | exact hs | exact KSt_t hs | exact KSt_t (KSt_t hs) | exact KSt_t (KSt_t (KSt_t hs)) | exact KSt_n) | refine KSt_c ?_ ?_ | (first | exact Kv_i | exact Kv_l | exact Kv_r Kq_n | exact Kv_r (Kq_s (Or.inr rfl)) | exact KSt_h hs | exact KSt_h (KSt_t hs) | exact KSt_h (KSt_t (KSt_t hs)) | exact KLo_get hl (by assumption) | exact Kv_fv hm | exact Kq_K (z4_5 (by assumption)) | exact Kq_K (z4_0 (by assumption)) | exact Kq_K (z4_a (by assumption)) | exact Kq_K (z4_1 (by assumption)) | exact Kv_r (hm _ _ _)))), by first | exact hm | exact KMe_mk hm | exact KMe_sR (Kv_q (KSt_h hs)) hm | exact KMe_add (Kv_q (KSt_h hs)) hm | exact KMe_ins (Kv_q (KSt_h hs)) hm | exact KMe_rem hm⟩
    · obtain ⟨rfl, rfl, rfl, rfl⟩ := go_s hx1
      exact ⟨by first | exact hl | (first | refine KLo_s1 ?_ hl | refine KLo_s2 ?_ hl) <;> (first | exact Kv_i | exact Kv_l | exact Kv_r Kq_n | exact Kv_r (Kq_s (Or.inr rfl)) | exact KSt_h hs | exact KSt_h (KSt_t hs) | exact KSt_h (KSt_t (KSt_t hs)) | exact KLo_get hl (by assumption) | exact Kv_fv hm | exact Kq_K (z4_5 (by assumption)) | exact Kq_K (z4_0 (by assumption)) | exact Kq_K (z4_a (by assumption)) | exact Kq_K (z4_1 (by assumption)) | exact Kv_r (hm _ _ _)), by (repeat (first | (first | exact hs | exact KSt_t hs | exact KSt_t (KSt_t hs) | exact KSt_t (KSt_t (KSt_t hs)) | exact KSt_n) | refine KSt_c ?_ ?_ | (first | exact Kv_i | exact Kv_l | exact Kv_r Kq_n | exact Kv_r (Kq_s (Or.inr rfl)) | exact KSt_h hs | exact KSt_h (KSt_t hs) | exact KSt_h (KSt_t (KSt_t hs)) | exact KLo_get hl (by assumption) | exact Kv_fv hm | exact Kq_K (z4_5 (by assumption)) | exact Kq_K (z4_0 (by assumption)) | exact Kq_K (z4_a (by assumption)) | exact Kq_K (z4_1 (by assumption)) | exact Kv_r (hm _ _ _)))), by first | exact hm | exact KMe_mk hm | exact KMe_sR (Kv_q (KSt_h hs)) hm | exact KMe_add (Kv_q (KSt_h hs)) hm | exact KMe_ins (Kv_q (KSt_h hs)) hm | exact KMe_rem hm⟩
    · cases hx1
  | dup2 =>
    obtain ⟨rfl, hx1⟩ := gd_s (show am_gd _ _ = some _ from hx)
    split at hx1
    · obtain ⟨rfl, rfl, rfl, rfl⟩ := go_s hx1
      exact ⟨by first | exact hl | (first | refine KLo_s1 ?_ hl | refine KLo_s2 ?_ hl) <;> (first | exact Kv_i | exact Kv_l | exact Kv_r Kq_n | exact Kv_r (Kq_s (Or.inr rfl)) | exact KSt_h hs | exact KSt_h (KSt_t hs) | exact KSt_h (KSt_t (KSt_t hs)) | exact KLo_get hl (by assumption) | exact Kv_fv hm | exact Kq_K (z4_5 (by assumption)) | exact Kq_K (z4_0 (by assumption)) | exact Kq_K (z4_a (by assumption)) | exact Kq_K (z4_1 (by assumption)) | exact Kv_r (hm _ _ _)), by (repeat (first | (first | exact hs | exact KSt_t hs | exact KSt_t (KSt_t hs) | exact KSt_t (KSt_t (KSt_t hs)) | exact KSt_n) | refine KSt_c ?_ ?_ | (first | exact Kv_i | exact Kv_l | exact Kv_r Kq_n | exact Kv_r (Kq_s (Or.inr rfl)) | exact KSt_h hs | exact KSt_h (KSt_t hs) | exact KSt_h (KSt_t (KSt_t hs)) | exact KLo_get hl (by assumption) | exact Kv_fv hm | exact Kq_K (z4_5 (by assumption)) | exact Kq_K (z4_0 (by assumption)) | exact Kq_K (z4_a (by assumption)) | exact Kq_K (z4_1 (by assumption)) | exact Kv_r (hm _ _ _)))), by first | exact hm | exact KMe_mk hm | exact KMe_sR (Kv_q (KSt_h hs)) hm | exact KMe_add (Kv_q (KSt_h hs)) hm | exact KMe_ins (Kv_q (KSt_h hs)) hm | exact KMe_rem hm⟩
    · cases hx1
  | goto o =>
    obtain ⟨rfl, hx1⟩ := gd_s (show am_gd _ _ = some _ from hx)
    obtain ⟨t, ht, hx2⟩ := jm_s hx1
    obtain ⟨rfl, rfl, rfl, rfl⟩ := go_s hx2
    exact ⟨by first | exact hl | (first | refine KLo_s1 ?_ hl | refine KLo_s2 ?_ hl) <;> (first | exact Kv_i | exact Kv_l | exact Kv_r Kq_n | exact Kv_r (Kq_s (Or.inr rfl)) | exact KSt_h hs | exact KSt_h (KSt_t hs) | exact KSt_h (KSt_t (KSt_t hs)) | exact KLo_get hl (by assumption) | exact Kv_fv hm | exact Kq_K (z4_5 (by assumption)) | exact Kq_K (z4_0 (by assumption)) | exact Kq_K (z4_a (by assumption)) | exact Kq_K (z4_1 (by assumption)) | exact Kv_r (hm _ _ _)), by (repeat (first | (first | exact hs | exact KSt_t hs | exact KSt_t (KSt_t hs) | exact KSt_t (KSt_t (KSt_t hs)) | exact KSt_n) | refine KSt_c ?_ ?_ | (first | exact Kv_i | exact Kv_l | exact Kv_r Kq_n | exact Kv_r (Kq_s (Or.inr rfl)) | exact KSt_h hs | exact KSt_h (KSt_t hs) | exact KSt_h (KSt_t (KSt_t hs)) | exact KLo_get hl (by assumption) | exact Kv_fv hm | exact Kq_K (z4_5 (by assumption)) | exact Kq_K (z4_0 (by assumption)) | exact Kq_K (z4_a (by assumption)) | exact Kq_K (z4_1 (by assumption)) | exact Kv_r (hm _ _ _)))), by first | exact hm | exact KMe_mk hm | exact KMe_sR (Kv_q (KSt_h hs)) hm | exact KMe_add (Kv_q (KSt_h hs)) hm | exact KMe_ins (Kv_q (KSt_h hs)) hm | exact KMe_rem hm⟩
  | ifCond cc o =>
    obtain ⟨rfl, hx1⟩ := gd_s (show am_gd _ _ = some _ from hx)
    obtain ⟨a, r, rfl, hx2⟩ := i1_s hx1
    obtain ⟨t, ht, hx3⟩ := jm_s hx2
    cases cc with
    | eq =>
      have hx4 : (if a = 0 then am_go t l r σ else am_go (pc + 3) l r σ) = some (Sum.inl (pc', l', st', σ')) := hx3
      split at hx4 <;> (obtain ⟨rfl, rfl, rfl, rfl⟩ := go_s hx4; exact ⟨by first | exact hl | (first | refine KLo_s1 ?_ hl | refine KLo_s2 ?_ hl) <;> (first | exact Kv_i | exact Kv_l | exact Kv_r Kq_n | exact Kv_r (Kq_s (Or.inr rfl)) | exact KSt_h hs | exact KSt_h (KSt_t hs) | exact KSt_h (KSt_t (KSt_t hs)) | exact KLo_get hl (by assumption) | exact Kv_fv hm | exact Kq_K (z4_5 (by assumption)) | exact Kq_K (z4_0 (by assumption)) | exact Kq_K (z4_a (by assumption)) | exact Kq_K (z4_1 (by assumption)) | exact Kv_r (hm _ _ _)), by (repeat (first | (first | exact hs | exact KSt_t hs | exact KSt_t (KSt_t hs) | exact KSt_t (KSt_t (KSt_t hs)) | exact KSt_n) | refine KSt_c ?_ ?_ | (first | exact Kv_i | exact Kv_l | exact Kv_r Kq_n | exact Kv_r (Kq_s (Or.inr rfl)) | exact KSt_h hs | exact KSt_h (KSt_t hs) | exact KSt_h (KSt_t (KSt_t hs)) | exact KLo_get hl (by assumption) | exact Kv_fv hm | exact Kq_K (z4_5 (by assumption)) | exact Kq_K (z4_0 (by assumption)) | exact Kq_K (z4_a (by assumption)) | exact Kq_K (z4_1 (by assumption)) | exact Kv_r (hm _ _ _)))), by first | exact hm | exact KMe_mk hm | exact KMe_sR (Kv_q (KSt_h hs)) hm | exact KMe_add (Kv_q (KSt_h hs)) hm | exact KMe_ins (Kv_q (KSt_h hs)) hm | exact KMe_rem hm⟩)
    | ne =>
      have hx5 : (if a = 0 then am_go (pc + 3) l r σ else am_go t l r σ) = some (Sum.inl (pc', l', st', σ')) := hx3
      split at hx5 <;> (obtain ⟨rfl, rfl, rfl, rfl⟩ := go_s hx5; exact ⟨by first | exact hl | (first | refine KLo_s1 ?_ hl | refine KLo_s2 ?_ hl) <;> (first | exact Kv_i | exact Kv_l | exact Kv_r Kq_n | exact Kv_r (Kq_s (Or.inr rfl)) | exact KSt_h hs | exact KSt_h (KSt_t hs) | exact KSt_h (KSt_t (KSt_t hs)) | exact KLo_get hl (by assumption) | exact Kv_fv hm | exact Kq_K (z4_5 (by assumption)) | exact Kq_K (z4_0 (by assumption)) | exact Kq_K (z4_a (by assumption)) | exact Kq_K (z4_1 (by assumption)) | exact Kv_r (hm _ _ _)), by (repeat (first | (first | exact hs | exact KSt_t hs | exact KSt_t (KSt_t hs) | exact KSt_t (KSt_t (KSt_t hs)) | exact KSt_n) | refine KSt_c ?_ ?_ | (first | exact Kv_i | exact Kv_l | exact Kv_r Kq_n | exact Kv_r (Kq_s (Or.inr rfl)) | exact KSt_h hs | exact KSt_h (KSt_t hs) | exact KSt_h (KSt_t (KSt_t hs)) | exact KLo_get hl (by assumption) | exact Kv_fv hm | exact Kq_K (z4_5 (by assumption)) | exact Kq_K (z4_0 (by assumption)) | exact Kq_K (z4_a (by assumption)) | exact Kq_K (z4_1 (by assumption)) | exact Kv_r (hm _ _ _)))), by first | exact hm | exact KMe_mk hm | exact KMe_sR (Kv_q (KSt_h hs)) hm | exact KMe_add (Kv_q (KSt_h hs)) hm | exact KMe_ins (Kv_q (KSt_h hs)) hm | exact KMe_rem hm⟩)
    | lt =>
      have hx6 : (if a < 0 then am_go t l r σ else am_go (pc + 3) l r σ) = some (Sum.inl (pc', l', st', σ')) := hx3
      split at hx6 <;> (obtain ⟨rfl, rfl, rfl, rfl⟩ := go_s hx6; exact ⟨by first | exact hl | (first | refine KLo_s1 ?_ hl | refine KLo_s2 ?_ hl) <;> (first | exact Kv_i | exact Kv_l | exact Kv_r Kq_n | exact Kv_r (Kq_s (Or.inr rfl)) | exact KSt_h hs | exact KSt_h (KSt_t hs) | exact KSt_h (KSt_t (KSt_t hs)) | exact KLo_get hl (by assumption) | exact Kv_fv hm | exact Kq_K (z4_5 (by assumption)) | exact Kq_K (z4_0 (by assumption)) | exact Kq_K (z4_a (by assumption)) | exact Kq_K (z4_1 (by assumption)) | exact Kv_r (hm _ _ _)), by (repeat (first | (first | exact hs | exact KSt_t hs | exact KSt_t (KSt_t hs) | exact KSt_t (KSt_t (KSt_t hs)) | exact KSt_n) | refine KSt_c ?_ ?_ | (first | exact Kv_i | exact Kv_l | exact Kv_r Kq_n | exact Kv_r (Kq_s (Or.inr rfl)) | exact KSt_h hs | exact KSt_h (KSt_t hs) | exact KSt_h (KSt_t (KSt_t hs)) | exact KLo_get hl (by assumption) | exact Kv_fv hm | exact Kq_K (z4_5 (by assumption)) | exact Kq_K (z4_0 (by assumption)) | exact Kq_K (z4_a (by assumption)) | exact Kq_K (z4_1 (by assumption)) | exact Kv_r (hm _ _ _)))), by first | exact hm | exact KMe_mk hm | exact KMe_sR (Kv_q (KSt_h hs)) hm | exact KMe_add (Kv_q (KSt_h hs)) hm | exact KMe_ins (Kv_q (KSt_h hs)) hm | exact KMe_rem hm⟩)
    | ge =>
      have hx7 : (if a < 0 then am_go (pc + 3) l r σ else am_go t l r σ) = some (Sum.inl (pc', l', st', σ')) := hx3
      split at hx7 <;> (obtain ⟨rfl, rfl, rfl, rfl⟩ := go_s hx7; exact ⟨by first | exact hl | (first | refine KLo_s1 ?_ hl | refine KLo_s2 ?_ hl) <;> (first | exact Kv_i | exact Kv_l | exact Kv_r Kq_n | exact Kv_r (Kq_s (Or.inr rfl)) | exact KSt_h hs | exact KSt_h (KSt_t hs) | exact KSt_h (KSt_t (KSt_t hs)) | exact KLo_get hl (by assumption) | exact Kv_fv hm | exact Kq_K (z4_5 (by assumption)) | exact Kq_K (z4_0 (by assumption)) | exact Kq_K (z4_a (by assumption)) | exact Kq_K (z4_1 (by assumption)) | exact Kv_r (hm _ _ _)), by (repeat (first | (first | exact hs | exact KSt_t hs | exact KSt_t (KSt_t hs) | exact KSt_t (KSt_t (KSt_t hs)) | exact KSt_n) | refine KSt_c ?_ ?_ | (first | exact Kv_i | exact Kv_l | exact Kv_r Kq_n | exact Kv_r (Kq_s (Or.inr rfl)) | exact KSt_h hs | exact KSt_h (KSt_t hs) | exact KSt_h (KSt_t (KSt_t hs)) | exact KLo_get hl (by assumption) | exact Kv_fv hm | exact Kq_K (z4_5 (by assumption)) | exact Kq_K (z4_0 (by assumption)) | exact Kq_K (z4_a (by assumption)) | exact Kq_K (z4_1 (by assumption)) | exact Kv_r (hm _ _ _)))), by first | exact hm | exact KMe_mk hm | exact KMe_sR (Kv_q (KSt_h hs)) hm | exact KMe_add (Kv_q (KSt_h hs)) hm | exact KMe_ins (Kv_q (KSt_h hs)) hm | exact KMe_rem hm⟩)
    | gt =>
      have hx8 : (if 0 < a then am_go t l r σ else am_go (pc + 3) l r σ) = some (Sum.inl (pc', l', st', σ')) := hx3
      split at hx8 <;> (obtain ⟨rfl, rfl, rfl, rfl⟩ := go_s hx8; exact ⟨by first | exact hl | (first | refine KLo_s1 ?_ hl | refine KLo_s2 ?_ hl) <;> (first | exact Kv_i | exact Kv_l | exact Kv_r Kq_n | exact Kv_r (Kq_s (Or.inr rfl)) | exact KSt_h hs | exact KSt_h (KSt_t hs) | exact KSt_h (KSt_t (KSt_t hs)) | exact KLo_get hl (by assumption) | exact Kv_fv hm | exact Kq_K (z4_5 (by assumption)) | exact Kq_K (z4_0 (by assumption)) | exact Kq_K (z4_a (by assumption)) | exact Kq_K (z4_1 (by assumption)) | exact Kv_r (hm _ _ _)), by (repeat (first | (first | exact hs | exact KSt_t hs | exact KSt_t (KSt_t hs) | exact KSt_t (KSt_t (KSt_t hs)) | exact KSt_n) | refine KSt_c ?_ ?_ | (first | exact Kv_i | exact Kv_l | exact Kv_r Kq_n | exact Kv_r (Kq_s (Or.inr rfl)) | exact KSt_h hs | exact KSt_h (KSt_t hs) | exact KSt_h (KSt_t (KSt_t hs)) | exact KLo_get hl (by assumption) | exact Kv_fv hm | exact Kq_K (z4_5 (by assumption)) | exact Kq_K (z4_0 (by assumption)) | exact Kq_K (z4_a (by assumption)) | exact Kq_K (z4_1 (by assumption)) | exact Kv_r (hm _ _ _)))), by first | exact hm | exact KMe_mk hm | exact KMe_sR (Kv_q (KSt_h hs)) hm | exact KMe_add (Kv_q (KSt_h hs)) hm | exact KMe_ins (Kv_q (KSt_h hs)) hm | exact KMe_rem hm⟩)
    | le =>
      have hx9 : (if 0 < a then am_go (pc + 3) l r σ else am_go t l r σ) = some (Sum.inl (pc', l', st', σ')) := hx3
      split at hx9 <;> (obtain ⟨rfl, rfl, rfl, rfl⟩ := go_s hx9; exact ⟨by first | exact hl | (first | refine KLo_s1 ?_ hl | refine KLo_s2 ?_ hl) <;> (first | exact Kv_i | exact Kv_l | exact Kv_r Kq_n | exact Kv_r (Kq_s (Or.inr rfl)) | exact KSt_h hs | exact KSt_h (KSt_t hs) | exact KSt_h (KSt_t (KSt_t hs)) | exact KLo_get hl (by assumption) | exact Kv_fv hm | exact Kq_K (z4_5 (by assumption)) | exact Kq_K (z4_0 (by assumption)) | exact Kq_K (z4_a (by assumption)) | exact Kq_K (z4_1 (by assumption)) | exact Kv_r (hm _ _ _)), by (repeat (first | (first | exact hs | exact KSt_t hs | exact KSt_t (KSt_t hs) | exact KSt_t (KSt_t (KSt_t hs)) | exact KSt_n) | refine KSt_c ?_ ?_ | (first | exact Kv_i | exact Kv_l | exact Kv_r Kq_n | exact Kv_r (Kq_s (Or.inr rfl)) | exact KSt_h hs | exact KSt_h (KSt_t hs) | exact KSt_h (KSt_t (KSt_t hs)) | exact KLo_get hl (by assumption) | exact Kv_fv hm | exact Kq_K (z4_5 (by assumption)) | exact Kq_K (z4_0 (by assumption)) | exact Kq_K (z4_a (by assumption)) | exact Kq_K (z4_1 (by assumption)) | exact Kv_r (hm _ _ _)))), by first | exact hm | exact KMe_mk hm | exact KMe_sR (Kv_q (KSt_h hs)) hm | exact KMe_add (Kv_q (KSt_h hs)) hm | exact KMe_ins (Kv_q (KSt_h hs)) hm | exact KMe_rem hm⟩)
  | if_icmp cc o =>
    obtain ⟨rfl, hx1⟩ := gd_s (show am_gd _ _ = some _ from hx)
    obtain ⟨a, b, r, rfl, hx2⟩ := i2_s hx1
    obtain ⟨t, ht, hx3⟩ := jm_s hx2
    cases cc with
    | eq =>
      have hx4 : (if a = b then am_go t l r σ else am_go (pc + 3) l r σ) = some (Sum.inl (pc', l', st', σ')) := hx3
      split at hx4 <;> (obtain ⟨rfl, rfl, rfl, rfl⟩ := go_s hx4; exact ⟨by first | exact hl | (first | refine KLo_s1 ?_ hl | refine KLo_s2 ?_ hl) <;> (first | exact Kv_i | exact Kv_l | exact Kv_r Kq_n | exact Kv_r (Kq_s (Or.inr rfl)) | exact KSt_h hs | exact KSt_h (KSt_t hs) | exact KSt_h (KSt_t (KSt_t hs)) | exact KLo_get hl (by assumption) | exact Kv_fv hm | exact Kq_K (z4_5 (by assumption)) | exact Kq_K (z4_0 (by assumption)) | exact Kq_K (z4_a (by assumption)) | exact Kq_K (z4_1 (by assumption)) | exact Kv_r (hm _ _ _)), by (repeat (first | (first | exact hs | exact KSt_t hs | exact KSt_t (KSt_t hs) | exact KSt_t (KSt_t (KSt_t hs)) | exact KSt_n) | refine KSt_c ?_ ?_ | (first | exact Kv_i | exact Kv_l | exact Kv_r Kq_n | exact Kv_r (Kq_s (Or.inr rfl)) | exact KSt_h hs | exact KSt_h (KSt_t hs) | exact KSt_h (KSt_t (KSt_t hs)) | exact KLo_get hl (by assumption) | exact Kv_fv hm | exact Kq_K (z4_5 (by assumption)) | exact Kq_K (z4_0 (by assumption)) | exact Kq_K (z4_a (by assumption)) | exact Kq_K (z4_1 (by assumption)) | exact Kv_r (hm _ _ _)))), by first | exact hm | exact KMe_mk hm | exact KMe_sR (Kv_q (KSt_h hs)) hm | exact KMe_add (Kv_q (KSt_h hs)) hm | exact KMe_ins (Kv_q (KSt_h hs)) hm | exact KMe_rem hm⟩)
    | ne =>
      have hx5 : (if a = b then am_go (pc + 3) l r σ else am_go t l r σ) = some (Sum.inl (pc', l', st', σ')) := hx3
      split at hx5 <;> (obtain ⟨rfl, rfl, rfl, rfl⟩ := go_s hx5; exact ⟨by first | exact hl | (first | refine KLo_s1 ?_ hl | refine KLo_s2 ?_ hl) <;> (first | exact Kv_i | exact Kv_l | exact Kv_r Kq_n | exact Kv_r (Kq_s (Or.inr rfl)) | exact KSt_h hs | exact KSt_h (KSt_t hs) | exact KSt_h (KSt_t (KSt_t hs)) | exact KLo_get hl (by assumption) | exact Kv_fv hm | exact Kq_K (z4_5 (by assumption)) | exact Kq_K (z4_0 (by assumption)) | exact Kq_K (z4_a (by assumption)) | exact Kq_K (z4_1 (by assumption)) | exact Kv_r (hm _ _ _)), by (repeat (first | (first | exact hs | exact KSt_t hs | exact KSt_t (KSt_t hs) | exact KSt_t (KSt_t (KSt_t hs)) | exact KSt_n) | refine KSt_c ?_ ?_ | (first | exact Kv_i | exact Kv_l | exact Kv_r Kq_n | exact Kv_r (Kq_s (Or.inr rfl)) | exact KSt_h hs | exact KSt_h (KSt_t hs) | exact KSt_h (KSt_t (KSt_t hs)) | exact KLo_get hl (by assumption) | exact Kv_fv hm | exact Kq_K (z4_5 (by assumption)) | exact Kq_K (z4_0 (by assumption)) | exact Kq_K (z4_a (by assumption)) | exact Kq_K (z4_1 (by assumption)) | exact Kv_r (hm _ _ _)))), by first | exact hm | exact KMe_mk hm | exact KMe_sR (Kv_q (KSt_h hs)) hm | exact KMe_add (Kv_q (KSt_h hs)) hm | exact KMe_ins (Kv_q (KSt_h hs)) hm | exact KMe_rem hm⟩)
    | lt =>
      have hx6 : (if a < b then am_go t l r σ else am_go (pc + 3) l r σ) = some (Sum.inl (pc', l', st', σ')) := hx3
      split at hx6 <;> (obtain ⟨rfl, rfl, rfl, rfl⟩ := go_s hx6; exact ⟨by first | exact hl | (first | refine KLo_s1 ?_ hl | refine KLo_s2 ?_ hl) <;> (first | exact Kv_i | exact Kv_l | exact Kv_r Kq_n | exact Kv_r (Kq_s (Or.inr rfl)) | exact KSt_h hs | exact KSt_h (KSt_t hs) | exact KSt_h (KSt_t (KSt_t hs)) | exact KLo_get hl (by assumption) | exact Kv_fv hm | exact Kq_K (z4_5 (by assumption)) | exact Kq_K (z4_0 (by assumption)) | exact Kq_K (z4_a (by assumption)) | exact Kq_K (z4_1 (by assumption)) | exact Kv_r (hm _ _ _)), by (repeat (first | (first | exact hs | exact KSt_t hs | exact KSt_t (KSt_t hs) | exact KSt_t (KSt_t (KSt_t hs)) | exact KSt_n) | refine KSt_c ?_ ?_ | (first | exact Kv_i | exact Kv_l | exact Kv_r Kq_n | exact Kv_r (Kq_s (Or.inr rfl)) | exact KSt_h hs | exact KSt_h (KSt_t hs) | exact KSt_h (KSt_t (KSt_t hs)) | exact KLo_get hl (by assumption) | exact Kv_fv hm | exact Kq_K (z4_5 (by assumption)) | exact Kq_K (z4_0 (by assumption)) | exact Kq_K (z4_a (by assumption)) | exact Kq_K (z4_1 (by assumption)) | exact Kv_r (hm _ _ _)))), by first | exact hm | exact KMe_mk hm | exact KMe_sR (Kv_q (KSt_h hs)) hm | exact KMe_add (Kv_q (KSt_h hs)) hm | exact KMe_ins (Kv_q (KSt_h hs)) hm | exact KMe_rem hm⟩)
    | ge =>
      have hx7 : (if a < b then am_go (pc + 3) l r σ else am_go t l r σ) = some (Sum.inl (pc', l', st', σ')) := hx3
      split at hx7 <;> (obtain ⟨rfl, rfl, rfl, rfl⟩ := go_s hx7; exact ⟨by first | exact hl | (first | refine KLo_s1 ?_ hl | refine KLo_s2 ?_ hl) <;> (first | exact Kv_i | exact Kv_l | exact Kv_r Kq_n | exact Kv_r (Kq_s (Or.inr rfl)) | exact KSt_h hs | exact KSt_h (KSt_t hs) | exact KSt_h (KSt_t (KSt_t hs)) | exact KLo_get hl (by assumption) | exact Kv_fv hm | exact Kq_K (z4_5 (by assumption)) | exact Kq_K (z4_0 (by assumption)) | exact Kq_K (z4_a (by assumption)) | exact Kq_K (z4_1 (by assumption)) | exact Kv_r (hm _ _ _)), by (repeat (first | (first | exact hs | exact KSt_t hs | exact KSt_t (KSt_t hs) | exact KSt_t (KSt_t (KSt_t hs)) | exact KSt_n) | refine KSt_c ?_ ?_ | (first | exact Kv_i | exact Kv_l | exact Kv_r Kq_n | exact Kv_r (Kq_s (Or.inr rfl)) | exact KSt_h hs | exact KSt_h (KSt_t hs) | exact KSt_h (KSt_t (KSt_t hs)) | exact KLo_get hl (by assumption) | exact Kv_fv hm | exact Kq_K (z4_5 (by assumption)) | exact Kq_K (z4_0 (by assumption)) | exact Kq_K (z4_a (by assumption)) | exact Kq_K (z4_1 (by assumption)) | exact Kv_r (hm _ _ _)))), by first | exact hm | exact KMe_mk hm | exact KMe_sR (Kv_q (KSt_h hs)) hm | exact KMe_add (Kv_q (KSt_h hs)) hm | exact KMe_ins (Kv_q (KSt_h hs)) hm | exact KMe_rem hm⟩)
    | gt =>
      have hx8 : (if b < a then am_go t l r σ else am_go (pc + 3) l r σ) = some (Sum.inl (pc', l', st', σ')) := hx3
      split at hx8 <;> (obtain ⟨rfl, rfl, rfl, rfl⟩ := go_s hx8; exact ⟨by first | exact hl | (first | refine KLo_s1 ?_ hl | refine KLo_s2 ?_ hl) <;> (first | exact Kv_i | exact Kv_l | exact Kv_r Kq_n | exact Kv_r (Kq_s (Or.inr rfl)) | exact KSt_h hs | exact KSt_h (KSt_t hs) | exact KSt_h (KSt_t (KSt_t hs)) | exact KLo_get hl (by assumption) | exact Kv_fv hm | exact Kq_K (z4_5 (by assumption)) | exact Kq_K (z4_0 (by assumption)) | exact Kq_K (z4_a (by assumption)) | exact Kq_K (z4_1 (by assumption)) | exact Kv_r (hm _ _ _)), by (repeat (first | (first | exact hs | exact KSt_t hs | exact KSt_t (KSt_t hs) | exact KSt_t (KSt_t (KSt_t hs)) | exact KSt_n) | refine KSt_c ?_ ?_ | (first | exact Kv_i | exact Kv_l | exact Kv_r Kq_n | exact Kv_r (Kq_s (Or.inr rfl)) | exact KSt_h hs | exact KSt_h (KSt_t hs) | exact KSt_h (KSt_t (KSt_t hs)) | exact KLo_get hl (by assumption) | exact Kv_fv hm | exact Kq_K (z4_5 (by assumption)) | exact Kq_K (z4_0 (by assumption)) | exact Kq_K (z4_a (by assumption)) | exact Kq_K (z4_1 (by assumption)) | exact Kv_r (hm _ _ _)))), by first | exact hm | exact KMe_mk hm | exact KMe_sR (Kv_q (KSt_h hs)) hm | exact KMe_add (Kv_q (KSt_h hs)) hm | exact KMe_ins (Kv_q (KSt_h hs)) hm | exact KMe_rem hm⟩)
    | le =>
      have hx9 : (if b < a then am_go (pc + 3) l r σ else am_go t l r σ) = some (Sum.inl (pc', l', st', σ')) := hx3
      split at hx9 <;> (obtain ⟨rfl, rfl, rfl, rfl⟩ := go_s hx9; exact ⟨by first | exact hl | (first | refine KLo_s1 ?_ hl | refine KLo_s2 ?_ hl) <;> (first | exact Kv_i | exact Kv_l | exact Kv_r Kq_n | exact Kv_r (Kq_s (Or.inr rfl)) | exact KSt_h hs | exact KSt_h (KSt_t hs) | exact KSt_h (KSt_t (KSt_t hs)) | exact KLo_get hl (by assumption) | exact Kv_fv hm | exact Kq_K (z4_5 (by assumption)) | exact Kq_K (z4_0 (by assumption)) | exact Kq_K (z4_a (by assumption)) | exact Kq_K (z4_1 (by assumption)) | exact Kv_r (hm _ _ _)), by (repeat (first | (first | exact hs | exact KSt_t hs | exact KSt_t (KSt_t hs) | exact KSt_t (KSt_t (KSt_t hs)) | exact KSt_n) | refine KSt_c ?_ ?_ | (first | exact Kv_i | exact Kv_l | exact Kv_r Kq_n | exact Kv_r (Kq_s (Or.inr rfl)) | exact KSt_h hs | exact KSt_h (KSt_t hs) | exact KSt_h (KSt_t (KSt_t hs)) | exact KLo_get hl (by assumption) | exact Kv_fv hm | exact Kq_K (z4_5 (by assumption)) | exact Kq_K (z4_0 (by assumption)) | exact Kq_K (z4_a (by assumption)) | exact Kq_K (z4_1 (by assumption)) | exact Kv_r (hm _ _ _)))), by first | exact hm | exact KMe_mk hm | exact KMe_sR (Kv_q (KSt_h hs)) hm | exact KMe_add (Kv_q (KSt_h hs)) hm | exact KMe_ins (Kv_q (KSt_h hs)) hm | exact KMe_rem hm⟩)
  | ifnull o =>
    obtain ⟨rfl, hx1⟩ := gd_s (show am_gd _ _ = some _ from hx)
    obtain ⟨q, r, rfl, hx2⟩ := rq_s hx1
    obtain ⟨t, ht, hx3⟩ := jm_s hx2
    have hx4 : (if q = none then am_go t l r σ else am_go (pc + 3) l r σ) = some (Sum.inl (pc', l', st', σ')) := hx3
    split at hx4 <;> (obtain ⟨rfl, rfl, rfl, rfl⟩ := go_s hx4; exact ⟨by first | exact hl | (first | refine KLo_s1 ?_ hl | refine KLo_s2 ?_ hl) <;> (first | exact Kv_i | exact Kv_l | exact Kv_r Kq_n | exact Kv_r (Kq_s (Or.inr rfl)) | exact KSt_h hs | exact KSt_h (KSt_t hs) | exact KSt_h (KSt_t (KSt_t hs)) | exact KLo_get hl (by assumption) | exact Kv_fv hm | exact Kq_K (z4_5 (by assumption)) | exact Kq_K (z4_0 (by assumption)) | exact Kq_K (z4_a (by assumption)) | exact Kq_K (z4_1 (by assumption)) | exact Kv_r (hm _ _ _)), by (repeat (first | (first | exact hs | exact KSt_t hs | exact KSt_t (KSt_t hs) | exact KSt_t (KSt_t (KSt_t hs)) | exact KSt_n) | refine KSt_c ?_ ?_ | (first | exact Kv_i | exact Kv_l | exact Kv_r Kq_n | exact Kv_r (Kq_s (Or.inr rfl)) | exact KSt_h hs | exact KSt_h (KSt_t hs) | exact KSt_h (KSt_t (KSt_t hs)) | exact KLo_get hl (by assumption) | exact Kv_fv hm | exact Kq_K (z4_5 (by assumption)) | exact Kq_K (z4_0 (by assumption)) | exact Kq_K (z4_a (by assumption)) | exact Kq_K (z4_1 (by assumption)) | exact Kv_r (hm _ _ _)))), by first | exact hm | exact KMe_mk hm | exact KMe_sR (Kv_q (KSt_h hs)) hm | exact KMe_add (Kv_q (KSt_h hs)) hm | exact KMe_ins (Kv_q (KSt_h hs)) hm | exact KMe_rem hm⟩)
  | ifnonnull o =>
    obtain ⟨rfl, hx1⟩ := gd_s (show am_gd _ _ = some _ from hx)
    obtain ⟨q, r, rfl, hx2⟩ := rq_s hx1
    obtain ⟨t, ht, hx3⟩ := jm_s hx2
    have hx4 : (if q = none then am_go (pc + 3) l r σ else am_go t l r σ) = some (Sum.inl (pc', l', st', σ')) := hx3
    split at hx4 <;> (obtain ⟨rfl, rfl, rfl, rfl⟩ := go_s hx4; exact ⟨by first | exact hl | (first | refine KLo_s1 ?_ hl | refine KLo_s2 ?_ hl) <;> (first | exact Kv_i | exact Kv_l | exact Kv_r Kq_n | exact Kv_r (Kq_s (Or.inr rfl)) | exact KSt_h hs | exact KSt_h (KSt_t hs) | exact KSt_h (KSt_t (KSt_t hs)) | exact KLo_get hl (by assumption) | exact Kv_fv hm | exact Kq_K (z4_5 (by assumption)) | exact Kq_K (z4_0 (by assumption)) | exact Kq_K (z4_a (by assumption)) | exact Kq_K (z4_1 (by assumption)) | exact Kv_r (hm _ _ _)), by (repeat (first | (first | exact hs | exact KSt_t hs | exact KSt_t (KSt_t hs) | exact KSt_t (KSt_t (KSt_t hs)) | exact KSt_n) | refine KSt_c ?_ ?_ | (first | exact Kv_i | exact Kv_l | exact Kv_r Kq_n | exact Kv_r (Kq_s (Or.inr rfl)) | exact KSt_h hs | exact KSt_h (KSt_t hs) | exact KSt_h (KSt_t (KSt_t hs)) | exact KLo_get hl (by assumption) | exact Kv_fv hm | exact Kq_K (z4_5 (by assumption)) | exact Kq_K (z4_0 (by assumption)) | exact Kq_K (z4_a (by assumption)) | exact Kq_K (z4_1 (by assumption)) | exact Kv_r (hm _ _ _)))), by first | exact hm | exact KMe_mk hm | exact KMe_sR (Kv_q (KSt_h hs)) hm | exact KMe_add (Kv_q (KSt_h hs)) hm | exact KMe_ins (Kv_q (KSt_h hs)) hm | exact KMe_rem hm⟩)
  | tableswitch df lo hi offs =>
    obtain ⟨x, r, rfl, hx1⟩ := i1_s (show am_i1 _ _ = some _ from hx)
    obtain ⟨hg, hx2⟩ := gd_s hx1
    rcases sw_s _ _ hx2 with ⟨_, _, t, _, _, _, ht⟩ | ⟨_, t, _, ht⟩ <;> (obtain ⟨rfl, rfl, rfl, rfl⟩ := go_s ht; exact ⟨by first | exact hl | (first | refine KLo_s1 ?_ hl | refine KLo_s2 ?_ hl) <;> (first | exact Kv_i | exact Kv_l | exact Kv_r Kq_n | exact Kv_r (Kq_s (Or.inr rfl)) | exact KSt_h hs | exact KSt_h (KSt_t hs) | exact KSt_h (KSt_t (KSt_t hs)) | exact KLo_get hl (by assumption) | exact Kv_fv hm | exact Kq_K (z4_5 (by assumption)) | exact Kq_K (z4_0 (by assumption)) | exact Kq_K (z4_a (by assumption)) | exact Kq_K (z4_1 (by assumption)) | exact Kv_r (hm _ _ _)), by (repeat (first | (first | exact hs | exact KSt_t hs | exact KSt_t (KSt_t hs) | exact KSt_t (KSt_t (KSt_t hs)) | exact KSt_n) | refine KSt_c ?_ ?_ | (first | exact Kv_i | exact Kv_l | exact Kv_r Kq_n | exact Kv_r (Kq_s (Or.inr rfl)) | exact KSt_h hs | exact KSt_h (KSt_t hs) | exact KSt_h (KSt_t (KSt_t hs)) | exact KLo_get hl (by assumption) | exact Kv_fv hm | exact Kq_K (z4_5 (by assumption)) | exact Kq_K (z4_0 (by assumption)) | exact Kq_K (z4_a (by assumption)) | exact Kq_K (z4_1 (by assumption)) | exact Kv_r (hm _ _ _)))), by first | exact hm | exact KMe_mk hm | exact KMe_sR (Kv_q (KSt_h hs)) hm | exact KMe_add (Kv_q (KSt_h hs)) hm | exact KMe_ins (Kv_q (KSt_h hs)) hm | exact KMe_rem hm⟩)
  | getfield k =>
    obtain ⟨rfl, hx1⟩ := gd_s (show am_gd _ _ = some _ from hx)
    cases h1 : fld (mcl mid) k with
    | none => rw [h1] at hx1; cases hx1
    | some q =>
      obtain ⟨ci, f, t⟩ := q
      rw [h1] at hx1
      obtain ⟨K, i, r, rfl, hx2⟩ := ro_s hx1
      obtain ⟨⟨hk, hi⟩, hx3⟩ := gd_s hx2
      obtain ⟨rfl, rfl, rfl, rfl⟩ := go_s hx3
      exact ⟨by first | exact hl | (first | refine KLo_s1 ?_ hl | refine KLo_s2 ?_ hl) <;> (first | exact Kv_i | exact Kv_l | exact Kv_r Kq_n | exact Kv_r (Kq_s (Or.inr rfl)) | exact KSt_h hs | exact KSt_h (KSt_t hs) | exact KSt_h (KSt_t (KSt_t hs)) | exact KLo_get hl (by assumption) | exact Kv_fv hm | exact Kq_K (z4_5 (by assumption)) | exact Kq_K (z4_0 (by assumption)) | exact Kq_K (z4_a (by assumption)) | exact Kq_K (z4_1 (by assumption)) | exact Kv_r (hm _ _ _)), by (repeat (first | (first | exact hs | exact KSt_t hs | exact KSt_t (KSt_t hs) | exact KSt_t (KSt_t (KSt_t hs)) | exact KSt_n) | refine KSt_c ?_ ?_ | (first | exact Kv_i | exact Kv_l | exact Kv_r Kq_n | exact Kv_r (Kq_s (Or.inr rfl)) | exact KSt_h hs | exact KSt_h (KSt_t hs) | exact KSt_h (KSt_t (KSt_t hs)) | exact KLo_get hl (by assumption) | exact Kv_fv hm | exact Kq_K (z4_5 (by assumption)) | exact Kq_K (z4_0 (by assumption)) | exact Kq_K (z4_a (by assumption)) | exact Kq_K (z4_1 (by assumption)) | exact Kv_r (hm _ _ _)))), by first | exact hm | exact KMe_mk hm | exact KMe_sR (Kv_q (KSt_h hs)) hm | exact KMe_add (Kv_q (KSt_h hs)) hm | exact KMe_ins (Kv_q (KSt_h hs)) hm | exact KMe_rem hm⟩
  | putfield k =>
    obtain ⟨rfl, hx1⟩ := gd_s (show am_gd _ _ = some _ from hx)
    cases h1 : fld (mcl mid) k with
    | none => rw [h1] at hx1; cases hx1
    | some q =>
      obtain ⟨ci, f, t⟩ := q
      rw [h1] at hx1
      obtain ⟨v, r1, rfl, hx2⟩ := v1_s hx1
      obtain ⟨K, i, r, rfl, hx3⟩ := ro_s hx2
      obtain ⟨⟨hk, hi, hF⟩, hx4⟩ := gd_s hx3
      rcases v with x | x | x
      · obtain ⟨ht, hx5⟩ := gd_s (show am_gd _ _ = some _ from hx4)
        obtain ⟨rfl, rfl, rfl, rfl⟩ := go_s hx5
        exact ⟨by first | exact hl | (first | refine KLo_s1 ?_ hl | refine KLo_s2 ?_ hl) <;> (first | exact Kv_i | exact Kv_l | exact Kv_r Kq_n | exact Kv_r (Kq_s (Or.inr rfl)) | exact KSt_h hs | exact KSt_h (KSt_t hs) | exact KSt_h (KSt_t (KSt_t hs)) | exact KLo_get hl (by assumption) | exact Kv_fv hm | exact Kq_K (z4_5 (by assumption)) | exact Kq_K (z4_0 (by assumption)) | exact Kq_K (z4_a (by assumption)) | exact Kq_K (z4_1 (by assumption)) | exact Kv_r (hm _ _ _)), by (repeat (first | (first | exact hs | exact KSt_t hs | exact KSt_t (KSt_t hs) | exact KSt_t (KSt_t (KSt_t hs)) | exact KSt_n) | refine KSt_c ?_ ?_ | (first | exact Kv_i | exact Kv_l | exact Kv_r Kq_n | exact Kv_r (Kq_s (Or.inr rfl)) | exact KSt_h hs | exact KSt_h (KSt_t hs) | exact KSt_h (KSt_t (KSt_t hs)) | exact KLo_get hl (by assumption) | exact Kv_fv hm | exact Kq_K (z4_5 (by assumption)) | exact Kq_K (z4_0 (by assumption)) | exact Kq_K (z4_a (by assumption)) | exact Kq_K (z4_1 (by assumption)) | exact Kv_r (hm _ _ _)))), by first | exact hm | exact KMe_mk hm | exact KMe_sR (Kv_q (KSt_h hs)) hm | exact KMe_add (Kv_q (KSt_h hs)) hm | exact KMe_ins (Kv_q (KSt_h hs)) hm | exact KMe_rem hm⟩
      · obtain ⟨rfl, hx6⟩ := gd_s (show am_gd _ _ = some _ from hx4)
        obtain ⟨rfl, rfl, rfl, rfl⟩ := go_s hx6
        exact ⟨by first | exact hl | (first | refine KLo_s1 ?_ hl | refine KLo_s2 ?_ hl) <;> (first | exact Kv_i | exact Kv_l | exact Kv_r Kq_n | exact Kv_r (Kq_s (Or.inr rfl)) | exact KSt_h hs | exact KSt_h (KSt_t hs) | exact KSt_h (KSt_t (KSt_t hs)) | exact KLo_get hl (by assumption) | exact Kv_fv hm | exact Kq_K (z4_5 (by assumption)) | exact Kq_K (z4_0 (by assumption)) | exact Kq_K (z4_a (by assumption)) | exact Kq_K (z4_1 (by assumption)) | exact Kv_r (hm _ _ _)), by (repeat (first | (first | exact hs | exact KSt_t hs | exact KSt_t (KSt_t hs) | exact KSt_t (KSt_t (KSt_t hs)) | exact KSt_n) | refine KSt_c ?_ ?_ | (first | exact Kv_i | exact Kv_l | exact Kv_r Kq_n | exact Kv_r (Kq_s (Or.inr rfl)) | exact KSt_h hs | exact KSt_h (KSt_t hs) | exact KSt_h (KSt_t (KSt_t hs)) | exact KLo_get hl (by assumption) | exact Kv_fv hm | exact Kq_K (z4_5 (by assumption)) | exact Kq_K (z4_0 (by assumption)) | exact Kq_K (z4_a (by assumption)) | exact Kq_K (z4_1 (by assumption)) | exact Kv_r (hm _ _ _)))), by first | exact hm | exact KMe_mk hm | exact KMe_sR (Kv_q (KSt_h hs)) hm | exact KMe_add (Kv_q (KSt_h hs)) hm | exact KMe_ins (Kv_q (KSt_h hs)) hm | exact KMe_rem hm⟩
      · obtain ⟨rfl, hx7⟩ := gd_s (show am_gd _ _ = some _ from hx4)
        obtain ⟨rfl, rfl, rfl, rfl⟩ := go_s hx7
        exact ⟨by first | exact hl | (first | refine KLo_s1 ?_ hl | refine KLo_s2 ?_ hl) <;> (first | exact Kv_i | exact Kv_l | exact Kv_r Kq_n | exact Kv_r (Kq_s (Or.inr rfl)) | exact KSt_h hs | exact KSt_h (KSt_t hs) | exact KSt_h (KSt_t (KSt_t hs)) | exact KLo_get hl (by assumption) | exact Kv_fv hm | exact Kq_K (z4_5 (by assumption)) | exact Kq_K (z4_0 (by assumption)) | exact Kq_K (z4_a (by assumption)) | exact Kq_K (z4_1 (by assumption)) | exact Kv_r (hm _ _ _)), by (repeat (first | (first | exact hs | exact KSt_t hs | exact KSt_t (KSt_t hs) | exact KSt_t (KSt_t (KSt_t hs)) | exact KSt_n) | refine KSt_c ?_ ?_ | (first | exact Kv_i | exact Kv_l | exact Kv_r Kq_n | exact Kv_r (Kq_s (Or.inr rfl)) | exact KSt_h hs | exact KSt_h (KSt_t hs) | exact KSt_h (KSt_t (KSt_t hs)) | exact KLo_get hl (by assumption) | exact Kv_fv hm | exact Kq_K (z4_5 (by assumption)) | exact Kq_K (z4_0 (by assumption)) | exact Kq_K (z4_a (by assumption)) | exact Kq_K (z4_1 (by assumption)) | exact Kv_r (hm _ _ _)))), by first | exact hm | exact KMe_mk hm | exact KMe_sR (Kv_q (KSt_h hs)) hm | exact KMe_add (Kv_q (KSt_h hs)) hm | exact KMe_ins (Kv_q (KSt_h hs)) hm | exact KMe_rem hm⟩
  | iaload =>
    obtain ⟨rfl, hx1⟩ := gd_s (show am_gd _ _ = some _ from hx)
    obtain ⟨j, r1, rfl, hx2⟩ := i1_s hx1
    obtain ⟨K, i, r, rfl, hx3⟩ := ro_s hx2
    obtain ⟨⟨hc, hin⟩, hx4⟩ := gd_s hx3
    obtain ⟨rfl, rfl, rfl, rfl⟩ := go_s hx4
    exact ⟨by first | exact hl | (first | refine KLo_s1 ?_ hl | refine KLo_s2 ?_ hl) <;> (first | exact Kv_i | exact Kv_l | exact Kv_r Kq_n | exact Kv_r (Kq_s (Or.inr rfl)) | exact KSt_h hs | exact KSt_h (KSt_t hs) | exact KSt_h (KSt_t (KSt_t hs)) | exact KLo_get hl (by assumption) | exact Kv_fv hm | exact Kq_K (z4_5 (by assumption)) | exact Kq_K (z4_0 (by assumption)) | exact Kq_K (z4_a (by assumption)) | exact Kq_K (z4_1 (by assumption)) | exact Kv_r (hm _ _ _)), by (repeat (first | (first | exact hs | exact KSt_t hs | exact KSt_t (KSt_t hs) | exact KSt_t (KSt_t (KSt_t hs)) | exact KSt_n) | refine KSt_c ?_ ?_ | (first | exact Kv_i | exact Kv_l | exact Kv_r Kq_n | exact Kv_r (Kq_s (Or.inr rfl)) | exact KSt_h hs | exact KSt_h (KSt_t hs) | exact KSt_h (KSt_t (KSt_t hs)) | exact KLo_get hl (by assumption) | exact Kv_fv hm | exact Kq_K (z4_5 (by assumption)) | exact Kq_K (z4_0 (by assumption)) | exact Kq_K (z4_a (by assumption)) | exact Kq_K (z4_1 (by assumption)) | exact Kv_r (hm _ _ _)))), by first | exact hm | exact KMe_mk hm | exact KMe_sR (Kv_q (KSt_h hs)) hm | exact KMe_add (Kv_q (KSt_h hs)) hm | exact KMe_ins (Kv_q (KSt_h hs)) hm | exact KMe_rem hm⟩
  | baload =>
    obtain ⟨rfl, hx1⟩ := gd_s (show am_gd _ _ = some _ from hx)
    obtain ⟨j, r1, rfl, hx2⟩ := i1_s hx1
    obtain ⟨K, i, r, rfl, hx3⟩ := ro_s hx2
    obtain ⟨⟨hc, _, hin⟩, hx4⟩ := gd_s hx3
    obtain ⟨rfl, rfl, rfl, rfl⟩ := go_s hx4
    exact ⟨by first | exact hl | (first | refine KLo_s1 ?_ hl | refine KLo_s2 ?_ hl) <;> (first | exact Kv_i | exact Kv_l | exact Kv_r Kq_n | exact Kv_r (Kq_s (Or.inr rfl)) | exact KSt_h hs | exact KSt_h (KSt_t hs) | exact KSt_h (KSt_t (KSt_t hs)) | exact KLo_get hl (by assumption) | exact Kv_fv hm | exact Kq_K (z4_5 (by assumption)) | exact Kq_K (z4_0 (by assumption)) | exact Kq_K (z4_a (by assumption)) | exact Kq_K (z4_1 (by assumption)) | exact Kv_r (hm _ _ _)), by (repeat (first | (first | exact hs | exact KSt_t hs | exact KSt_t (KSt_t hs) | exact KSt_t (KSt_t (KSt_t hs)) | exact KSt_n) | refine KSt_c ?_ ?_ | (first | exact Kv_i | exact Kv_l | exact Kv_r Kq_n | exact Kv_r (Kq_s (Or.inr rfl)) | exact KSt_h hs | exact KSt_h (KSt_t hs) | exact KSt_h (KSt_t (KSt_t hs)) | exact KLo_get hl (by assumption) | exact Kv_fv hm | exact Kq_K (z4_5 (by assumption)) | exact Kq_K (z4_0 (by assumption)) | exact Kq_K (z4_a (by assumption)) | exact Kq_K (z4_1 (by assumption)) | exact Kv_r (hm _ _ _)))), by first | exact hm | exact KMe_mk hm | exact KMe_sR (Kv_q (KSt_h hs)) hm | exact KMe_add (Kv_q (KSt_h hs)) hm | exact KMe_ins (Kv_q (KSt_h hs)) hm | exact KMe_rem hm⟩
  | laload =>
    obtain ⟨rfl, hx1⟩ := gd_s (show am_gd _ _ = some _ from hx)
    obtain ⟨j, r1, rfl, hx2⟩ := i1_s hx1
    obtain ⟨K, i, r, rfl, hx3⟩ := ro_s hx2
    obtain ⟨⟨hc, _, hin⟩, hx4⟩ := gd_s hx3
    obtain ⟨rfl, rfl, rfl, rfl⟩ := go_s hx4
    exact ⟨by first | exact hl | (first | refine KLo_s1 ?_ hl | refine KLo_s2 ?_ hl) <;> (first | exact Kv_i | exact Kv_l | exact Kv_r Kq_n | exact Kv_r (Kq_s (Or.inr rfl)) | exact KSt_h hs | exact KSt_h (KSt_t hs) | exact KSt_h (KSt_t (KSt_t hs)) | exact KLo_get hl (by assumption) | exact Kv_fv hm | exact Kq_K (z4_5 (by assumption)) | exact Kq_K (z4_0 (by assumption)) | exact Kq_K (z4_a (by assumption)) | exact Kq_K (z4_1 (by assumption)) | exact Kv_r (hm _ _ _)), by (repeat (first | (first | exact hs | exact KSt_t hs | exact KSt_t (KSt_t hs) | exact KSt_t (KSt_t (KSt_t hs)) | exact KSt_n) | refine KSt_c ?_ ?_ | (first | exact Kv_i | exact Kv_l | exact Kv_r Kq_n | exact Kv_r (Kq_s (Or.inr rfl)) | exact KSt_h hs | exact KSt_h (KSt_t hs) | exact KSt_h (KSt_t (KSt_t hs)) | exact KLo_get hl (by assumption) | exact Kv_fv hm | exact Kq_K (z4_5 (by assumption)) | exact Kq_K (z4_0 (by assumption)) | exact Kq_K (z4_a (by assumption)) | exact Kq_K (z4_1 (by assumption)) | exact Kv_r (hm _ _ _)))), by first | exact hm | exact KMe_mk hm | exact KMe_sR (Kv_q (KSt_h hs)) hm | exact KMe_add (Kv_q (KSt_h hs)) hm | exact KMe_ins (Kv_q (KSt_h hs)) hm | exact KMe_rem hm⟩
  | iastore =>
    obtain ⟨rfl, hx1⟩ := gd_s (show am_gd _ _ = some _ from hx)
    obtain ⟨j, x, r1, rfl, hx2⟩ := i2_s hx1
    obtain ⟨K, i, r, rfl, hx3⟩ := ro_s hx2
    obtain ⟨⟨hc, _, hin⟩, hx4⟩ := gd_s hx3
    obtain ⟨rfl, rfl, rfl, rfl⟩ := go_s hx4
    exact ⟨by first | exact hl | (first | refine KLo_s1 ?_ hl | refine KLo_s2 ?_ hl) <;> (first | exact Kv_i | exact Kv_l | exact Kv_r Kq_n | exact Kv_r (Kq_s (Or.inr rfl)) | exact KSt_h hs | exact KSt_h (KSt_t hs) | exact KSt_h (KSt_t (KSt_t hs)) | exact KLo_get hl (by assumption) | exact Kv_fv hm | exact Kq_K (z4_5 (by assumption)) | exact Kq_K (z4_0 (by assumption)) | exact Kq_K (z4_a (by assumption)) | exact Kq_K (z4_1 (by assumption)) | exact Kv_r (hm _ _ _)), by (repeat (first | (first | exact hs | exact KSt_t hs | exact KSt_t (KSt_t hs) | exact KSt_t (KSt_t (KSt_t hs)) | exact KSt_n) | refine KSt_c ?_ ?_ | (first | exact Kv_i | exact Kv_l | exact Kv_r Kq_n | exact Kv_r (Kq_s (Or.inr rfl)) | exact KSt_h hs | exact KSt_h (KSt_t hs) | exact KSt_h (KSt_t (KSt_t hs)) | exact KLo_get hl (by assumption) | exact Kv_fv hm | exact Kq_K (z4_5 (by assumption)) | exact Kq_K (z4_0 (by assumption)) | exact Kq_K (z4_a (by assumption)) | exact Kq_K (z4_1 (by assumption)) | exact Kv_r (hm _ _ _)))), by first | exact hm | exact KMe_mk hm | exact KMe_sR (Kv_q (KSt_h hs)) hm | exact KMe_add (Kv_q (KSt_h hs)) hm | exact KMe_ins (Kv_q (KSt_h hs)) hm | exact KMe_rem hm⟩
  | bastore =>
    obtain ⟨rfl, hx1⟩ := gd_s (show am_gd _ _ = some _ from hx)
    obtain ⟨j, x, r1, rfl, hx2⟩ := i2_s hx1
    obtain ⟨K, i, r, rfl, hx3⟩ := ro_s hx2
    obtain ⟨⟨hc, _, hin⟩, hx4⟩ := gd_s hx3
    obtain ⟨rfl, rfl, rfl, rfl⟩ := go_s hx4
    exact ⟨by first | exact hl | (first | refine KLo_s1 ?_ hl | refine KLo_s2 ?_ hl) <;> (first | exact Kv_i | exact Kv_l | exact Kv_r Kq_n | exact Kv_r (Kq_s (Or.inr rfl)) | exact KSt_h hs | exact KSt_h (KSt_t hs) | exact KSt_h (KSt_t (KSt_t hs)) | exact KLo_get hl (by assumption) | exact Kv_fv hm | exact Kq_K (z4_5 (by assumption)) | exact Kq_K (z4_0 (by assumption)) | exact Kq_K (z4_a (by assumption)) | exact Kq_K (z4_1 (by assumption)) | exact Kv_r (hm _ _ _)), by (repeat (first | (first | exact hs | exact KSt_t hs | exact KSt_t (KSt_t hs) | exact KSt_t (KSt_t (KSt_t hs)) | exact KSt_n) | refine KSt_c ?_ ?_ | (first | exact Kv_i | exact Kv_l | exact Kv_r Kq_n | exact Kv_r (Kq_s (Or.inr rfl)) | exact KSt_h hs | exact KSt_h (KSt_t hs) | exact KSt_h (KSt_t (KSt_t hs)) | exact KLo_get hl (by assumption) | exact Kv_fv hm | exact Kq_K (z4_5 (by assumption)) | exact Kq_K (z4_0 (by assumption)) | exact Kq_K (z4_a (by assumption)) | exact Kq_K (z4_1 (by assumption)) | exact Kv_r (hm _ _ _)))), by first | exact hm | exact KMe_mk hm | exact KMe_sR (Kv_q (KSt_h hs)) hm | exact KMe_add (Kv_q (KSt_h hs)) hm | exact KMe_ins (Kv_q (KSt_h hs)) hm | exact KMe_rem hm⟩
  | lastore =>
    obtain ⟨rfl, hx1⟩ := gd_s (show am_gd _ _ = some _ from hx)
    obtain ⟨x, r2, rfl, hx2⟩ := l1_s hx1
    obtain ⟨j, r1, rfl, hx3⟩ := i1_s hx2
    obtain ⟨K, i, r, rfl, hx4⟩ := ro_s hx3
    obtain ⟨⟨hc, _, hin⟩, hx5⟩ := gd_s hx4
    obtain ⟨rfl, rfl, rfl, rfl⟩ := go_s hx5
    exact ⟨by first | exact hl | (first | refine KLo_s1 ?_ hl | refine KLo_s2 ?_ hl) <;> (first | exact Kv_i | exact Kv_l | exact Kv_r Kq_n | exact Kv_r (Kq_s (Or.inr rfl)) | exact KSt_h hs | exact KSt_h (KSt_t hs) | exact KSt_h (KSt_t (KSt_t hs)) | exact KLo_get hl (by assumption) | exact Kv_fv hm | exact Kq_K (z4_5 (by assumption)) | exact Kq_K (z4_0 (by assumption)) | exact Kq_K (z4_a (by assumption)) | exact Kq_K (z4_1 (by assumption)) | exact Kv_r (hm _ _ _)), by (repeat (first | (first | exact hs | exact KSt_t hs | exact KSt_t (KSt_t hs) | exact KSt_t (KSt_t (KSt_t hs)) | exact KSt_n) | refine KSt_c ?_ ?_ | (first | exact Kv_i | exact Kv_l | exact Kv_r Kq_n | exact Kv_r (Kq_s (Or.inr rfl)) | exact KSt_h hs | exact KSt_h (KSt_t hs) | exact KSt_h (KSt_t (KSt_t hs)) | exact KLo_get hl (by assumption) | exact Kv_fv hm | exact Kq_K (z4_5 (by assumption)) | exact Kq_K (z4_0 (by assumption)) | exact Kq_K (z4_a (by assumption)) | exact Kq_K (z4_1 (by assumption)) | exact Kv_r (hm _ _ _)))), by first | exact hm | exact KMe_mk hm | exact KMe_sR (Kv_q (KSt_h hs)) hm | exact KMe_add (Kv_q (KSt_h hs)) hm | exact KMe_ins (Kv_q (KSt_h hs)) hm | exact KMe_rem hm⟩
  | arraylength =>
    obtain ⟨rfl, hx1⟩ := gd_s (show am_gd _ _ = some _ from hx)
    obtain ⟨K, i, r, rfl, hx2⟩ := ro_s hx1
    obtain ⟨hc, hx3⟩ := gd_s hx2
    obtain ⟨rfl, rfl, rfl, rfl⟩ := go_s hx3
    exact ⟨by first | exact hl | (first | refine KLo_s1 ?_ hl | refine KLo_s2 ?_ hl) <;> (first | exact Kv_i | exact Kv_l | exact Kv_r Kq_n | exact Kv_r (Kq_s (Or.inr rfl)) | exact KSt_h hs | exact KSt_h (KSt_t hs) | exact KSt_h (KSt_t (KSt_t hs)) | exact KLo_get hl (by assumption) | exact Kv_fv hm | exact Kq_K (z4_5 (by assumption)) | exact Kq_K (z4_0 (by assumption)) | exact Kq_K (z4_a (by assumption)) | exact Kq_K (z4_1 (by assumption)) | exact Kv_r (hm _ _ _)), by (repeat (first | (first | exact hs | exact KSt_t hs | exact KSt_t (KSt_t hs) | exact KSt_t (KSt_t (KSt_t hs)) | exact KSt_n) | refine KSt_c ?_ ?_ | (first | exact Kv_i | exact Kv_l | exact Kv_r Kq_n | exact Kv_r (Kq_s (Or.inr rfl)) | exact KSt_h hs | exact KSt_h (KSt_t hs) | exact KSt_h (KSt_t (KSt_t hs)) | exact KLo_get hl (by assumption) | exact Kv_fv hm | exact Kq_K (z4_5 (by assumption)) | exact Kq_K (z4_0 (by assumption)) | exact Kq_K (z4_a (by assumption)) | exact Kq_K (z4_1 (by assumption)) | exact Kv_r (hm _ _ _)))), by first | exact hm | exact KMe_mk hm | exact KMe_sR (Kv_q (KSt_h hs)) hm | exact KMe_add (Kv_q (KSt_h hs)) hm | exact KMe_ins (Kv_q (KSt_h hs)) hm | exact KMe_rem hm⟩
  | newarray t =>
    obtain ⟨rfl, hx1⟩ := gd_s (show am_gd _ _ = some _ from hx)
    obtain ⟨n, r, rfl, hx2⟩ := i1_s hx1
    cases h1 : kS mid pc with
    | none => rw [h1] at hx2; cases hx2
    | some K =>
      rw [h1] at hx2
      obtain ⟨⟨hn, h8, hk⟩, hx3⟩ := gd_s hx2
      obtain ⟨hbd, hx4⟩ := gd_s (show am_gd _ _ = some _ from hx3)
      obtain ⟨rfl, rfl, rfl, rfl⟩ := go_s hx4
      exact ⟨by first | exact hl | (first | refine KLo_s1 ?_ hl | refine KLo_s2 ?_ hl) <;> (first | exact Kv_i | exact Kv_l | exact Kv_r Kq_n | exact Kv_r (Kq_s (Or.inr rfl)) | exact KSt_h hs | exact KSt_h (KSt_t hs) | exact KSt_h (KSt_t (KSt_t hs)) | exact KLo_get hl (by assumption) | exact Kv_fv hm | exact Kq_K (z4_5 (by assumption)) | exact Kq_K (z4_0 (by assumption)) | exact Kq_K (z4_a (by assumption)) | exact Kq_K (z4_1 (by assumption)) | exact Kv_r (hm _ _ _)), by (repeat (first | (first | exact hs | exact KSt_t hs | exact KSt_t (KSt_t hs) | exact KSt_t (KSt_t (KSt_t hs)) | exact KSt_n) | refine KSt_c ?_ ?_ | (first | exact Kv_i | exact Kv_l | exact Kv_r Kq_n | exact Kv_r (Kq_s (Or.inr rfl)) | exact KSt_h hs | exact KSt_h (KSt_t hs) | exact KSt_h (KSt_t (KSt_t hs)) | exact KLo_get hl (by assumption) | exact Kv_fv hm | exact Kq_K (z4_5 (by assumption)) | exact Kq_K (z4_0 (by assumption)) | exact Kq_K (z4_a (by assumption)) | exact Kq_K (z4_1 (by assumption)) | exact Kv_r (hm _ _ _)))), by first | exact hm | exact KMe_mk hm | exact KMe_sR (Kv_q (KSt_h hs)) hm | exact KMe_add (Kv_q (KSt_h hs)) hm | exact KMe_ins (Kv_q (KSt_h hs)) hm | exact KMe_rem hm⟩
  | new k =>
    obtain ⟨rfl, hx1⟩ := gd_s (show am_gd _ _ = some _ from hx)
    have hx2 : am_new mid pc k l st σ = some (Sum.inl (pc', l', st', σ')) := hx1
    unfold am_new at hx2
    cases h1 : clsP (mcl mid) k with
    | none => rw [h1] at hx2; cases hx2
    | some ci =>
      rw [h1] at hx2
      dsimp only at hx2
      by_cases h98 : ci = 98
      · rw [if_pos h98] at hx2
        obtain ⟨hthr, hx3⟩ := gd_s hx2
        obtain ⟨hbd, hx4⟩ := gd_s (show am_gd _ _ = some _ from hx3)
        cases hx4
      · rw [if_neg h98] at hx2
        cases h2 : kS mid pc with
        | none => rw [h2] at hx2; cases hx2
        | some K =>
          rw [h2] at hx2
          dsimp only at hx2
          by_cases h0 : ci = 0
          · rw [if_pos h0] at hx2
            obtain ⟨⟨hk, h3, hnl⟩, hx5⟩ := gd_s hx2
            obtain ⟨hbd, hx6⟩ := gd_s (show am_gd _ _ = some _ from hx5)
            obtain ⟨rfl, rfl, rfl, rfl⟩ := go_s hx6
            subst h0
            exact ⟨by first | exact hl | (first | refine KLo_s1 ?_ hl | refine KLo_s2 ?_ hl) <;> (first | exact Kv_i | exact Kv_l | exact Kv_r Kq_n | exact Kv_r (Kq_s (Or.inr rfl)) | exact KSt_h hs | exact KSt_h (KSt_t hs) | exact KSt_h (KSt_t (KSt_t hs)) | exact KLo_get hl (by assumption) | exact Kv_fv hm | exact Kq_K (z4_5 (by assumption)) | exact Kq_K (z4_0 (by assumption)) | exact Kq_K (z4_a (by assumption)) | exact Kq_K (z4_1 (by assumption)) | exact Kv_r (hm _ _ _)), by (repeat (first | (first | exact hs | exact KSt_t hs | exact KSt_t (KSt_t hs) | exact KSt_t (KSt_t (KSt_t hs)) | exact KSt_n) | refine KSt_c ?_ ?_ | (first | exact Kv_i | exact Kv_l | exact Kv_r Kq_n | exact Kv_r (Kq_s (Or.inr rfl)) | exact KSt_h hs | exact KSt_h (KSt_t hs) | exact KSt_h (KSt_t (KSt_t hs)) | exact KLo_get hl (by assumption) | exact Kv_fv hm | exact Kq_K (z4_5 (by assumption)) | exact Kq_K (z4_0 (by assumption)) | exact Kq_K (z4_a (by assumption)) | exact Kq_K (z4_1 (by assumption)) | exact Kv_r (hm _ _ _)))), by first | exact hm | exact KMe_mk hm | exact KMe_sR (Kv_q (KSt_h hs)) hm | exact KMe_add (Kv_q (KSt_h hs)) hm | exact KMe_ins (Kv_q (KSt_h hs)) hm | exact KMe_rem hm⟩
          · rw [if_neg h0] at hx2
            obtain ⟨hk, hx7⟩ := gd_s hx2
            obtain ⟨hbd, hx8⟩ := gd_s (show am_gd _ _ = some _ from hx7)
            obtain ⟨rfl, rfl, rfl, rfl⟩ := go_s hx8
            exact ⟨by first | exact hl | (first | refine KLo_s1 ?_ hl | refine KLo_s2 ?_ hl) <;> (first | exact Kv_i | exact Kv_l | exact Kv_r Kq_n | exact Kv_r (Kq_s (Or.inr rfl)) | exact KSt_h hs | exact KSt_h (KSt_t hs) | exact KSt_h (KSt_t (KSt_t hs)) | exact KLo_get hl (by assumption) | exact Kv_fv hm | exact Kq_K (z4_5 (by assumption)) | exact Kq_K (z4_0 (by assumption)) | exact Kq_K (z4_a (by assumption)) | exact Kq_K (z4_1 (by assumption)) | exact Kv_r (hm _ _ _)), by (repeat (first | (first | exact hs | exact KSt_t hs | exact KSt_t (KSt_t hs) | exact KSt_t (KSt_t (KSt_t hs)) | exact KSt_n) | refine KSt_c ?_ ?_ | (first | exact Kv_i | exact Kv_l | exact Kv_r Kq_n | exact Kv_r (Kq_s (Or.inr rfl)) | exact KSt_h hs | exact KSt_h (KSt_t hs) | exact KSt_h (KSt_t (KSt_t hs)) | exact KLo_get hl (by assumption) | exact Kv_fv hm | exact Kq_K (z4_5 (by assumption)) | exact Kq_K (z4_0 (by assumption)) | exact Kq_K (z4_a (by assumption)) | exact Kq_K (z4_1 (by assumption)) | exact Kv_r (hm _ _ _)))), by first | exact hm | exact KMe_mk hm | exact KMe_sR (Kv_q (KSt_h hs)) hm | exact KMe_add (Kv_q (KSt_h hs)) hm | exact KMe_ins (Kv_q (KSt_h hs)) hm | exact KMe_rem hm⟩
  | checkcast k =>
    obtain ⟨rfl, hx1⟩ := gd_s (show am_gd _ _ = some _ from hx)
    obtain ⟨q, r, rfl, hx2⟩ := rq_s hx1
    rcases q with _ | ⟨K, i⟩
    · obtain ⟨rfl, rfl, rfl, rfl⟩ := go_s hx2
      exact ⟨by first | exact hl | (first | refine KLo_s1 ?_ hl | refine KLo_s2 ?_ hl) <;> (first | exact Kv_i | exact Kv_l | exact Kv_r Kq_n | exact Kv_r (Kq_s (Or.inr rfl)) | exact KSt_h hs | exact KSt_h (KSt_t hs) | exact KSt_h (KSt_t (KSt_t hs)) | exact KLo_get hl (by assumption) | exact Kv_fv hm | exact Kq_K (z4_5 (by assumption)) | exact Kq_K (z4_0 (by assumption)) | exact Kq_K (z4_a (by assumption)) | exact Kq_K (z4_1 (by assumption)) | exact Kv_r (hm _ _ _)), by (repeat (first | (first | exact hs | exact KSt_t hs | exact KSt_t (KSt_t hs) | exact KSt_t (KSt_t (KSt_t hs)) | exact KSt_n) | refine KSt_c ?_ ?_ | (first | exact Kv_i | exact Kv_l | exact Kv_r Kq_n | exact Kv_r (Kq_s (Or.inr rfl)) | exact KSt_h hs | exact KSt_h (KSt_t hs) | exact KSt_h (KSt_t (KSt_t hs)) | exact KLo_get hl (by assumption) | exact Kv_fv hm | exact Kq_K (z4_5 (by assumption)) | exact Kq_K (z4_0 (by assumption)) | exact Kq_K (z4_a (by assumption)) | exact Kq_K (z4_1 (by assumption)) | exact Kv_r (hm _ _ _)))), by first | exact hm | exact KMe_mk hm | exact KMe_sR (Kv_q (KSt_h hs)) hm | exact KMe_add (Kv_q (KSt_h hs)) hm | exact KMe_ins (Kv_q (KSt_h hs)) hm | exact KMe_rem hm⟩
    · obtain ⟨⟨hk, _, hf⟩, hx3⟩ := gd_s (show am_gd _ _ = some _ from hx2)
      obtain ⟨rfl, rfl, rfl, rfl⟩ := go_s hx3
      exact ⟨by first | exact hl | (first | refine KLo_s1 ?_ hl | refine KLo_s2 ?_ hl) <;> (first | exact Kv_i | exact Kv_l | exact Kv_r Kq_n | exact Kv_r (Kq_s (Or.inr rfl)) | exact KSt_h hs | exact KSt_h (KSt_t hs) | exact KSt_h (KSt_t (KSt_t hs)) | exact KLo_get hl (by assumption) | exact Kv_fv hm | exact Kq_K (z4_5 (by assumption)) | exact Kq_K (z4_0 (by assumption)) | exact Kq_K (z4_a (by assumption)) | exact Kq_K (z4_1 (by assumption)) | exact Kv_r (hm _ _ _)), by (repeat (first | (first | exact hs | exact KSt_t hs | exact KSt_t (KSt_t hs) | exact KSt_t (KSt_t (KSt_t hs)) | exact KSt_n) | refine KSt_c ?_ ?_ | (first | exact Kv_i | exact Kv_l | exact Kv_r Kq_n | exact Kv_r (Kq_s (Or.inr rfl)) | exact KSt_h hs | exact KSt_h (KSt_t hs) | exact KSt_h (KSt_t (KSt_t hs)) | exact KLo_get hl (by assumption) | exact Kv_fv hm | exact Kq_K (z4_5 (by assumption)) | exact Kq_K (z4_0 (by assumption)) | exact Kq_K (z4_a (by assumption)) | exact Kq_K (z4_1 (by assumption)) | exact Kv_r (hm _ _ _)))), by first | exact hm | exact KMe_mk hm | exact KMe_sR (Kv_q (KSt_h hs)) hm | exact KMe_add (Kv_q (KSt_h hs)) hm | exact KMe_ins (Kv_q (KSt_h hs)) hm | exact KMe_rem hm⟩
  | invokevirtual k =>
    obtain ⟨rfl, hx1⟩ := gd_s (show am_gd _ _ = some _ from hx)
    cases h1 : cal (mcl mid) k with
    | none => rw [h1] at hx1; cases hx1
    | some q =>
      obtain ⟨tg, cm⟩ := q
      rw [h1] at hx1
      dsimp only at hx1
      by_cases h0 : tg = 0
      · rw [if_pos h0] at hx1
        split at hx1
        · obtain ⟨hg, hx2⟩ := gd_s hx1
          cases hx2
        · cases hx1
      · rw [if_neg h0] at hx1
        rcases lv_s hx1 with ⟨-, q, K, i, r, rfl, hg, -, hy⟩ | ⟨-, q, j, K, i, r, rfl, hg, -, hy⟩ | ⟨-, j, K, i, r, rfl, hg, hy⟩ | ⟨-, j, K, i, r, rfl, hg, hy⟩ | ⟨-, K, i, r, rfl, hg, hy⟩ | ⟨-, K, i, r, rfl, hg, hy⟩ | ⟨-, K, i, r, rfl, hg, hy⟩ | ⟨-, i, r, rfl, hg, hy⟩ | ⟨-, j, i, r, rfl, hg, hy⟩ <;> (cases hy; exact ⟨by first | exact hl | (first | refine KLo_s1 ?_ hl | refine KLo_s2 ?_ hl) <;> (first | exact Kv_i | exact Kv_l | exact Kv_r Kq_n | exact Kv_r (Kq_s (Or.inr rfl)) | exact KSt_h hs | exact KSt_h (KSt_t hs) | exact KSt_h (KSt_t (KSt_t hs)) | exact KLo_get hl (by assumption) | exact Kv_fv hm | exact Kq_K (z4_5 (by assumption)) | exact Kq_K (z4_0 (by assumption)) | exact Kq_K (z4_a (by assumption)) | exact Kq_K (z4_1 (by assumption)) | exact Kv_r (hm _ _ _)), by (repeat (first | (first | exact hs | exact KSt_t hs | exact KSt_t (KSt_t hs) | exact KSt_t (KSt_t (KSt_t hs)) | exact KSt_n) | refine KSt_c ?_ ?_ | (first | exact Kv_i | exact Kv_l | exact Kv_r Kq_n | exact Kv_r (Kq_s (Or.inr rfl)) | exact KSt_h hs | exact KSt_h (KSt_t hs) | exact KSt_h (KSt_t (KSt_t hs)) | exact KLo_get hl (by assumption) | exact Kv_fv hm | exact Kq_K (z4_5 (by assumption)) | exact Kq_K (z4_0 (by assumption)) | exact Kq_K (z4_a (by assumption)) | exact Kq_K (z4_1 (by assumption)) | exact Kv_r (hm _ _ _)))), by first | exact hm | exact KMe_mk hm | exact KMe_sR (Kv_q (KSt_h hs)) hm | exact KMe_add (Kv_q (KSt_h hs)) hm | exact KMe_ins (Kv_q (KSt_h hs)) hm | exact KMe_rem hm⟩)
  | invokestatic k =>
    obtain ⟨rfl, hx1⟩ := gd_s (show am_gd _ _ = some _ from hx)
    cases h1 : cal (mcl mid) k with
    | none => rw [h1] at hx1; cases hx1
    | some q =>
      obtain ⟨tg, cm⟩ := q
      rw [h1] at hx1
      dsimp only at hx1
      by_cases h0 : tg = 1 ∨ tg = 2
      · rw [if_pos h0] at hx1
        split at hx1
        · obtain ⟨hg, hx2⟩ := gd_s hx1
          cases hx2
        · cases hx1
      · rw [if_neg h0] at hx1
        rcases ls_s hx1 with ⟨-, n, K, i, r, K2, rfl, hS, ⟨_, hk2, _⟩, -, hy⟩ | ⟨-, v, K, i, r, rfl, hg, hy⟩ | ⟨-, a, b, r, rfl, hg, hy⟩ | ⟨-, a, b, r, rfl, hg, hy⟩ | ⟨-, a, r, rfl, hg, hy⟩ <;> (cases hy; exact ⟨by first | exact hl | (first | refine KLo_s1 ?_ hl | refine KLo_s2 ?_ hl) <;> (first | exact Kv_i | exact Kv_l | exact Kv_r Kq_n | exact Kv_r (Kq_s (Or.inr rfl)) | exact KSt_h hs | exact KSt_h (KSt_t hs) | exact KSt_h (KSt_t (KSt_t hs)) | exact KLo_get hl (by assumption) | exact Kv_fv hm | exact Kq_K (z4_5 (by assumption)) | exact Kq_K (z4_0 (by assumption)) | exact Kq_K (z4_a (by assumption)) | exact Kq_K (z4_1 (by assumption)) | exact Kv_r (hm _ _ _)), by (repeat (first | (first | exact hs | exact KSt_t hs | exact KSt_t (KSt_t hs) | exact KSt_t (KSt_t (KSt_t hs)) | exact KSt_n) | refine KSt_c ?_ ?_ | (first | exact Kv_i | exact Kv_l | exact Kv_r Kq_n | exact Kv_r (Kq_s (Or.inr rfl)) | exact KSt_h hs | exact KSt_h (KSt_t hs) | exact KSt_h (KSt_t (KSt_t hs)) | exact KLo_get hl (by assumption) | exact Kv_fv hm | exact Kq_K (z4_5 (by assumption)) | exact Kq_K (z4_0 (by assumption)) | exact Kq_K (z4_a (by assumption)) | exact Kq_K (z4_1 (by assumption)) | exact Kv_r (hm _ _ _)))), by first | exact hm | exact KMe_mk hm | exact KMe_sR (Kv_q (KSt_h hs)) hm | exact KMe_add (Kv_q (KSt_h hs)) hm | exact KMe_ins (Kv_q (KSt_h hs)) hm | exact KMe_rem hm⟩)
  | invokespecial k =>
    obtain ⟨rfl, hx1⟩ := gd_s (show am_gd _ _ = some _ from hx)
    cases h1 : cal (mcl mid) k with
    | none => rw [h1] at hx1; cases hx1
    | some q =>
      obtain ⟨tg, cm⟩ := q
      rw [h1] at hx1
      dsimp only at hx1
      by_cases h0 : tg = 3 ∨ tg = 4
      · rw [if_pos h0] at hx1
        split at hx1
        · obtain ⟨hg, hx2⟩ := gd_s hx1
          cases hx2
        · cases hx1
      · rw [if_neg h0] at hx1
        by_cases h4 : tg = 40
        · rw [if_pos h4] at hx1
          obtain ⟨K, i, r, rfl, hx3⟩ := ro_s hx1
          obtain ⟨hr, hx4⟩ := gd_s hx3
          obtain ⟨rfl, rfl, rfl, rfl⟩ := go_s hx4
          subst h4
          exact ⟨by first | exact hl | (first | refine KLo_s1 ?_ hl | refine KLo_s2 ?_ hl) <;> (first | exact Kv_i | exact Kv_l | exact Kv_r Kq_n | exact Kv_r (Kq_s (Or.inr rfl)) | exact KSt_h hs | exact KSt_h (KSt_t hs) | exact KSt_h (KSt_t (KSt_t hs)) | exact KLo_get hl (by assumption) | exact Kv_fv hm | exact Kq_K (z4_5 (by assumption)) | exact Kq_K (z4_0 (by assumption)) | exact Kq_K (z4_a (by assumption)) | exact Kq_K (z4_1 (by assumption)) | exact Kv_r (hm _ _ _)), by (repeat (first | (first | exact hs | exact KSt_t hs | exact KSt_t (KSt_t hs) | exact KSt_t (KSt_t (KSt_t hs)) | exact KSt_n) | refine KSt_c ?_ ?_ | (first | exact Kv_i | exact Kv_l | exact Kv_r Kq_n | exact Kv_r (Kq_s (Or.inr rfl)) | exact KSt_h hs | exact KSt_h (KSt_t hs) | exact KSt_h (KSt_t (KSt_t hs)) | exact KLo_get hl (by assumption) | exact Kv_fv hm | exact Kq_K (z4_5 (by assumption)) | exact Kq_K (z4_0 (by assumption)) | exact Kq_K (z4_a (by assumption)) | exact Kq_K (z4_1 (by assumption)) | exact Kv_r (hm _ _ _)))), by first | exact hm | exact KMe_mk hm | exact KMe_sR (Kv_q (KSt_h hs)) hm | exact KMe_add (Kv_q (KSt_h hs)) hm | exact KMe_ins (Kv_q (KSt_h hs)) hm | exact KMe_rem hm⟩
        · rw [if_neg h4] at hx1; cases hx1
  | ireturn =>
    obtain ⟨rfl, hx1⟩ := gd_s (show am_gd _ _ = some _ from hx)
    split at hx1
    · obtain ⟨hg, hx2⟩ := gd_s hx1
      cases hx2
    · cases hx1
  | lreturn =>
    obtain ⟨rfl, hx1⟩ := gd_s (show am_gd _ _ = some _ from hx)
    split at hx1
    · obtain ⟨hg, hx2⟩ := gd_s hx1
      cases hx2
    · cases hx1
  | areturn =>
    obtain ⟨rfl, hx1⟩ := gd_s (show am_gd _ _ = some _ from hx)
    split at hx1
    · obtain ⟨hg, hx2⟩ := gd_s hx1
      cases hx2
    · cases hx1
  | return_ =>
    obtain ⟨rfl, hx1⟩ := gd_s (show am_gd _ _ = some _ from hx)
    split at hx1
    · obtain ⟨hg, hx2⟩ := gd_s hx1
      cases hx2
    · cases hx1
  | _ => exact absurd (show (none : Option aX) = some _ from hx) (by simp)
theorem fld14 {c k : Nat} {q : Nat × Nat × Nat} (h : fld c k = some q) : c ≠ 14 := (show ∀ e ∈ fldL, e.1 ≠ 14 by decide +kernel) _ (lk_s (L := fldL) h)
set_option maxHeartbeats 4000000 in
theorem m_nx {i : Instr} {len pc' : Nat} {l' : aL} {st' : List aV} {σ' : aM} (h14 : mcl mid = 14) (hm : KMe σ) (hx : am_nx mid pc len i l st σ = some (.inl (pc', l', st', σ'))) : KMe σ' := by
  cases i with
  | iconst n =>
    obtain ⟨rfl, hx1⟩ := gd_s (show am_gd _ _ = some _ from hx)
    obtain ⟨rfl, rfl, rfl, rfl⟩ := go_s hx1
    first | exact hm | exact KMe_mk hm | exact absurd h14 (fld14 h1)
  | bipush n =>
    obtain ⟨rfl, hx1⟩ := gd_s (show am_gd _ _ = some _ from hx)
    obtain ⟨rfl, rfl, rfl, rfl⟩ := go_s hx1
    first | exact hm | exact KMe_mk hm | exact absurd h14 (fld14 h1)
  | sipush n =>
    obtain ⟨rfl, hx1⟩ := gd_s (show am_gd _ _ = some _ from hx)
    obtain ⟨rfl, rfl, rfl, rfl⟩ := go_s hx1
    first | exact hm | exact KMe_mk hm | exact absurd h14 (fld14 h1)
  | lconst n =>
    obtain ⟨rfl, hx1⟩ := gd_s (show am_gd _ _ = some _ from hx)
    obtain ⟨rfl, rfl, rfl, rfl⟩ := go_s hx1
    first | exact hm | exact KMe_mk hm | exact absurd h14 (fld14 h1)
  | aconst_null =>
    obtain ⟨rfl, hx1⟩ := gd_s (show am_gd _ _ = some _ from hx)
    obtain ⟨rfl, rfl, rfl, rfl⟩ := go_s hx1
    first | exact hm | exact KMe_mk hm | exact absurd h14 (fld14 h1)
  | ldc k =>
    obtain ⟨rfl, hx1⟩ := gd_s (show am_gd _ _ = some _ from hx)
    cases h1 : cInt (mcl mid) k with
    | some v =>
      rw [h1] at hx1
      obtain ⟨rfl, rfl, rfl, rfl⟩ := go_s hx1
      first | exact hm | exact KMe_mk hm | exact absurd h14 (fld14 h1)
    | none =>
      rw [h1] at hx1
      cases h2 : cStr (mcl mid) k with
      | none => rw [h2] at hx1; cases hx1
      | some t =>
        rw [h2] at hx1
        obtain ⟨rfl, rfl, rfl, rfl⟩ := go_s hx1
        first | exact hm | exact KMe_mk hm | exact absurd h14 (fld14 h1)
  | ldc_w k =>
    obtain ⟨rfl, hx1⟩ := gd_s (show am_gd _ _ = some _ from hx)
    cases h1 : cInt (mcl mid) k with
    | some v =>
      rw [h1] at hx1
      obtain ⟨rfl, rfl, rfl, rfl⟩ := go_s hx1
      first | exact hm | exact KMe_mk hm | exact absurd h14 (fld14 h1)
    | none =>
      rw [h1] at hx1
      cases h2 : cStr (mcl mid) k with
      | none => rw [h2] at hx1; cases hx1
      | some t =>
        rw [h2] at hx1
        obtain ⟨rfl, rfl, rfl, rfl⟩ := go_s hx1
        first | exact hm | exact KMe_mk hm | exact absurd h14 (fld14 h1)
  | ldc2_w k =>
    obtain ⟨rfl, hx1⟩ := gd_s (show am_gd _ _ = some _ from hx)
    cases h1 : cLong (mcl mid) k with
    | some v =>
      rw [h1] at hx1
      obtain ⟨rfl, rfl, rfl, rfl⟩ := go_s hx1
      first | exact hm | exact KMe_mk hm | exact absurd h14 (fld14 h1)
    | none => rw [h1] at hx1; cases hx1
  | iload_n k =>
    obtain ⟨rfl, hx1⟩ := gd_s (show am_gd _ _ = some _ from hx)
    obtain ⟨x, hv, hx2⟩ := li0_s hx1
    obtain ⟨rfl, rfl, rfl, rfl⟩ := go_s hx2
    first | exact hm | exact KMe_mk hm | exact absurd h14 (fld14 h1)
  | iload k =>
    obtain ⟨rfl, hx1⟩ := gd_s (show am_gd _ _ = some _ from hx)
    obtain ⟨x, hv, hx2⟩ := li0_s hx1
    obtain ⟨rfl, rfl, rfl, rfl⟩ := go_s hx2
    first | exact hm | exact KMe_mk hm | exact absurd h14 (fld14 h1)
  | lload_n k =>
    obtain ⟨rfl, hx1⟩ := gd_s (show am_gd _ _ = some _ from hx)
    obtain ⟨x, hv, hx2⟩ := ll0_s hx1
    obtain ⟨rfl, rfl, rfl, rfl⟩ := go_s hx2
    first | exact hm | exact KMe_mk hm | exact absurd h14 (fld14 h1)
  | lload k =>
    obtain ⟨rfl, hx1⟩ := gd_s (show am_gd _ _ = some _ from hx)
    obtain ⟨x, hv, hx2⟩ := ll0_s hx1
    obtain ⟨rfl, rfl, rfl, rfl⟩ := go_s hx2
    first | exact hm | exact KMe_mk hm | exact absurd h14 (fld14 h1)
  | aload_n k =>
    obtain ⟨rfl, hx1⟩ := gd_s (show am_gd _ _ = some _ from hx)
    obtain ⟨x, hv, hx2⟩ := lr0_s hx1
    obtain ⟨rfl, rfl, rfl, rfl⟩ := go_s hx2
    first | exact hm | exact KMe_mk hm | exact absurd h14 (fld14 h1)
  | aload k =>
    obtain ⟨rfl, hx1⟩ := gd_s (show am_gd _ _ = some _ from hx)
    obtain ⟨x, hv, hx2⟩ := lr0_s hx1
    obtain ⟨rfl, rfl, rfl, rfl⟩ := go_s hx2
    first | exact hm | exact KMe_mk hm | exact absurd h14 (fld14 h1)
  | istore_n k =>
    obtain ⟨⟨rfl, hg⟩, hx1⟩ := gd_s (show am_gd _ _ = some _ from hx)
    obtain ⟨x, r, rfl, hx2⟩ := i1_s hx1
    obtain ⟨rfl, rfl, rfl, rfl⟩ := go_s hx2
    first | exact hm | exact KMe_mk hm | exact absurd h14 (fld14 h1)
  | istore k =>
    obtain ⟨⟨rfl, hg⟩, hx1⟩ := gd_s (show am_gd _ _ = some _ from hx)
    obtain ⟨x, r, rfl, hx2⟩ := i1_s hx1
    obtain ⟨rfl, rfl, rfl, rfl⟩ := go_s hx2
    first | exact hm | exact KMe_mk hm | exact absurd h14 (fld14 h1)
  | lstore_n k =>
    obtain ⟨⟨rfl, hg⟩, hx1⟩ := gd_s (show am_gd _ _ = some _ from hx)
    obtain ⟨x, r, rfl, hx2⟩ := l1_s hx1
    obtain ⟨rfl, rfl, rfl, rfl⟩ := go_s hx2
    first | exact hm | exact KMe_mk hm | exact absurd h14 (fld14 h1)
  | lstore k =>
    obtain ⟨⟨rfl, hg⟩, hx1⟩ := gd_s (show am_gd _ _ = some _ from hx)
    obtain ⟨x, r, rfl, hx2⟩ := l1_s hx1
    obtain ⟨rfl, rfl, rfl, rfl⟩ := go_s hx2
    first | exact hm | exact KMe_mk hm | exact absurd h14 (fld14 h1)
  | astore_n k =>
    obtain ⟨⟨rfl, hg⟩, hx1⟩ := gd_s (show am_gd _ _ = some _ from hx)
    obtain ⟨x, r, rfl, hx2⟩ := rq_s hx1
    obtain ⟨rfl, rfl, rfl, rfl⟩ := go_s hx2
    first | exact hm | exact KMe_mk hm | exact absurd h14 (fld14 h1)
  | astore k =>
    obtain ⟨⟨rfl, hg⟩, hx1⟩ := gd_s (show am_gd _ _ = some _ from hx)
    obtain ⟨x, r, rfl, hx2⟩ := rq_s hx1
    obtain ⟨rfl, rfl, rfl, rfl⟩ := go_s hx2
    first | exact hm | exact KMe_mk hm | exact absurd h14 (fld14 h1)
  | iinc k n =>
    obtain ⟨⟨rfl, hg⟩, hx1⟩ := gd_s (show am_gd _ _ = some _ from hx)
    obtain ⟨x, hv, hx2⟩ := li0_s hx1
    obtain ⟨rfl, rfl, rfl, rfl⟩ := go_s hx2
    first | exact hm | exact KMe_mk hm | exact absurd h14 (fld14 h1)
  | iadd =>
    obtain ⟨rfl, hx1⟩ := gd_s (show am_gd _ _ = some _ from hx)
    obtain ⟨a, b, r, rfl, hx2⟩ := i2_s hx1
    obtain ⟨rfl, rfl, rfl, rfl⟩ := go_s hx2
    first | exact hm | exact KMe_mk hm | exact absurd h14 (fld14 h1)
  | isub =>
    obtain ⟨rfl, hx1⟩ := gd_s (show am_gd _ _ = some _ from hx)
    obtain ⟨a, b, r, rfl, hx2⟩ := i2_s hx1
    obtain ⟨rfl, rfl, rfl, rfl⟩ := go_s hx2
    first | exact hm | exact KMe_mk hm | exact absurd h14 (fld14 h1)
  | imul =>
    obtain ⟨rfl, hx1⟩ := gd_s (show am_gd _ _ = some _ from hx)
    obtain ⟨a, b, r, rfl, hx2⟩ := i2_s hx1
    obtain ⟨rfl, rfl, rfl, rfl⟩ := go_s hx2
    first | exact hm | exact KMe_mk hm | exact absurd h14 (fld14 h1)
  | iand =>
    obtain ⟨rfl, hx1⟩ := gd_s (show am_gd _ _ = some _ from hx)
    obtain ⟨a, b, r, rfl, hx2⟩ := i2_s hx1
    obtain ⟨rfl, rfl, rfl, rfl⟩ := go_s hx2
    first | exact hm | exact KMe_mk hm | exact absurd h14 (fld14 h1)
  | ior =>
    obtain ⟨rfl, hx1⟩ := gd_s (show am_gd _ _ = some _ from hx)
    obtain ⟨a, b, r, rfl, hx2⟩ := i2_s hx1
    obtain ⟨rfl, rfl, rfl, rfl⟩ := go_s hx2
    first | exact hm | exact KMe_mk hm | exact absurd h14 (fld14 h1)
  | ixor =>
    obtain ⟨rfl, hx1⟩ := gd_s (show am_gd _ _ = some _ from hx)
    obtain ⟨a, b, r, rfl, hx2⟩ := i2_s hx1
    obtain ⟨rfl, rfl, rfl, rfl⟩ := go_s hx2
    first | exact hm | exact KMe_mk hm | exact absurd h14 (fld14 h1)
  | ishl =>
    obtain ⟨rfl, hx1⟩ := gd_s (show am_gd _ _ = some _ from hx)
    obtain ⟨a, b, r, rfl, hx2⟩ := i2_s hx1
    obtain ⟨rfl, rfl, rfl, rfl⟩ := go_s hx2
    first | exact hm | exact KMe_mk hm | exact absurd h14 (fld14 h1)
  | ishr =>
    obtain ⟨rfl, hx1⟩ := gd_s (show am_gd _ _ = some _ from hx)
    obtain ⟨a, b, r, rfl, hx2⟩ := i2_s hx1
    obtain ⟨rfl, rfl, rfl, rfl⟩ := go_s hx2
    first | exact hm | exact KMe_mk hm | exact absurd h14 (fld14 h1)
  | iushr =>
    obtain ⟨rfl, hx1⟩ := gd_s (show am_gd _ _ = some _ from hx)
    obtain ⟨a, b, r, rfl, hx2⟩ := i2_s hx1
    obtain ⟨rfl, rfl, rfl, rfl⟩ := go_s hx2
    first | exact hm | exact KMe_mk hm | exact absurd h14 (fld14 h1)
  | idiv =>
    obtain ⟨rfl, hx1⟩ := gd_s (show am_gd _ _ = some _ from hx)
    obtain ⟨a, b, r, rfl, hx2⟩ := i2_s hx1
    obtain ⟨hn, hx3⟩ := gd_s hx2
    obtain ⟨rfl, rfl, rfl, rfl⟩ := go_s hx3
    first | exact hm | exact KMe_mk hm | exact absurd h14 (fld14 h1)
  | irem =>
    obtain ⟨rfl, hx1⟩ := gd_s (show am_gd _ _ = some _ from hx)
    obtain ⟨a, b, r, rfl, hx2⟩ := i2_s hx1
    obtain ⟨hn, hx3⟩ := gd_s hx2
    obtain ⟨rfl, rfl, rfl, rfl⟩ := go_s hx3
    first | exact hm | exact KMe_mk hm | exact absurd h14 (fld14 h1)
  | ladd =>
    obtain ⟨rfl, hx1⟩ := gd_s (show am_gd _ _ = some _ from hx)
    obtain ⟨a, b, r, rfl, hx2⟩ := l2_s hx1
    obtain ⟨rfl, rfl, rfl, rfl⟩ := go_s hx2
    first | exact hm | exact KMe_mk hm | exact absurd h14 (fld14 h1)
  | lsub =>
    obtain ⟨rfl, hx1⟩ := gd_s (show am_gd _ _ = some _ from hx)
    obtain ⟨a, b, r, rfl, hx2⟩ := l2_s hx1
    obtain ⟨rfl, rfl, rfl, rfl⟩ := go_s hx2
    first | exact hm | exact KMe_mk hm | exact absurd h14 (fld14 h1)
  | lmul =>
    obtain ⟨rfl, hx1⟩ := gd_s (show am_gd _ _ = some _ from hx)
    obtain ⟨a, b, r, rfl, hx2⟩ := l2_s hx1
    obtain ⟨rfl, rfl, rfl, rfl⟩ := go_s hx2
    first | exact hm | exact KMe_mk hm | exact absurd h14 (fld14 h1)
  | land =>
    obtain ⟨rfl, hx1⟩ := gd_s (show am_gd _ _ = some _ from hx)
    obtain ⟨a, b, r, rfl, hx2⟩ := l2_s hx1
    obtain ⟨rfl, rfl, rfl, rfl⟩ := go_s hx2
    first | exact hm | exact KMe_mk hm | exact absurd h14 (fld14 h1)
  | lor =>
    obtain ⟨rfl, hx1⟩ := gd_s (show am_gd _ _ = some _ from hx)
    obtain ⟨a, b, r, rfl, hx2⟩ := l2_s hx1
    obtain ⟨rfl, rfl, rfl, rfl⟩ := go_s hx2
    first | exact hm | exact KMe_mk hm | exact absurd h14 (fld14 h1)
  | lcmp =>
    obtain ⟨rfl, hx1⟩ := gd_s (show am_gd _ _ = some _ from hx)
    obtain ⟨a, b, r, rfl, hx2⟩ := l2_s hx1
    obtain ⟨rfl, rfl, rfl, rfl⟩ := go_s hx2
    first | exact hm | exact KMe_mk hm | exact absurd h14 (fld14 h1)
  | ldiv =>
    obtain ⟨rfl, hx1⟩ := gd_s (show am_gd _ _ = some _ from hx)
    obtain ⟨a, b, r, rfl, hx2⟩ := l2_s hx1
    obtain ⟨hn, hx3⟩ := gd_s hx2
    obtain ⟨rfl, rfl, rfl, rfl⟩ := go_s hx3
    first | exact hm | exact KMe_mk hm | exact absurd h14 (fld14 h1)
  | lshl =>
    obtain ⟨rfl, hx1⟩ := gd_s (show am_gd _ _ = some _ from hx)
    obtain ⟨a, b, r, rfl, hx2⟩ := li_s hx1
    obtain ⟨rfl, rfl, rfl, rfl⟩ := go_s hx2
    first | exact hm | exact KMe_mk hm | exact absurd h14 (fld14 h1)
  | lshr =>
    obtain ⟨rfl, hx1⟩ := gd_s (show am_gd _ _ = some _ from hx)
    obtain ⟨a, b, r, rfl, hx2⟩ := li_s hx1
    obtain ⟨rfl, rfl, rfl, rfl⟩ := go_s hx2
    first | exact hm | exact KMe_mk hm | exact absurd h14 (fld14 h1)
  | i2l =>
    obtain ⟨rfl, hx1⟩ := gd_s (show am_gd _ _ = some _ from hx)
    obtain ⟨a, r, rfl, hx2⟩ := i1_s hx1
    obtain ⟨rfl, rfl, rfl, rfl⟩ := go_s hx2
    first | exact hm | exact KMe_mk hm | exact absurd h14 (fld14 h1)
  | l2i =>
    obtain ⟨rfl, hx1⟩ := gd_s (show am_gd _ _ = some _ from hx)
    obtain ⟨a, r, rfl, hx2⟩ := l1_s hx1
    obtain ⟨rfl, rfl, rfl, rfl⟩ := go_s hx2
    first | exact hm | exact KMe_mk hm | exact absurd h14 (fld14 h1)
  | i2b =>
    obtain ⟨rfl, hx1⟩ := gd_s (show am_gd _ _ = some _ from hx)
    obtain ⟨a, r, rfl, hx2⟩ := i1_s hx1
    obtain ⟨rfl, rfl, rfl, rfl⟩ := go_s hx2
    first | exact hm | exact KMe_mk hm | exact absurd h14 (fld14 h1)
  | dup =>
    obtain ⟨rfl, hx1⟩ := gd_s (show am_gd _ _ = some _ from hx)
    split at hx1
    · obtain ⟨rfl, rfl, rfl, rfl⟩ := go_s hx1
      first | exact hm | exact KMe_mk hm | exact absurd h14 (fld14 h1)
    · obtain ⟨rfl, rfl, rfl, rfl⟩ := go_s hx1
      first | exact hm | exact KMe_mk hm | exact absurd h14 (fld14 h1)
    · cases hx1
  | pop =>
    obtain ⟨rfl, hx1⟩ := gd_s (show am_gd _ _ = some _ from hx)
    split at hx1
    · obtain ⟨rfl, rfl, rfl, rfl⟩ := go_s hx1
      first | exact hm | exact KMe_mk hm | exact absurd h14 (fld14 h1)
    · obtain ⟨rfl, rfl, rfl, rfl⟩ := go_s hx1
      first | exact hm | exact KMe_mk hm | exact absurd h14 (fld14 h1)
    · cases hx1
  | dup2 =>
    obtain ⟨rfl, hx1⟩ := gd_s (show am_gd _ _ = some _ from hx)
    split at hx1
    · obtain ⟨rfl, rfl, rfl, rfl⟩ := go_s hx1
      first | exact hm | exact KMe_mk hm | exact absurd h14 (fld14 h1)
    · cases hx1
  | goto o =>
    obtain ⟨rfl, hx1⟩ := gd_s (show am_gd _ _ = some _ from hx)
    obtain ⟨t, ht, hx2⟩ := jm_s hx1
    obtain ⟨rfl, rfl, rfl, rfl⟩ := go_s hx2
    first | exact hm | exact KMe_mk hm | exact absurd h14 (fld14 h1)
  | ifCond cc o =>
    obtain ⟨rfl, hx1⟩ := gd_s (show am_gd _ _ = some _ from hx)
    obtain ⟨a, r, rfl, hx2⟩ := i1_s hx1
    obtain ⟨t, ht, hx3⟩ := jm_s hx2
    cases cc with
    | eq =>
      have hx4 : (if a = 0 then am_go t l r σ else am_go (pc + 3) l r σ) = some (Sum.inl (pc', l', st', σ')) := hx3
      split at hx4 <;> (obtain ⟨rfl, rfl, rfl, rfl⟩ := go_s hx4; first | exact hm | exact KMe_mk hm | exact absurd h14 (fld14 h1))
    | ne =>
      have hx5 : (if a = 0 then am_go (pc + 3) l r σ else am_go t l r σ) = some (Sum.inl (pc', l', st', σ')) := hx3
      split at hx5 <;> (obtain ⟨rfl, rfl, rfl, rfl⟩ := go_s hx5; first | exact hm | exact KMe_mk hm | exact absurd h14 (fld14 h1))
    | lt =>
      have hx6 : (if a < 0 then am_go t l r σ else am_go (pc + 3) l r σ) = some (Sum.inl (pc', l', st', σ')) := hx3
      split at hx6 <;> (obtain ⟨rfl, rfl, rfl, rfl⟩ := go_s hx6; first | exact hm | exact KMe_mk hm | exact absurd h14 (fld14 h1))
    | ge =>
      have hx7 : (if a < 0 then am_go (pc + 3) l r σ else am_go t l r σ) = some (Sum.inl (pc', l', st', σ')) := hx3
      split at hx7 <;> (obtain ⟨rfl, rfl, rfl, rfl⟩ := go_s hx7; first | exact hm | exact KMe_mk hm | exact absurd h14 (fld14 h1))
    | gt =>
      have hx8 : (if 0 < a then am_go t l r σ else am_go (pc + 3) l r σ) = some (Sum.inl (pc', l', st', σ')) := hx3
      split at hx8 <;> (obtain ⟨rfl, rfl, rfl, rfl⟩ := go_s hx8; first | exact hm | exact KMe_mk hm | exact absurd h14 (fld14 h1))
    | le =>
      have hx9 : (if 0 < a then am_go (pc + 3) l r σ else am_go t l r σ) = some (Sum.inl (pc', l', st', σ')) := hx3
      split at hx9 <;> (obtain ⟨rfl, rfl, rfl, rfl⟩ := go_s hx9; first | exact hm | exact KMe_mk hm | exact absurd h14 (fld14 h1))
  | if_icmp cc o =>
    obtain ⟨rfl, hx1⟩ := gd_s (show am_gd _ _ = some _ from hx)
    obtain ⟨a, b, r, rfl, hx2⟩ := i2_s hx1
    obtain ⟨t, ht, hx3⟩ := jm_s hx2
    cases cc with
    | eq =>
      have hx4 : (if a = b then am_go t l r σ else am_go (pc + 3) l r σ) = some (Sum.inl (pc', l', st', σ')) := hx3
      split at hx4 <;> (obtain ⟨rfl, rfl, rfl, rfl⟩ := go_s hx4; first | exact hm | exact KMe_mk hm | exact absurd h14 (fld14 h1))
    | ne =>
      have hx5 : (if a = b then am_go (pc + 3) l r σ else am_go t l r σ) = some (Sum.inl (pc', l', st', σ')) := hx3
      split at hx5 <;> (obtain ⟨rfl, rfl, rfl, rfl⟩ := go_s hx5; first | exact hm | exact KMe_mk hm | exact absurd h14 (fld14 h1))
    | lt =>
      have hx6 : (if a < b then am_go t l r σ else am_go (pc + 3) l r σ) = some (Sum.inl (pc', l', st', σ')) := hx3
      split at hx6 <;> (obtain ⟨rfl, rfl, rfl, rfl⟩ := go_s hx6; first | exact hm | exact KMe_mk hm | exact absurd h14 (fld14 h1))
    | ge =>
      have hx7 : (if a < b then am_go (pc + 3) l r σ else am_go t l r σ) = some (Sum.inl (pc', l', st', σ')) := hx3
      split at hx7 <;> (obtain ⟨rfl, rfl, rfl, rfl⟩ := go_s hx7; first | exact hm | exact KMe_mk hm | exact absurd h14 (fld14 h1))
    | gt =>
      have hx8 : (if b < a then am_go t l r σ else am_go (pc + 3) l r σ) = some (Sum.inl (pc', l', st', σ')) := hx3
      split at hx8 <;> (obtain ⟨rfl, rfl, rfl, rfl⟩ := go_s hx8; first | exact hm | exact KMe_mk hm | exact absurd h14 (fld14 h1))
    | le =>
      have hx9 : (if b < a then am_go (pc + 3) l r σ else am_go t l r σ) = some (Sum.inl (pc', l', st', σ')) := hx3
      split at hx9 <;> (obtain ⟨rfl, rfl, rfl, rfl⟩ := go_s hx9; first | exact hm | exact KMe_mk hm | exact absurd h14 (fld14 h1))
  | ifnull o =>
    obtain ⟨rfl, hx1⟩ := gd_s (show am_gd _ _ = some _ from hx)
    obtain ⟨q, r, rfl, hx2⟩ := rq_s hx1
    obtain ⟨t, ht, hx3⟩ := jm_s hx2
    have hx4 : (if q = none then am_go t l r σ else am_go (pc + 3) l r σ) = some (Sum.inl (pc', l', st', σ')) := hx3
    split at hx4 <;> (obtain ⟨rfl, rfl, rfl, rfl⟩ := go_s hx4; first | exact hm | exact KMe_mk hm | exact absurd h14 (fld14 h1))
  | ifnonnull o =>
    obtain ⟨rfl, hx1⟩ := gd_s (show am_gd _ _ = some _ from hx)
    obtain ⟨q, r, rfl, hx2⟩ := rq_s hx1
    obtain ⟨t, ht, hx3⟩ := jm_s hx2
    have hx4 : (if q = none then am_go (pc + 3) l r σ else am_go t l r σ) = some (Sum.inl (pc', l', st', σ')) := hx3
    split at hx4 <;> (obtain ⟨rfl, rfl, rfl, rfl⟩ := go_s hx4; first | exact hm | exact KMe_mk hm | exact absurd h14 (fld14 h1))
  | tableswitch df lo hi offs =>
    obtain ⟨x, r, rfl, hx1⟩ := i1_s (show am_i1 _ _ = some _ from hx)
    obtain ⟨hg, hx2⟩ := gd_s hx1
    rcases sw_s _ _ hx2 with ⟨_, _, t, _, _, _, ht⟩ | ⟨_, t, _, ht⟩ <;> (obtain ⟨rfl, rfl, rfl, rfl⟩ := go_s ht; first | exact hm | exact KMe_mk hm | exact absurd h14 (fld14 h1))
  | getfield k =>
    obtain ⟨rfl, hx1⟩ := gd_s (show am_gd _ _ = some _ from hx)
    cases h1 : fld (mcl mid) k with
    | none => rw [h1] at hx1; cases hx1
    | some q =>
      obtain ⟨ci, f, t⟩ := q
      rw [h1] at hx1
      obtain ⟨K, i, r, rfl, hx2⟩ := ro_s hx1
      obtain ⟨⟨hk, hi⟩, hx3⟩ := gd_s hx2
      obtain ⟨rfl, rfl, rfl, rfl⟩ := go_s hx3
      first | exact hm | exact KMe_mk hm | exact absurd h14 (fld14 h1)
  | putfield k =>
    obtain ⟨rfl, hx1⟩ := gd_s (show am_gd _ _ = some _ from hx)
    cases h1 : fld (mcl mid) k with
    | none => rw [h1] at hx1; cases hx1
    | some q =>
      obtain ⟨ci, f, t⟩ := q
      rw [h1] at hx1
      obtain ⟨v, r1, rfl, hx2⟩ := v1_s hx1
      obtain ⟨K, i, r, rfl, hx3⟩ := ro_s hx2
      obtain ⟨⟨hk, hi, hF⟩, hx4⟩ := gd_s hx3
      rcases v with x | x | x
      · obtain ⟨ht, hx5⟩ := gd_s (show am_gd _ _ = some _ from hx4)
        obtain ⟨rfl, rfl, rfl, rfl⟩ := go_s hx5
        first | exact hm | exact KMe_mk hm | exact absurd h14 (fld14 h1)
      · obtain ⟨rfl, hx6⟩ := gd_s (show am_gd _ _ = some _ from hx4)
        obtain ⟨rfl, rfl, rfl, rfl⟩ := go_s hx6
        first | exact hm | exact KMe_mk hm | exact absurd h14 (fld14 h1)
      · obtain ⟨rfl, hx7⟩ := gd_s (show am_gd _ _ = some _ from hx4)
        obtain ⟨rfl, rfl, rfl, rfl⟩ := go_s hx7
        first | exact hm | exact KMe_mk hm | exact absurd h14 (fld14 h1)
  | iaload =>
    obtain ⟨rfl, hx1⟩ := gd_s (show am_gd _ _ = some _ from hx)
    obtain ⟨j, r1, rfl, hx2⟩ := i1_s hx1
    obtain ⟨K, i, r, rfl, hx3⟩ := ro_s hx2
    obtain ⟨⟨hc, hin⟩, hx4⟩ := gd_s hx3
    obtain ⟨rfl, rfl, rfl, rfl⟩ := go_s hx4
    first | exact hm | exact KMe_mk hm | exact absurd h14 (fld14 h1)
  | baload =>
    obtain ⟨rfl, hx1⟩ := gd_s (show am_gd _ _ = some _ from hx)
    obtain ⟨j, r1, rfl, hx2⟩ := i1_s hx1
    obtain ⟨K, i, r, rfl, hx3⟩ := ro_s hx2
    obtain ⟨⟨hc, _, hin⟩, hx4⟩ := gd_s hx3
    obtain ⟨rfl, rfl, rfl, rfl⟩ := go_s hx4
    first | exact hm | exact KMe_mk hm | exact absurd h14 (fld14 h1)
  | laload =>
    obtain ⟨rfl, hx1⟩ := gd_s (show am_gd _ _ = some _ from hx)
    obtain ⟨j, r1, rfl, hx2⟩ := i1_s hx1
    obtain ⟨K, i, r, rfl, hx3⟩ := ro_s hx2
    obtain ⟨⟨hc, _, hin⟩, hx4⟩ := gd_s hx3
    obtain ⟨rfl, rfl, rfl, rfl⟩ := go_s hx4
    first | exact hm | exact KMe_mk hm | exact absurd h14 (fld14 h1)
  | iastore =>
    obtain ⟨rfl, hx1⟩ := gd_s (show am_gd _ _ = some _ from hx)
    obtain ⟨j, x, r1, rfl, hx2⟩ := i2_s hx1
    obtain ⟨K, i, r, rfl, hx3⟩ := ro_s hx2
    obtain ⟨⟨hc, _, hin⟩, hx4⟩ := gd_s hx3
    obtain ⟨rfl, rfl, rfl, rfl⟩ := go_s hx4
    first | exact hm | exact KMe_mk hm | exact absurd h14 (fld14 h1)
  | bastore =>
    obtain ⟨rfl, hx1⟩ := gd_s (show am_gd _ _ = some _ from hx)
    obtain ⟨j, x, r1, rfl, hx2⟩ := i2_s hx1
    obtain ⟨K, i, r, rfl, hx3⟩ := ro_s hx2
    obtain ⟨⟨hc, _, hin⟩, hx4⟩ := gd_s hx3
    obtain ⟨rfl, rfl, rfl, rfl⟩ := go_s hx4
    first | exact hm | exact KMe_mk hm | exact absurd h14 (fld14 h1)
  | lastore =>
    obtain ⟨rfl, hx1⟩ := gd_s (show am_gd _ _ = some _ from hx)
    obtain ⟨x, r2, rfl, hx2⟩ := l1_s hx1
    obtain ⟨j, r1, rfl, hx3⟩ := i1_s hx2
    obtain ⟨K, i, r, rfl, hx4⟩ := ro_s hx3
    obtain ⟨⟨hc, _, hin⟩, hx5⟩ := gd_s hx4
    obtain ⟨rfl, rfl, rfl, rfl⟩ := go_s hx5
    first | exact hm | exact KMe_mk hm | exact absurd h14 (fld14 h1)
  | arraylength =>
    obtain ⟨rfl, hx1⟩ := gd_s (show am_gd _ _ = some _ from hx)
    obtain ⟨K, i, r, rfl, hx2⟩ := ro_s hx1
    obtain ⟨hc, hx3⟩ := gd_s hx2
    obtain ⟨rfl, rfl, rfl, rfl⟩ := go_s hx3
    first | exact hm | exact KMe_mk hm | exact absurd h14 (fld14 h1)
  | newarray t =>
    obtain ⟨rfl, hx1⟩ := gd_s (show am_gd _ _ = some _ from hx)
    obtain ⟨n, r, rfl, hx2⟩ := i1_s hx1
    cases h1 : kS mid pc with
    | none => rw [h1] at hx2; cases hx2
    | some K =>
      rw [h1] at hx2
      obtain ⟨⟨hn, h8, hk⟩, hx3⟩ := gd_s hx2
      obtain ⟨hbd, hx4⟩ := gd_s (show am_gd _ _ = some _ from hx3)
      obtain ⟨rfl, rfl, rfl, rfl⟩ := go_s hx4
      first | exact hm | exact KMe_mk hm | exact absurd h14 (fld14 h1)
  | new k =>
    obtain ⟨rfl, hx1⟩ := gd_s (show am_gd _ _ = some _ from hx)
    have hx2 : am_new mid pc k l st σ = some (Sum.inl (pc', l', st', σ')) := hx1
    unfold am_new at hx2
    cases h1 : clsP (mcl mid) k with
    | none => rw [h1] at hx2; cases hx2
    | some ci =>
      rw [h1] at hx2
      dsimp only at hx2
      by_cases h98 : ci = 98
      · rw [if_pos h98] at hx2
        obtain ⟨hthr, hx3⟩ := gd_s hx2
        obtain ⟨hbd, hx4⟩ := gd_s (show am_gd _ _ = some _ from hx3)
        cases hx4
      · rw [if_neg h98] at hx2
        cases h2 : kS mid pc with
        | none => rw [h2] at hx2; cases hx2
        | some K =>
          rw [h2] at hx2
          dsimp only at hx2
          by_cases h0 : ci = 0
          · rw [if_pos h0] at hx2
            obtain ⟨⟨hk, h3, hnl⟩, hx5⟩ := gd_s hx2
            obtain ⟨hbd, hx6⟩ := gd_s (show am_gd _ _ = some _ from hx5)
            obtain ⟨rfl, rfl, rfl, rfl⟩ := go_s hx6
            subst h0
            first | exact hm | exact KMe_mk hm | exact absurd h14 (fld14 h1)
          · rw [if_neg h0] at hx2
            obtain ⟨hk, hx7⟩ := gd_s hx2
            obtain ⟨hbd, hx8⟩ := gd_s (show am_gd _ _ = some _ from hx7)
            obtain ⟨rfl, rfl, rfl, rfl⟩ := go_s hx8
            first | exact hm | exact KMe_mk hm | exact absurd h14 (fld14 h1)
  | checkcast k =>
    obtain ⟨rfl, hx1⟩ := gd_s (show am_gd _ _ = some _ from hx)
    obtain ⟨q, r, rfl, hx2⟩ := rq_s hx1
    rcases q with _ | ⟨K, i⟩
    · obtain ⟨rfl, rfl, rfl, rfl⟩ := go_s hx2
      first | exact hm | exact KMe_mk hm | exact absurd h14 (fld14 h1)
    · obtain ⟨⟨hk, _, hf⟩, hx3⟩ := gd_s (show am_gd _ _ = some _ from hx2)
      obtain ⟨rfl, rfl, rfl, rfl⟩ := go_s hx3
      first | exact hm | exact KMe_mk hm | exact absurd h14 (fld14 h1)
  | invokevirtual k =>
    obtain ⟨rfl, hx1⟩ := gd_s (show am_gd _ _ = some _ from hx)
    cases h1 : cal (mcl mid) k with
    | none => rw [h1] at hx1; cases hx1
    | some q =>
      obtain ⟨tg, cm⟩ := q
      rw [h1] at hx1
      dsimp only at hx1
      by_cases h0 : tg = 0
      · rw [if_pos h0] at hx1
        split at hx1
        · obtain ⟨hg, hx2⟩ := gd_s hx1
          cases hx2
        · cases hx1
      · rw [if_neg h0] at hx1
        rcases lv_s hx1 with ⟨htg, q, K, i, r, rfl, hg, -, hy⟩ | ⟨htg, q, j, K, i, r, rfl, hg, -, hy⟩ | ⟨htg, j, K, i, r, rfl, hg, hy⟩ | ⟨htg, j, K, i, r, rfl, hg, hy⟩ | ⟨htg, K, i, r, rfl, hg, hy⟩ | ⟨htg, K, i, r, rfl, hg, hy⟩ | ⟨htg, K, i, r, rfl, hg, hy⟩ | ⟨htg, i, r, rfl, hg, hy⟩ | ⟨htg, j, i, r, rfl, hg, hy⟩ <;> (cases hy; first | exact hm | exact absurd h14 (calM1x _ (lk_s (L := calL) h1) (by first | exact Or.inl htg | exact Or.inr (Or.inl htg) | exact Or.inr (Or.inr (Or.inl htg)))))
  | invokestatic k =>
    obtain ⟨rfl, hx1⟩ := gd_s (show am_gd _ _ = some _ from hx)
    cases h1 : cal (mcl mid) k with
    | none => rw [h1] at hx1; cases hx1
    | some q =>
      obtain ⟨tg, cm⟩ := q
      rw [h1] at hx1
      dsimp only at hx1
      by_cases h0 : tg = 1 ∨ tg = 2
      · rw [if_pos h0] at hx1
        split at hx1
        · obtain ⟨hg, hx2⟩ := gd_s hx1
          cases hx2
        · cases hx1
      · rw [if_neg h0] at hx1
        rcases ls_s hx1 with ⟨-, n, K, i, r, K2, rfl, hS, ⟨_, hk2, _⟩, -, hy⟩ | ⟨-, v, K, i, r, rfl, hg, hy⟩ | ⟨-, a, b, r, rfl, hg, hy⟩ | ⟨-, a, b, r, rfl, hg, hy⟩ | ⟨-, a, r, rfl, hg, hy⟩ <;> (cases hy; first | exact hm | exact KMe_mk hm)
  | invokespecial k =>
    obtain ⟨rfl, hx1⟩ := gd_s (show am_gd _ _ = some _ from hx)
    cases h1 : cal (mcl mid) k with
    | none => rw [h1] at hx1; cases hx1
    | some q =>
      obtain ⟨tg, cm⟩ := q
      rw [h1] at hx1
      dsimp only at hx1
      by_cases h0 : tg = 3 ∨ tg = 4
      · rw [if_pos h0] at hx1
        split at hx1
        · obtain ⟨hg, hx2⟩ := gd_s hx1
          cases hx2
        · cases hx1
      · rw [if_neg h0] at hx1
        by_cases h4 : tg = 40
        · rw [if_pos h4] at hx1
          obtain ⟨K, i, r, rfl, hx3⟩ := ro_s hx1
          obtain ⟨hr, hx4⟩ := gd_s hx3
          obtain ⟨rfl, rfl, rfl, rfl⟩ := go_s hx4
          subst h4
          first | exact hm | exact KMe_mk hm | exact absurd h14 (fld14 h1)
        · rw [if_neg h4] at hx1; cases hx1
  | ireturn =>
    obtain ⟨rfl, hx1⟩ := gd_s (show am_gd _ _ = some _ from hx)
    split at hx1
    · obtain ⟨hg, hx2⟩ := gd_s hx1
      cases hx2
    · cases hx1
  | lreturn =>
    obtain ⟨rfl, hx1⟩ := gd_s (show am_gd _ _ = some _ from hx)
    split at hx1
    · obtain ⟨hg, hx2⟩ := gd_s hx1
      cases hx2
    · cases hx1
  | areturn =>
    obtain ⟨rfl, hx1⟩ := gd_s (show am_gd _ _ = some _ from hx)
    split at hx1
    · obtain ⟨hg, hx2⟩ := gd_s hx1
      cases hx2
    · cases hx1
  | return_ =>
    obtain ⟨rfl, hx1⟩ := gd_s (show am_gd _ _ = some _ from hx)
    split at hx1
    · obtain ⟨hg, hx2⟩ := gd_s hx1
      cases hx2
    · cases hx1
  | _ => exact absurd (show (none : Option aX) = some _ from hx) (by simp)
end SIMKX
