/-! what every frame keeps: the kinds of its references -/
section INVF
variable {mid pc : Nat} {l : aL} {st : List aV} {σ : aM}
def FIV (mid pc : Nat) (l : aL) (st : List aV) : Prop := (mcl mid ≠ 14 → KLo l ∧ KSt st) ∧ (mcl mid = 14 → TYP mid pc l st)
def RTY (mid : Nat) (v : aR) : Prop := (v = some none → mrt mid = 0) ∧ ∀ x, v = some (some x) → Kv x ∧ ((∃ y, x = vi y ∧ (mrt mid = 1 ∨ mrt mid = 2)) ∨ (∃ y, x = vl y ∧ mrt mid = 3) ∨ (∃ q, x = vr q ∧ mrt mid = 4))
theorem cal_14 : ∀ e ∈ calL, e.1 ≠ 14 → e.2.2.1 ≤ 4 → mcl e.2.2.2 ≠ 14 := by decide +kernel
theorem hnd_14 : ∀ e ∈ hndL, mcl e.1 = 14 := by decide +kernel
theorem hnd_n {pc : Nat} (h : mcl mid ≠ 14) : hnd mid pc = none := by
  cases e : hnd mid pc with
  | none => rfl
  | some q => exact absurd (hnd_14 _ (lk_s (L := hndL) e)) h
theorem lcT_ag {c k : Nat} (h : (lwcL c).take (mar c) = agL c) (hk : k < (agL c).length) (hl : (agL c).length = mar c) : lcT c k = (agL c).getD k 0 := by
  unfold lcT
  have e : (lwcL c).take (mar c) = agL c := h
  rw [← e] at hk ⊢
  rw [List.getD_eq_getElem?_getD, List.getD_eq_getElem?_getD, List.getElem?_take_of_lt (by rw [← hl, ← e]; exact hk)]
theorem ea_ty : ∀ {As : List aV} {ts : List Nat}, tyS As ts → (∀ t ∈ ts, t ≠ 1) → ∀ (k : Nat) (v : aV), (am_ea As)[k]? = some (some v) → tyv v (ts.getD k 0) ∧ k < ts.length
  | [], [], _, _, k, v, h => by simp [am_ea] at h
  | u :: As, t :: ts, h, h1, k, v, he => by
    have e : am_ea (u :: As) = some u :: am_ea As := by
      rcases u with u | u | u
      · rfl
      · exact absurd h.1 (fun e => h1 t List.mem_cons_self e)
      · rfl
    rw [e] at he
    cases k with
    | zero =>
      simp at he
      subst he
      exact ⟨h.1, Nat.succ_pos _⟩
    | succ k =>
      have := ea_ty h.2 (fun t ht => h1 t (List.mem_cons_of_mem _ ht)) k v (by simpa using he)
      exact ⟨by simpa using this.1, Nat.succ_lt_succ this.2⟩
  | [], _ :: _, h, _, _, _, _ => h.elim
  | _ :: _, [], h, _, _, _, _ => h.elim
theorem agL_1 : ∀ c t, t ∈ agL c → t ≠ 1 := by
  intro c t h
  unfold agL at h
  split at h <;> revert t <;> decide
/-- a call's frame, and what lies behind it -/
theorem FIV_call {k tg cm len : Nat} {As r : List aV} {i : Instr} (hI : FIV mid pc l st) (hd : decode (mcode mid) pc = .ok (i, len)) (hf : cal (mcl mid) k = some (tg, cm))
    (hkind : (tg = 0 ∧ i = .invokevirtual k ∧ ∃ K i B, As = vr (some (K, i)) :: B ∧ st = B.reverse ++ vr (some (K, i)) :: r ∧ B.length = mar cm ∧ (kT K).1 = 0 ∧ (kT K).2 = mcl cm) ∨ ((tg = 1 ∨ tg = 2) ∧ i = .invokestatic k ∧ st = As.reverse ++ r ∧ As.length = mar cm) ∨ ((tg = 3 ∨ tg = 4) ∧ i = .invokespecial k ∧ ∃ K i B, As = vr (some (K, i)) :: B ∧ st = B.reverse ++ vr (some (K, i)) :: r ∧ B.length = mar cm ∧ (kT K).1 = 0)) :
    FIV cm 0 (am_ent (mml cm) As) [] ∧ (∀ v : aR, RTY cm v → (∀ x, v = some (some x) → FIV mid (pc + 3) l (x :: r)) ∧ (v = some none → FIV mid (pc + 3) l r)) ∧ ∀ h n, hnd mid pc = some h → FIV mid h l [vr (some (2, n))] := by
  have htg : tg ≤ 4 := by rcases hkind with ⟨h, _⟩ | ⟨h | h, _⟩ | ⟨h | h, _⟩ <;> omega
  by_cases c14 : mcl mid = 14
  · obtain ⟨hm, ts, g1, g2, g3⟩ := hI.2 c14
    have hc := chk_at hm hd g1
    have nr : ∀ {rr : List Nat}, lwnR mid (pc + 3) cm rr = true → tyS r rr → ∀ v : aR, RTY cm v → (∀ x, v = some (some x) → FIV mid (pc + 3) l (x :: r)) ∧ (v = some none → FIV mid (pc + 3) l r) := by
      intro rr h1 h2 v hv
      unfold lwnR at h1
      refine ⟨fun x e => ⟨fun q => absurd c14 q, fun _ => ⟨hm, ?_⟩⟩, fun e => ⟨fun q => absurd c14 q, fun _ => ⟨hm, ?_⟩⟩⟩
      · obtain ⟨-, h3⟩ := hv.2 x e
        rcases h3 with ⟨y, rfl, hr⟩ | ⟨y, rfl, hr⟩ | ⟨q, rfl, hr⟩
        · rw [if_neg (by omega), if_neg (by omega)] at h1
          exact ⟨_, nxt_s (and_b h1).2, ⟨rfl, h2⟩, g3⟩
        · rw [if_neg (by omega), if_pos hr] at h1
          exact ⟨_, nxt_s h1, ⟨rfl, h2⟩, g3⟩
        · rw [if_neg (by omega), if_neg (by omega)] at h1
          exact absurd hr (of_decide_eq_true (and_b h1).1)
      · rw [if_pos (hv.1 e)] at h1
        exact ⟨_, nxt_s h1, h2, g3⟩
    have nh : nxH mid pc = true → ∀ h n, hnd mid pc = some h → FIV mid h l [vr (some (2, n))] := by
      intro h1 h n e
      unfold nxH at h1
      rw [e] at h1
      exact ⟨fun q => absurd c14 q, fun _ => ⟨hm, _, nxt_s h1, ⟨rfl, trivial⟩, g3⟩⟩
    rcases hkind with ⟨rfl, rfl, K, i, B, rfl, rfl, hB, hk1, hk2⟩ | ⟨ht, rfl, rfl, hB⟩ | ⟨ht, rfl, K, i, B, rfl, rfl, hB, hk1⟩
    · unfold chk at hc
      try dsimp only at hc
      rw [hf] at hc
      try dsimp only at hc
      obtain ⟨hc, hc3⟩ := and_b hc
      obtain ⟨hc1, hc2⟩ := and_b hc
      have hc1 := of_decide_eq_true hc1
      have hc2 := of_decide_eq_true hc2
      obtain ⟨t1, t2⟩ := tyS_app g2
      rw [List.length_reverse, hB] at t1 t2
      rw [hc2] at t1
      obtain ⟨t, rr, e, t3, t4⟩ := tyS_c t2
      rw [e] at hc3
      obtain ⟨hc4, hc5⟩ := and_b hc3
      have hz : z4 K = true := by
        unfold z4
        rw [hk1]; rfl
      refine ⟨⟨fun _ => ⟨KLo_ent (KSt_c (Kq_K hz) (KSt_rev (tyS_ints t1))), KSt_n⟩, fun q => absurd q hc1.2⟩, nr hc4 t4, nh hc5⟩
    · unfold chk at hc
      try dsimp only at hc
      rw [hf] at hc
      try dsimp only at hc
      obtain ⟨hc, hc3⟩ := and_b hc
      obtain ⟨hc1, hc2⟩ := and_b hc
      obtain ⟨e1, e2, e3, e4, e5, e6⟩ := of_decide_eq_true hc1
      obtain ⟨t1, t2⟩ := tyS_app g2
      rw [List.length_reverse, hB] at t1 t2
      have t3 := tyS_rev t1
      rw [List.reverse_reverse, e3] at t3
      have hcm : cm < 4 := by
        rcases Nat.lt_or_ge cm 4 with c | c
        · exact c
        · unfold stT tyT at e4
          rcases (show ∃ q, cm = q + 4 from ⟨cm - 4, by omega⟩) with ⟨q, rfl⟩
          simp at e4
      refine ⟨⟨fun q => absurd e2 q, fun _ => ⟨hcm, [], e4, trivial, fun k v hk => ?_⟩⟩, nr hc2 t2, nh hc3⟩
      have hk2 : (am_ea As)[k]? = some (some v) := by
        unfold am_ent at hk
        by_cases c : k < (am_ea As).length
        · rw [List.getElem?_append_left c] at hk; exact hk
        · rw [List.getElem?_append_right (by omega)] at hk
          have := List.mem_of_getElem? hk
          rw [List.mem_replicate] at this
          exact absurd this.2 (by simp)
      obtain ⟨h5, h6⟩ := ea_ty t3 (fun t ht => agL_1 cm t ht) k v hk2
      rw [lcT_ag e6 h6 e5]
      exact h5
    · unfold chk at hc
      try dsimp only at hc
      rw [hf] at hc
      try dsimp only at hc
      obtain ⟨hc1, hc2⟩ := and_b hc
      obtain ⟨e1, e2, e3⟩ := of_decide_eq_true hc1
      have hB0 : B = [] := List.length_eq_zero_iff.mp (hB.trans e3)
      subst hB0
      obtain ⟨t, rr, rfl, t3, t4⟩ := tyS_c g2
      obtain ⟨hc4, hc5⟩ := and_b hc2
      have hz : z4 K = true := by
        unfold z4
        rw [hk1]; rfl
      exact ⟨⟨fun _ => ⟨KLo_ent (KSt_c (Kq_K hz) KSt_n), KSt_n⟩, fun q => absurd q e2⟩, nr hc4 t4, nh hc5⟩
  · obtain ⟨g1, g2⟩ := hI.1 c14
    have hcm := cal_14 _ (lk_s (L := calL) hf) c14 htg
    have hA : KSt As ∧ KSt r := by
      rcases hkind with ⟨-, -, K, i, B, rfl, rfl, -⟩ | ⟨-, -, rfl, -⟩ | ⟨-, -, K, i, B, rfl, rfl, -⟩
      · obtain ⟨t1, t2⟩ := KSt_app g2
        exact ⟨KSt_c (KSt_h t2) (KSt_rev t1), KSt_t t2⟩
      · obtain ⟨t1, t2⟩ := KSt_app g2
        exact ⟨KSt_rev t1, t2⟩
      · obtain ⟨t1, t2⟩ := KSt_app g2
        exact ⟨KSt_c (KSt_h t2) (KSt_rev t1), KSt_t t2⟩
    refine ⟨⟨fun _ => ⟨KLo_ent hA.1, KSt_n⟩, fun q => absurd q hcm⟩, fun v hv => ⟨fun x e => ⟨fun _ => ⟨g1, KSt_c (hv.2 x e).1 hA.2⟩, fun q => absurd q c14⟩, fun e => ⟨fun _ => ⟨g1, hA.2⟩, fun q => absurd q c14⟩⟩, fun h n e => ?_⟩
    rw [hnd_n c14] at e
    cases e
end INVF
