/-- the memories agree but for the cell (K, i) -/
def agr (σ σ' : aM) (K i : Nat) : Prop := (∀ a, gC σ' a = gC σ a) ∧ ∀ a b, ¬ (a = K ∧ b = i) → gI σ' a b = gI σ a b ∧ gL σ' a b = gL σ a b ∧ gR σ' a b = gR σ a b ∧ gN σ' a b = gN σ a b
theorem fv_agr {σ σ' : aM} {K i f t : Nat} (h : gI σ' K i = gI σ K i ∧ gL σ' K i = gL σ K i ∧ gR σ' K i = gR σ K i ∧ gN σ' K i = gN σ K i) : am_fv σ' K i f t = am_fv σ K i f t := by
  unfold am_fv; rw [h.1, h.2.1, h.2.2.1]
theorem erel.mono {ad ad' : sA} {σ σ' : aM} {K i : Nat} {tys tys' : List (ClassId × FieldType)} {e : va_E} (hle : sm_le ad ad') (ht : ∀ (t0 : Nat) x, tys[t0]? = some x → tys'[t0]? = some x) (h : gI σ' K i = gI σ K i ∧ gL σ' K i = gL σ K i ∧ gR σ' K i = gR σ K i ∧ gN σ' K i = gN σ K i) (k : erel ad σ K i tys e) : erel ad' σ' K i tys' e := by
  obtain ⟨k0, k1, k2, k3, k4⟩ := k
  refine ⟨fun g => ?_, fun g => ?_, fun g => ?_, fun g => ?_, fun g => ?_⟩
  · obtain ⟨fs, e1, e2, e3⟩ := k0 g
    refine ⟨fs, e1, e2, fun j hj => ?_⟩
    obtain ⟨w, g1, g2⟩ := e3 j hj
    exact ⟨w, g1, by rw [fv_agr h]; exact g2.mono hle⟩
  · obtain ⟨cA, t0, e1, e2⟩ := k1 g
    exact ⟨cA, t0, ht _ _ e1, by rw [h.1, h.2.2.2]; exact e2⟩
  · obtain ⟨cA, t0, e1, e2⟩ := k2 g
    exact ⟨cA, t0, ht _ _ e1, by rw [h.2.1, h.2.2.2]; exact e2⟩
  · obtain ⟨cA, t0, e1, e2⟩ := k3 g
    exact ⟨cA, t0, ht _ _ e1, by rw [h.1, h.2.2.2]; exact e2⟩
  · obtain ⟨cA, t0, e1, e2⟩ := k4 g
    exact ⟨cA, t0, ht _ _ e1, by rw [h.1, h.2.2.2]; exact e2⟩
theorem lirel.mono {ad ad' bk bk' : sA} {σ σ' : aM} {ws ws' : va_W} {tys tys' : List (ClassId × FieldType)} {G : xG} {K i a : Nat} (hle : sm_le ad ad') (ht : ∀ (t0 : Nat) x, tys[t0]? = some x → tys'[t0]? = some x) (hb : bk' K i = bk K i) (hw : ∀ (q0 : Nat) (x : Nat × va_E), ws[q0]? = some x → (x.1 = a ∨ bk K i = some x.1) → ws'[q0]? = some x) (hN : gN σ' K i = gN σ K i) (hR : gR σ' K i = gR σ K i) (k : lirel ad bk σ ws tys G K i a) : lirel ad' bk' σ' ws' tys' G K i a := by
  obtain ⟨q0, m, b, e1, e2⟩ := k
  refine ⟨q0, m, b, by rw [hN]; exact hw _ _ e1 (Or.inl rfl), ?_⟩
  rcases e2 with ⟨g1, g2, g3⟩ | ⟨ba, q1, t0, cap, cA, f, g1, g2, g3, g4, g5, g6, g7⟩
  · exact Or.inl ⟨g1, by rw [hN]; exact g2, by rw [hb]; exact g3⟩
  · exact Or.inr ⟨ba, q1, t0, cap, cA, f, g1, by rw [hb]; exact g2, ht _ _ g3, hw _ _ g4 (Or.inr g2), by rw [hN]; exact g5, g6, fun j hj => by rw [hR]; exact (g7 j (by rw [← hN]; exact hj)).mono hle⟩
/-- one cell has new contents -/
theorem HR.upd {D : va_G} {G : xG} {A : Nat → Prop} {s : State} {σ σ' : aM} {ad bk : sA} {ws : va_W} {tys : List (ClassId × FieldType)} {H H1 : Heap} {K i a q0 : Nat} {e e' : va_E} (h : HR D G A s σ ad bk ws tys H) (hK : (kT K).1 ≤ 4) (ha : ad K i = some a) (hq : ws[q0]? = some (a, e)) (hag : agr σ σ' K i) (he : erel ad σ' K i tys e') (hP : va_P D vwCl (ws.set q0 (a, e')) H1) (hD : va_D A (ws.set q0 (a, e'))) : HR D G A s σ' ad bk (ws.set q0 (a, e')) tys H1 := by
  obtain ⟨_, h2, _, h4, h5, h6, h7, h8, h9, h10, h11, h12⟩ := h
  have hl : q0 < ws.length := (List.getElem?_eq_some_iff.mp hq).1
  have other : ∀ (q1 : Nat) (x : Nat × va_E), ws[q1]? = some x → x.1 ≠ a → (ws.set q0 (a, e'))[q1]? = some x := by
    intro q1 x hx hne
    rw [List.getElem?_set_ne, hx]
    intro e9
    rw [← e9, hq] at hx
    exact hne (by rw [← Option.some.inj hx])
  refine ⟨hP, h2, hD, fun K' i' hK' => by rw [hag.1]; exact h4 K' i' hK', ?_, ?_, h7, h8, h9, h10, ?_, h12⟩
  · intro K' i' a' ha' hk'
    by_cases c : K' = K ∧ i' = i
    · obtain ⟨rfl, rfl⟩ := c
      rw [ha] at ha'
      cases ha'
      exact ⟨q0, e', List.getElem?_set_self hl, he⟩
    · obtain ⟨q1, e1, g1, g2⟩ := h5 K' i' a' ha' hk'
      refine ⟨q1, e1, other _ _ g1 (fun e9 => ?_), g2.mono (sm_le.refl ad) (fun _ _ g => g) (hag.2 _ _ c)⟩
      have e9 : a' = a := e9
      subst e9
      exact c (h7 _ _ _ _ _ (by omega) (by omega) ha' ha)
  · intro K' i' a' ha' hk'
    have c : ¬ (K' = K ∧ i' = i) := fun g => by rw [g.1] at hk'; omega
    refine (h6 K' i' a' ha' hk').mono (sm_le.refl ad) (fun _ _ g => g) rfl (fun q1 x hx ho => other _ _ hx (fun e9 => ?_)) (hag.2 _ _ c).2.2.2 (hag.2 _ _ c).2.2.1
    rcases ho with ho | ho
    · exact c (h7 _ _ _ _ _ (by omega) (by omega) (by rw [ha', ← ho, e9]) ha)
    · exact h9 K i K' i' a (by omega) ha (by rw [ho, e9])
  · have c : ¬ ((0 : Nat) = K ∧ (0 : Nat) = i) := fun g => by
      have h3 := kT_low (K := K) (by omega)
      omega
    obtain ⟨g1, g2, g3, g4⟩ := hag.2 0 0 c
    exact ⟨h11.1, by rw [g4]; exact h11.2.1, fun j hj => by rw [g1]; exact h11.2.2 j hj⟩
/-- a new cell -/
def ad_n (ad : sA) (K i q : Nat) : sA := fun a b => if a = K ∧ b = i then some q else ad a b
theorem ad_n_le {ad : sA} {K i q : Nat} (h : ad K i = none) : sm_le ad (ad_n ad K i q) := by
  intro a b x hx
  unfold ad_n
  by_cases c : a = K ∧ b = i
  · rw [c.1, c.2, h] at hx; cases hx
  · rw [if_neg c]; exact hx
theorem HR.push {D : va_G} {G : xG} {A : Nat → Prop} {s : State} {σ σ' : aM} {ad bk : sA} {ws : va_W} {tys tys' : List (ClassId × FieldType)} {H H1 : Heap} {K q : Nat} {e : va_E} (h : HR D G A s σ ad bk ws tys H) (hK3 : 2 ≤ K) (ht : ∀ (t0 : Nat) x, tys[t0]? = some x → tys'[t0]? = some x) (hKK : va_K D vwCl tys' s) (hC : ∀ a, gC σ' a = if a = K then gC σ K + 1 else gC σ a) (hag : ∀ a b, ¬ (a = K ∧ b = gC σ K) → gI σ' a b = gI σ a b ∧ gL σ' a b = gL σ a b ∧ gR σ' a b = gR σ a b ∧ gN σ' a b = gN σ a b)
    (he : (kT K).1 ≤ 4 → erel (ad_n ad K (gC σ K) q) σ' K (gC σ K) tys' e) (hl5 : (kT K).1 = 5 → lirel (ad_n ad K (gC σ K) q) bk σ' (ws ++ [(q, e)]) tys' G K (gC σ K) q) (hP : va_P D vwCl (ws ++ [(q, e)]) H1) (hD : va_D A (ws ++ [(q, e)])) : HR D G A s σ' (ad_n ad K (gC σ K) q) bk (ws ++ [(q, e)]) tys' H1 ∧ sm_le ad (ad_n ad K (gC σ K) q) := by
  obtain ⟨h1, h2, h3, h4, h5, h6, h7, h8, h9, h10, h11, h12⟩ := h
  have hnew : ad K (gC σ K) = none := by
    cases hc : ad K (gC σ K) with
    | none => rfl
    | some a => exact absurd ((h4 _ _ hK3).mp ⟨a, hc⟩) (Nat.lt_irrefl _)
  have hle := ad_n_le (q := q) hnew
  have old : ∀ (q1 : Nat) (x : Nat × va_E), ws[q1]? = some x → (ws ++ [(q, e)])[q1]? = some x := fun q1 x hx => by
    rw [List.getElem?_append_left (List.getElem?_eq_some_iff.mp hx).1]; exact hx
  have last : (ws ++ [(q, e)])[ws.length]? = some (q, e) := by simp
  have fresh : ∀ (q1 : Nat) (x : Nat × va_E), ws[q1]? = some x → x.1 ≠ q := fun q1 x hx e9 => by
    have := hD.1 q1 ws.length x (q, e) (old _ _ hx) last e9
    have := (List.getElem?_eq_some_iff.mp hx).1
    omega
  have inws : ∀ K' i' a', (kT K').1 ≤ 5 → ad K' i' = some a' → ∃ (q1 : Nat) (x : Nat × va_E), ws[q1]? = some x ∧ x.1 = a' := by
    intro K' i' a' hk ha'
    by_cases c : (kT K').1 = 5
    · obtain ⟨q1, m, b, g, _⟩ := h6 _ _ _ ha' c
      exact ⟨q1, _, g, rfl⟩
    · obtain ⟨q1, e1, g, _⟩ := h5 _ _ _ ha' (by omega)
      exact ⟨q1, _, g, rfl⟩
  have isad : ∀ K' i' a', ad_n ad K (gC σ K) q K' i' = some a' → (K' = K ∧ i' = gC σ K ∧ a' = q) ∨ (¬ (K' = K ∧ i' = gC σ K) ∧ ad K' i' = some a') := by
    intro K' i' a' g
    unfold ad_n at g
    by_cases c : K' = K ∧ i' = gC σ K
    · rw [if_pos c] at g; exact Or.inl ⟨c.1, c.2, (Option.some.inj g).symm⟩
    · rw [if_neg c] at g; exact Or.inr ⟨c, g⟩
  refine ⟨⟨hP, hKK, hD, ?_, ?_, ?_, ?_, h8, ?_, ?_, ?_, ?_⟩, hle⟩
  · intro K' i' hK'
    rw [hC]
    constructor
    · rintro ⟨a', ha'⟩
      rcases isad _ _ _ ha' with ⟨rfl, rfl, -⟩ | ⟨-, g⟩
      · rw [if_pos rfl]; omega
      · have := (h4 _ _ hK').mp ⟨a', g⟩
        by_cases c : K' = K
        · subst c; rw [if_pos rfl]; omega
        · rw [if_neg c]; exact this
    · intro g
      by_cases c : K' = K ∧ i' = gC σ K
      · exact ⟨q, by unfold ad_n; rw [if_pos c]⟩
      · have g2 : i' < gC σ K' := by
          by_cases c1 : K' = K
          · subst c1; rw [if_pos rfl] at g; have : i' ≠ gC σ K' := fun h => c ⟨rfl, h⟩; omega
          · rw [if_neg c1] at g; exact g
        obtain ⟨a', ha'⟩ := (h4 _ _ hK').mpr g2
        exact ⟨a', hle _ _ _ ha'⟩
  · intro K' i' a' ha' hk'
    rcases isad _ _ _ ha' with ⟨rfl, rfl, rfl⟩ | ⟨c, g⟩
    · exact ⟨ws.length, e, last, he hk'⟩
    · obtain ⟨q1, e1, g1, g2⟩ := h5 _ _ _ g hk'
      exact ⟨q1, e1, old _ _ g1, g2.mono hle ht (hag _ _ c)⟩
  · intro K' i' a' ha' hk'
    rcases isad _ _ _ ha' with ⟨rfl, rfl, rfl⟩ | ⟨c, g⟩
    · exact hl5 hk'
    · exact (h6 _ _ _ g hk').mono hle ht rfl (fun q1 x hx _ => old _ _ hx) (hag _ _ c).2.2.2 (hag _ _ c).2.2.1
  · intro K1 i1 K2 i2 a' hk1 hk2 g1 g2
    rcases isad _ _ _ g1 with ⟨rfl, rfl, rfl⟩ | ⟨c1, g1⟩ <;> rcases isad _ _ _ g2 with ⟨e1, e2, e3⟩ | ⟨c2, g2⟩
    · exact ⟨e1.symm, e2.symm⟩
    · obtain ⟨q1, x, hx, e9⟩ := inws _ _ _ hk2 g2
      exact absurd e9 (fresh _ _ hx)
    · obtain ⟨q1, x, hx, e9⟩ := inws _ _ _ hk1 g1
      exact absurd (e9.trans e3) (fresh _ _ hx)
    · exact h7 _ _ _ _ _ hk1 hk2 g1 g2
  · intro K1 i1 K2 i2 a' hk1 g1 g2
    rcases isad _ _ _ g1 with ⟨rfl, rfl, rfl⟩ | ⟨c1, g1⟩
    · obtain ⟨hk2, a2, ha2⟩ := h10 _ _ _ g2
      obtain ⟨q1, m, b, _, e2⟩ := h6 _ _ _ ha2 hk2
      rcases e2 with ⟨_, _, g3⟩ | ⟨ba, q2, t0, cap, cA, f, _, g3, _, g4, _⟩
      · rw [g3] at g2; cases g2
      · rw [g3] at g2; cases g2; exact fresh _ _ g4 rfl
    · exact h9 _ _ _ _ _ hk1 g1 g2
  · intro K' i' a' g
    obtain ⟨g1, a2, g2⟩ := h10 _ _ _ g
    exact ⟨g1, a2, hle _ _ _ g2⟩
  · have c : ¬ ((0 : Nat) = K ∧ (0 : Nat) = gC σ K) := fun g => by omega
    obtain ⟨g1, g2, g3, g4⟩ := hag 0 0 c
    exact ⟨hle _ _ _ h11.1, by rw [g4]; exact h11.2.1, fun j hj => by rw [g1]; exact h11.2.2 j hj⟩
  · refine ⟨fun t ht => hle _ _ _ (h12.1 t ht), fun t a' g => ?_⟩
    rcases isad _ _ _ g with ⟨e1, -, -⟩ | ⟨-, g⟩
    · omega
    · exact h12.2 t a' g

theorem strel.weigh {ad : sA} : ∀ {st : List aV} {cs : List Value}, strel ad st cs → (cs.map fun v => v.category).sum ≤ 2 * st.length
  | [], [], _ => Nat.le_refl _
  | v :: st, w :: cs, ⟨e, k⟩ => by
    have h := k.weigh
    have : w.category ≤ 2 := by cases w <;> simp [Value.category]
    simp only [List.map_cons, List.sum_cons, List.length_cons]
    omega
  | [], _ :: _, e => e.elim
  | _ :: _, [], e => e.elim
theorem strel.len {ad : sA} : ∀ {st : List aV} {cs : List Value}, strel ad st cs → cs.length = st.length
  | [], [], _ => rfl
  | _ :: _, _ :: _, ⟨_, k⟩ => congrArg (· + 1) k.len
  | [], _ :: _, e => e.elim
  | _ :: _, [], e => e.elim
theorem strel.ref {ad : sA} {K i : Nat} {st : List aV} {cs : List Value} (h : strel ad (vr (some (K, i)) :: st) cs) : ∃ a c2, cs = Value.ref a :: c2 ∧ ad K i = some a ∧ strel ad st c2 := by
  obtain ⟨w, c2, rfl, ⟨a, ha, rfl⟩, h2⟩ := h.cons
  exact ⟨a, c2, rfl, ha, h2⟩
