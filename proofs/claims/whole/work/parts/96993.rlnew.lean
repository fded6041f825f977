section SIMRM
variable {D : va_G} {G : xG} {A : Nat → Prop} {mid d : Nat} {p : Program} {lc : Launch} {e : Env} {R : Room} {s : State} {m : MethodId} {args : Array Value} {below : List Frame} {meth : Method} {c : Code} {Z : State → Prop} {ad0 : sA} {b0 : Nat × Nat} {pc : Nat} {l : aL} {st r : List aV} {σ : aM}
theorem calM10 : ∀ e ∈ calL, e.2.2.1 = 10 → (e.1 = 12 ∧ e.2.1 = 11) ∨ (e.1 = 4 ∧ e.2.1 = 11) ∨ (e.1 = 9 ∧ e.2.1 = 9) := by decide +kernel
theorem lk10 {c k cm : Nat} (hf : cal c k = some (10, cm)) : Cond.methodLink (cN c) k y_ali ∈ tb := by
  rcases calM10 _ (lk_s (L := calL) hf) rfl with ⟨e1, e2⟩ | ⟨e1, e2⟩ | ⟨e1, e2⟩
  · have e1 : c = 12 := e1
    have e2 : k = 11 := e2
    rw [e1, e2]; exact (tbm 41 (by decide +kernel))
  · have e1 : c = 4 := e1
    have e2 : k = 11 := e2
    rw [e1, e2]; exact (tbm 125 (by decide +kernel))
  · have e1 : c = 9 := e1
    have e2 : k = 9 := e2
    rw [e1, e2]; exact (tbm 498 (by decide +kernel))
theorem ext_app {α : Type} {w u : List α} {x y : α} (h1 : u.length = (w ++ [x]).length) (h2 : u[w.length]? = some y) (h3 : ∀ (q : Nat) (z : α), q ≠ w.length → (w ++ [x])[q]? = some z → u[q]? = some z) : u = w ++ [y] := by
  apply List.ext_getElem?
  intro k
  rcases Nat.lt_trichotomy k w.length with c | c | c
  · have e : (w ++ [x])[k]? = some w[k] := by rw [List.getElem?_append_left c, List.getElem?_eq_getElem c]
    rw [h3 k _ (by omega) e, List.getElem?_append_left c, List.getElem?_eq_getElem c]
  · subst c
    rw [h2]; simp
  · rw [List.getElem?_eq_none (by rw [h1, List.length_append]; simp; omega), List.getElem?_eq_none (by rw [List.length_append]; simp; omega)]
theorem nl_s {mid pc : Nat} (h : am_nl mid pc = true) : decode (mcode mid) (pc + 3) = .ok (.dup, 1) ∧ ∃ j cm, decode (mcode mid) (pc + 4) = .ok (.invokespecial j, 3) ∧ cal (mcl mid) j = some (10, cm) := by
  unfold am_nl at h
  split at h
  · next h1 =>
    split at h
    · next j h2 =>
      split at h
      · next cm h3 => exact ⟨h1, j, cm, h2, h3⟩
      · cases h
    · cases h
  · cases h
theorem rl_newL {k K : Nat} (C : Cx mid d G A p R s m args meth c) (hd : decode (mcode mid) pc = .ok (.new k, 3)) (hf : clsP (mcl mid) k = some 0) (hk : kT K = (5, 0)) (h3 : st.length ≤ 3) (hnl : am_nl mid pc = true) (hB : (gB (am_ml σ K)).1 ≤ R.cells + b0.1 ∧ (gB (am_ml σ K)).2 ≤ R.slots + b0.2) (kk : Rl D G A mid p lc e R s m args below meth c Z ad0 b0 (pc + 7) l (vr (some (K, gC σ K)) :: st) (am_ml σ K)) : Rl D G A mid p lc e R s m args below meth c Z ad0 b0 pc l st σ := by
  intro H locs cells slots ls cst ad bk ws tys lv hH hS hle hl hlr hll hst h1 h2
  obtain ⟨hx, hbc, hml, hown, hts, hlk, hrt, hini, hfr, hlo, hxf, hA, hWn⟩ := id C
  obtain ⟨hP, hK, hD, h4, h5, h6, h7, h8, h9, h10, h11, h12⟩ := id hH
  obtain ⟨hd2, j, cm, hd3, hf3⟩ := nl_s hnl
  have b1 : (gB σ).1 + 1 ≤ R.cells + b0.1 := hB.1
  have b2 : (gB σ).2 + 3 ≤ R.slots + b0.2 := hB.2
  have hw : (cst.map fun v => v.category).sum ≤ 8 := by
    have := hst.weigh
    omega
  rcases ok_cls hf with ⟨g6, -⟩ | ⟨q9, hq9, g6, g7, g8⟩
  · cases g6
  have hq9 : vwCl[0]? = some q9 := hq9
  rw [al_at] at hq9
  cases hq9
  refine va_new (fs := [.int 0, .null, .int 0]) hx hbc hts al_in tyJx4a65c tyJx4a65c_ok hown (hts _ g6) (hts _ g7) (hts _ g8) hK hP hD hS hA al_at (fun j hj => by rcases (show j = 0 ∨ j = 1 ∨ j = 2 by omega) with rfl | rfl | rfl <;> rfl) (by omega) (by omega) hd (fun q H1 hP1 hD1 hS1 => ?_)
  refine lv_dup hx hbc hd2 rfl ?_
  have hS5 : CallFix p m c (mcode mid) (mml mid) s args tb (cN (mcl mid)) := ⟨hx, hbc, hml, hown, hts⟩
  have hcw := cwI (own := cN (mcl mid)) (index := j) (y := y_ali) (R := R) (args := args) (rm := { frames := 3, cells := 0, slots := 0, locals := 110 }) 0 hts (goodIn_tb ok_aliC) rfl rfl rfl (hts _ (tbm 4 (by decide +kernel))) (hts _ (lk10 hf3)) (hts _ (tbm 42 (by decide +kernel))) rfl (by decide +kernel) ⟨by show 3 + 1 ≤ _; omega, by show 8 + (1 + 11) + 110 ≤ _; omega⟩
  refine va_callv (va_runI (As := []) (b := q) hS5 (met_ali (A := A) (D := D) (G := G) (H := H1) app_at) hcw ⟨PW_blind, fun U hU hW => ⟨rfl, hU, hP1, hK.moved hW.alike, hD1, hxf.on hW.alike hS1, tbn_w hW hWn, fun q hq => hA q (Nat.le_trans hS1.1 hq)⟩⟩ rfl rfl hl.1 rfl (lv_room (by show 1 + (cst.map fun v => v.category).sum ≤ 8; have := hst.weigh; omega)) hd3 ⟨by omega, by omega⟩) hS1 (fun _ _ h => h) (fun _ h => h) (fun u t H2 locs2 ht hvm hw2 hB2 _ _ hS2 => ?_)
  obtain ⟨hP2, hK2, hD2⟩ := hB2
  rw [ht] at hP2
  obtain ⟨g1, g2, g3, g4⟩ := hw2
  have eu : u.1 = ws ++ [(q, lsE 0 (.ref G.2.2.2.2.2) 0)] := ext_app g2 g1 g3
  rw [eu] at hP2 hD2
  obtain ⟨hH1, hle1⟩ := hH.push (σ' := am_ml σ K) (K := K) (by have := kT_low (K := K) (by rw [hk]; exact Nat.le_refl 5); omega) (fun _ _ h => h) hK (fun a => gC_am_ml) (fun a b h => ⟨rfl, rfl, rfl, by rw [gN_am_ml, if_neg h]⟩)
    (fun h => absurd h (by rw [hk]; decide)) (fun _ => ⟨ws.length, 0, .ref G.2.2.2.2.2, by rw [gN_am_ml, if_pos ⟨rfl, rfl⟩]; exact app_at, Or.inl ⟨rfl, by rw [gN_am_ml, if_pos ⟨rfl, rfl⟩], by
      cases e : bk K (gC σ K) with
      | none => rfl
      | some x =>
        obtain ⟨_, a2, e2⟩ := h10 _ _ _ e
        exact absurd ((h4 K (gC σ K) (by have := kT_low (K := K) (by rw [hk]; exact Nat.le_refl 5); omega)).mp ⟨a2, e2⟩) (Nat.lt_irrefl _)⟩⟩) hP2 hD2
  exact kk H2 locs2 _ _ ls (.ref q :: cst) _ bk _ tys lv hH1 hS2 (hle.trans hle1) hl (hlr.mono hle1) hll ⟨⟨q, by unfold ad_n; rw [if_pos ⟨rfl, rfl⟩], rfl⟩, hst.mono hle1⟩ (by show _ ≤ (gB σ).1 + 1; omega) (by show _ ≤ (gB σ).2 + 3; omega)
theorem calM31 : ∀ e ∈ calL, e.2.2.1 = 31 → (e.1 = 10 ∧ e.2.1 = 69) := by decide +kernel
theorem lk31 {c k cm : Nat} (hf : cal c k = some (31, cm)) : Cond.methodLink (cN c) k y_cpi ∈ tb := by
  rcases calM31 _ (lk_s (L := calL) hf) rfl with ⟨e1, e2⟩
  · have e1 : c = 10 := e1
    have e2 : k = 69 := e2
    rw [e1, e2]; exact (tbm 736 (by decide +kernel))
theorem rl_copy {k cm K K2 i : Nat} {n : Int32} (C : Cx mid d G A p R s m args meth c) (hd : decode (mcode mid) pc = .ok (.invokestatic k, 3)) (hf : cal (mcl mid) k = some (31, cm)) (hk : kT K = (1, 0)) (hk2 : kT K2 = (1, 0)) (hN : gN σ K i ≤ 100000) (hn : am_in n (gN σ K i + 1)) (hr : r.length ≤ 4) (hB : (gB σ).1 + 1 ≤ R.cells + b0.1 ∧ (gB σ).2 + n.toNatClampNeg ≤ R.slots + b0.2) (kk : Rl D G A mid p lc e R s m args below meth c Z ad0 b0 (pc + 3) l (vr (some (K2, gC σ K2)) :: r) (sIr (am_mk σ K2 n.toNatClampNeg n.toNatClampNeg) K2 (gC σ K2) (gI σ K i))) : Rl D G A mid p lc e R s m args below meth c Z ad0 b0 pc l (vi n :: vr (some (K, i)) :: r) σ := by
  intro H locs cells slots ls cst ad bk ws tys lv hH hS hle hl hlr hll hst h1 h2
  obtain ⟨w0, c0, rfl, e0, hs0⟩ := hst.cons
  cases e0
  obtain ⟨a, c1, rfl, ha, hs1⟩ := hs0.ref
  have hw : (c1.map fun v => v.category).sum ≤ 8 := by
    have := hs1.weigh
    omega
  obtain ⟨hx, hbc, hml, hown, hts, hlk, hrt, hini, hfr, hlo, hxf, hA, hWn⟩ := id C
  obtain ⟨hP, hK, hD, h4, h5, h6, h7, h8, h9, h10, h11, h12⟩ := id hH
  have hS5 : CallFix p m c (mcode mid) (mml mid) s args tb (cN (mcl mid)) := ⟨hx, hbc, hml, hown, hts⟩
  obtain ⟨jn, hjn, rfl⟩ := nI_of (Int32.not_lt.mpr hn.1)
  have hj2 := hn.2
  rw [nI_clamp hjn] at hj2 kk hB
  obtain ⟨b1, b2⟩ := hB
  obtain ⟨q0, e9, g1, g2⟩ := h5 _ _ _ ha (by rw [hk]; decide)
  obtain ⟨cA, t0, g3, rfl⟩ := g2.2.1 (by rw [hk])
  have hcw := va_cwS (R := R) (args := args) (rm := { frames := 1, cells := 1, slots := jn, locals := 60 }) 2 hts (goodIn_app (a := [_, _, _]) (fun w hw => by
      simp only [List.mem_cons, List.not_mem_nil, or_false] at hw
      rcases hw with rfl | rfl | rfl
      · exact goodIn_1 (lk31 hf) _ (List.mem_singleton.mpr rfl)
      · exact goodIn_1 (tbm 737 (by decide +kernel)) _ (List.mem_singleton.mpr rfl)
      · exact goodIn_1 (tbm 10 (by decide +kernel)) _ (List.mem_singleton.mpr rfl)) (goodIn_tb ok_cpiC) : GoodIn tb (va_wsS (cN (mcl mid)) k y_cpi (Cond.code y_cpi prog_34_method_123_code 3 (some (.array .int)) :: tb))) rfl rfl rfl ⟨by decide, by decide, by decide +kernel⟩ ⟨by show 1 + 1 ≤ _; omega, by show 8 + (3 + 11) + 60 ≤ _; omega⟩
  refine va_callq (va_runS (As := [.ref a, .int (nI jn)]) hS5 (met_cpi (A := A) (D := D) (G := G) (H := H) (k := jn) g1 g3 (by omega) hN) hcw ⟨PW_blind, fun U hU hW => ⟨rfl, hU, hP, hK.moved hW.alike, hD, hxf.on hW.alike hS, tbn_w hW hWn, fun q hq => hA q (Nat.le_trans hS.1 hq)⟩⟩ rfl rfl hl.1 rfl (lv_room (by omega)) hd ⟨by omega, by omega⟩) hS (fun _ _ h => h) (fun _ h => h) (fun r1 u t H1 locs1 ht hvm hw2 hB2 _ _ hS1 => ?_)
  obtain ⟨hP1, hK1, hD1⟩ := hB2
  rw [ht] at hP1
  obtain ⟨q, cB, f9, rfl, k1, k2, k3, k4⟩ := hw2
  rw [k1] at hP1 hD1
  have es : (ws ++ [(q, (Sum.inl (cB, jn, Sum.inl f9) : va_E))]).set ws.length (q, Sum.inl (cB, jn, Sum.inl (gI σ K i))) = ws ++ [(q, Sum.inl (cB, jn, Sum.inl (gI σ K i)))] := by simp
  have hcell : H1[q]? = some (vp_cell cB (jn, .inl f9)) := hP1 ws.length _ app_at
  have hP2 : va_P D vwCl (ws ++ [(q, Sum.inl (cB, jn, Sum.inl (gI σ K i)))]) H1 := by
    rw [← es]
    refine hP1.set hD1 app_at ?_ (fun _ _ => rfl)
    show H1[q]? = some (vp_cell cB (jn, .inl (gI σ K i)))
    rw [hcell, vp_cell_i, vp_cell_i, arrV_same (fun j hj => by rw [k3 j hj])]
  have hD2 : va_D A (ws ++ [(q, Sum.inl (cB, jn, Sum.inl (gI σ K i)))]) := by
    rw [← es]
    exact hD1.set app_at
  have hk21 := congrArg Prod.fst hk2
  have eI : gI (sIr (am_mk σ K2 jn jn) K2 (gC σ K2) (gI σ K i)) K2 (gC σ K2) = gI σ K i := by
    funext j
    show (if K2 = K2 ∧ gC σ K2 = gC σ K2 then gI σ K i j else _) = _
    rw [if_pos ⟨rfl, rfl⟩]
  have eN : gN (sIr (am_mk σ K2 jn jn) K2 (gC σ K2) (gI σ K i)) K2 (gC σ K2) = jn := by
    show gN (am_mk σ K2 jn jn) K2 (gC σ K2) = jn
    rw [gN_am_mk, if_pos ⟨rfl, rfl⟩]
  obtain ⟨hH1, hle1⟩ := hH.push (σ' := sIr (am_mk σ K2 jn jn) K2 (gC σ K2) (gI σ K i)) (K := K2) (by have := kT_low (K := K2) (by rw [hk2]; decide); omega) k4 (hK1.moved hvm.symm) (fun a => gC_am_mk) (fun a b h => ⟨by
      funext j
      show (if a = K2 ∧ b = gC σ K2 then _ else gI (am_mk σ K2 jn jn) a b j) = _
      rw [if_neg h]; exact congrFun (mk_agr a b h).1 j, (mk_agr a b h).2.1, (mk_agr a b h).2.2.1, (mk_agr a b h).2.2.2⟩)
    (fun _ => ⟨fun h => absurd (hk21.symm.trans h) (by decide), fun _ => ⟨cB, tys.length, k2, by rw [eN, eI]⟩, fun h => absurd (hk21.symm.trans h) (by decide), fun h => absurd (hk21.symm.trans h) (by decide), fun h => absurd (hk21.symm.trans h) (by decide)⟩) (fun h => absurd (hk21.symm.trans h) (by decide)) hP2 hD2
  exact kk H1 locs1 _ _ ls (.ref q :: c1) _ bk _ u.2 lv hH1 hS1 (hle.trans hle1) hl (hlr.mono hle1) hll ⟨⟨q, by unfold ad_n; rw [if_pos ⟨rfl, rfl⟩], rfl⟩, hs1.mono hle1⟩ (by show _ ≤ (gB σ).1 + 1; omega) (by show _ ≤ (gB σ).2 + jn; omega)
end SIMRM
