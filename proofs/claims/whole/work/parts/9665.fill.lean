section SIMF
variable {D : va_G} {G : xG} {A : Nat → Prop} {mid d : Nat} {p : Program} {lc : Launch} {e : Env} {R : Room} {s : State} {m : MethodId} {args : Array Value} {below : List Frame} {meth : Method} {c : Code} {Z : State → Prop} {ad0 : sA} {b0 : Nat × Nat} {pc : Nat} {l : aL} {st r : List aV} {σ : aM}
abbrev yAF : MethodName := ⟨"java/util/Arrays", "fill", "([JJ)V"⟩
theorem calM32 : ∀ e ∈ calL, e.2.2.1 = 32 → (e.1 = 4 ∧ e.2.1 = 114) ∨ (e.1 = 12 ∧ e.2.1 = 399) := by decide +kernel
set_option maxRecDepth 100000 in
theorem ok_afC : Cond.code yAF prog_34_method_101_code 5 none ∈ tb := tbm 790 ⟨rfl, rfl⟩
theorem ok_af : Cond.methodLink (cN 4) 114 yAF ∈ tb ∧ Cond.methodLink (cN 12) 399 yAF ∈ tb ∧ Cond.static yAF ∈ tb ∧ Cond.initialized "java/util/Arrays" ∈ tb := ⟨tbm 788 (by decide +kernel), tbm 1145 (by decide +kernel), tbm 789 (by decide +kernel), tbm 10 (by decide +kernel)⟩
theorem arrV_same {cA : ClassId} {n : Nat} {f g : Nat → Value} (h : ∀ j, j < n → f j = g j) : arrV cA n f = arrV cA n g := by
  unfold arrV
  have : (fun j : Fin n => f j.val) = fun j : Fin n => g j.val := funext fun j => h j.val j.isLt
  rw [this]
theorem P_same {ws : va_W} {q0 : Nat} {a : Nat} {cA : ClassId} {n : Nat} {f g : Nat → Int64} {H : Heap} (hP : va_P D vwCl (ws.set q0 (a, .inl (cA, n, .inr (.inl f)))) H) (h : ∀ j, j < n → f j = g j) : va_P D vwCl (ws.set q0 (a, .inl (cA, n, .inr (.inl g)))) H := by
  intro k q hk
  by_cases c : k = q0
  · subst c
    have hl : k < ws.length := by
      have := (List.getElem?_eq_some_iff.mp hk).1
      simpa using this
    rw [List.getElem?_set_self hl] at hk
    cases hk
    have h1 := hP k _ (List.getElem?_set_self hl)
    have h1 : H[a]? = some (vp_cell cA (n, .inr (.inl f))) := h1
    show H[a]? = some (vp_cell cA (n, .inr (.inl g)))
    rw [h1, vp_cell_l, vp_cell_l, arrV_same (fun j hj => by rw [h j hj])]
  · rw [List.getElem?_set_ne (fun e => c e.symm)] at hk
    exact hP k q (by rw [List.getElem?_set_ne (fun e => c e.symm)]; exact hk)
theorem set_same {α : Type} {ws : List α} {q0 : Nat} {x : α} (h : ws[q0]? = some x) : ws.set q0 x = ws := by
  apply List.ext_getElem?
  intro k
  by_cases c : q0 = k
  · subst c
    rw [List.getElem?_set_self (List.getElem?_eq_some_iff.mp h).1, h]
  · rw [List.getElem?_set_ne c]
theorem agr_Lr {K i : Nat} {f : Nat → Int64} : agr σ (sLr σ K i f) K i := ⟨fun _ => rfl, fun a b h => ⟨rfl, by funext j; show (if a = K ∧ b = i then f j else σ.2.1 a b j) = _; rw [if_neg h]; rfl, rfl, rfl⟩⟩
theorem fill_loop {cells slots : Nat} {H0 : Heap} {ws : va_W} {tys : List (ClassId × FieldType)} {q0 t0 a n : Nat} {cA : ClassId} {v : Int64} (hx : p.tables.exec = Jvm.exec) (hb : c.code = prog_34_method_101_code) (hK : va_K D vwCl tys s) (ht : tys[t0]? = some (cA, .long)) (hq0 : q0 < ws.length) (hn : n < 2 ^ 31)
    (done : ∀ (H1 : Heap) (locs1 : List Loc) (ls : Array Slot), va_P D vwCl (ws.set q0 (a, .inl (cA, n, .inr (.inl (fun _ => v))))) H1 → va_D A (ws.set q0 (a, .inl (cA, n, .inr (.inl (fun _ => v))))) → va_S A H0 H1 locs1 → W p lc e R s m args below meth c H1 locs1 cells slots Z (F0 m 22 ls [])) :
    ∀ (k j : Nat) (H : Heap) (locs : List Loc) (f : Nat → Int64) (ls : Array Slot), j + k = n → (∀ i, i < j → f i = v) → va_P D vwCl (ws.set q0 (a, .inl (cA, n, .inr (.inl f)))) H → va_D A (ws.set q0 (a, .inl (cA, n, .inr (.inl f)))) → va_S A H0 H locs → lv_has ls 5 [(3, .int (nI j)), (4, .int (nI n)), (0, .ref a), (1, .long v)] → W p lc e R s m args below meth c H locs cells slots Z (F0 m 6 ls []) := by
  intro k
  induction k with
  | zero =>
    intro j H locs f ls hj hf hP hD hS hl
    have hj : j = n := by omega
    subst hj
    refine lv_iload_n hx hb (show decode prog_34_method_101_code 6 = .ok (.iload_n 3, 1) by decide +kernel) rfl (lv_at hl 0 rfl) ?_
    refine lv_iload hx hb (show decode prog_34_method_101_code 7 = .ok (.iload 4, 2) by decide +kernel) (lv_at hl 1 rfl) ?_
    refine lv_icmp_ge hx hb (show decode prog_34_method_101_code 9 = .ok (.if_icmp .ge 13, 3) by decide +kernel) (tgt := 22) rfl (fun _ => ?_) (fun h => absurd (nI_le (Nat.le_refl j) hn) h)
    have hD2 := hD.set (e := .inl (cA, j, .inr (.inl (fun _ => v)))) (List.getElem?_set_self hq0)
    rw [List.set_set] at hD2
    exact done H locs ls (P_same hP hf) hD2 hS
  | succ k ih =>
    intro j H locs f ls hj hf hP hD hS hl
    have hjn : j < n := by omega
    refine lv_iload_n hx hb (show decode prog_34_method_101_code 6 = .ok (.iload_n 3, 1) by decide +kernel) rfl (lv_at hl 0 rfl) ?_
    refine lv_iload hx hb (show decode prog_34_method_101_code 7 = .ok (.iload 4, 2) by decide +kernel) (lv_at hl 1 rfl) ?_
    refine lv_icmp_ge hx hb (show decode prog_34_method_101_code 9 = .ok (.if_icmp .ge 13, 3) by decide +kernel) (tgt := 22) rfl (fun h => absurd h (nI_ge hjn hn)) (fun _ => ?_)
    refine lv_aload_n hx hb (show decode prog_34_method_101_code 12 = .ok (.aload_n 0, 1) by decide +kernel) rfl (lv_at hl 2 rfl) ?_
    refine lv_iload_n hx hb (show decode prog_34_method_101_code 13 = .ok (.iload_n 3, 1) by decide +kernel) rfl (lv_at hl 0 rfl) ?_
    refine lv_lload_n hx hb (show decode prog_34_method_101_code 14 = .ok (.lload_n 1, 1) by decide +kernel) rfl (lv_at hl 3 rfl) ?_
    refine va_last hx hb hK hP hD hS q0 t0 (List.getElem?_set_self hq0) ht (vp_in_nI hjn hn) (show decode prog_34_method_101_code 15 = .ok (.lastore, 1) by decide +kernel) (fun H1 locs1 hP1 hD1 hS1 => ?_)
    rw [List.set_set, nI_clamp (Nat.lt_trans hjn hn)] at hP1 hD1
    refine lv_iinc hx hb (show decode prog_34_method_101_code 16 = .ok (.iinc 3 1, 3) by decide +kernel) hl (k := 0) rfl (v := nI (j + 1)) (nI_1 j) (by decide) rfl (fun ls hl => ?_)
    refine lv_goto hx hb (show decode prog_34_method_101_code 19 = .ok (.goto (-13), 3) by decide +kernel) (tgt := 6) rfl ?_
    refine ih (j + 1) H1 locs1 _ ls (by omega) (fun i hi => ?_) hP1 hD1 hS1 hl
    show (if i = j then v else f i) = v
    by_cases c : i = j
    · rw [if_pos c]
    · rw [if_neg c]; exact hf i (by omega)
theorem met_af {K i a : Nat} {H : Heap} {ad bk : sA} {ws : va_W} {tys : List (ClassId × FieldType)} (ha : ad K i = some a) (hk : kT K = (2, 0)) (hn : gN σ K i ≤ 100000) (v : Int64) : Met lc yAF (Cond.code yAF prog_34_method_101_code 5 none :: tb) { frames := 1, cells := 0, slots := 0, locals := 16 } (va_Pc [.ref a, .long v] (fun U => U.heap = H ∧ HR D G A U σ ad bk ws tys H)) (va_Qv (fun _ : va_W => True) (fun ws1 t => HR D G A t (sLr σ K i (fun _ => v)) ad bk ws1 tys t.heap) A) 0 0 A := by
  refine Met.ofW (cc := prog_34_method_101_code) (maxL := 5) (ret := none) (by decide) rfl ?_
  intro p e s m args below meth c s₁ B hml hv
  obtain ⟨rfl, hh, hHR⟩ := hv
  subst hh
  have hx := B.exec
  have hb := B.bytes
  have hr := B.returns
  have hlocks := B.notSynchronized
  have hl := lv_entry ([.ref a, .long v]) (n := 5) (Nat.le_of_ble_eq_true rfl)
  rw [lg_entry_eq]
  generalize (lg_sl ([.ref a, .long v]) ++ List.replicate (5 - (lg_sl ([.ref a, .long v])).length) Slot.unset).toArray = ls at hl ⊢
  have hl : lv_has ls 5 [(0, .ref a), (1, .long v)] := hl
  obtain ⟨hP, hK, hD, h4, h5, _⟩ := id hHR
  obtain ⟨q0, e0, g1, g2⟩ := h5 _ _ _ ha (by rw [hk]; decide)
  obtain ⟨cA, t0, g3, rfl⟩ := g2.2.2.1 (by rw [hk])
  have hS0 : va_S A s.heap s.heap [] := va_S.rf
  have hset := set_same g1
  refine lv_iconst hx hb (v := nI 0) (show decode prog_34_method_101_code 0 = .ok (.iconst 0, 1) by decide +kernel) (by decide +kernel) ?_
  refine lv_istore_n hx hb (show decode prog_34_method_101_code 1 = .ok (.istore_n 3, 1) by decide +kernel) rfl hl (by decide) rfl (fun ls hl => ?_)
  refine lv_aload_n hx hb (show decode prog_34_method_101_code 2 = .ok (.aload_n 0, 1) by decide +kernel) rfl (lv_at hl 1 rfl) ?_
  refine va_alen hx hb hK hP q0 t0 g1 g3 (v := nI (gN σ K i)) rfl (show decode prog_34_method_101_code 3 = .ok (.arraylength, 1) by decide +kernel) ?_
  refine lv_istore hx hb (show decode prog_34_method_101_code 4 = .ok (.istore 4, 2) by decide +kernel) hl (by decide) rfl (fun ls hl => ?_)
  refine fill_loop hx hb hK g3 (List.getElem?_eq_some_iff.mp g1).1 (n := gN σ K i) (a := a) (v := v) (H0 := s.heap) (A := A) (by omega) (fun H1 locs1 ls hP1 hD1 hS1 => ?_) (gN σ K i) 0 s.heap [] (gL σ K i) ls (by omega) (fun i hi => absurd hi (Nat.not_lt_zero i)) (by rw [hset]; exact hP) (by rw [hset]; exact hD) hS0 (lv_sub hl [1, 0, 2, 3] rfl)
  have hk1 : (kT K).1 = 2 := by rw [hk]
  have e1 : gL (sLr σ K i (fun _ => v)) K i = fun _ => v := by
    funext j
    show (if K = K ∧ i = i then v else gL σ K i j) = v
    rw [if_pos ⟨rfl, rfl⟩]
  have hrel : erel ad (sLr σ K i (fun _ => v)) K i tys (.inl (cA, gN σ K i, .inr (.inl (fun _ => v)))) := ⟨fun h => absurd (hk1.symm.trans h) (by decide), fun h => absurd (hk1.symm.trans h) (by decide), fun _ => ⟨cA, t0, g3, by rw [e1]; rfl⟩, fun h => absurd (hk1.symm.trans h) (by decide), fun h => absurd (hk1.symm.trans h) (by decide)⟩
  have hH1 := hHR.upd (σ' := sLr σ K i (fun _ => v)) (by rw [hk]; decide) ha g1 agr_Lr hrel hP1 hD1
  have hend : ∀ t : State, t.heap = H1 → s.WarmedH t.vm → HR D G A t (sLr σ K i (fun _ => v)) ad bk (ws.set q0 (a, .inl (cA, gN σ K i, .inr (.inl (fun _ => v))))) tys t.heap := fun t ht hW => by
    rw [ht]; exact hH1.moved hW.alike
  exact W.vret hx hb hr (fun t ht hW => ⟨⟨_, rfl, trivial, hend t ht hW⟩, hS1.F ht⟩) hS1.2.2 (show decode prog_34_method_101_code 22 = .ok (.return_, 1) by decide +kernel) hlocks
theorem rl_fill {k cm K i : Nat} {v : Int64} (C : Cx mid d G A p R s m args meth c) (hd : decode (mcode mid) pc = .ok (.invokestatic k, 3)) (hf : cal (mcl mid) k = some (32, cm)) (hk : kT K = (2, 0)) (hi : gN σ K i ≤ 100000) (hr : r.length ≤ 4) (hB : (gB σ).1 ≤ R.cells + b0.1 ∧ (gB σ).2 ≤ R.slots + b0.2) (kk : Rl D G A mid p lc e R s m args below meth c Z ad0 b0 (pc + 3) l r (sLr σ K i (fun _ => v))) : Rl D G A mid p lc e R s m args below meth c Z ad0 b0 pc l (vl v :: vr (some (K, i)) :: r) σ := by
  intro H locs cells slots ls cst ad bk ws tys lv hH hS hle hl hlr hll hst h1 h2
  obtain ⟨w1, c0, rfl, e1, hs0⟩ := hst.cons
  cases e1
  obtain ⟨a, c1, rfl, ha, hs1⟩ := hs0.ref
  have hw : (c1.map fun v => v.category).sum ≤ 8 := by
    have := hs1.weigh
    omega
  obtain ⟨hx, hbc, hml, hown, hts, hlk, hrt, hini, hfr, hlo, hxf, hA, htn⟩ := id C
  obtain ⟨o1, o1b, o2, o3⟩ := ok_af
  have o : Cond.methodLink (cN (mcl mid)) k yAF ∈ tb := by
    rcases calM32 _ (lk_s (L := calL) hf) rfl with ⟨e1, e2⟩ | ⟨e1, e2⟩
    · have e1 : mcl mid = 4 := e1
      have e2 : k = 114 := e2
      rw [e1, e2]; exact o1
    · have e1 : mcl mid = 12 := e1
      have e2 : k = 399 := e2
      rw [e1, e2]; exact o1b
  have hS5 : CallFix p m c (mcode mid) (mml mid) s args tb (cN (mcl mid)) := ⟨hx, hbc, hml, hown, hts⟩
  have hcw := va_cwS (R := R) (args := args) (rm := { frames := 1, cells := 0, slots := 0, locals := 16 }) 2 hts (goodIn_app (a := [_, _, _]) (fun w hw => by
        simp only [List.mem_cons, List.not_mem_nil, or_false] at hw
        rcases hw with rfl | rfl | rfl
        · exact goodIn_1 o _ (List.mem_singleton.mpr rfl)
        · exact goodIn_1 o2 _ (List.mem_singleton.mpr rfl)
        · exact goodIn_1 o3 _ (List.mem_singleton.mpr rfl)) (goodIn_tb ok_afC) : GoodIn tb (va_wsS (cN (mcl mid)) k yAF (Cond.code yAF prog_34_method_101_code 5 none :: tb))) rfl rfl rfl ⟨by decide, by decide, by decide +kernel⟩ ⟨by show 1 + 1 ≤ _; omega, by show 8 + (5 + 11) + 16 ≤ _; omega⟩
  have hrun : va_Run p lc e R s m args below meth c H locs cells slots 0 0 (F0 m pc ls (.long v :: .ref a :: c1)) c1 (va_Qv (fun _ : va_W => True) (fun ws1 t => HR D G A t (sLr σ K i (fun _ => v)) ad bk ws1 tys t.heap) A [Value.ref a, Value.long v].toArray) A :=
    va_runS (As := [.ref a, .long v]) hS5 (met_af ha hk hi v) hcw ⟨by rintro a U g mk ⟨h0, h1, h2⟩; exact ⟨h0, h1, h2.moved (Vm.Alike.refl U.vm)⟩, fun U hU hW => ⟨rfl, hU, hH.moved hW.alike⟩⟩ rfl rfl hl.1 rfl (lv_room (by omega)) hd ⟨by omega, by omega⟩
  refine va_callv hrun hS (fun _ _ h => h) (fun _ h => h) (fun u t H1 locs1 ht hvm hw2 hB2 _ _ hS1 => ?_)
  have hB2 : HR D G A t (sLr σ K i (fun _ => v)) ad bk u tys t.heap := hB2
  rw [ht] at hB2
  exact kk H1 locs1 _ _ ls c1 ad bk u tys lv (hB2.moved hvm.symm) hS1 hle hl hlr hll hs1 (by show _ ≤ (gB σ).1; omega) (by show _ ≤ (gB σ).2; omega)
end SIMF
