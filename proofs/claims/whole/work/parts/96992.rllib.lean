section SIMRL
variable {D : va_G} {G : xG} {A : Nat → Prop} {mid d : Nat} {p : Program} {lc : Launch} {e : Env} {R : Room} {s : State} {m : MethodId} {args : Array Value} {below : List Frame} {meth : Method} {c : Code} {Z : State → Prop} {ad0 : sA} {b0 : Nat × Nat} {pc : Nat} {l : aL} {st r : List aV} {σ : aM}
theorem cSL_22 : ∀ e ∈ cSL, e.2.2 < stxt.length := by decide +kernel
theorem va_ldcSW {cc : ByteArray} {H : Heap} {locs : List Loc} {cells slots : Nat} {Q : State → Prop} {ls : Array Slot} {rest : List Value} (hexec : p.tables.exec = Jvm.exec) (hb : c.code = cc) {own tx : String} {index q : Nat} (hown : s.vm.findClass own = some m.cls) (hZ : vk_R own index tx q s) (hdg : decode cc pc = .ok (.ldc_w index, 3)) (k : W p lc e R s m args below meth c H locs cells slots Q (F0 m (pc + 3) ls (.ref q :: rest))) : W p lc e R s m args below meth c H locs cells slots Q (F0 m pc ls rest) := by
  intro T hT X
  obtain ⟨t, a1, b1⟩ := k T hT X
  exact ⟨t, X.ldcStringW hexec hown (text := tx) (a := q) hZ.1 hZ.2 (g := F0 m pc ls rest) rfl (by rw [hb]; exact hdg) t a1, b1⟩
theorem rl_ldcS {k t : Nat} (h1 : cInt (mcl mid) k = none) (h2 : cStr (mcl mid) k = some t) (C : Cx mid d G A p R s m args meth c) (hd : decode (mcode mid) pc = .ok (.ldc k, 2)) (kk : Rl D G A mid p lc e R s m args below meth c Z ad0 b0 (pc + 2) l (vr (some (1, t)) :: st) σ) : Rl D G A mid p lc e R s m args below meth c Z ad0 b0 pc l st σ := by
  intro H locs cells slots ls cst ad bk ws tys lv hH hS hle hl hlr hll hst h1 h2
  obtain ⟨hx, hbc, hml, hown, hts, hlk, hrt, hini, hfr, hlo, hxf, hA, hWn⟩ := id C
  rename_i hc1 hc2
  have ht : t < stxt.length := cSL_22 _ (lk_s (L := cSL) hc2)
  obtain ⟨tx, hZ⟩ := hWn.2.1 _ _ _ hc2
  exact va_ldcS hx hbc hown hZ hd (kk H locs cells slots ls _ ad bk ws tys lv hH hS hle hl hlr hll ⟨⟨_, hH.2.2.2.2.2.2.2.2.2.2.2.1 t ht, rfl⟩, hst⟩ h1 h2)
theorem rl_ldc_wS {k t : Nat} (h1 : cInt (mcl mid) k = none) (h2 : cStr (mcl mid) k = some t) (C : Cx mid d G A p R s m args meth c) (hd : decode (mcode mid) pc = .ok (.ldc_w k, 3)) (kk : Rl D G A mid p lc e R s m args below meth c Z ad0 b0 (pc + 3) l (vr (some (1, t)) :: st) σ) : Rl D G A mid p lc e R s m args below meth c Z ad0 b0 pc l st σ := by
  intro H locs cells slots ls cst ad bk ws tys lv hH hS hle hl hlr hll hst h1 h2
  obtain ⟨hx, hbc, hml, hown, hts, hlk, hrt, hini, hfr, hlo, hxf, hA, hWn⟩ := id C
  rename_i hc1 hc2
  have ht : t < stxt.length := cSL_22 _ (lk_s (L := cSL) hc2)
  obtain ⟨tx, hZ⟩ := hWn.2.1 _ _ _ hc2
  exact va_ldcSW hx hbc hown hZ hd (kk H locs cells slots ls _ ad bk ws tys lv hH hS hle hl hlr hll ⟨⟨_, hH.2.2.2.2.2.2.2.2.2.2.2.1 t ht, rfl⟩, hst⟩ h1 h2)
theorem calM21 : ∀ e ∈ calL, e.2.2.1 = 21 → (e.1 = 10 ∧ e.2.1 = 98) ∨ (e.1 = 13 ∧ e.2.1 = 244) := by decide +kernel
theorem lk21 {c k cm : Nat} (hf : cal c k = some (21, cm)) : Cond.methodLink (cN c) k y_len ∈ tb := by
  rcases calM21 _ (lk_s (L := calL) hf) rfl with ⟨e1, e2⟩ | ⟨e1, e2⟩
  · have e1 : c = 10 := e1
    have e2 : k = 98 := e2
    rw [e1, e2]; exact (tbm 573 (by decide +kernel))
  · have e1 : c = 13 := e1
    have e2 : k = 244 := e2
    rw [e1, e2]; exact (tbm 1607 (by decide +kernel))
theorem rl_len {k cm i : Nat} (C : Cx mid d G A p R s m args meth c) (hd : decode (mcode mid) pc = .ok (.invokevirtual k, 3)) (hf : cal (mcl mid) k = some (21, cm)) (hi : i < stxt.length) (hr : r.length ≤ 4) (hB : (gB σ).1 ≤ R.cells + b0.1 ∧ (gB σ).2 ≤ R.slots + b0.2) (kk : Rl D G A mid p lc e R s m args below meth c Z ad0 b0 (pc + 3) l (vi (nI (stxt.getD i []).length) :: r) σ) : Rl D G A mid p lc e R s m args below meth c Z ad0 b0 pc l (vr (some (1, i)) :: r) σ := by
  intro H locs cells slots ls cst ad bk ws tys lv hH hS hle hl hlr hll hst h1 h2
  obtain ⟨a, c1, rfl, ha, hs1⟩ := hst.ref
  have hw : (c1.map fun v => v.category).sum ≤ 8 := by
    have := hs1.weigh
    omega
  obtain ⟨hx, hbc, hml, hown, hts, hlk, hrt, hini, hfr, hlo, hxf, hA, hWn⟩ := id C
  have o := lk21 hf
  obtain ⟨hP, hK, hD, h4, h5, h6, h7, h8, h9, h10, h11, h12⟩ := id hH
  have hS5 : CallFix p m c (mcode mid) (mml mid) s args tb (cN (mcl mid)) := ⟨hx, hbc, hml, hown, hts⟩
  have ea : a = G.2.2.2.1 i := by
    have := h12.1 i hi
    rw [ha] at this
    exact Option.some.inj this
  subst ea
  have hO := (hxf.2.1 i hi).1
  have hcw := cwV (R := R) (args := args) (rm := { frames := 2, cells := 0, slots := 0, locals := 40 }) 0 hts (goodIn_app (a := [_, _, _, _]) (fun w hw => by
      simp only [List.mem_cons, List.not_mem_nil, or_false] at hw
      rcases hw with rfl | rfl | rfl | rfl
      · exact goodIn_1 o _ (List.mem_singleton.mpr rfl)
      · exact goodIn_1 (tbm 574 (by decide +kernel)) _ (List.mem_singleton.mpr rfl)
      · exact goodIn_1 (tbm 575 (by decide +kernel)) _ (List.mem_singleton.mpr rfl)
      · exact goodIn_1 (tbm 18 (by decide +kernel)) _ (List.mem_singleton.mpr rfl)) (goodIn_tb ok_lenC) : GoodIn tb (wsV (cN (mcl mid)) k "java/lang/String" y_len (Cond.code y_len prog_24_method_54_code 1 (some .int) :: tb))) rfl rfl rfl ⟨rfl, by decide +kernel⟩ ⟨by show 2 + 1 ≤ _; omega, by show 8 + (1 + 11) + 40 ≤ _; omega⟩
  refine va_calli (va_runV (As := []) (b := G.2.2.2.1 i) hS5 (met_len (A := A) (G := G) (H := H) hi) hcw ⟨SX_blind, ((hO.kept hS.2.1).imp fun _ h => ⟨h.1, h.2.1, h.2.2.1⟩), fun U hU hW => ⟨rfl, hU, hxf.on hW.alike hS⟩⟩ rfl rfl hl.1 rfl (lv_room (by omega)) hd ⟨by omega, by omega⟩) hS (fun _ _ h => h) (fun _ h => h) (fun r1 u t H1 locs1 ht hvm hw2 hB2 _ _ hS1 => ?_)
  have hB2 : t.heap = H := hB2
  rw [ht] at hB2
  subst hB2
  have hw2 : r1 = nI (stxt.getD i []).length := hw2
  subst hw2
  exact kk _ locs1 _ _ ls _ ad bk ws tys lv hH hS1 hle hl hlr hll ⟨rfl, hs1⟩ (by omega) (by omega)
theorem calM22 : ∀ e ∈ calL, e.2.2.1 = 22 → (e.1 = 10 ∧ e.2.1 = 103) ∨ (e.1 = 13 ∧ e.2.1 = 250) := by decide +kernel
theorem lk22 {c k cm : Nat} (hf : cal c k = some (22, cm)) : Cond.methodLink (cN c) k y_cha ∈ tb := by
  rcases calM22 _ (lk_s (L := calL) hf) rfl with ⟨e1, e2⟩ | ⟨e1, e2⟩
  · have e1 : c = 10 := e1
    have e2 : k = 103 := e2
    rw [e1, e2]; exact (tbm 583 (by decide +kernel))
  · have e1 : c = 13 := e1
    have e2 : k = 250 := e2
    rw [e1, e2]; exact (tbm 1608 (by decide +kernel))
theorem rl_cha {k cm i : Nat} {j : Int32} (C : Cx mid d G A p R s m args meth c) (hd : decode (mcode mid) pc = .ok (.invokevirtual k, 3)) (hf : cal (mcl mid) k = some (22, cm)) (hi : i < stxt.length) (hj : am_in j (stxt.getD i []).length) (hr : r.length ≤ 4) (hB : (gB σ).1 ≤ R.cells + b0.1 ∧ (gB σ).2 ≤ R.slots + b0.2) (kk : Rl D G A mid p lc e R s m args below meth c Z ad0 b0 (pc + 3) l (vi (nI ((stxt.getD i []).getD j.toNatClampNeg 0)) :: r) σ) : Rl D G A mid p lc e R s m args below meth c Z ad0 b0 pc l (vi j :: vr (some (1, i)) :: r) σ := by
  intro H locs cells slots ls cst ad bk ws tys lv hH hS hle hl hlr hll hst h1 h2
  obtain ⟨w1, c0, rfl, e0, hs0⟩ := hst.cons
  cases e0
  obtain ⟨a, c1, rfl, ha, hs1⟩ := hs0.ref
  have hw : (c1.map fun v => v.category).sum ≤ 8 := by
    have := hs1.weigh
    omega
  obtain ⟨hx, hbc, hml, hown, hts, hlk, hrt, hini, hfr, hlo, hxf, hA, hWn⟩ := id C
  have o := lk22 hf
  obtain ⟨hP, hK, hD, h4, h5, h6, h7, h8, h9, h10, h11, h12⟩ := id hH
  have hS5 : CallFix p m c (mcode mid) (mml mid) s args tb (cN (mcl mid)) := ⟨hx, hbc, hml, hown, hts⟩
  have ea : a = G.2.2.2.1 i := by
    have := h12.1 i hi
    rw [ha] at this
    exact Option.some.inj this
  subst ea
  have hO := (hxf.2.1 i hi).1
  obtain ⟨jn, hjn, rfl⟩ := nI_of (Int32.not_lt.mpr hj.1)
  have hj2 := hj.2
  rw [nI_clamp hjn] at hj2
  have hcw := cwV (R := R) (args := args) (rm := { frames := 4, cells := 0, slots := 0, locals := 140 }) 1 hts (goodIn_app (a := [_, _, _, _]) (fun w hw => by
      simp only [List.mem_cons, List.not_mem_nil, or_false] at hw
      rcases hw with rfl | rfl | rfl | rfl
      · exact goodIn_1 o _ (List.mem_singleton.mpr rfl)
      · exact goodIn_1 (tbm 584 (by decide +kernel)) _ (List.mem_singleton.mpr rfl)
      · exact goodIn_1 (tbm 585 (by decide +kernel)) _ (List.mem_singleton.mpr rfl)
      · exact goodIn_1 (tbm 18 (by decide +kernel)) _ (List.mem_singleton.mpr rfl)) (goodIn_tb ok_chaC) : GoodIn tb (wsV (cN (mcl mid)) k "java/lang/String" y_cha (Cond.code y_cha prog_24_method_56_code 2 (some .char) :: tb))) rfl rfl rfl ⟨rfl, by decide +kernel⟩ ⟨by show 4 + 1 ≤ _; omega, by show 8 + (2 + 11) + 140 ≤ _; omega⟩
  refine va_calli (va_runV (As := [.int (nI jn)]) (b := G.2.2.2.1 i) hS5 (met_cha (A := A) (G := G) (H := H) hi hj2) hcw ⟨SX_blind, ((hO.kept hS.2.1).imp fun _ h => ⟨h.1, h.2.1, h.2.2.1⟩), fun U hU hW => ⟨rfl, hU, hxf.on hW.alike hS⟩⟩ rfl rfl hl.1 rfl (lv_room (by omega)) hd ⟨by omega, by omega⟩) hS (fun _ _ h => h) (fun _ h => h) (fun r1 u t H1 locs1 ht hvm hw2 hB2 _ _ hS1 => ?_)
  have hB2 : t.heap = H := hB2
  rw [ht] at hB2
  subst hB2
  have hw2 : r1 = nI ((stxt.getD i []).getD jn 0) := hw2
  subst hw2
  rw [nI_clamp hjn] at kk
  exact kk _ locs1 _ _ ls _ ad bk ws tys lv hH hS1 hle hl hlr hll ⟨rfl, hs1⟩ (by omega) (by omega)
theorem agr_add {K i : Nat} {q : Option (Nat × Nat)} : agr σ (am_add σ K i q) K i := ⟨fun _ => rfl, fun a b h => ⟨rfl, rfl, by funext j; rw [gR_am_add, if_neg (fun e => h ⟨e.1, e.2.1⟩)], by rw [gN_am_add, if_neg h]⟩⟩
theorem agr_ins {K i j : Nat} {q : Option (Nat × Nat)} : agr σ (am_ins σ K i j q) K i := ⟨fun _ => rfl, fun a b h => ⟨rfl, rfl, by
    funext j'
    show (if a = K ∧ b = i then _ else gR σ a b j') = _
    rw [if_neg h], by
    show (if a = K ∧ b = i then _ else gN σ a b) = _
    rw [if_neg h]⟩⟩
theorem agr_rem {K i j : Nat} : agr σ (am_rem σ K i j) K i := ⟨fun _ => rfl, fun a b h => ⟨rfl, rfl, by
    funext j'
    show (if a = K ∧ b = i then _ else gR σ a b j') = _
    rw [if_neg h], by
    show (if a = K ∧ b = i then _ else gN σ a b) = _
    rw [if_neg h]⟩⟩
theorem agr_N {K i n : Nat} : agr σ (sN σ K i n) K i := ⟨fun _ => rfl, fun a b h => ⟨rfl, rfl, rfl, by
    show (if a = K ∧ b = i then _ else gN σ a b) = _
    rw [if_neg h]⟩⟩
theorem calM11 : ∀ e ∈ calL, e.2.2.1 = 11 → (e.1 = 12 ∧ e.2.1 = 71) ∨ (e.1 = 4 ∧ e.2.1 = 82) ∨ (e.1 = 10 ∧ e.2.1 = 168) := by decide +kernel
theorem lk11 {c k cm : Nat} (hf : cal c k = some (11, cm)) : Cond.methodLink (cN c) k y_ad1 ∈ tb := by
  rcases calM11 _ (lk_s (L := calL) hf) rfl with ⟨e1, e2⟩ | ⟨e1, e2⟩ | ⟨e1, e2⟩
  · have e1 : c = 12 := e1
    have e2 : k = 71 := e2
    rw [e1, e2]; exact (tbm 176 (by decide +kernel))
  · have e1 : c = 4 := e1
    have e2 : k = 82 := e2
    rw [e1, e2]; exact (tbm 767 (by decide +kernel))
  · have e1 : c = 10 := e1
    have e2 : k = 168 := e2
    rw [e1, e2]; exact (tbm 675 (by decide +kernel))
theorem rl_addN {k cm K i : Nat} (C : Cx mid d G A p R s m args meth c) (hd : decode (mcode mid) pc = .ok (.invokevirtual k, 3)) (hf : cal (mcl mid) k = some (11, cm)) (hk : kT K = (5, 0)) (hn : gN σ K i ≤ 40000) (hz : ∀ j q, gR σ K i j = some q → z4 q.1 = true ∨ q.1 = 1) (hr : r.length ≤ 4) (hB : (gB (am_add σ K i none)).1 ≤ R.cells + b0.1 ∧ (gB (am_add σ K i none)).2 ≤ R.slots + b0.2) (kk : Rl D G A mid p lc e R s m args below meth c Z ad0 b0 (pc + 3) l (vi 1 :: r) (am_add σ K i none)) : Rl D G A mid p lc e R s m args below meth c Z ad0 b0 pc l (vr none :: vr (some (K, i)) :: r) σ := by
  intro H locs cells slots ls cst ad bk ws tys lv hH hS hle hl hlr hll hst h1 h2
  obtain ⟨w0, c0, rfl, e0, hs0⟩ := hst.cons
  cases e0
  obtain ⟨a, c1, rfl, ha, hs1⟩ := hs0.ref
  have hw : (c1.map fun v => v.category).sum ≤ 8 := by
    have := hs1.weigh
    omega
  obtain ⟨hx, hbc, hml, hown, hts, hlk, hrt, hini, hfr, hlo, hxf, hA, hWn⟩ := id C
  have o := lk11 hf
  obtain ⟨hP, hK, hD, h4, h5, h6, h7, h8, h9, h10, h11, h12⟩ := id hH
  have hS5 : CallFix p m c (mcode mid) (mml mid) s args tb (cN (mcl mid)) := ⟨hx, hbc, hml, hown, hts⟩
  obtain ⟨q0, m9, bb, qb, f, hL⟩ := lst_of (h6 _ _ _ ha (by rw [hk]))
  obtain ⟨l1, l2, l3, l4, l5⟩ := id hL
  have hE := hH.elm (n := gN σ K i) (f := f) hz l3
  have hrec := va_recv hK hP al_at l1
  have b1 : (gB σ).1 + 1 ≤ R.cells + b0.1 := hB.1
  have b2 : (gB σ).2 + (gN σ K i + gN σ K i / 2 + 10) ≤ R.slots + b0.2 := hB.2
  have hcw := cwV (R := R) (args := args) (rm := { frames := 7, cells := 1, slots := (gN σ K i + gN σ K i / 2 + 10), locals := 390 }) 1 hts (goodIn_app (a := [_, _, _, _]) (fun w hw => by
      simp only [List.mem_cons, List.not_mem_nil, or_false] at hw
      rcases hw with rfl | rfl | rfl | rfl
      · exact goodIn_1 o _ (List.mem_singleton.mpr rfl)
      · exact goodIn_1 (tbm 177 (by decide +kernel)) _ (List.mem_singleton.mpr rfl)
      · exact goodIn_1 (tbm 178 (by decide +kernel)) _ (List.mem_singleton.mpr rfl)
      · exact goodIn_1 (tbm 4 (by decide +kernel)) _ (List.mem_singleton.mpr rfl)) (goodIn_tb ok_ad1C) : GoodIn tb (wsV (cN (mcl mid)) k "java/util/ArrayList" y_ad1 (Cond.code y_ad1 prog_33_method_25_code 2 (some .boolean) :: tb))) rfl rfl rfl ⟨rfl, by decide +kernel⟩ ⟨by show 7 + 1 ≤ _; omega, by show 8 + (2 + 11) + 390 ≤ _; omega⟩
  refine va_calli (va_runV (As := [.null]) (b := a) hS5 (met_ad1N (A := A) (D := D) (G := G) (H := H) l1 l2 hn hE) hcw ⟨PW_blind, hrec, fun U hU hW => ⟨rfl, hU, hP, hK.moved hW.alike, hD, hxf.on hW.alike hS, tbn_w hW hWn, fun q hq => hA q (Nat.le_trans hS.1 hq)⟩⟩ rfl rfl hl.1 rfl (lv_room (by omega)) hd ⟨by omega, by omega⟩) hS (fun _ _ h => h) (fun _ h => h) (fun r1 u t H1 locs1 ht hvm hw2 hB2 _ _ hS1 => ?_)
  obtain ⟨hP1, hK1, hD1⟩ := hB2
  rw [ht] at hP1
  obtain ⟨rfl, q1, f', g1, g2, g3, g4, g5⟩ := hw2
  obtain ⟨bk', hH1⟩ := hH.lst (σ' := am_add σ K i none) hk ha hL hP1 (hK1.moved hvm.symm) hD1 g1 (fun q x e0 e1 h => g3 q x e0 (fun e => e1 (by rw [e])) h) (g4.imp Eq.symm fun e => ⟨q1, rfl, e⟩) g5 agr_add (by rw [gN_am_add, if_pos ⟨rfl, rfl⟩]) (fun j hj => by
    rw [g2 j hj, gR_am_add]
    by_cases cj : j = gN σ K i
    · rw [if_pos ⟨rfl, rfl, cj⟩]
      show vrel ad _ (va_rf (if j = gN σ K i then none else f j))
      rw [if_pos cj]
      exact rfl
    · rw [if_neg (fun e => cj e.2.2)]
      show vrel ad _ (va_rf (if j = gN σ K i then none else f j))
      rw [if_neg cj]
      exact l3 j (by omega))
  exact kk H1 locs1 _ _ ls (.int 1 :: c1) ad bk' u.1 u.2 lv hH1 hS1 hle hl hlr hll ⟨rfl, hs1⟩ (by show _ ≤ (gB σ).1 + 1; omega) (by show _ ≤ (gB σ).2 + (gN σ K i + gN σ K i / 2 + 10); omega)
theorem rl_addR {k cm K i : Nat} (C : Cx mid d G A p R s m args meth c) (hd : decode (mcode mid) pc = .ok (.invokevirtual k, 3)) (hf : cal (mcl mid) k = some (11, cm)) (hk : kT K = (5, 0)) (hn : gN σ K i ≤ 40000) {q : Nat × Nat} (hq : z4 q.1 = true ∨ q.1 = 1) (hz : ∀ j q, gR σ K i j = some q → z4 q.1 = true ∨ q.1 = 1) (hr : r.length ≤ 4) (hB : (gB (am_add σ K i (some q))).1 ≤ R.cells + b0.1 ∧ (gB (am_add σ K i (some q))).2 ≤ R.slots + b0.2) (kk : Rl D G A mid p lc e R s m args below meth c Z ad0 b0 (pc + 3) l (vi 1 :: r) (am_add σ K i (some q))) : Rl D G A mid p lc e R s m args below meth c Z ad0 b0 pc l (vr (some q) :: vr (some (K, i)) :: r) σ := by
  intro H locs cells slots ls cst ad bk ws tys lv hH hS hle hl hlr hll hst h1 h2
  obtain ⟨w0, c0, rfl, e0, hs0⟩ := hst.cons
  obtain ⟨y, hy, rfl⟩ := e0
  obtain ⟨a, c1, rfl, ha, hs1⟩ := hs0.ref
  have hw : (c1.map fun v => v.category).sum ≤ 8 := by
    have := hs1.weigh
    omega
  obtain ⟨hx, hbc, hml, hown, hts, hlk, hrt, hini, hfr, hlo, hxf, hA, hWn⟩ := id C
  have o := lk11 hf
  obtain ⟨hP, hK, hD, h4, h5, h6, h7, h8, h9, h10, h11, h12⟩ := id hH
  have hS5 : CallFix p m c (mcode mid) (mml mid) s args tb (cN (mcl mid)) := ⟨hx, hbc, hml, hown, hts⟩
  obtain ⟨q0, m9, bb, qb, f, hL⟩ := lst_of (h6 _ _ _ ha (by rw [hk]))
  obtain ⟨l1, l2, l3, l4, l5⟩ := id hL
  have hE := hH.elm (n := gN σ K i) (f := f) hz l3
  have hrec := va_recv hK hP al_at l1
  have hy9 := hH.obj hq hy
  have b1 : (gB σ).1 + 1 ≤ R.cells + b0.1 := hB.1
  have b2 : (gB σ).2 + (gN σ K i + gN σ K i / 2 + 10) ≤ R.slots + b0.2 := hB.2
  have hcw := cwV (R := R) (args := args) (rm := { frames := 7, cells := 1, slots := (gN σ K i + gN σ K i / 2 + 10), locals := 390 }) 1 hts (goodIn_app (a := [_, _, _, _]) (fun w hw => by
      simp only [List.mem_cons, List.not_mem_nil, or_false] at hw
      rcases hw with rfl | rfl | rfl | rfl
      · exact goodIn_1 o _ (List.mem_singleton.mpr rfl)
      · exact goodIn_1 (tbm 177 (by decide +kernel)) _ (List.mem_singleton.mpr rfl)
      · exact goodIn_1 (tbm 178 (by decide +kernel)) _ (List.mem_singleton.mpr rfl)
      · exact goodIn_1 (tbm 4 (by decide +kernel)) _ (List.mem_singleton.mpr rfl)) (goodIn_tb ok_ad1C) : GoodIn tb (wsV (cN (mcl mid)) k "java/util/ArrayList" y_ad1 (Cond.code y_ad1 prog_33_method_25_code 2 (some .boolean) :: tb))) rfl rfl rfl ⟨rfl, by decide +kernel⟩ ⟨by show 7 + 1 ≤ _; omega, by show 8 + (2 + 11) + 390 ≤ _; omega⟩
  refine va_calli (va_runV (As := [.ref y]) (b := a) hS5 (met_ad1R (A := A) (D := D) (G := G) (H := H) l1 l2 hn hE hy9) hcw ⟨PW_blind, hrec, fun U hU hW => ⟨rfl, hU, hP, hK.moved hW.alike, hD, hxf.on hW.alike hS, tbn_w hW hWn, fun q hq => hA q (Nat.le_trans hS.1 hq)⟩⟩ rfl rfl hl.1 rfl (lv_room (by omega)) hd ⟨by omega, by omega⟩) hS (fun _ _ h => h) (fun _ h => h) (fun r1 u t H1 locs1 ht hvm hw2 hB2 _ _ hS1 => ?_)
  obtain ⟨hP1, hK1, hD1⟩ := hB2
  rw [ht] at hP1
  obtain ⟨rfl, q1, f', g1, g2, g3, g4, g5⟩ := hw2
  obtain ⟨bk', hH1⟩ := hH.lst (σ' := am_add σ K i (some q)) hk ha hL hP1 (hK1.moved hvm.symm) hD1 g1 (fun q x e0 e1 h => g3 q x e0 (fun e => e1 (by rw [e])) h) (g4.imp Eq.symm fun e => ⟨q1, rfl, e⟩) g5 agr_add (by rw [gN_am_add, if_pos ⟨rfl, rfl⟩]) (fun j hj => by
    rw [g2 j hj, gR_am_add]
    by_cases cj : j = gN σ K i
    · rw [if_pos ⟨rfl, rfl, cj⟩]
      show vrel ad _ (va_rf (if j = gN σ K i then (some y) else f j))
      rw [if_pos cj]
      exact ⟨y, hy, rfl⟩
    · rw [if_neg (fun e => cj e.2.2)]
      show vrel ad _ (va_rf (if j = gN σ K i then (some y) else f j))
      rw [if_neg cj]
      exact l3 j (by omega))
  exact kk H1 locs1 _ _ ls (.int 1 :: c1) ad bk' u.1 u.2 lv hH1 hS1 hle hl hlr hll ⟨rfl, hs1⟩ (by show _ ≤ (gB σ).1 + 1; omega) (by show _ ≤ (gB σ).2 + (gN σ K i + gN σ K i / 2 + 10); omega)
theorem calM12 : ∀ e ∈ calL, e.2.2.1 = 12 → (e.1 = 4 ∧ e.2.1 = 78) := by decide +kernel
theorem lk12 {c k cm : Nat} (hf : cal c k = some (12, cm)) : Cond.methodLink (cN c) k y_adi ∈ tb := by
  rcases calM12 _ (lk_s (L := calL) hf) rfl with ⟨e1, e2⟩
  · have e1 : c = 4 := e1
    have e2 : k = 78 := e2
    rw [e1, e2]; exact (tbm 758 (by decide +kernel))
theorem rl_insN {k cm K i : Nat} {j : Int32} (C : Cx mid d G A p R s m args meth c) (hd : decode (mcode mid) pc = .ok (.invokevirtual k, 3)) (hf : cal (mcl mid) k = some (12, cm)) (hk : kT K = (5, 0)) (hn : gN σ K i ≤ 40000) (hj : am_in j (gN σ K i + 1)) (hz : ∀ j q, gR σ K i j = some q → z4 q.1 = true ∨ q.1 = 1) (hr : r.length ≤ 4) (hB : (gB (am_ins σ K i j.toNatClampNeg none)).1 ≤ R.cells + b0.1 ∧ (gB (am_ins σ K i j.toNatClampNeg none)).2 ≤ R.slots + b0.2) (kk : Rl D G A mid p lc e R s m args below meth c Z ad0 b0 (pc + 3) l r (am_ins σ K i j.toNatClampNeg none)) : Rl D G A mid p lc e R s m args below meth c Z ad0 b0 pc l (vr none :: vi j :: vr (some (K, i)) :: r) σ := by
  intro H locs cells slots ls cst ad bk ws tys lv hH hS hle hl hlr hll hst h1 h2
  obtain ⟨w0, c00, rfl, e0, hs00⟩ := hst.cons
  cases e0
  obtain ⟨w9, c0, rfl, e9, hs0⟩ := hs00.cons
  cases e9
  obtain ⟨a, c1, rfl, ha, hs1⟩ := hs0.ref
  have hw : (c1.map fun v => v.category).sum ≤ 8 := by
    have := hs1.weigh
    omega
  obtain ⟨hx, hbc, hml, hown, hts, hlk, hrt, hini, hfr, hlo, hxf, hA, hWn⟩ := id C
  have o := lk12 hf
  obtain ⟨hP, hK, hD, h4, h5, h6, h7, h8, h9, h10, h11, h12⟩ := id hH
  have hS5 : CallFix p m c (mcode mid) (mml mid) s args tb (cN (mcl mid)) := ⟨hx, hbc, hml, hown, hts⟩
  obtain ⟨q0, m9, bb, qb, f, hL⟩ := lst_of (h6 _ _ _ ha (by rw [hk]))
  obtain ⟨l1, l2, l3, l4, l5⟩ := id hL
  have hE := hH.elm (n := gN σ K i) (f := f) hz l3
  have hrec := va_recv hK hP al_at l1
  have b1 : (gB σ).1 + 1 ≤ R.cells + b0.1 := hB.1
  have b2 : (gB σ).2 + (gN σ K i + gN σ K i / 2 + 10) ≤ R.slots + b0.2 := hB.2
  obtain ⟨jn, hjn, rfl⟩ := nI_of (Int32.not_lt.mpr hj.1)
  have hj2 := hj.2
  rw [nI_clamp hjn] at hj2 kk
  have hcw := cwV (R := R) (args := args) (rm := { frames := 6, cells := 1, slots := (gN σ K i + gN σ K i / 2 + 10), locals := 330 }) 2 hts (goodIn_app (a := [_, _, _, _]) (fun w hw => by
      simp only [List.mem_cons, List.not_mem_nil, or_false] at hw
      rcases hw with rfl | rfl | rfl | rfl
      · exact goodIn_1 o _ (List.mem_singleton.mpr rfl)
      · exact goodIn_1 (tbm 759 (by decide +kernel)) _ (List.mem_singleton.mpr rfl)
      · exact goodIn_1 (tbm 760 (by decide +kernel)) _ (List.mem_singleton.mpr rfl)
      · exact goodIn_1 (tbm 4 (by decide +kernel)) _ (List.mem_singleton.mpr rfl)) (goodIn_tb ok_adiC) : GoodIn tb (wsV (cN (mcl mid)) k "java/util/ArrayList" y_adi (Cond.code y_adi prog_33_method_26_code 5 none :: tb))) rfl rfl rfl ⟨rfl, by decide +kernel⟩ ⟨by show 6 + 1 ≤ _; omega, by show 8 + (5 + 11) + 330 ≤ _; omega⟩
  refine va_callv (va_runV (As := [.int (nI jn), .null]) (b := a) hS5 (met_adiN (A := A) (D := D) (G := G) (H := H) (k := jn) l1 l2 hn hE (by omega)) hcw ⟨PW_blind, hrec, fun U hU hW => ⟨rfl, hU, hP, hK.moved hW.alike, hD, hxf.on hW.alike hS, tbn_w hW hWn, fun q hq => hA q (Nat.le_trans hS.1 hq)⟩⟩ rfl rfl hl.1 rfl (lv_room (by omega)) hd ⟨by omega, by omega⟩) hS (fun _ _ h => h) (fun _ h => h) (fun u t H1 locs1 ht hvm hw2 hB2 _ _ hS1 => ?_)
  obtain ⟨hP1, hK1, hD1⟩ := hB2
  rw [ht] at hP1
  obtain ⟨q1, f', g1, g2, g3, g4, g5⟩ := hw2
  obtain ⟨bk', hH1⟩ := hH.lst (σ' := am_ins σ K i jn none) hk ha hL hP1 (hK1.moved hvm.symm) hD1 g1 (fun q x e0 e1 h => g3 q x e0 (fun e => e1 (by rw [e])) h) (g4.imp Eq.symm fun e => ⟨q1, rfl, e⟩) g5 agr_ins (by show (if K = K ∧ i = i then _ else _) = _; rw [if_pos ⟨rfl, rfl⟩]) (fun j hj => by
    rw [g2 j hj]
    show vrel ad (vr (if K = K ∧ i = i then (if j < jn then gR σ K i j else if j = jn then none else gR σ K i (j - 1)) else gR σ K i j)) (va_rf (if j < jn then f j else if j = jn then none else f (j - 1)))
    rw [if_pos ⟨rfl, rfl⟩]
    by_cases c1 : j < jn
    · rw [if_pos c1, if_pos c1]; exact l3 j (by omega)
    · rw [if_neg c1, if_neg c1]
      by_cases c2 : j = jn
      · rw [if_pos c2, if_pos c2]; exact rfl
      · rw [if_neg c2, if_neg c2]; exact l3 (j - 1) (by omega))
  exact kk H1 locs1 _ _ ls c1 ad bk' u.1 u.2 lv hH1 hS1 hle hl hlr hll hs1 (by show _ ≤ (gB σ).1 + 1; omega) (by show _ ≤ (gB σ).2 + (gN σ K i + gN σ K i / 2 + 10); omega)
theorem rl_insR {k cm K i : Nat} {j : Int32} (C : Cx mid d G A p R s m args meth c) (hd : decode (mcode mid) pc = .ok (.invokevirtual k, 3)) (hf : cal (mcl mid) k = some (12, cm)) (hk : kT K = (5, 0)) (hn : gN σ K i ≤ 40000) (hj : am_in j (gN σ K i + 1)) {q : Nat × Nat} (hq : z4 q.1 = true ∨ q.1 = 1) (hz : ∀ j q, gR σ K i j = some q → z4 q.1 = true ∨ q.1 = 1) (hr : r.length ≤ 4) (hB : (gB (am_ins σ K i j.toNatClampNeg (some q))).1 ≤ R.cells + b0.1 ∧ (gB (am_ins σ K i j.toNatClampNeg (some q))).2 ≤ R.slots + b0.2) (kk : Rl D G A mid p lc e R s m args below meth c Z ad0 b0 (pc + 3) l r (am_ins σ K i j.toNatClampNeg (some q))) : Rl D G A mid p lc e R s m args below meth c Z ad0 b0 pc l (vr (some q) :: vi j :: vr (some (K, i)) :: r) σ := by
  intro H locs cells slots ls cst ad bk ws tys lv hH hS hle hl hlr hll hst h1 h2
  obtain ⟨w0, c00, rfl, e0, hs00⟩ := hst.cons
  obtain ⟨y, hy, rfl⟩ := e0
  obtain ⟨w9, c0, rfl, e9, hs0⟩ := hs00.cons
  cases e9
  obtain ⟨a, c1, rfl, ha, hs1⟩ := hs0.ref
  have hw : (c1.map fun v => v.category).sum ≤ 8 := by
    have := hs1.weigh
    omega
  obtain ⟨hx, hbc, hml, hown, hts, hlk, hrt, hini, hfr, hlo, hxf, hA, hWn⟩ := id C
  have o := lk12 hf
  obtain ⟨hP, hK, hD, h4, h5, h6, h7, h8, h9, h10, h11, h12⟩ := id hH
  have hS5 : CallFix p m c (mcode mid) (mml mid) s args tb (cN (mcl mid)) := ⟨hx, hbc, hml, hown, hts⟩
  obtain ⟨q0, m9, bb, qb, f, hL⟩ := lst_of (h6 _ _ _ ha (by rw [hk]))
  obtain ⟨l1, l2, l3, l4, l5⟩ := id hL
  have hE := hH.elm (n := gN σ K i) (f := f) hz l3
  have hrec := va_recv hK hP al_at l1
  have hy9 := hH.obj hq hy
  have b1 : (gB σ).1 + 1 ≤ R.cells + b0.1 := hB.1
  have b2 : (gB σ).2 + (gN σ K i + gN σ K i / 2 + 10) ≤ R.slots + b0.2 := hB.2
  obtain ⟨jn, hjn, rfl⟩ := nI_of (Int32.not_lt.mpr hj.1)
  have hj2 := hj.2
  rw [nI_clamp hjn] at hj2 kk
  have hcw := cwV (R := R) (args := args) (rm := { frames := 6, cells := 1, slots := (gN σ K i + gN σ K i / 2 + 10), locals := 330 }) 2 hts (goodIn_app (a := [_, _, _, _]) (fun w hw => by
      simp only [List.mem_cons, List.not_mem_nil, or_false] at hw
      rcases hw with rfl | rfl | rfl | rfl
      · exact goodIn_1 o _ (List.mem_singleton.mpr rfl)
      · exact goodIn_1 (tbm 759 (by decide +kernel)) _ (List.mem_singleton.mpr rfl)
      · exact goodIn_1 (tbm 760 (by decide +kernel)) _ (List.mem_singleton.mpr rfl)
      · exact goodIn_1 (tbm 4 (by decide +kernel)) _ (List.mem_singleton.mpr rfl)) (goodIn_tb ok_adiC) : GoodIn tb (wsV (cN (mcl mid)) k "java/util/ArrayList" y_adi (Cond.code y_adi prog_33_method_26_code 5 none :: tb))) rfl rfl rfl ⟨rfl, by decide +kernel⟩ ⟨by show 6 + 1 ≤ _; omega, by show 8 + (5 + 11) + 330 ≤ _; omega⟩
  refine va_callv (va_runV (As := [.int (nI jn), .ref y]) (b := a) hS5 (met_adiR (A := A) (D := D) (G := G) (H := H) (k := jn) l1 l2 hn hE (by omega) hy9) hcw ⟨PW_blind, hrec, fun U hU hW => ⟨rfl, hU, hP, hK.moved hW.alike, hD, hxf.on hW.alike hS, tbn_w hW hWn, fun q hq => hA q (Nat.le_trans hS.1 hq)⟩⟩ rfl rfl hl.1 rfl (lv_room (by omega)) hd ⟨by omega, by omega⟩) hS (fun _ _ h => h) (fun _ h => h) (fun u t H1 locs1 ht hvm hw2 hB2 _ _ hS1 => ?_)
  obtain ⟨hP1, hK1, hD1⟩ := hB2
  rw [ht] at hP1
  obtain ⟨q1, f', g1, g2, g3, g4, g5⟩ := hw2
  obtain ⟨bk', hH1⟩ := hH.lst (σ' := am_ins σ K i jn (some q)) hk ha hL hP1 (hK1.moved hvm.symm) hD1 g1 (fun q x e0 e1 h => g3 q x e0 (fun e => e1 (by rw [e])) h) (g4.imp Eq.symm fun e => ⟨q1, rfl, e⟩) g5 agr_ins (by show (if K = K ∧ i = i then _ else _) = _; rw [if_pos ⟨rfl, rfl⟩]) (fun j hj => by
    rw [g2 j hj]
    show vrel ad (vr (if K = K ∧ i = i then (if j < jn then gR σ K i j else if j = jn then (some q) else gR σ K i (j - 1)) else gR σ K i j)) (va_rf (if j < jn then f j else if j = jn then (some y) else f (j - 1)))
    rw [if_pos ⟨rfl, rfl⟩]
    by_cases c1 : j < jn
    · rw [if_pos c1, if_pos c1]; exact l3 j (by omega)
    · rw [if_neg c1, if_neg c1]
      by_cases c2 : j = jn
      · rw [if_pos c2, if_pos c2]; exact ⟨y, hy, rfl⟩
      · rw [if_neg c2, if_neg c2]; exact l3 (j - 1) (by omega))
  exact kk H1 locs1 _ _ ls c1 ad bk' u.1 u.2 lv hH1 hS1 hle hl hlr hll hs1 (by show _ ≤ (gB σ).1 + 1; omega) (by show _ ≤ (gB σ).2 + (gN σ K i + gN σ K i / 2 + 10); omega)
theorem calM14 : ∀ e ∈ calL, e.2.2.1 = 14 → (e.1 = 12 ∧ e.2.1 = 283) := by decide +kernel
theorem lk14 {c k cm : Nat} (hf : cal c k = some (14, cm)) : Cond.methodLink (cN c) k y_rem ∈ tb := by
  rcases calM14 _ (lk_s (L := calL) hf) rfl with ⟨e1, e2⟩
  · have e1 : c = 12 := e1
    have e2 : k = 283 := e2
    rw [e1, e2]; exact (tbm 958 (by decide +kernel))
theorem rl_rem {k cm K i : Nat} {j : Int32} (C : Cx mid d G A p R s m args meth c) (hd : decode (mcode mid) pc = .ok (.invokevirtual k, 3)) (hf : cal (mcl mid) k = some (14, cm)) (hk : kT K = (5, 0)) (hj : am_in j (gN σ K i)) (hz : ∀ j q, gR σ K i j = some q → z4 q.1 = true ∨ q.1 = 1) (hr : r.length ≤ 4) (hB : (gB (am_rem σ K i j.toNatClampNeg)).1 ≤ R.cells + b0.1 ∧ (gB (am_rem σ K i j.toNatClampNeg)).2 ≤ R.slots + b0.2) (kk : Rl D G A mid p lc e R s m args below meth c Z ad0 b0 (pc + 3) l (vr (gR σ K i j.toNatClampNeg) :: r) (am_rem σ K i j.toNatClampNeg)) : Rl D G A mid p lc e R s m args below meth c Z ad0 b0 pc l (vi j :: vr (some (K, i)) :: r) σ := by
  intro H locs cells slots ls cst ad bk ws tys lv hH hS hle hl hlr hll hst h1 h2
  obtain ⟨w0, c0, rfl, e0, hs0⟩ := hst.cons
  cases e0
  obtain ⟨a, c1, rfl, ha, hs1⟩ := hs0.ref
  have hw : (c1.map fun v => v.category).sum ≤ 8 := by
    have := hs1.weigh
    omega
  obtain ⟨hx, hbc, hml, hown, hts, hlk, hrt, hini, hfr, hlo, hxf, hA, hWn⟩ := id C
  have o := lk14 hf
  obtain ⟨hP, hK, hD, h4, h5, h6, h7, h8, h9, h10, h11, h12⟩ := id hH
  have hS5 : CallFix p m c (mcode mid) (mml mid) s args tb (cN (mcl mid)) := ⟨hx, hbc, hml, hown, hts⟩
  obtain ⟨q0, m9, bb, qb, f, hL⟩ := lst_of (h6 _ _ _ ha (by rw [hk]))
  obtain ⟨l1, l2, l3, l4, l5⟩ := id hL
  have hE := hH.elm (n := gN σ K i) (f := f) hz l3
  have hrec := va_recv hK hP al_at l1
  have b1 : (gB σ).1 ≤ R.cells + b0.1 := hB.1
  have b2 : (gB σ).2 ≤ R.slots + b0.2 := hB.2
  obtain ⟨jn, hjn, rfl⟩ := nI_of (Int32.not_lt.mpr hj.1)
  have hj2 := hj.2
  rw [nI_clamp hjn] at hj2 kk
  obtain ⟨q1, t0, cap, cA, rfl, ht0, k1, hnc, h10', hcap⟩ : ∃ (q1 t0 cap : Nat) (cA : ClassId), qb = some q1 ∧ tys[t0]? = some (cA, .object oOA) ∧ ws[q1]? = some (bb, rfA cA cap f) ∧ gN σ K i ≤ cap ∧ 10 ≤ cap ∧ cap ≤ 100000 := by
    rcases l2 with ⟨_, e, _⟩ | h
    · omega
    · exact h
  have hcw := cwV (R := R) (args := args) (rm := { frames := 3, cells := 0, slots := 0, locals := 130 }) 1 hts (goodIn_app (a := [_, _, _, _]) (fun w hw => by
      simp only [List.mem_cons, List.not_mem_nil, or_false] at hw
      rcases hw with rfl | rfl | rfl | rfl
      · exact goodIn_1 o _ (List.mem_singleton.mpr rfl)
      · exact goodIn_1 (tbm 959 (by decide +kernel)) _ (List.mem_singleton.mpr rfl)
      · exact goodIn_1 (tbm 960 (by decide +kernel)) _ (List.mem_singleton.mpr rfl)
      · exact goodIn_1 (tbm 4 (by decide +kernel)) _ (List.mem_singleton.mpr rfl)) (goodIn_tb ok_remC) : GoodIn tb (wsV (cN (mcl mid)) k "java/util/ArrayList" y_rem (Cond.code y_rem prog_33_method_29_code 4 (some (.object "java/lang/Object")) :: tb))) rfl rfl rfl ⟨rfl, by decide +kernel⟩ ⟨by show 3 + 1 ≤ _; omega, by show 8 + (4 + 11) + 130 ≤ _; omega⟩
  have hgo : ∀ (mt : Met lc y_rem (Cond.code y_rem prog_33_method_29_code 4 (some (.object "java/lang/Object")) :: tb) { frames := 3, cells := 0, slots := 0, locals := 130 } (va_Pc [.ref a, .int (nI jn)] (PW D G A ws tys H)) (va_Qq (fun r (u : va_W × List (ClassId × FieldType)) => r = f jn ∧ ADQ G ws tys q0 a (gN σ K i - 1) (some q1) (fun j => if j < jn then f j else f (j + 1)) u) (QW D A) A) 0 0 A), W p lc e R s m args below meth c H locs cells slots Z (F0 m pc ls (.int (nI jn) :: .ref a :: c1)) := by
    intro mt
    refine va_callq (va_runV (As := [.int (nI jn)]) (b := a) hS5 mt hcw ⟨PW_blind, hrec, fun U hU hW => ⟨rfl, hU, hP, hK.moved hW.alike, hD, hxf.on hW.alike hS, tbn_w hW hWn, fun q hq => hA q (Nat.le_trans hS.1 hq)⟩⟩ rfl rfl hl.1 rfl (lv_room (by omega)) hd ⟨by omega, by omega⟩) hS (fun _ _ h => h) (fun _ h => h) (fun r1 u t H1 locs1 ht hvm hw2 hB2 _ _ hS1 => ?_)
    obtain ⟨hP1, hK1, hD1⟩ := hB2
    rw [ht] at hP1
    obtain ⟨rfl, q2, f', g1, g2, g3, g4, g5⟩ := hw2
    obtain ⟨bk', hH1⟩ := hH.lst (σ' := am_rem σ K i jn) hk ha hL hP1 (hK1.moved hvm.symm) hD1 g1 (fun q x e0 e1 h => g3 q x e0 (fun e => e1 (by rw [e])) h) (g4.imp Eq.symm fun e => ⟨q2, rfl, e⟩) g5 agr_rem (by show (if K = K ∧ i = i then _ else _) = _; rw [if_pos ⟨rfl, rfl⟩]) (fun j hj => by
      rw [g2 j hj]
      show vrel ad (vr (if K = K ∧ i = i then (if j < jn then gR σ K i j else gR σ K i (j + 1)) else gR σ K i j)) (va_rf (if j < jn then f j else f (j + 1)))
      rw [if_pos ⟨rfl, rfl⟩]
      by_cases c1 : j < jn
      · rw [if_pos c1, if_pos c1]; exact l3 j (by omega)
      · rw [if_neg c1, if_neg c1]; exact l3 (j + 1) (by omega))
    exact kk H1 locs1 _ _ ls (va_rf (f jn) :: c1) ad bk' u.1 u.2 lv hH1 hS1 hle hl hlr hll ⟨l3 jn hj2, hs1⟩ (by show _ ≤ (gB σ).1; omega) (by show _ ≤ (gB σ).2; omega)
  cases hfk : f jn with
  | none => exact hgo (by rw [hfk]; exact (hfk ▸ met_remN (A := A) (D := D) (G := G) (H := H) l1 ht0 k1 hnc h10' hcap hE hj2 hfk))
  | some y => exact hgo (by rw [hfk]; exact (hfk ▸ met_remR (A := A) (D := D) (G := G) (H := H) l1 ht0 k1 hnc h10' hcap hE hj2 hfk))
theorem calM16 : ∀ e ∈ calL, e.2.2.1 = 16 → (e.1 = 12 ∧ e.2.1 = 393) := by decide +kernel
theorem lk16 {c k cm : Nat} (hf : cal c k = some (16, cm)) : Cond.methodLink (cN c) k y_clr ∈ tb := by
  rcases calM16 _ (lk_s (L := calL) hf) rfl with ⟨e1, e2⟩
  · have e1 : c = 12 := e1
    have e2 : k = 393 := e2
    rw [e1, e2]; exact (tbm 1133 (by decide +kernel))
theorem rl_clr {k cm K i : Nat} (C : Cx mid d G A p R s m args meth c) (hd : decode (mcode mid) pc = .ok (.invokevirtual k, 3)) (hf : cal (mcl mid) k = some (16, cm)) (hk : kT K = (5, 0)) (hz : ∀ j q, gR σ K i j = some q → z4 q.1 = true ∨ q.1 = 1) (hr : r.length ≤ 4) (hB : (gB (sN σ K i 0)).1 ≤ R.cells + b0.1 ∧ (gB (sN σ K i 0)).2 ≤ R.slots + b0.2) (kk : Rl D G A mid p lc e R s m args below meth c Z ad0 b0 (pc + 3) l r (sN σ K i 0)) : Rl D G A mid p lc e R s m args below meth c Z ad0 b0 pc l (vr (some (K, i)) :: r) σ := by
  intro H locs cells slots ls cst ad bk ws tys lv hH hS hle hl hlr hll hst h1 h2
  obtain ⟨a, c1, rfl, ha, hs1⟩ := hst.ref
  have hw : (c1.map fun v => v.category).sum ≤ 8 := by
    have := hs1.weigh
    omega
  obtain ⟨hx, hbc, hml, hown, hts, hlk, hrt, hini, hfr, hlo, hxf, hA, hWn⟩ := id C
  have o := lk16 hf
  obtain ⟨hP, hK, hD, h4, h5, h6, h7, h8, h9, h10, h11, h12⟩ := id hH
  have hS5 : CallFix p m c (mcode mid) (mml mid) s args tb (cN (mcl mid)) := ⟨hx, hbc, hml, hown, hts⟩
  obtain ⟨q0, m9, bb, qb, f, hL⟩ := lst_of (h6 _ _ _ ha (by rw [hk]))
  obtain ⟨l1, l2, l3, l4, l5⟩ := id hL
  have hE := hH.elm (n := gN σ K i) (f := f) hz l3
  have hrec := va_recv hK hP al_at l1
  have b1 : (gB σ).1 ≤ R.cells + b0.1 := hB.1
  have b2 : (gB σ).2 ≤ R.slots + b0.2 := hB.2
  have hg4 : gN σ K i ≤ 100000 := by
    rcases l2 with ⟨_, e, _⟩ | ⟨_, _, cap, _, _, _, _, g, _, g'⟩
    · omega
    · omega
  have hcw := cwV (R := R) (args := args) (rm := { frames := 1, cells := 0, slots := 0, locals := 40 }) 0 hts (goodIn_app (a := [_, _, _, _]) (fun w hw => by
      simp only [List.mem_cons, List.not_mem_nil, or_false] at hw
      rcases hw with rfl | rfl | rfl | rfl
      · exact goodIn_1 o _ (List.mem_singleton.mpr rfl)
      · exact goodIn_1 (tbm 1134 (by decide +kernel)) _ (List.mem_singleton.mpr rfl)
      · exact goodIn_1 (tbm 1135 (by decide +kernel)) _ (List.mem_singleton.mpr rfl)
      · exact goodIn_1 (tbm 4 (by decide +kernel)) _ (List.mem_singleton.mpr rfl)) (goodIn_tb ok_clrC) : GoodIn tb (wsV (cN (mcl mid)) k "java/util/ArrayList" y_clr (Cond.code y_clr prog_33_method_40_code 4 none :: tb))) rfl rfl rfl ⟨rfl, by decide +kernel⟩ ⟨by show 1 + 1 ≤ _; omega, by show 8 + (4 + 11) + 40 ≤ _; omega⟩
  refine va_callv (va_runV (As := []) (b := a) hS5 (met_clr (A := A) (D := D) (G := G) (H := H) l1 l2 hg4 hE) hcw ⟨PW_blind, hrec, fun U hU hW => ⟨rfl, hU, hP, hK.moved hW.alike, hD, hxf.on hW.alike hS, tbn_w hW hWn, fun q hq => hA q (Nat.le_trans hS.1 hq)⟩⟩ rfl rfl hl.1 rfl (lv_room (by omega)) hd ⟨by omega, by omega⟩) hS (fun _ _ h => h) (fun _ h => h) (fun u t H1 locs1 ht hvm hw2 hB2 _ _ hS1 => ?_)
  obtain ⟨hP1, hK1, hD1⟩ := hB2
  rw [ht] at hP1
  obtain ⟨f', g1, g2, g3⟩ := hw2
  obtain ⟨bk', hH1⟩ := hH.lst (σ' := sN σ K i 0) hk ha hL hP1 (hK1.moved hvm.symm) hD1 g1 g2 (Or.inl rfl) (by rw [g3]; exact keepT.rf) agr_N (by show (if K = K ∧ i = i then _ else _) = _; rw [if_pos ⟨rfl, rfl⟩]) (fun j hj => absurd hj (Nat.not_lt_zero j))
  exact kk H1 locs1 _ _ ls c1 ad bk' u.1 u.2 lv hH1 hS1 hle hl hlr hll hs1 (by show _ ≤ (gB σ).1; omega) (by show _ ≤ (gB σ).2; omega)
end SIMRL
