section SIMQ3
variable {D : va_G} {G : xG} {A : Nat → Prop} {mid d : Nat} {p : Program} {lc : Launch} {e : Env} {R : Room} {s : State} {m : MethodId} {args : Array Value} {below : List Frame} {meth : Method} {c : Code} {Z : State → Prop} {ad0 : sA} {b0 : Nat × Nat} {pc : Nat} {l : aL} {st r : List aV} {σ : aM}
abbrev y_ad3 : MethodName := ⟨"java/util/ArrayList", "add", "(Ljava/lang/Object;[Ljava/lang/Object;I)V"⟩
set_option maxRecDepth 100000 in
theorem ok_ad3C : Cond.code y_ad3 prog_33_method_24_code 4 none ∈ tb := tbm 183 ⟨rfl, rfl⟩
abbrev y_ad1 : MethodName := ⟨"java/util/ArrayList", "add", "(Ljava/lang/Object;)Z"⟩
set_option maxRecDepth 100000 in
theorem ok_ad1C : Cond.code y_ad1 prog_33_method_25_code 2 (some .boolean) ∈ tb := tbm 179 ⟨rfl, rfl⟩
theorem ADQ.mod {ws : va_W} {tys : List (ClassId × FieldType)} {q0 a n' : Nat} {qb : Option Nat} {g : Nat → Option Nat} {x : Nat × va_E} {u : va_W × List (ClassId × FieldType)} (h : ADQ G (ws.set q0 x) tys q0 a n' qb g u) : ADQ G ws tys q0 a n' qb g u := by
  obtain ⟨q1, f', h1, h2, h3, h4, h5⟩ := h
  exact ⟨q1, f', h1, h2, fun q y e0 e1 h => h3 q y e0 e1 (set_ne (Ne.symm e0) h), by rw [List.length_set] at h4; exact h4, h5⟩
theorem met_ad3N {ws : va_W} {tys : List (ClassId × FieldType)} {H : Heap} {q0 a bb n : Nat} {m9 : Int32} {f : Nat → Option Nat} {qb : Option Nat} (h0 : ws[q0]? = some (a, lsE m9 (.ref bb) n)) (hB : BK G ws tys bb n qb f) (hn : n ≤ 40000) (hE : ELm G ws tys n f) : Met lc y_ad3 (Cond.code y_ad3 prog_33_method_24_code 4 none :: tb) { frames := 6, cells := 1, slots := (n + n / 2 + 10), locals := 330 } (va_Pc [.ref a, .null, .ref bb, .int (nI n)] (PW D G A ws tys H)) (va_Qv (fun (u : va_W × List (ClassId × FieldType)) => ADQ G ws tys q0 a (n + 1) qb (fun j => if j = n then none else f j) u) (QW D A) A) 1 (n + n / 2 + 10) A := by
  refine Met.ofW (cc := prog_33_method_24_code) (maxL := 4) (ret := none) (by decide +kernel) rfl ?_
  intro p e s m args below meth c s₁ B hml hv
  obtain ⟨rfl, hh, hP, hK, hD, hxf, hWn, hA⟩ := hv
  subst hh
  have hx := B.exec
  have hb := B.bytes
  have hr := B.returns
  have hts := atoms_spec (ws := Cond.code y_ad3 prog_33_method_24_code 4 none :: tb) B.pre
  have hts2 : ∀ w ∈ tb, w.before _ s = true := fun w hw => hts w (List.mem_cons_of_mem _ hw)
  have hown : s.vm.findClass "java/util/ArrayList" = some m.cls := findClass_of_methodNamed B.named
  have hlocks := B.notSynchronized
  have hS0 : va_S A s.heap s.heap [] := va_S.rf
  have hS5 : CallFix p m c prog_33_method_24_code 4 s _ tb "java/util/ArrayList" := ⟨hx, hb, hml, hown, hts2⟩
  have hl := lv_entry ([.ref a, .null, .ref bb, .int (nI n)]) (n := 4) (Nat.le_of_ble_eq_true rfl)
  rw [lg_entry_eq]
  generalize (lg_sl ([.ref a, .null, .ref bb, .int (nI n)]) ++ List.replicate (4 - (lg_sl ([.ref a, .null, .ref bb, .int (nI n)])).length) Slot.unset).toArray = ls at hl ⊢
  have hl : lv_has ls 4 [(0, .ref a), (1, .null), (2, .ref bb), (3, .int (nI n))] := hl
  have hB2 := hB
  rcases hB with ⟨rfl, hn0, rfl⟩ | ⟨q1, t0, cap, cA, rfl, ht, h1, hnc, h10, hcap⟩
  · refine lv_iload_n hx hb (show decode prog_33_method_24_code 0 = .ok (.iload_n 3, 1) by decide +kernel) rfl (lv_at hl 3 rfl) ?_
    refine lv_aload_n hx hb (show decode prog_33_method_24_code 1 = .ok (.aload_n 2, 1) by decide +kernel) rfl (lv_at hl 2 rfl) ?_
    refine va_tlen hx hb hxf.2.2.2.1 hS0 (v := nI n) (by rw [hn0]; rfl) (show decode prog_33_method_24_code 2 = .ok (.arraylength, 1) by decide +kernel) ?_
    refine lv_icmp_ne hx hb (show decode prog_33_method_24_code 3 = .ok (.if_icmp .ne 8, 3) by decide +kernel) (tgt := 11) rfl (fun h => absurd (rfl) h) (fun hbr => ?_)
    refine lv_aload_n hx hb (show decode prog_33_method_24_code 6 = .ok (.aload_n 0, 1) by decide +kernel) rfl (lv_at hl 0 rfl) ?_
    have hcw1 := cwV (R := { frames := 6, cells := 1, slots := (n + n / 2 + 10), locals := 330 }) (rm := { frames := 5, cells := 1, slots := (n + n / 2 + 10), locals := 260 }) 0 hts2 (goodIn_app (a := [_, _, _, _]) (fun w hw => by
          simp only [List.mem_cons, List.not_mem_nil, or_false] at hw
          rcases hw with rfl | rfl | rfl | rfl
          · exact goodIn_1 (tbm 184 (by decide +kernel)) _ (List.mem_singleton.mpr rfl)
          · exact goodIn_1 (tbm 186 (by decide +kernel)) _ (List.mem_singleton.mpr rfl)
          · exact goodIn_1 (tbs (y := y_gr0) (n := 3) 1 (by decide +kernel)) _ (List.mem_singleton.mpr rfl)
          · exact goodIn_1 (tbm 4 (by decide +kernel)) _ (List.mem_singleton.mpr rfl)) (goodIn_tb ok_gr0C) : GoodIn tb (wsV "java/util/ArrayList" 129 "java/util/ArrayList" y_gr0 (Cond.code y_gr0 prog_33_method_7_code 1 (some (.array (.object "java/lang/Object"))) :: tb))) rfl rfl rfl ⟨rfl, by decide +kernel⟩ ⟨Nat.le_of_ble_eq_true rfl, Nat.le_of_ble_eq_true rfl⟩
    refine va_callq (va_runV (As := []) (b := a) hS5 (met_gr0 (A := A) (D := D) (G := G) (H := s.heap) h0 (Or.inl ⟨rfl, hn0⟩) hn hE) hcw1 ⟨PW_blind, (va_recv hK hP al_at h0), fun U hU hW => ⟨rfl, hU, hP, hK.moved hW.alike, hD, hxf.on hW.alike hS0, tbn_w hW hWn, fun q hq => hA q (Nat.le_trans hS0.1 hq)⟩⟩ rfl rfl hl.1 rfl (lv_room (Nat.le_of_ble_eq_true rfl)) (show decode prog_33_method_24_code 7 = .ok (.invokevirtual 129, 3) by decide +kernel) ⟨Nat.le_of_ble_eq_true rfl, by show 0 + (n + n / 2 + 10) ≤ n + n / 2 + 10; omega⟩) hS0 (fun _ _ h => h) (fun _ h => h) (fun r1 u1 t1 H1 locs1 ht1 hvm1 hw1 hB1 _ _ hS1 => ?_)
    obtain ⟨hP1, hK1, hD1⟩ := hB1
    rw [ht1] at hP1
    have hK1 := hK1.moved hvm1.symm
    obtain ⟨q, cap9, cB, f9, rfl, k0, k1, k2, c1, c2, c3, k3, k4, k5, k6⟩ := hw1
    have hne : ws.length ≠ q0 := by have := at_lt h0; omega
    refine lv_astore_n hx hb (show decode prog_33_method_24_code 10 = .ok (.astore_n 2, 1) by decide +kernel) rfl hl (by decide) rfl (fun ls hl => ?_)
    refine lv_aload_n hx hb (show decode prog_33_method_24_code 11 = .ok (.aload_n 2, 1) by decide +kernel) rfl (lv_at hl 0 rfl) ?_
    refine lv_iload_n hx hb (show decode prog_33_method_24_code 12 = .ok (.iload_n 3, 1) by decide +kernel) rfl (lv_at hl 3 rfl) ?_
    refine lv_aload_nN hx hb (show decode prog_33_method_24_code 13 = .ok (.aload_n 1, 1) by decide +kernel) rfl (lv_at hl 2 rfl) ?_
    refine va_astqN hx hb hK1 hP1 hD1 hS1 ws.length tys.length k1 k2 (i := nI n) (vp_in_nI (by omega) (by omega)) (show decode prog_33_method_24_code 14 = .ok (.aastore, 1) by decide +kernel) (fun H2 locs2 hP2 hD2 hS2 => ?_)
    rw [nI_clamp (by omega)] at hP2 hD2
    refine lv_aload_n hx hb (show decode prog_33_method_24_code 15 = .ok (.aload_n 0, 1) by decide +kernel) rfl (lv_at hl 1 rfl) ?_
    refine lv_iload_n hx hb (show decode prog_33_method_24_code 16 = .ok (.iload_n 3, 1) by decide +kernel) rfl (lv_at hl 3 rfl) ?_
    refine lv_iconst hx hb (v := nI 1) (show decode prog_33_method_24_code 17 = .ok (.iconst 1, 1) by decide +kernel) (by decide +kernel) ?_
    refine lv_iadd hx hb (show decode prog_33_method_24_code 18 = .ok (.iadd, 1) by decide +kernel) ?_
    refine lv_topi (fun z3 hz3 => ?_)
    have hz3 : z3 = nI (n + 1) := hz3.trans (nI_add n 1)
    subst hz3
    refine va_put (C := RAL) (T := TJx4a65c) (N := 3) (ty := tyJx4a65c 2) hx hb hts2 al_in tyJx4a65c tyJx4a65c_ok nmJx4a65c hown hK1 hP2 hD2 hS2 q0 (set_ne hne k0) al_at 2 (by decide) (hts2 _ al_f48) (fun _ h => h) rfl rfl rfl rfl (Nat.le_of_ble_eq_true rfl) (show decode prog_33_method_24_code 19 = .ok (.putfield 48, 3) by decide +kernel) (fun H4 locs4 hP4 hD4 hS4 => ?_)
    refine W.widen (k := 1) (n := n + n / 2 + 10) (Nat.le_of_ble_eq_true rfl) (by show 0 + (n + n / 2 + 10) ≤ n + n / 2 + 10; omega) ?_
    exact W.vret hx hb hr (fun t ht9 hW => ⟨⟨(_, _), rfl, ⟨ws.length, va_up f9 n none, ⟨m9, q, set_at (set_ne hne k0), Or.inr ⟨ws.length, tys.length, cap9, cB, rfl, k2, set_ne (Ne.symm hne) (set_at k1), by omega, c2, c3⟩⟩, fun j hj => by
        show (if j = n then _ else f9 j) = if j = n then _ else f j
        by_cases c : j = n
        · rw [if_pos c, if_pos c]
        · rw [if_neg c, if_neg c]; exact k3 j (by omega), fun q x a b h => set_ne (Ne.symm a) (set_ne (Ne.symm b) (k4 q x a h)), Or.inr (Nat.le_refl _), k5⟩, by rw [ht9]; exact hP4, hK1.moved hW.alike, hD4⟩, hS4.F ht9⟩) hS4.2.2 (show decode prog_33_method_24_code 22 = .ok (.return_, 1) by decide +kernel) hlocks
  · rcases Nat.lt_or_ge n cap with hlt | hge
    · refine lv_iload_n hx hb (show decode prog_33_method_24_code 0 = .ok (.iload_n 3, 1) by decide +kernel) rfl (lv_at hl 3 rfl) ?_
      refine lv_aload_n hx hb (show decode prog_33_method_24_code 1 = .ok (.aload_n 2, 1) by decide +kernel) rfl (lv_at hl 2 rfl) ?_
      refine va_alen hx hb hK hP q1 t0 h1 ht (v := nI cap) rfl (show decode prog_33_method_24_code 2 = .ok (.arraylength, 1) by decide +kernel) ?_
      refine lv_icmp_ne hx hb (show decode prog_33_method_24_code 3 = .ok (.if_icmp .ne 8, 3) by decide +kernel) (tgt := 11) rfl (fun hbr => ?_) (fun h => absurd h (fun e => absurd ((nI_eq (by omega) (by omega)).mp e) (by omega)))
      have hne : q1 ≠ q0 := fun e => (ls_ne h0 h1) e.symm
      refine lv_aload_n hx hb (show decode prog_33_method_24_code 11 = .ok (.aload_n 2, 1) by decide +kernel) rfl (lv_at hl 2 rfl) ?_
      refine lv_iload_n hx hb (show decode prog_33_method_24_code 12 = .ok (.iload_n 3, 1) by decide +kernel) rfl (lv_at hl 3 rfl) ?_
      refine lv_aload_nN hx hb (show decode prog_33_method_24_code 13 = .ok (.aload_n 1, 1) by decide +kernel) rfl (lv_at hl 1 rfl) ?_
      refine va_astqN hx hb hK hP hD hS0 q1 t0 h1 ht (i := nI n) (vp_in_nI (by omega) (by omega)) (show decode prog_33_method_24_code 14 = .ok (.aastore, 1) by decide +kernel) (fun H1 locs1 hP1 hD1 hS1 => ?_)
      rw [nI_clamp (by omega)] at hP1 hD1
      refine lv_aload_n hx hb (show decode prog_33_method_24_code 15 = .ok (.aload_n 0, 1) by decide +kernel) rfl (lv_at hl 0 rfl) ?_
      refine lv_iload_n hx hb (show decode prog_33_method_24_code 16 = .ok (.iload_n 3, 1) by decide +kernel) rfl (lv_at hl 3 rfl) ?_
      refine lv_iconst hx hb (v := nI 1) (show decode prog_33_method_24_code 17 = .ok (.iconst 1, 1) by decide +kernel) (by decide +kernel) ?_
      refine lv_iadd hx hb (show decode prog_33_method_24_code 18 = .ok (.iadd, 1) by decide +kernel) ?_
      refine lv_topi (fun z2 hz2 => ?_)
      have hz2 : z2 = nI (n + 1) := hz2.trans (nI_add n 1)
      subst hz2
      refine va_put (C := RAL) (T := TJx4a65c) (N := 3) (ty := tyJx4a65c 2) hx hb hts2 al_in tyJx4a65c tyJx4a65c_ok nmJx4a65c hown hK hP1 hD1 hS1 q0 (set_ne hne h0) al_at 2 (by decide) (hts2 _ al_f48) (fun _ h => h) rfl rfl rfl rfl (Nat.le_of_ble_eq_true rfl) (show decode prog_33_method_24_code 19 = .ok (.putfield 48, 3) by decide +kernel) (fun H3 locs3 hP3 hD3 hS3 => ?_)
      refine W.widen (k := 1) (n := n + n / 2 + 10) (Nat.le_of_ble_eq_true rfl) (by show 0 ≤ n + n / 2 + 10; omega) ?_
      exact W.vret hx hb hr (fun t ht9 hW => ⟨⟨(_, _), rfl, ⟨q1, va_up f n none, ⟨m9, bb, set_at (set_ne hne h0), Or.inr ⟨q1, t0, cap, cA, rfl, ht, set_ne (Ne.symm hne) (set_at h1), by omega, h10, hcap⟩⟩, fun j hj => rfl, fun q x a b h => set_ne (Ne.symm a) (set_ne (Ne.symm b) h), Or.inl rfl, keepT.rf⟩, by rw [ht9]; exact hP3, hK.moved hW.alike, hD3⟩, hS3.F ht9⟩) hS3.2.2 (show decode prog_33_method_24_code 22 = .ok (.return_, 1) by decide +kernel) hlocks
    · obtain rfl : n = cap := by omega
      refine lv_iload_n hx hb (show decode prog_33_method_24_code 0 = .ok (.iload_n 3, 1) by decide +kernel) rfl (lv_at hl 3 rfl) ?_
      refine lv_aload_n hx hb (show decode prog_33_method_24_code 1 = .ok (.aload_n 2, 1) by decide +kernel) rfl (lv_at hl 2 rfl) ?_
      refine va_alen hx hb hK hP q1 t0 h1 ht (v := nI n) rfl (show decode prog_33_method_24_code 2 = .ok (.arraylength, 1) by decide +kernel) ?_
      refine lv_icmp_ne hx hb (show decode prog_33_method_24_code 3 = .ok (.if_icmp .ne 8, 3) by decide +kernel) (tgt := 11) rfl (fun h => absurd (rfl) h) (fun hbr => ?_)
      refine lv_aload_n hx hb (show decode prog_33_method_24_code 6 = .ok (.aload_n 0, 1) by decide +kernel) rfl (lv_at hl 0 rfl) ?_
      have hcw1 := cwV (R := { frames := 6, cells := 1, slots := (n + n / 2 + 10), locals := 330 }) (rm := { frames := 5, cells := 1, slots := (n + n / 2 + 10), locals := 260 }) 0 hts2 (goodIn_app (a := [_, _, _, _]) (fun w hw => by
            simp only [List.mem_cons, List.not_mem_nil, or_false] at hw
            rcases hw with rfl | rfl | rfl | rfl
            · exact goodIn_1 (tbm 184 (by decide +kernel)) _ (List.mem_singleton.mpr rfl)
            · exact goodIn_1 (tbm 186 (by decide +kernel)) _ (List.mem_singleton.mpr rfl)
            · exact goodIn_1 (tbs (y := y_gr0) (n := 3) 1 (by decide +kernel)) _ (List.mem_singleton.mpr rfl)
            · exact goodIn_1 (tbm 4 (by decide +kernel)) _ (List.mem_singleton.mpr rfl)) (goodIn_tb ok_gr0C) : GoodIn tb (wsV "java/util/ArrayList" 129 "java/util/ArrayList" y_gr0 (Cond.code y_gr0 prog_33_method_7_code 1 (some (.array (.object "java/lang/Object"))) :: tb))) rfl rfl rfl ⟨rfl, by decide +kernel⟩ ⟨Nat.le_of_ble_eq_true rfl, Nat.le_of_ble_eq_true rfl⟩
      refine va_callq (va_runV (As := []) (b := a) hS5 (met_gr0 (A := A) (D := D) (G := G) (H := s.heap) h0 (Or.inr ⟨q1, t0, cA, ht, h1, h10⟩) hn hE) hcw1 ⟨PW_blind, (va_recv hK hP al_at h0), fun U hU hW => ⟨rfl, hU, hP, hK.moved hW.alike, hD, hxf.on hW.alike hS0, tbn_w hW hWn, fun q hq => hA q (Nat.le_trans hS0.1 hq)⟩⟩ rfl rfl hl.1 rfl (lv_room (Nat.le_of_ble_eq_true rfl)) (show decode prog_33_method_24_code 7 = .ok (.invokevirtual 129, 3) by decide +kernel) ⟨Nat.le_of_ble_eq_true rfl, by show 0 + (n + n / 2 + 10) ≤ n + n / 2 + 10; omega⟩) hS0 (fun _ _ h => h) (fun _ h => h) (fun r1 u1 t1 H1 locs1 ht1 hvm1 hw1 hB1 _ _ hS1 => ?_)
      obtain ⟨hP1, hK1, hD1⟩ := hB1
      rw [ht1] at hP1
      have hK1 := hK1.moved hvm1.symm
      obtain ⟨q, cap9, cB, f9, rfl, k0, k1, k2, c1, c2, c3, k3, k4, k5, k6⟩ := hw1
      have hne : ws.length ≠ q0 := by have := at_lt h0; omega
      refine lv_astore_n hx hb (show decode prog_33_method_24_code 10 = .ok (.astore_n 2, 1) by decide +kernel) rfl hl (by decide) rfl (fun ls hl => ?_)
      refine lv_aload_n hx hb (show decode prog_33_method_24_code 11 = .ok (.aload_n 2, 1) by decide +kernel) rfl (lv_at hl 0 rfl) ?_
      refine lv_iload_n hx hb (show decode prog_33_method_24_code 12 = .ok (.iload_n 3, 1) by decide +kernel) rfl (lv_at hl 3 rfl) ?_
      refine lv_aload_nN hx hb (show decode prog_33_method_24_code 13 = .ok (.aload_n 1, 1) by decide +kernel) rfl (lv_at hl 2 rfl) ?_
      refine va_astqN hx hb hK1 hP1 hD1 hS1 ws.length tys.length k1 k2 (i := nI n) (vp_in_nI (by omega) (by omega)) (show decode prog_33_method_24_code 14 = .ok (.aastore, 1) by decide +kernel) (fun H2 locs2 hP2 hD2 hS2 => ?_)
      rw [nI_clamp (by omega)] at hP2 hD2
      refine lv_aload_n hx hb (show decode prog_33_method_24_code 15 = .ok (.aload_n 0, 1) by decide +kernel) rfl (lv_at hl 1 rfl) ?_
      refine lv_iload_n hx hb (show decode prog_33_method_24_code 16 = .ok (.iload_n 3, 1) by decide +kernel) rfl (lv_at hl 3 rfl) ?_
      refine lv_iconst hx hb (v := nI 1) (show decode prog_33_method_24_code 17 = .ok (.iconst 1, 1) by decide +kernel) (by decide +kernel) ?_
      refine lv_iadd hx hb (show decode prog_33_method_24_code 18 = .ok (.iadd, 1) by decide +kernel) ?_
      refine lv_topi (fun z3 hz3 => ?_)
      have hz3 : z3 = nI (n + 1) := hz3.trans (nI_add n 1)
      subst hz3
      refine va_put (C := RAL) (T := TJx4a65c) (N := 3) (ty := tyJx4a65c 2) hx hb hts2 al_in tyJx4a65c tyJx4a65c_ok nmJx4a65c hown hK1 hP2 hD2 hS2 q0 (set_ne hne k0) al_at 2 (by decide) (hts2 _ al_f48) (fun _ h => h) rfl rfl rfl rfl (Nat.le_of_ble_eq_true rfl) (show decode prog_33_method_24_code 19 = .ok (.putfield 48, 3) by decide +kernel) (fun H4 locs4 hP4 hD4 hS4 => ?_)
      refine W.widen (k := 1) (n := n + n / 2 + 10) (Nat.le_of_ble_eq_true rfl) (by show 0 + (n + n / 2 + 10) ≤ n + n / 2 + 10; omega) ?_
      exact W.vret hx hb hr (fun t ht9 hW => ⟨⟨(_, _), rfl, ⟨ws.length, va_up f9 n none, ⟨m9, q, set_at (set_ne hne k0), Or.inr ⟨ws.length, tys.length, cap9, cB, rfl, k2, set_ne (Ne.symm hne) (set_at k1), by omega, c2, c3⟩⟩, fun j hj => by
          show (if j = n then _ else f9 j) = if j = n then _ else f j
          by_cases c : j = n
          · rw [if_pos c, if_pos c]
          · rw [if_neg c, if_neg c]; exact k3 j (by omega), fun q x a b h => set_ne (Ne.symm a) (set_ne (Ne.symm b) (k4 q x a h)), Or.inr (Nat.le_refl _), k5⟩, by rw [ht9]; exact hP4, hK1.moved hW.alike, hD4⟩, hS4.F ht9⟩) hS4.2.2 (show decode prog_33_method_24_code 22 = .ok (.return_, 1) by decide +kernel) hlocks
theorem met_ad1N {ws : va_W} {tys : List (ClassId × FieldType)} {H : Heap} {q0 a bb n : Nat} {m9 : Int32} {f : Nat → Option Nat} {qb : Option Nat} (h0 : ws[q0]? = some (a, lsE m9 (.ref bb) n)) (hB : BK G ws tys bb n qb f) (hn : n ≤ 40000) (hE : ELm G ws tys n f) : Met lc y_ad1 (Cond.code y_ad1 prog_33_method_25_code 2 (some .boolean) :: tb) { frames := 7, cells := 1, slots := (n + n / 2 + 10), locals := 390 } (va_Pc [.ref a, .null] (PW D G A ws tys H)) (va_Qi (fun r (u : va_W × List (ClassId × FieldType)) => r = 1 ∧ ADQ G ws tys q0 a (n + 1) qb (fun j => if j = n then none else f j) u) (QW D A) A) 1 (n + n / 2 + 10) A := by
  refine Met.ofW (cc := prog_33_method_25_code) (maxL := 2) (ret := (some .boolean)) (by decide +kernel) rfl ?_
  intro p e s m args below meth c s₁ B hml hv
  obtain ⟨rfl, hh, hP, hK, hD, hxf, hWn, hA⟩ := hv
  subst hh
  have hx := B.exec
  have hb := B.bytes
  have hr := B.returns
  have hts := atoms_spec (ws := Cond.code y_ad1 prog_33_method_25_code 2 (some .boolean) :: tb) B.pre
  have hts2 : ∀ w ∈ tb, w.before _ s = true := fun w hw => hts w (List.mem_cons_of_mem _ hw)
  have hown : s.vm.findClass "java/util/ArrayList" = some m.cls := findClass_of_methodNamed B.named
  have hlocks := B.notSynchronized
  have hS0 : va_S A s.heap s.heap [] := va_S.rf
  have hS5 : CallFix p m c prog_33_method_25_code 2 s _ tb "java/util/ArrayList" := ⟨hx, hb, hml, hown, hts2⟩
  have hl := lv_entry ([.ref a, .null]) (n := 2) (Nat.le_of_ble_eq_true rfl)
  rw [lg_entry_eq]
  generalize (lg_sl ([.ref a, .null]) ++ List.replicate (2 - (lg_sl ([.ref a, .null])).length) Slot.unset).toArray = ls at hl ⊢
  have hl : lv_has ls 2 [(0, .ref a), (1, .null)] := hl
  refine lv_aload_n hx hb (show decode prog_33_method_25_code 0 = .ok (.aload_n 0, 1) by decide +kernel) rfl (lv_at hl 0 rfl) ?_
  refine lv_dup hx hb (show decode prog_33_method_25_code 1 = .ok (.dup, 1) by decide +kernel) rfl ?_
  refine va_get (C := RAL) (T := TJx4a65c) (N := 3) hx hb hts2 al_in hown hK hP q0 h0 al_at 0 (by decide) (hts2 _ al_f63) (fun x h => u_same (hts2 _ al_sm) x h) rfl (show decode prog_33_method_25_code 2 = .ok (.getfield 63, 3) by decide +kernel) ?_
  refine lv_iconst hx hb (v := nI 1) (show decode prog_33_method_25_code 5 = .ok (.iconst 1, 1) by decide +kernel) (by decide +kernel) ?_
  refine lv_iadd hx hb (show decode prog_33_method_25_code 6 = .ok (.iadd, 1) by decide +kernel) ?_
  refine lv_topi (fun z1 hz1 => ?_)
  have hz1 : z1 = m9 + nI 1 := hz1.trans (rfl)
  subst hz1
  refine va_put (C := RAL) (T := TJx4a65c) (N := 3) (ty := tyJx4a65c 0) hx hb hts2 al_in tyJx4a65c tyJx4a65c_ok nmJx4a65c hown hK hP hD hS0 q0 h0 al_at 0 (by decide) (hts2 _ al_f63) (fun x h => u_same (hts2 _ al_sm) x h) rfl rfl rfl rfl (Nat.le_of_ble_eq_true rfl) (show decode prog_33_method_25_code 7 = .ok (.putfield 63, 3) by decide +kernel) (fun H2 locs2 hP2 hD2 hS2 => ?_)
  refine lv_aload_n hx hb (show decode prog_33_method_25_code 10 = .ok (.aload_n 0, 1) by decide +kernel) rfl (lv_at hl 0 rfl) ?_
  refine lv_aload_nN hx hb (show decode prog_33_method_25_code 11 = .ok (.aload_n 1, 1) by decide +kernel) rfl (lv_at hl 1 rfl) ?_
  refine lv_aload_n hx hb (show decode prog_33_method_25_code 12 = .ok (.aload_n 0, 1) by decide +kernel) rfl (lv_at hl 0 rfl) ?_
  refine va_get (C := RAL) (T := TJx4a65c) (N := 3) hx hb hts2 al_in hown hK hP2 q0 (set_at h0) al_at 1 (by decide) (hts2 _ al_f9) (fun _ h => h) rfl (show decode prog_33_method_25_code 13 = .ok (.getfield 9, 3) by decide +kernel) ?_
  refine lv_aload_n hx hb (show decode prog_33_method_25_code 16 = .ok (.aload_n 0, 1) by decide +kernel) rfl (lv_at hl 0 rfl) ?_
  refine va_get (C := RAL) (T := TJx4a65c) (N := 3) hx hb hts2 al_in hown hK hP2 q0 (set_at h0) al_at 2 (by decide) (hts2 _ al_f48) (fun _ h => h) rfl (show decode prog_33_method_25_code 17 = .ok (.getfield 48, 3) by decide +kernel) ?_
  have hcw3 := cwV (R := { frames := 7, cells := 1, slots := (n + n / 2 + 10), locals := 390 }) (rm := { frames := 6, cells := 1, slots := (n + n / 2 + 10), locals := 330 }) 3 hts2 (goodIn_app (a := [_, _, _, _]) (fun w hw => by
        simp only [List.mem_cons, List.not_mem_nil, or_false] at hw
        rcases hw with rfl | rfl | rfl | rfl
        · exact goodIn_1 (tbm 180 (by decide +kernel)) _ (List.mem_singleton.mpr rfl)
        · exact goodIn_1 (tbm 182 (by decide +kernel)) _ (List.mem_singleton.mpr rfl)
        · exact goodIn_1 (tbs (y := y_ad3) (n := 3) 0 (by decide +kernel)) _ (List.mem_singleton.mpr rfl)
        · exact goodIn_1 (tbm 4 (by decide +kernel)) _ (List.mem_singleton.mpr rfl)) (goodIn_tb ok_ad3C) : GoodIn tb (wsV "java/util/ArrayList" 131 "java/util/ArrayList" y_ad3 (Cond.code y_ad3 prog_33_method_24_code 4 none :: tb))) rfl rfl rfl ⟨rfl, by decide +kernel⟩ ⟨Nat.le_of_ble_eq_true rfl, Nat.le_of_ble_eq_true rfl⟩
  refine va_callv (va_runV (As := [.null, .ref bb, .int (nI n)]) (b := a) hS5 (met_ad3N (A := A) (D := D) (G := G) (ws := (ws.set q0 (a, lsE (m9 + nI 1) (.ref bb) n))) (tys := tys) (q0 := q0) (m9 := m9 + nI 1) (set_at h0) (hB.mod h0) hn (hE.keep (KS.set h0 rfl) keepT.rf)) hcw3 ⟨PW_blind, (va_recv hK hP2 al_at (set_at h0)), fun U hU hW => ⟨rfl, hU, hP2, hK.moved hW.alike, hD2, hxf.on hW.alike hS2, tbn_w hW hWn, fun q hq => hA q (Nat.le_trans hS2.1 hq)⟩⟩ rfl rfl hl.1 rfl (lv_room (Nat.le_of_ble_eq_true rfl)) (show decode prog_33_method_25_code 20 = .ok (.invokevirtual 131, 3) by decide +kernel) ⟨Nat.le_of_ble_eq_true rfl, by show 0 + (n + n / 2 + 10) ≤ n + n / 2 + 10; omega⟩) hS2 (fun _ _ h => h) (fun _ h => h) (fun u3 t3 H3 locs3 ht3 hvm3 hw3 hB3 _ _ hS3 => ?_)
  obtain ⟨hP3, hK3, hD3⟩ := hB3
  rw [ht3] at hP3
  have hK3 := hK3.moved hvm3.symm
  refine lv_iconst hx hb (v := nI 1) (show decode prog_33_method_25_code 23 = .ok (.iconst 1, 1) by decide +kernel) (by decide +kernel) ?_
  refine W.widen (k := 1) (n := n + n / 2 + 10) (Nat.le_of_ble_eq_true rfl) (by show 0 + (n + n / 2 + 10) ≤ n + n / 2 + 10; omega) ?_
  exact W.zret hx hb hr (by decide) (fun t ht9 hW => ⟨⟨_, u3, rfl, ⟨rfl, hw3.mod⟩, by rw [ht9]; exact hP3, hK3.moved hW.alike, hD3⟩, hS3.F ht9⟩) hS3.2.2 (show decode prog_33_method_25_code 24 = .ok (.ireturn, 1) by decide +kernel) hlocks
theorem met_ad3R {ws : va_W} {tys : List (ClassId × FieldType)} {H : Heap} {q0 a bb n : Nat} {m9 : Int32} {f : Nat → Option Nat} {qb : Option Nat} (h0 : ws[q0]? = some (a, lsE m9 (.ref bb) n)) (hB : BK G ws tys bb n qb f) (hn : n ≤ 40000) (hE : ELm G ws tys n f) {y : Nat} (hy : OBJ G ws tys y) : Met lc y_ad3 (Cond.code y_ad3 prog_33_method_24_code 4 none :: tb) { frames := 6, cells := 1, slots := (n + n / 2 + 10), locals := 330 } (va_Pc [.ref a, .ref y, .ref bb, .int (nI n)] (PW D G A ws tys H)) (va_Qv (fun (u : va_W × List (ClassId × FieldType)) => ADQ G ws tys q0 a (n + 1) qb (fun j => if j = n then (some y) else f j) u) (QW D A) A) 1 (n + n / 2 + 10) A := by
  refine Met.ofW (cc := prog_33_method_24_code) (maxL := 4) (ret := none) (by decide +kernel) rfl ?_
  intro p e s m args below meth c s₁ B hml hv
  obtain ⟨rfl, hh, hP, hK, hD, hxf, hWn, hA⟩ := hv
  subst hh
  have hx := B.exec
  have hb := B.bytes
  have hr := B.returns
  have hts := atoms_spec (ws := Cond.code y_ad3 prog_33_method_24_code 4 none :: tb) B.pre
  have hts2 : ∀ w ∈ tb, w.before _ s = true := fun w hw => hts w (List.mem_cons_of_mem _ hw)
  have hown : s.vm.findClass "java/util/ArrayList" = some m.cls := findClass_of_methodNamed B.named
  have hlocks := B.notSynchronized
  have hS0 : va_S A s.heap s.heap [] := va_S.rf
  have hS5 : CallFix p m c prog_33_method_24_code 4 s _ tb "java/util/ArrayList" := ⟨hx, hb, hml, hown, hts2⟩
  have hl := lv_entry ([.ref a, .ref y, .ref bb, .int (nI n)]) (n := 4) (Nat.le_of_ble_eq_true rfl)
  rw [lg_entry_eq]
  generalize (lg_sl ([.ref a, .ref y, .ref bb, .int (nI n)]) ++ List.replicate (4 - (lg_sl ([.ref a, .ref y, .ref bb, .int (nI n)])).length) Slot.unset).toArray = ls at hl ⊢
  have hl : lv_has ls 4 [(0, .ref a), (1, .ref y), (2, .ref bb), (3, .int (nI n))] := hl
  have hB2 := hB
  rcases hB with ⟨rfl, hn0, rfl⟩ | ⟨q1, t0, cap, cA, rfl, ht, h1, hnc, h10, hcap⟩
  · refine lv_iload_n hx hb (show decode prog_33_method_24_code 0 = .ok (.iload_n 3, 1) by decide +kernel) rfl (lv_at hl 3 rfl) ?_
    refine lv_aload_n hx hb (show decode prog_33_method_24_code 1 = .ok (.aload_n 2, 1) by decide +kernel) rfl (lv_at hl 2 rfl) ?_
    refine va_tlen hx hb hxf.2.2.2.1 hS0 (v := nI n) (by rw [hn0]; rfl) (show decode prog_33_method_24_code 2 = .ok (.arraylength, 1) by decide +kernel) ?_
    refine lv_icmp_ne hx hb (show decode prog_33_method_24_code 3 = .ok (.if_icmp .ne 8, 3) by decide +kernel) (tgt := 11) rfl (fun h => absurd (rfl) h) (fun hbr => ?_)
    refine lv_aload_n hx hb (show decode prog_33_method_24_code 6 = .ok (.aload_n 0, 1) by decide +kernel) rfl (lv_at hl 0 rfl) ?_
    have hcw1 := cwV (R := { frames := 6, cells := 1, slots := (n + n / 2 + 10), locals := 330 }) (rm := { frames := 5, cells := 1, slots := (n + n / 2 + 10), locals := 260 }) 0 hts2 (goodIn_app (a := [_, _, _, _]) (fun w hw => by
          simp only [List.mem_cons, List.not_mem_nil, or_false] at hw
          rcases hw with rfl | rfl | rfl | rfl
          · exact goodIn_1 (tbm 184 (by decide +kernel)) _ (List.mem_singleton.mpr rfl)
          · exact goodIn_1 (tbm 186 (by decide +kernel)) _ (List.mem_singleton.mpr rfl)
          · exact goodIn_1 (tbs (y := y_gr0) (n := 3) 1 (by decide +kernel)) _ (List.mem_singleton.mpr rfl)
          · exact goodIn_1 (tbm 4 (by decide +kernel)) _ (List.mem_singleton.mpr rfl)) (goodIn_tb ok_gr0C) : GoodIn tb (wsV "java/util/ArrayList" 129 "java/util/ArrayList" y_gr0 (Cond.code y_gr0 prog_33_method_7_code 1 (some (.array (.object "java/lang/Object"))) :: tb))) rfl rfl rfl ⟨rfl, by decide +kernel⟩ ⟨Nat.le_of_ble_eq_true rfl, Nat.le_of_ble_eq_true rfl⟩
    refine va_callq (va_runV (As := []) (b := a) hS5 (met_gr0 (A := A) (D := D) (G := G) (H := s.heap) h0 (Or.inl ⟨rfl, hn0⟩) hn hE) hcw1 ⟨PW_blind, (va_recv hK hP al_at h0), fun U hU hW => ⟨rfl, hU, hP, hK.moved hW.alike, hD, hxf.on hW.alike hS0, tbn_w hW hWn, fun q hq => hA q (Nat.le_trans hS0.1 hq)⟩⟩ rfl rfl hl.1 rfl (lv_room (Nat.le_of_ble_eq_true rfl)) (show decode prog_33_method_24_code 7 = .ok (.invokevirtual 129, 3) by decide +kernel) ⟨Nat.le_of_ble_eq_true rfl, by show 0 + (n + n / 2 + 10) ≤ n + n / 2 + 10; omega⟩) hS0 (fun _ _ h => h) (fun _ h => h) (fun r1 u1 t1 H1 locs1 ht1 hvm1 hw1 hB1 _ _ hS1 => ?_)
    obtain ⟨hP1, hK1, hD1⟩ := hB1
    rw [ht1] at hP1
    have hK1 := hK1.moved hvm1.symm
    obtain ⟨q, cap9, cB, f9, rfl, k0, k1, k2, c1, c2, c3, k3, k4, k5, k6⟩ := hw1
    have hne : ws.length ≠ q0 := by have := at_lt h0; omega
    refine lv_astore_n hx hb (show decode prog_33_method_24_code 10 = .ok (.astore_n 2, 1) by decide +kernel) rfl hl (by decide) rfl (fun ls hl => ?_)
    refine lv_aload_n hx hb (show decode prog_33_method_24_code 11 = .ok (.aload_n 2, 1) by decide +kernel) rfl (lv_at hl 0 rfl) ?_
    refine lv_iload_n hx hb (show decode prog_33_method_24_code 12 = .ok (.iload_n 3, 1) by decide +kernel) rfl (lv_at hl 3 rfl) ?_
    refine lv_aload_n hx hb (show decode prog_33_method_24_code 13 = .ok (.aload_n 1, 1) by decide +kernel) rfl (lv_at hl 2 rfl) ?_
    refine va_astqM hx hb hK1 hP1 hD1 hS1 ws.length tys.length k1 k2 ((hy.keep k6 k5).any hP1 hK1 hxf hS1 hWn) (i := nI n) (vp_in_nI (by omega) (by omega)) (show decode prog_33_method_24_code 14 = .ok (.aastore, 1) by decide +kernel) (fun H2 locs2 hP2 hD2 hS2 => ?_)
    rw [nI_clamp (by omega)] at hP2 hD2
    refine lv_aload_n hx hb (show decode prog_33_method_24_code 15 = .ok (.aload_n 0, 1) by decide +kernel) rfl (lv_at hl 1 rfl) ?_
    refine lv_iload_n hx hb (show decode prog_33_method_24_code 16 = .ok (.iload_n 3, 1) by decide +kernel) rfl (lv_at hl 3 rfl) ?_
    refine lv_iconst hx hb (v := nI 1) (show decode prog_33_method_24_code 17 = .ok (.iconst 1, 1) by decide +kernel) (by decide +kernel) ?_
    refine lv_iadd hx hb (show decode prog_33_method_24_code 18 = .ok (.iadd, 1) by decide +kernel) ?_
    refine lv_topi (fun z3 hz3 => ?_)
    have hz3 : z3 = nI (n + 1) := hz3.trans (nI_add n 1)
    subst hz3
    refine va_put (C := RAL) (T := TJx4a65c) (N := 3) (ty := tyJx4a65c 2) hx hb hts2 al_in tyJx4a65c tyJx4a65c_ok nmJx4a65c hown hK1 hP2 hD2 hS2 q0 (set_ne hne k0) al_at 2 (by decide) (hts2 _ al_f48) (fun _ h => h) rfl rfl rfl rfl (Nat.le_of_ble_eq_true rfl) (show decode prog_33_method_24_code 19 = .ok (.putfield 48, 3) by decide +kernel) (fun H4 locs4 hP4 hD4 hS4 => ?_)
    refine W.widen (k := 1) (n := n + n / 2 + 10) (Nat.le_of_ble_eq_true rfl) (by show 0 + (n + n / 2 + 10) ≤ n + n / 2 + 10; omega) ?_
    exact W.vret hx hb hr (fun t ht9 hW => ⟨⟨(_, _), rfl, ⟨ws.length, va_up f9 n (some y), ⟨m9, q, set_at (set_ne hne k0), Or.inr ⟨ws.length, tys.length, cap9, cB, rfl, k2, set_ne (Ne.symm hne) (set_at k1), by omega, c2, c3⟩⟩, fun j hj => by
        show (if j = n then _ else f9 j) = if j = n then _ else f j
        by_cases c : j = n
        · rw [if_pos c, if_pos c]
        · rw [if_neg c, if_neg c]; exact k3 j (by omega), fun q x a b h => set_ne (Ne.symm a) (set_ne (Ne.symm b) (k4 q x a h)), Or.inr (Nat.le_refl _), k5⟩, by rw [ht9]; exact hP4, hK1.moved hW.alike, hD4⟩, hS4.F ht9⟩) hS4.2.2 (show decode prog_33_method_24_code 22 = .ok (.return_, 1) by decide +kernel) hlocks
  · rcases Nat.lt_or_ge n cap with hlt | hge
    · refine lv_iload_n hx hb (show decode prog_33_method_24_code 0 = .ok (.iload_n 3, 1) by decide +kernel) rfl (lv_at hl 3 rfl) ?_
      refine lv_aload_n hx hb (show decode prog_33_method_24_code 1 = .ok (.aload_n 2, 1) by decide +kernel) rfl (lv_at hl 2 rfl) ?_
      refine va_alen hx hb hK hP q1 t0 h1 ht (v := nI cap) rfl (show decode prog_33_method_24_code 2 = .ok (.arraylength, 1) by decide +kernel) ?_
      refine lv_icmp_ne hx hb (show decode prog_33_method_24_code 3 = .ok (.if_icmp .ne 8, 3) by decide +kernel) (tgt := 11) rfl (fun hbr => ?_) (fun h => absurd h (fun e => absurd ((nI_eq (by omega) (by omega)).mp e) (by omega)))
      have hne : q1 ≠ q0 := fun e => (ls_ne h0 h1) e.symm
      refine lv_aload_n hx hb (show decode prog_33_method_24_code 11 = .ok (.aload_n 2, 1) by decide +kernel) rfl (lv_at hl 2 rfl) ?_
      refine lv_iload_n hx hb (show decode prog_33_method_24_code 12 = .ok (.iload_n 3, 1) by decide +kernel) rfl (lv_at hl 3 rfl) ?_
      refine lv_aload_n hx hb (show decode prog_33_method_24_code 13 = .ok (.aload_n 1, 1) by decide +kernel) rfl (lv_at hl 1 rfl) ?_
      refine va_astqM hx hb hK hP hD hS0 q1 t0 h1 ht (hy.any hP hK hxf hS0 hWn) (i := nI n) (vp_in_nI (by omega) (by omega)) (show decode prog_33_method_24_code 14 = .ok (.aastore, 1) by decide +kernel) (fun H1 locs1 hP1 hD1 hS1 => ?_)
      rw [nI_clamp (by omega)] at hP1 hD1
      refine lv_aload_n hx hb (show decode prog_33_method_24_code 15 = .ok (.aload_n 0, 1) by decide +kernel) rfl (lv_at hl 0 rfl) ?_
      refine lv_iload_n hx hb (show decode prog_33_method_24_code 16 = .ok (.iload_n 3, 1) by decide +kernel) rfl (lv_at hl 3 rfl) ?_
      refine lv_iconst hx hb (v := nI 1) (show decode prog_33_method_24_code 17 = .ok (.iconst 1, 1) by decide +kernel) (by decide +kernel) ?_
      refine lv_iadd hx hb (show decode prog_33_method_24_code 18 = .ok (.iadd, 1) by decide +kernel) ?_
      refine lv_topi (fun z2 hz2 => ?_)
      have hz2 : z2 = nI (n + 1) := hz2.trans (nI_add n 1)
      subst hz2
      refine va_put (C := RAL) (T := TJx4a65c) (N := 3) (ty := tyJx4a65c 2) hx hb hts2 al_in tyJx4a65c tyJx4a65c_ok nmJx4a65c hown hK hP1 hD1 hS1 q0 (set_ne hne h0) al_at 2 (by decide) (hts2 _ al_f48) (fun _ h => h) rfl rfl rfl rfl (Nat.le_of_ble_eq_true rfl) (show decode prog_33_method_24_code 19 = .ok (.putfield 48, 3) by decide +kernel) (fun H3 locs3 hP3 hD3 hS3 => ?_)
      refine W.widen (k := 1) (n := n + n / 2 + 10) (Nat.le_of_ble_eq_true rfl) (by show 0 ≤ n + n / 2 + 10; omega) ?_
      exact W.vret hx hb hr (fun t ht9 hW => ⟨⟨(_, _), rfl, ⟨q1, va_up f n (some y), ⟨m9, bb, set_at (set_ne hne h0), Or.inr ⟨q1, t0, cap, cA, rfl, ht, set_ne (Ne.symm hne) (set_at h1), by omega, h10, hcap⟩⟩, fun j hj => rfl, fun q x a b h => set_ne (Ne.symm a) (set_ne (Ne.symm b) h), Or.inl rfl, keepT.rf⟩, by rw [ht9]; exact hP3, hK.moved hW.alike, hD3⟩, hS3.F ht9⟩) hS3.2.2 (show decode prog_33_method_24_code 22 = .ok (.return_, 1) by decide +kernel) hlocks
    · obtain rfl : n = cap := by omega
      refine lv_iload_n hx hb (show decode prog_33_method_24_code 0 = .ok (.iload_n 3, 1) by decide +kernel) rfl (lv_at hl 3 rfl) ?_
      refine lv_aload_n hx hb (show decode prog_33_method_24_code 1 = .ok (.aload_n 2, 1) by decide +kernel) rfl (lv_at hl 2 rfl) ?_
      refine va_alen hx hb hK hP q1 t0 h1 ht (v := nI n) rfl (show decode prog_33_method_24_code 2 = .ok (.arraylength, 1) by decide +kernel) ?_
      refine lv_icmp_ne hx hb (show decode prog_33_method_24_code 3 = .ok (.if_icmp .ne 8, 3) by decide +kernel) (tgt := 11) rfl (fun h => absurd (rfl) h) (fun hbr => ?_)
      refine lv_aload_n hx hb (show decode prog_33_method_24_code 6 = .ok (.aload_n 0, 1) by decide +kernel) rfl (lv_at hl 0 rfl) ?_
      have hcw1 := cwV (R := { frames := 6, cells := 1, slots := (n + n / 2 + 10), locals := 330 }) (rm := { frames := 5, cells := 1, slots := (n + n / 2 + 10), locals := 260 }) 0 hts2 (goodIn_app (a := [_, _, _, _]) (fun w hw => by
            simp only [List.mem_cons, List.not_mem_nil, or_false] at hw
            rcases hw with rfl | rfl | rfl | rfl
            · exact goodIn_1 (tbm 184 (by decide +kernel)) _ (List.mem_singleton.mpr rfl)
            · exact goodIn_1 (tbm 186 (by decide +kernel)) _ (List.mem_singleton.mpr rfl)
            · exact goodIn_1 (tbs (y := y_gr0) (n := 3) 1 (by decide +kernel)) _ (List.mem_singleton.mpr rfl)
            · exact goodIn_1 (tbm 4 (by decide +kernel)) _ (List.mem_singleton.mpr rfl)) (goodIn_tb ok_gr0C) : GoodIn tb (wsV "java/util/ArrayList" 129 "java/util/ArrayList" y_gr0 (Cond.code y_gr0 prog_33_method_7_code 1 (some (.array (.object "java/lang/Object"))) :: tb))) rfl rfl rfl ⟨rfl, by decide +kernel⟩ ⟨Nat.le_of_ble_eq_true rfl, Nat.le_of_ble_eq_true rfl⟩
      refine va_callq (va_runV (As := []) (b := a) hS5 (met_gr0 (A := A) (D := D) (G := G) (H := s.heap) h0 (Or.inr ⟨q1, t0, cA, ht, h1, h10⟩) hn hE) hcw1 ⟨PW_blind, (va_recv hK hP al_at h0), fun U hU hW => ⟨rfl, hU, hP, hK.moved hW.alike, hD, hxf.on hW.alike hS0, tbn_w hW hWn, fun q hq => hA q (Nat.le_trans hS0.1 hq)⟩⟩ rfl rfl hl.1 rfl (lv_room (Nat.le_of_ble_eq_true rfl)) (show decode prog_33_method_24_code 7 = .ok (.invokevirtual 129, 3) by decide +kernel) ⟨Nat.le_of_ble_eq_true rfl, by show 0 + (n + n / 2 + 10) ≤ n + n / 2 + 10; omega⟩) hS0 (fun _ _ h => h) (fun _ h => h) (fun r1 u1 t1 H1 locs1 ht1 hvm1 hw1 hB1 _ _ hS1 => ?_)
      obtain ⟨hP1, hK1, hD1⟩ := hB1
      rw [ht1] at hP1
      have hK1 := hK1.moved hvm1.symm
      obtain ⟨q, cap9, cB, f9, rfl, k0, k1, k2, c1, c2, c3, k3, k4, k5, k6⟩ := hw1
      have hne : ws.length ≠ q0 := by have := at_lt h0; omega
      refine lv_astore_n hx hb (show decode prog_33_method_24_code 10 = .ok (.astore_n 2, 1) by decide +kernel) rfl hl (by decide) rfl (fun ls hl => ?_)
      refine lv_aload_n hx hb (show decode prog_33_method_24_code 11 = .ok (.aload_n 2, 1) by decide +kernel) rfl (lv_at hl 0 rfl) ?_
      refine lv_iload_n hx hb (show decode prog_33_method_24_code 12 = .ok (.iload_n 3, 1) by decide +kernel) rfl (lv_at hl 3 rfl) ?_
      refine lv_aload_n hx hb (show decode prog_33_method_24_code 13 = .ok (.aload_n 1, 1) by decide +kernel) rfl (lv_at hl 2 rfl) ?_
      refine va_astqM hx hb hK1 hP1 hD1 hS1 ws.length tys.length k1 k2 ((hy.keep k6 k5).any hP1 hK1 hxf hS1 hWn) (i := nI n) (vp_in_nI (by omega) (by omega)) (show decode prog_33_method_24_code 14 = .ok (.aastore, 1) by decide +kernel) (fun H2 locs2 hP2 hD2 hS2 => ?_)
      rw [nI_clamp (by omega)] at hP2 hD2
      refine lv_aload_n hx hb (show decode prog_33_method_24_code 15 = .ok (.aload_n 0, 1) by decide +kernel) rfl (lv_at hl 1 rfl) ?_
      refine lv_iload_n hx hb (show decode prog_33_method_24_code 16 = .ok (.iload_n 3, 1) by decide +kernel) rfl (lv_at hl 3 rfl) ?_
      refine lv_iconst hx hb (v := nI 1) (show decode prog_33_method_24_code 17 = .ok (.iconst 1, 1) by decide +kernel) (by decide +kernel) ?_
      refine lv_iadd hx hb (show decode prog_33_method_24_code 18 = .ok (.iadd, 1) by decide +kernel) ?_
      refine lv_topi (fun z3 hz3 => ?_)
      have hz3 : z3 = nI (n + 1) := hz3.trans (nI_add n 1)
      subst hz3
      refine va_put (C := RAL) (T := TJx4a65c) (N := 3) (ty := tyJx4a65c 2) hx hb hts2 al_in tyJx4a65c tyJx4a65c_ok nmJx4a65c hown hK1 hP2 hD2 hS2 q0 (set_ne hne k0) al_at 2 (by decide) (hts2 _ al_f48) (fun _ h => h) rfl rfl rfl rfl (Nat.le_of_ble_eq_true rfl) (show decode prog_33_method_24_code 19 = .ok (.putfield 48, 3) by decide +kernel) (fun H4 locs4 hP4 hD4 hS4 => ?_)
      refine W.widen (k := 1) (n := n + n / 2 + 10) (Nat.le_of_ble_eq_true rfl) (by show 0 + (n + n / 2 + 10) ≤ n + n / 2 + 10; omega) ?_
      exact W.vret hx hb hr (fun t ht9 hW => ⟨⟨(_, _), rfl, ⟨ws.length, va_up f9 n (some y), ⟨m9, q, set_at (set_ne hne k0), Or.inr ⟨ws.length, tys.length, cap9, cB, rfl, k2, set_ne (Ne.symm hne) (set_at k1), by omega, c2, c3⟩⟩, fun j hj => by
          show (if j = n then _ else f9 j) = if j = n then _ else f j
          by_cases c : j = n
          · rw [if_pos c, if_pos c]
          · rw [if_neg c, if_neg c]; exact k3 j (by omega), fun q x a b h => set_ne (Ne.symm a) (set_ne (Ne.symm b) (k4 q x a h)), Or.inr (Nat.le_refl _), k5⟩, by rw [ht9]; exact hP4, hK1.moved hW.alike, hD4⟩, hS4.F ht9⟩) hS4.2.2 (show decode prog_33_method_24_code 22 = .ok (.return_, 1) by decide +kernel) hlocks
theorem met_ad1R {ws : va_W} {tys : List (ClassId × FieldType)} {H : Heap} {q0 a bb n : Nat} {m9 : Int32} {f : Nat → Option Nat} {qb : Option Nat} (h0 : ws[q0]? = some (a, lsE m9 (.ref bb) n)) (hB : BK G ws tys bb n qb f) (hn : n ≤ 40000) (hE : ELm G ws tys n f) {y : Nat} (hy : OBJ G ws tys y) : Met lc y_ad1 (Cond.code y_ad1 prog_33_method_25_code 2 (some .boolean) :: tb) { frames := 7, cells := 1, slots := (n + n / 2 + 10), locals := 390 } (va_Pc [.ref a, .ref y] (PW D G A ws tys H)) (va_Qi (fun r (u : va_W × List (ClassId × FieldType)) => r = 1 ∧ ADQ G ws tys q0 a (n + 1) qb (fun j => if j = n then (some y) else f j) u) (QW D A) A) 1 (n + n / 2 + 10) A := by
  refine Met.ofW (cc := prog_33_method_25_code) (maxL := 2) (ret := (some .boolean)) (by decide +kernel) rfl ?_
  intro p e s m args below meth c s₁ B hml hv
  obtain ⟨rfl, hh, hP, hK, hD, hxf, hWn, hA⟩ := hv
  subst hh
  have hx := B.exec
  have hb := B.bytes
  have hr := B.returns
  have hts := atoms_spec (ws := Cond.code y_ad1 prog_33_method_25_code 2 (some .boolean) :: tb) B.pre
  have hts2 : ∀ w ∈ tb, w.before _ s = true := fun w hw => hts w (List.mem_cons_of_mem _ hw)
  have hown : s.vm.findClass "java/util/ArrayList" = some m.cls := findClass_of_methodNamed B.named
  have hlocks := B.notSynchronized
  have hS0 : va_S A s.heap s.heap [] := va_S.rf
  have hS5 : CallFix p m c prog_33_method_25_code 2 s _ tb "java/util/ArrayList" := ⟨hx, hb, hml, hown, hts2⟩
  have hl := lv_entry ([.ref a, .ref y]) (n := 2) (Nat.le_of_ble_eq_true rfl)
  rw [lg_entry_eq]
  generalize (lg_sl ([.ref a, .ref y]) ++ List.replicate (2 - (lg_sl ([.ref a, .ref y])).length) Slot.unset).toArray = ls at hl ⊢
  have hl : lv_has ls 2 [(0, .ref a), (1, .ref y)] := hl
  refine lv_aload_n hx hb (show decode prog_33_method_25_code 0 = .ok (.aload_n 0, 1) by decide +kernel) rfl (lv_at hl 0 rfl) ?_
  refine lv_dup hx hb (show decode prog_33_method_25_code 1 = .ok (.dup, 1) by decide +kernel) rfl ?_
  refine va_get (C := RAL) (T := TJx4a65c) (N := 3) hx hb hts2 al_in hown hK hP q0 h0 al_at 0 (by decide) (hts2 _ al_f63) (fun x h => u_same (hts2 _ al_sm) x h) rfl (show decode prog_33_method_25_code 2 = .ok (.getfield 63, 3) by decide +kernel) ?_
  refine lv_iconst hx hb (v := nI 1) (show decode prog_33_method_25_code 5 = .ok (.iconst 1, 1) by decide +kernel) (by decide +kernel) ?_
  refine lv_iadd hx hb (show decode prog_33_method_25_code 6 = .ok (.iadd, 1) by decide +kernel) ?_
  refine lv_topi (fun z1 hz1 => ?_)
  have hz1 : z1 = m9 + nI 1 := hz1.trans (rfl)
  subst hz1
  refine va_put (C := RAL) (T := TJx4a65c) (N := 3) (ty := tyJx4a65c 0) hx hb hts2 al_in tyJx4a65c tyJx4a65c_ok nmJx4a65c hown hK hP hD hS0 q0 h0 al_at 0 (by decide) (hts2 _ al_f63) (fun x h => u_same (hts2 _ al_sm) x h) rfl rfl rfl rfl (Nat.le_of_ble_eq_true rfl) (show decode prog_33_method_25_code 7 = .ok (.putfield 63, 3) by decide +kernel) (fun H2 locs2 hP2 hD2 hS2 => ?_)
  refine lv_aload_n hx hb (show decode prog_33_method_25_code 10 = .ok (.aload_n 0, 1) by decide +kernel) rfl (lv_at hl 0 rfl) ?_
  refine lv_aload_n hx hb (show decode prog_33_method_25_code 11 = .ok (.aload_n 1, 1) by decide +kernel) rfl (lv_at hl 1 rfl) ?_
  refine lv_aload_n hx hb (show decode prog_33_method_25_code 12 = .ok (.aload_n 0, 1) by decide +kernel) rfl (lv_at hl 0 rfl) ?_
  refine va_get (C := RAL) (T := TJx4a65c) (N := 3) hx hb hts2 al_in hown hK hP2 q0 (set_at h0) al_at 1 (by decide) (hts2 _ al_f9) (fun _ h => h) rfl (show decode prog_33_method_25_code 13 = .ok (.getfield 9, 3) by decide +kernel) ?_
  refine lv_aload_n hx hb (show decode prog_33_method_25_code 16 = .ok (.aload_n 0, 1) by decide +kernel) rfl (lv_at hl 0 rfl) ?_
  refine va_get (C := RAL) (T := TJx4a65c) (N := 3) hx hb hts2 al_in hown hK hP2 q0 (set_at h0) al_at 2 (by decide) (hts2 _ al_f48) (fun _ h => h) rfl (show decode prog_33_method_25_code 17 = .ok (.getfield 48, 3) by decide +kernel) ?_
  have hcw3 := cwV (R := { frames := 7, cells := 1, slots := (n + n / 2 + 10), locals := 390 }) (rm := { frames := 6, cells := 1, slots := (n + n / 2 + 10), locals := 330 }) 3 hts2 (goodIn_app (a := [_, _, _, _]) (fun w hw => by
        simp only [List.mem_cons, List.not_mem_nil, or_false] at hw
        rcases hw with rfl | rfl | rfl | rfl
        · exact goodIn_1 (tbm 180 (by decide +kernel)) _ (List.mem_singleton.mpr rfl)
        · exact goodIn_1 (tbm 182 (by decide +kernel)) _ (List.mem_singleton.mpr rfl)
        · exact goodIn_1 (tbs (y := y_ad3) (n := 3) 0 (by decide +kernel)) _ (List.mem_singleton.mpr rfl)
        · exact goodIn_1 (tbm 4 (by decide +kernel)) _ (List.mem_singleton.mpr rfl)) (goodIn_tb ok_ad3C) : GoodIn tb (wsV "java/util/ArrayList" 131 "java/util/ArrayList" y_ad3 (Cond.code y_ad3 prog_33_method_24_code 4 none :: tb))) rfl rfl rfl ⟨rfl, by decide +kernel⟩ ⟨Nat.le_of_ble_eq_true rfl, Nat.le_of_ble_eq_true rfl⟩
  refine va_callv (va_runV (As := [.ref y, .ref bb, .int (nI n)]) (b := a) hS5 (met_ad3R (A := A) (D := D) (G := G) (ws := (ws.set q0 (a, lsE (m9 + nI 1) (.ref bb) n))) (tys := tys) (q0 := q0) (m9 := m9 + nI 1) (set_at h0) (hB.mod h0) hn (hE.keep (KS.set h0 rfl) keepT.rf) (hy.keep (KS.set h0 rfl) keepT.rf)) hcw3 ⟨PW_blind, (va_recv hK hP2 al_at (set_at h0)), fun U hU hW => ⟨rfl, hU, hP2, hK.moved hW.alike, hD2, hxf.on hW.alike hS2, tbn_w hW hWn, fun q hq => hA q (Nat.le_trans hS2.1 hq)⟩⟩ rfl rfl hl.1 rfl (lv_room (Nat.le_of_ble_eq_true rfl)) (show decode prog_33_method_25_code 20 = .ok (.invokevirtual 131, 3) by decide +kernel) ⟨Nat.le_of_ble_eq_true rfl, by show 0 + (n + n / 2 + 10) ≤ n + n / 2 + 10; omega⟩) hS2 (fun _ _ h => h) (fun _ h => h) (fun u3 t3 H3 locs3 ht3 hvm3 hw3 hB3 _ _ hS3 => ?_)
  obtain ⟨hP3, hK3, hD3⟩ := hB3
  rw [ht3] at hP3
  have hK3 := hK3.moved hvm3.symm
  refine lv_iconst hx hb (v := nI 1) (show decode prog_33_method_25_code 23 = .ok (.iconst 1, 1) by decide +kernel) (by decide +kernel) ?_
  refine W.widen (k := 1) (n := n + n / 2 + 10) (Nat.le_of_ble_eq_true rfl) (by show 0 + (n + n / 2 + 10) ≤ n + n / 2 + 10; omega) ?_
  exact W.zret hx hb hr (by decide) (fun t ht9 hW => ⟨⟨_, u3, rfl, ⟨rfl, hw3.mod⟩, by rw [ht9]; exact hP3, hK3.moved hW.alike, hD3⟩, hS3.F ht9⟩) hS3.2.2 (show decode prog_33_method_25_code 24 = .ok (.ireturn, 1) by decide +kernel) hlocks
end SIMQ3
