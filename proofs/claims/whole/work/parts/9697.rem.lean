section SIMQ5
variable {D : va_G} {G : xG} {A : Nat → Prop} {mid d : Nat} {p : Program} {lc : Launch} {e : Env} {R : Room} {s : State} {m : MethodId} {args : Array Value} {below : List Frame} {meth : Method} {c : Code} {Z : State → Prop} {ad0 : sA} {b0 : Nat × Nat} {pc : Nat} {l : aL} {st r : List aV} {σ : aM}
theorem met_fre {ws : va_W} {tys : List (ClassId × FieldType)} {H : Heap} {q0 a bb n q1 t0 cap : Nat} {m9 : Int32} {cA : ClassId} {f : Nat → Option Nat} (h0 : ws[q0]? = some (a, lsE m9 (.ref bb) n)) (ht : tys[t0]? = some (cA, .object oOA)) (h1 : ws[q1]? = some (bb, rfA cA cap f)) (hnc : n ≤ cap) (h10 : 10 ≤ cap) (hcap : cap ≤ 100000) (hE : ELm G ws tys n f) {k : Nat} (hk : k < n) : Met lc y_fre (Cond.code y_fre prog_33_method_39_code 4 none :: tb) { frames := 1, cells := 0, slots := 0, locals := 60 } (va_Pc [.ref a, .ref bb, .int (nI k)] (PW D G A ws tys H)) (va_Qv (fun (u : va_W × List (ClassId × FieldType)) => ADQ G ws tys q0 a (n - 1) (some q1) (fun j => if j < k then f j else f (j + 1)) u) (QW D A) A) 0 0 A := by
  refine Met.ofW (cc := prog_33_method_39_code) (maxL := 4) (ret := none) (by decide +kernel) rfl ?_
  intro p e s m args below meth c s₁ B hml hv
  obtain ⟨rfl, hh, hP, hK, hD, hxf, hWn, hA⟩ := hv
  subst hh
  have hx := B.exec
  have hb := B.bytes
  have hr := B.returns
  have hts := atoms_spec (ws := Cond.code y_fre prog_33_method_39_code 4 none :: tb) B.pre
  have hts2 : ∀ w ∈ tb, w.before _ s = true := fun w hw => hts w (List.mem_cons_of_mem _ hw)
  have hown : s.vm.findClass "java/util/ArrayList" = some m.cls := findClass_of_methodNamed B.named
  have hlocks := B.notSynchronized
  have hS0 : va_S A s.heap s.heap [] := va_S.rf
  have hS5 : CallFix p m c prog_33_method_39_code 4 s _ tb "java/util/ArrayList" := ⟨hx, hb, hml, hown, hts2⟩
  have hl := lv_entry ([.ref a, .ref bb, .int (nI k)]) (n := 4) (Nat.le_of_ble_eq_true rfl)
  rw [lg_entry_eq]
  generalize (lg_sl ([.ref a, .ref bb, .int (nI k)]) ++ List.replicate (4 - (lg_sl ([.ref a, .ref bb, .int (nI k)])).length) Slot.unset).toArray = ls at hl ⊢
  have hl : lv_has ls 4 [(0, .ref a), (1, .ref bb), (2, .int (nI k))] := hl
  have hB : BK G ws tys bb n (some q1) f := Or.inr ⟨q1, t0, cap, cA, rfl, ht, h1, hnc, h10, hcap⟩
  have hne : q1 ≠ q0 := fun e => (ls_ne h0 h1) e.symm
  refine lv_aload_n hx hb (show decode prog_33_method_39_code 0 = .ok (.aload_n 0, 1) by decide +kernel) rfl (lv_at hl 0 rfl) ?_
  refine lv_dup hx hb (show decode prog_33_method_39_code 1 = .ok (.dup, 1) by decide +kernel) rfl ?_
  refine va_get (C := RAL) (T := TJx4a65c) (N := 3) hx hb hts2 al_in hown hK hP q0 h0 al_at 0 (by decide) (hts2 _ al_f63) (fun x h => u_same (hts2 _ al_sm) x h) rfl (show decode prog_33_method_39_code 2 = .ok (.getfield 63, 3) by decide +kernel) ?_
  refine lv_iconst hx hb (v := nI 1) (show decode prog_33_method_39_code 5 = .ok (.iconst 1, 1) by decide +kernel) (by decide +kernel) ?_
  refine lv_iadd hx hb (show decode prog_33_method_39_code 6 = .ok (.iadd, 1) by decide +kernel) ?_
  refine lv_topi (fun z1 hz1 => ?_)
  have hz1 : z1 = m9 + nI 1 := hz1.trans (rfl)
  subst hz1
  refine va_put (C := RAL) (T := TJx4a65c) (N := 3) (ty := tyJx4a65c 0) hx hb hts2 al_in tyJx4a65c tyJx4a65c_ok nmJx4a65c hown hK hP hD hS0 q0 h0 al_at 0 (by decide) (hts2 _ al_f63) (fun x h => u_same (hts2 _ al_sm) x h) rfl rfl rfl rfl (Nat.le_of_ble_eq_true rfl) (show decode prog_33_method_39_code 7 = .ok (.putfield 63, 3) by decide +kernel) (fun H2 locs2 hP2 hD2 hS2 => ?_)
  obtain ⟨w1, hw1⟩ : ∃ w, w = ws.set q0 (a, lsE (m9 + nI 1) (.ref bb) n) := ⟨_, rfl⟩
  have hPw : va_P D vwCl w1 H2 := by rw [hw1]; exact hP2
  have hDw : va_D A w1 := by rw [hw1]; exact hD2
  have g0 : w1[q0]? = some (a, lsE (m9 + nI 1) (.ref bb) n) := by rw [hw1]; exact set_at h0
  have gB : BK G w1 tys bb n (some q1) f := by rw [hw1]; exact hB.mod h0
  have gK : KS ws w1 := by rw [hw1]; exact KS.set h0 rfl
  have gE : ELm G w1 tys n f := hE.keep gK keepT.rf
  have gW : ∀ (q : Nat) (x : Nat × va_E), q ≠ q0 → ws[q]? = some x → w1[q]? = some x := fun q x e h => by rw [hw1]; exact set_ne (Ne.symm e) h
  have gL : w1.length = ws.length := by rw [hw1]; exact List.length_set
  have g1 : w1[q1]? = some (bb, rfA cA cap f) := gW q1 _ hne h1
  refine lv_aload_n hx hb (show decode prog_33_method_39_code 10 = .ok (.aload_n 0, 1) by decide +kernel) rfl (lv_at hl 0 rfl) ?_
  refine va_get (C := RAL) (T := TJx4a65c) (N := 3) hx hb hts2 al_in hown hK hPw q0 g0 al_at 2 (by decide) (hts2 _ al_f48) (fun _ h => h) rfl (show decode prog_33_method_39_code 11 = .ok (.getfield 48, 3) by decide +kernel) ?_
  refine lv_iconst hx hb (v := nI 1) (show decode prog_33_method_39_code 14 = .ok (.iconst 1, 1) by decide +kernel) (by decide +kernel) ?_
  refine lv_isub hx hb (show decode prog_33_method_39_code 15 = .ok (.isub, 1) by decide +kernel) ?_
  refine lv_topi (fun z3 hz3 => ?_)
  have hz3 : z3 = nI (n - 1) := hz3.trans (pk_sub (by omega))
  subst hz3
  refine lv_dup hx hb (show decode prog_33_method_39_code 16 = .ok (.dup, 1) by decide +kernel) rfl ?_
  refine lv_istore_n hx hb (show decode prog_33_method_39_code 17 = .ok (.istore_n 3, 1) by decide +kernel) rfl hl (by decide) rfl (fun ls hl => ?_)
  refine lv_iload_n hx hb (show decode prog_33_method_39_code 18 = .ok (.iload_n 2, 1) by decide +kernel) rfl (lv_at hl 3 rfl) ?_
  rcases Nat.lt_or_ge k (n - 1) with hlt | hge
  · refine lv_icmp_le hx hb (show decode prog_33_method_39_code 19 = .ok (.if_icmp .le 15, 3) by decide +kernel) (tgt := 34) rfl (fun h => absurd h (fun e => absurd ((nI_leI (by omega) (by omega)).mp e) (by omega))) (fun hbr => ?_)
    refine lv_aload_n hx hb (show decode prog_33_method_39_code 22 = .ok (.aload_n 1, 1) by decide +kernel) rfl (lv_at hl 2 rfl) ?_
    refine lv_iload_n hx hb (show decode prog_33_method_39_code 23 = .ok (.iload_n 2, 1) by decide +kernel) rfl (lv_at hl 3 rfl) ?_
    refine lv_iconst hx hb (v := nI 1) (show decode prog_33_method_39_code 24 = .ok (.iconst 1, 1) by decide +kernel) (by decide +kernel) ?_
    refine lv_iadd hx hb (show decode prog_33_method_39_code 25 = .ok (.iadd, 1) by decide +kernel) ?_
    refine lv_topi (fun z4 hz4 => ?_)
    have hz4 : z4 = nI (k + 1) := hz4.trans (nI_add k 1)
    subst hz4
    refine lv_aload_n hx hb (show decode prog_33_method_39_code 26 = .ok (.aload_n 1, 1) by decide +kernel) rfl (lv_at hl 2 rfl) ?_
    refine lv_iload_n hx hb (show decode prog_33_method_39_code 27 = .ok (.iload_n 2, 1) by decide +kernel) rfl (lv_at hl 3 rfl) ?_
    refine lv_iload_n hx hb (show decode prog_33_method_39_code 28 = .ok (.iload_n 3, 1) by decide +kernel) rfl (lv_at hl 0 rfl) ?_
    refine lv_iload_n hx hb (show decode prog_33_method_39_code 29 = .ok (.iload_n 2, 1) by decide +kernel) rfl (lv_at hl 3 rfl) ?_
    refine lv_isub hx hb (show decode prog_33_method_39_code 30 = .ok (.isub, 1) by decide +kernel) ?_
    refine lv_topi (fun z5 hz5 => ?_)
    have hz5 : z5 = nI (n - 1 - k) := hz5.trans (pk_sub (by omega))
    subst hz5
    refine va_copyM hx hb (hml.trans hl.1.symm) hown (hts2 _ (tbm 766 (by decide +kernel))) (hts2 _ (tbm 235 (by decide +kernel))) (hts2 _ (tbm 234 (by decide +kernel))) (hts2 _ (tbm 11 (by decide +kernel))) hK hPw hDw hS2 q1 q1 t0 t0 g1 g1 ht ht (sp := nI (k + 1)) (dp := nI (k)) (n := nI (n - 1 - k)) (nI_pos (by omega)) (nI_pos (by omega)) (nI_pos (by omega)) (by rw [nI_clamp (by omega), nI_clamp (by omega)]; omega) (by rw [nI_clamp (by omega), nI_clamp (by omega)]; omega) (fun i hi y hy => by
        rw [nI_clamp (by omega)] at hi hy
        exact (gE (k + 1 + i) (by omega) y hy).any hPw hK hxf hS2 hWn) (Nat.le_of_ble_eq_true rfl) (Nat.le_of_ble_eq_true rfl) (show decode prog_33_method_39_code 31 = .ok (.invokestatic 112, 3) by decide +kernel) (fun H6 locs6 hP6 hD6 hS6 => ?_)
    simp only [nI_clamp (show k + 1 < 2 ^ 31 by omega), nI_clamp (show k < 2 ^ 31 by omega), nI_clamp (show n - 1 - k < 2 ^ 31 by omega)] at hP6 hD6
    refine lv_aload_n hx hb (show decode prog_33_method_39_code 34 = .ok (.aload_n 1, 1) by decide +kernel) rfl (lv_at hl 2 rfl) ?_
    refine lv_aload_n hx hb (show decode prog_33_method_39_code 35 = .ok (.aload_n 0, 1) by decide +kernel) rfl (lv_at hl 1 rfl) ?_
    refine lv_iload_n hx hb (show decode prog_33_method_39_code 36 = .ok (.iload_n 3, 1) by decide +kernel) rfl (lv_at hl 0 rfl) ?_
    refine lv_dup_x1 hx hb (show decode prog_33_method_39_code 37 = .ok (.dup_x1, 1) by decide +kernel) rfl rfl ?_
    refine va_put (C := RAL) (T := TJx4a65c) (N := 3) (ty := tyJx4a65c 2) hx hb hts2 al_in tyJx4a65c tyJx4a65c_ok nmJx4a65c hown hK hP6 hD6 hS6 q0 (set_ne hne g0) al_at 2 (by decide) (hts2 _ al_f48) (fun _ h => h) rfl rfl rfl rfl (Nat.le_of_ble_eq_true rfl) (show decode prog_33_method_39_code 38 = .ok (.putfield 48, 3) by decide +kernel) (fun H7 locs7 hP7 hD7 hS7 => ?_)
    refine lv_null hx hb (show decode prog_33_method_39_code 41 = .ok (.aconst_null, 1) by decide +kernel) ?_
    refine va_astqN hx hb hK hP7 hD7 hS7 q1 t0 (set_ne (Ne.symm hne) (set_at g1)) ht (i := nI (n - 1)) (vp_in_nI (by omega) (by omega)) (show decode prog_33_method_39_code 42 = .ok (.aastore, 1) by decide +kernel) (fun H8 locs8 hP8 hD8 hS8 => ?_)
    rw [nI_clamp (by omega)] at hP8 hD8
    exact W.vret hx hb hr (fun t ht9 hW => ⟨⟨(_, _), rfl, ⟨q1, va_up (va_cpy f f (k + 1) k (n - 1 - k)) (n - 1) none, ⟨m9 + nI 1, bb, set_ne hne (set_at (set_ne hne g0)), Or.inr ⟨q1, t0, cap, cA, rfl, ht, set_at (set_ne (Ne.symm hne) (set_at g1)), by omega, h10, hcap⟩⟩, fun j hj => by
        show (if j = n - 1 then _ else va_cpy f f (k + 1) k (n - 1 - k) j) = if j < k then f j else f (j + 1)
        rw [if_neg (by omega)]
        by_cases c : j < k
        · rw [if_pos c, pk_cpy_out (Or.inl c)]
        · rw [if_neg c, pk_cpy_in (by omega) (by omega), show k + 1 + (j - k) = j + 1 by omega], fun q x a b h => set_ne (Ne.symm b) (set_ne (Ne.symm a) (set_ne (Ne.symm b) (gW q x a h))), Or.inl rfl, keepT.rf⟩, by rw [ht9]; exact hP8, hK.moved hW.alike, hD8⟩, hS8.F ht9⟩) hS8.2.2 (show decode prog_33_method_39_code 43 = .ok (.return_, 1) by decide +kernel) hlocks
  · refine lv_icmp_le hx hb (show decode prog_33_method_39_code 19 = .ok (.if_icmp .le 15, 3) by decide +kernel) (tgt := 34) rfl (fun hbr => ?_) (fun h => absurd (nI_le hge (by omega)) h)
    refine lv_aload_n hx hb (show decode prog_33_method_39_code 34 = .ok (.aload_n 1, 1) by decide +kernel) rfl (lv_at hl 2 rfl) ?_
    refine lv_aload_n hx hb (show decode prog_33_method_39_code 35 = .ok (.aload_n 0, 1) by decide +kernel) rfl (lv_at hl 1 rfl) ?_
    refine lv_iload_n hx hb (show decode prog_33_method_39_code 36 = .ok (.iload_n 3, 1) by decide +kernel) rfl (lv_at hl 0 rfl) ?_
    refine lv_dup_x1 hx hb (show decode prog_33_method_39_code 37 = .ok (.dup_x1, 1) by decide +kernel) rfl rfl ?_
    refine va_put (C := RAL) (T := TJx4a65c) (N := 3) (ty := tyJx4a65c 2) hx hb hts2 al_in tyJx4a65c tyJx4a65c_ok nmJx4a65c hown hK hPw hDw hS2 q0 g0 al_at 2 (by decide) (hts2 _ al_f48) (fun _ h => h) rfl rfl rfl rfl (Nat.le_of_ble_eq_true rfl) (show decode prog_33_method_39_code 38 = .ok (.putfield 48, 3) by decide +kernel) (fun H4 locs4 hP4 hD4 hS4 => ?_)
    refine lv_null hx hb (show decode prog_33_method_39_code 41 = .ok (.aconst_null, 1) by decide +kernel) ?_
    refine va_astqN hx hb hK hP4 hD4 hS4 q1 t0 (set_ne (Ne.symm hne) g1) ht (i := nI (n - 1)) (vp_in_nI (by omega) (by omega)) (show decode prog_33_method_39_code 42 = .ok (.aastore, 1) by decide +kernel) (fun H5 locs5 hP5 hD5 hS5 => ?_)
    rw [nI_clamp (by omega)] at hP5 hD5
    exact W.vret hx hb hr (fun t ht9 hW => ⟨⟨(_, _), rfl, ⟨q1, va_up f (n - 1) none, ⟨m9 + nI 1, bb, set_ne hne (set_at g0), Or.inr ⟨q1, t0, cap, cA, rfl, ht, set_at (set_ne (Ne.symm hne) g1), by omega, h10, hcap⟩⟩, fun j hj => by
        show (if j = n - 1 then _ else f j) = _
        rw [if_neg (by omega)]
        exact (if_pos (show j < k by omega)).symm, fun q x a b h => set_ne (Ne.symm b) (set_ne (Ne.symm a) (gW q x a h)), Or.inl rfl, keepT.rf⟩, by rw [ht9]; exact hP5, hK.moved hW.alike, hD5⟩, hS5.F ht9⟩) hS5.2.2 (show decode prog_33_method_39_code 43 = .ok (.return_, 1) by decide +kernel) hlocks
theorem met_remN {ws : va_W} {tys : List (ClassId × FieldType)} {H : Heap} {q0 a bb n q1 t0 cap : Nat} {m9 : Int32} {cA : ClassId} {f : Nat → Option Nat} (h0 : ws[q0]? = some (a, lsE m9 (.ref bb) n)) (ht : tys[t0]? = some (cA, .object oOA)) (h1 : ws[q1]? = some (bb, rfA cA cap f)) (hnc : n ≤ cap) (h10 : 10 ≤ cap) (hcap : cap ≤ 100000) (hE : ELm G ws tys n f) {k : Nat} (hk : k < n) (hfk : f k = none) : Met lc y_rem (Cond.code y_rem prog_33_method_29_code 4 (some (.object "java/lang/Object")) :: tb) { frames := 3, cells := 0, slots := 0, locals := 130 } (va_Pc [.ref a, .int (nI k)] (PW D G A ws tys H)) (va_Qq (fun r (u : va_W × List (ClassId × FieldType)) => r = f k ∧ ADQ G ws tys q0 a (n - 1) (some q1) (fun j => if j < k then f j else f (j + 1)) u) (QW D A) A) 0 0 A := by
  refine Met.ofW (cc := prog_33_method_29_code) (maxL := 4) (ret := (some (.object "java/lang/Object"))) (by decide +kernel) rfl ?_
  intro p e s m args below meth c s₁ B hml hv
  obtain ⟨rfl, hh, hP, hK, hD, hxf, hWn, hA⟩ := hv
  subst hh
  have hx := B.exec
  have hb := B.bytes
  have hr := B.returns
  have hts := atoms_spec (ws := Cond.code y_rem prog_33_method_29_code 4 (some (.object "java/lang/Object")) :: tb) B.pre
  have hts2 : ∀ w ∈ tb, w.before _ s = true := fun w hw => hts w (List.mem_cons_of_mem _ hw)
  have hown : s.vm.findClass "java/util/ArrayList" = some m.cls := findClass_of_methodNamed B.named
  have hlocks := B.notSynchronized
  have hS0 : va_S A s.heap s.heap [] := va_S.rf
  have hS5 : CallFix p m c prog_33_method_29_code 4 s _ tb "java/util/ArrayList" := ⟨hx, hb, hml, hown, hts2⟩
  have hl := lv_entry ([.ref a, .int (nI k)]) (n := 4) (Nat.le_of_ble_eq_true rfl)
  rw [lg_entry_eq]
  generalize (lg_sl ([.ref a, .int (nI k)]) ++ List.replicate (4 - (lg_sl ([.ref a, .int (nI k)])).length) Slot.unset).toArray = ls at hl ⊢
  have hl : lv_has ls 4 [(0, .ref a), (1, .int (nI k))] := hl
  refine lv_iload_n hx hb (show decode prog_33_method_29_code 0 = .ok (.iload_n 1, 1) by decide +kernel) rfl (lv_at hl 1 rfl) ?_
  refine lv_aload_n hx hb (show decode prog_33_method_29_code 1 = .ok (.aload_n 0, 1) by decide +kernel) rfl (lv_at hl 0 rfl) ?_
  refine va_get (C := RAL) (T := TJx4a65c) (N := 3) hx hb hts2 al_in hown hK hP q0 h0 al_at 2 (by decide) (hts2 _ al_f48) (fun _ h => h) rfl (show decode prog_33_method_29_code 2 = .ok (.getfield 48, 3) by decide +kernel) ?_
  have hcw1 := va_cwS (R := { frames := 3, cells := 0, slots := 0, locals := 130 }) (rm := { frames := 2, cells := 0, slots := 0, locals := 64 }) 2 hts2 (goodIn_app (a := [_, _, _]) (fun w hw => by
        simp only [List.mem_cons, List.not_mem_nil, or_false] at hw
        rcases hw with rfl | rfl | rfl
        · exact goodIn_1 (tbm 441 (by decide +kernel)) _ (List.mem_singleton.mpr rfl)
        · exact goodIn_1 (tbm 442 (by decide +kernel)) _ (List.mem_singleton.mpr rfl)
        · exact goodIn_1 (tbm 15 (by decide +kernel)) _ (List.mem_singleton.mpr rfl)) (goodIn_tb ok_ocC) : GoodIn tb (va_wsS "java/util/ArrayList" 118 yOC (Cond.code yOC prog_38_method_17_code 2 (some .int) :: tb))) rfl rfl rfl ⟨by decide, by decide, by decide +kernel⟩ ⟨Nat.le_of_ble_eq_true rfl, Nat.le_of_ble_eq_true rfl⟩
  refine va_calli (va_runS (As := [.int (nI k), .int (nI n)]) hS5 (met_oc (A := A) s.heap (nI_pos (by omega)) (nI_lt hk (by omega))) hcw1 ⟨(by rintro a U g mk ⟨h0, h1⟩; exact ⟨h0, h1⟩), fun U hU hW => ⟨rfl, hU⟩⟩ rfl rfl hl.1 rfl (lv_room (Nat.le_of_ble_eq_true rfl)) (show decode prog_33_method_29_code 5 = .ok (.invokestatic 118, 3) by decide +kernel) ⟨Nat.le_of_ble_eq_true rfl, Nat.le_of_ble_eq_true rfl⟩) hS0 (fun _ _ h => h) (fun _ h => h) (fun r1 u1 t1 H1 locs1 ht1 hvm1 hw1 hB1 _ _ hS1 => ?_)
  have hB1 : t1.heap = s.heap := hB1
  rw [ht1] at hB1
  subst hB1
  refine lv_pop hx hb (show decode prog_33_method_29_code 8 = .ok (.pop, 1) by decide +kernel) rfl ?_
  refine lv_aload_n hx hb (show decode prog_33_method_29_code 9 = .ok (.aload_n 0, 1) by decide +kernel) rfl (lv_at hl 0 rfl) ?_
  refine va_get (C := RAL) (T := TJx4a65c) (N := 3) hx hb hts2 al_in hown hK hP q0 h0 al_at 1 (by decide) (hts2 _ al_f9) (fun _ h => h) rfl (show decode prog_33_method_29_code 10 = .ok (.getfield 9, 3) by decide +kernel) ?_
  refine lv_astore_n hx hb (show decode prog_33_method_29_code 13 = .ok (.astore_n 2, 1) by decide +kernel) rfl hl (by decide) rfl (fun ls hl => ?_)
  refine lv_aload_n hx hb (show decode prog_33_method_29_code 14 = .ok (.aload_n 2, 1) by decide +kernel) rfl (lv_at hl 0 rfl) ?_
  refine lv_iload_n hx hb (show decode prog_33_method_29_code 15 = .ok (.iload_n 1, 1) by decide +kernel) rfl (lv_at hl 2 rfl) ?_
  refine va_aldq hx hb hK hP q1 t0 h1 ht (i := nI k) (vp_in_nI (by omega) (by omega)) (show decode prog_33_method_29_code 16 = .ok (.aaload, 1) by decide +kernel) ?_
  simp only [nI_clamp (show k < 2 ^ 31 by omega)]
  rw [show va_rf (f k) = .null by rw [hfk]; rfl]
  show W _ _ _ _ _ _ _ _ _ _ _ _ _ _ _ (F0 m 17 ls [.null])
  refine lv_astore_nN hx hb (show decode prog_33_method_29_code 17 = .ok (.astore_n 3, 1) by decide +kernel) rfl hl (by decide) rfl (fun ls hl => ?_)
  refine lv_aload_n hx hb (show decode prog_33_method_29_code 18 = .ok (.aload_n 0, 1) by decide +kernel) rfl (lv_at hl 2 rfl) ?_
  refine lv_aload_n hx hb (show decode prog_33_method_29_code 19 = .ok (.aload_n 2, 1) by decide +kernel) rfl (lv_at hl 1 rfl) ?_
  refine lv_iload_n hx hb (show decode prog_33_method_29_code 20 = .ok (.iload_n 1, 1) by decide +kernel) rfl (lv_at hl 3 rfl) ?_
  have hcw2 := cwV (R := { frames := 3, cells := 0, slots := 0, locals := 130 }) (rm := { frames := 1, cells := 0, slots := 0, locals := 60 }) 2 hts2 (goodIn_app (a := [_, _, _, _]) (fun w hw => by
        simp only [List.mem_cons, List.not_mem_nil, or_false] at hw
        rcases hw with rfl | rfl | rfl | rfl
        · exact goodIn_1 (tbm 962 (by decide +kernel)) _ (List.mem_singleton.mpr rfl)
        · exact goodIn_1 (tbm 964 (by decide +kernel)) _ (List.mem_singleton.mpr rfl)
        · exact goodIn_1 (tbs (y := y_fre) (n := 3) 40 (by decide +kernel)) _ (List.mem_singleton.mpr rfl)
        · exact goodIn_1 (tbm 4 (by decide +kernel)) _ (List.mem_singleton.mpr rfl)) (goodIn_tb ok_freC) : GoodIn tb (wsV "java/util/ArrayList" 144 "java/util/ArrayList" y_fre (Cond.code y_fre prog_33_method_39_code 4 none :: tb))) rfl rfl rfl ⟨rfl, by decide +kernel⟩ ⟨Nat.le_of_ble_eq_true rfl, Nat.le_of_ble_eq_true rfl⟩
  refine va_callv (va_runV (As := [.ref bb, .int (nI k)]) (b := a) hS5 (met_fre (A := A) (D := D) (G := G) (H := s.heap) h0 ht h1 hnc h10 hcap hE hk) hcw2 ⟨PW_blind, (va_recv hK hP al_at h0), fun U hU hW => ⟨rfl, hU, hP, hK.moved hW.alike, hD, hxf.on hW.alike hS1, tbn_w hW hWn, fun q hq => hA q (Nat.le_trans hS1.1 hq)⟩⟩ rfl rfl hl.1 rfl (lv_room (Nat.le_of_ble_eq_true rfl)) (show decode prog_33_method_29_code 21 = .ok (.invokevirtual 144, 3) by decide +kernel) ⟨Nat.le_of_ble_eq_true rfl, Nat.le_of_ble_eq_true rfl⟩) hS1 (fun _ _ h => h) (fun _ h => h) (fun u2 t2 H2 locs2 ht2 hvm2 hw2 hB2 _ _ hS2 => ?_)
  obtain ⟨hP2, hK2, hD2⟩ := hB2
  rw [ht2] at hP2
  have hK2 := hK2.moved hvm2.symm
  refine lv_aload_nN hx hb (show decode prog_33_method_29_code 24 = .ok (.aload_n 3, 1) by decide +kernel) rfl (lv_at hl 0 rfl) ?_
  exact W.aret hx hb hr (Or.inl ⟨_, rfl⟩) (Or.inl rfl) (fun t ht9 hW => ⟨⟨none, u2, rfl, ⟨hfk.symm, hw2⟩, by rw [ht9]; exact hP2, hK2.moved hW.alike, hD2⟩, hS2.F ht9⟩) hS2.2.2 (show decode prog_33_method_29_code 25 = .ok (.areturn, 1) by decide +kernel) hlocks
theorem met_remR {ws : va_W} {tys : List (ClassId × FieldType)} {H : Heap} {q0 a bb n q1 t0 cap : Nat} {m9 : Int32} {cA : ClassId} {f : Nat → Option Nat} (h0 : ws[q0]? = some (a, lsE m9 (.ref bb) n)) (ht : tys[t0]? = some (cA, .object oOA)) (h1 : ws[q1]? = some (bb, rfA cA cap f)) (hnc : n ≤ cap) (h10 : 10 ≤ cap) (hcap : cap ≤ 100000) (hE : ELm G ws tys n f) {k : Nat} (hk : k < n) {y : Nat} (hfk : f k = some y) : Met lc y_rem (Cond.code y_rem prog_33_method_29_code 4 (some (.object "java/lang/Object")) :: tb) { frames := 3, cells := 0, slots := 0, locals := 130 } (va_Pc [.ref a, .int (nI k)] (PW D G A ws tys H)) (va_Qq (fun r (u : va_W × List (ClassId × FieldType)) => r = f k ∧ ADQ G ws tys q0 a (n - 1) (some q1) (fun j => if j < k then f j else f (j + 1)) u) (QW D A) A) 0 0 A := by
  refine Met.ofW (cc := prog_33_method_29_code) (maxL := 4) (ret := (some (.object "java/lang/Object"))) (by decide +kernel) rfl ?_
  intro p e s m args below meth c s₁ B hml hv
  obtain ⟨rfl, hh, hP, hK, hD, hxf, hWn, hA⟩ := hv
  subst hh
  have hx := B.exec
  have hb := B.bytes
  have hr := B.returns
  have hts := atoms_spec (ws := Cond.code y_rem prog_33_method_29_code 4 (some (.object "java/lang/Object")) :: tb) B.pre
  have hts2 : ∀ w ∈ tb, w.before _ s = true := fun w hw => hts w (List.mem_cons_of_mem _ hw)
  have hown : s.vm.findClass "java/util/ArrayList" = some m.cls := findClass_of_methodNamed B.named
  have hlocks := B.notSynchronized
  have hS0 : va_S A s.heap s.heap [] := va_S.rf
  have hS5 : CallFix p m c prog_33_method_29_code 4 s _ tb "java/util/ArrayList" := ⟨hx, hb, hml, hown, hts2⟩
  have hl := lv_entry ([.ref a, .int (nI k)]) (n := 4) (Nat.le_of_ble_eq_true rfl)
  rw [lg_entry_eq]
  generalize (lg_sl ([.ref a, .int (nI k)]) ++ List.replicate (4 - (lg_sl ([.ref a, .int (nI k)])).length) Slot.unset).toArray = ls at hl ⊢
  have hl : lv_has ls 4 [(0, .ref a), (1, .int (nI k))] := hl
  refine lv_iload_n hx hb (show decode prog_33_method_29_code 0 = .ok (.iload_n 1, 1) by decide +kernel) rfl (lv_at hl 1 rfl) ?_
  refine lv_aload_n hx hb (show decode prog_33_method_29_code 1 = .ok (.aload_n 0, 1) by decide +kernel) rfl (lv_at hl 0 rfl) ?_
  refine va_get (C := RAL) (T := TJx4a65c) (N := 3) hx hb hts2 al_in hown hK hP q0 h0 al_at 2 (by decide) (hts2 _ al_f48) (fun _ h => h) rfl (show decode prog_33_method_29_code 2 = .ok (.getfield 48, 3) by decide +kernel) ?_
  have hcw1 := va_cwS (R := { frames := 3, cells := 0, slots := 0, locals := 130 }) (rm := { frames := 2, cells := 0, slots := 0, locals := 64 }) 2 hts2 (goodIn_app (a := [_, _, _]) (fun w hw => by
        simp only [List.mem_cons, List.not_mem_nil, or_false] at hw
        rcases hw with rfl | rfl | rfl
        · exact goodIn_1 (tbm 441 (by decide +kernel)) _ (List.mem_singleton.mpr rfl)
        · exact goodIn_1 (tbm 442 (by decide +kernel)) _ (List.mem_singleton.mpr rfl)
        · exact goodIn_1 (tbm 15 (by decide +kernel)) _ (List.mem_singleton.mpr rfl)) (goodIn_tb ok_ocC) : GoodIn tb (va_wsS "java/util/ArrayList" 118 yOC (Cond.code yOC prog_38_method_17_code 2 (some .int) :: tb))) rfl rfl rfl ⟨by decide, by decide, by decide +kernel⟩ ⟨Nat.le_of_ble_eq_true rfl, Nat.le_of_ble_eq_true rfl⟩
  refine va_calli (va_runS (As := [.int (nI k), .int (nI n)]) hS5 (met_oc (A := A) s.heap (nI_pos (by omega)) (nI_lt hk (by omega))) hcw1 ⟨(by rintro a U g mk ⟨h0, h1⟩; exact ⟨h0, h1⟩), fun U hU hW => ⟨rfl, hU⟩⟩ rfl rfl hl.1 rfl (lv_room (Nat.le_of_ble_eq_true rfl)) (show decode prog_33_method_29_code 5 = .ok (.invokestatic 118, 3) by decide +kernel) ⟨Nat.le_of_ble_eq_true rfl, Nat.le_of_ble_eq_true rfl⟩) hS0 (fun _ _ h => h) (fun _ h => h) (fun r1 u1 t1 H1 locs1 ht1 hvm1 hw1 hB1 _ _ hS1 => ?_)
  have hB1 : t1.heap = s.heap := hB1
  rw [ht1] at hB1
  subst hB1
  refine lv_pop hx hb (show decode prog_33_method_29_code 8 = .ok (.pop, 1) by decide +kernel) rfl ?_
  refine lv_aload_n hx hb (show decode prog_33_method_29_code 9 = .ok (.aload_n 0, 1) by decide +kernel) rfl (lv_at hl 0 rfl) ?_
  refine va_get (C := RAL) (T := TJx4a65c) (N := 3) hx hb hts2 al_in hown hK hP q0 h0 al_at 1 (by decide) (hts2 _ al_f9) (fun _ h => h) rfl (show decode prog_33_method_29_code 10 = .ok (.getfield 9, 3) by decide +kernel) ?_
  refine lv_astore_n hx hb (show decode prog_33_method_29_code 13 = .ok (.astore_n 2, 1) by decide +kernel) rfl hl (by decide) rfl (fun ls hl => ?_)
  refine lv_aload_n hx hb (show decode prog_33_method_29_code 14 = .ok (.aload_n 2, 1) by decide +kernel) rfl (lv_at hl 0 rfl) ?_
  refine lv_iload_n hx hb (show decode prog_33_method_29_code 15 = .ok (.iload_n 1, 1) by decide +kernel) rfl (lv_at hl 2 rfl) ?_
  refine va_aldq hx hb hK hP q1 t0 h1 ht (i := nI k) (vp_in_nI (by omega) (by omega)) (show decode prog_33_method_29_code 16 = .ok (.aaload, 1) by decide +kernel) ?_
  simp only [nI_clamp (show k < 2 ^ 31 by omega)]
  rw [show va_rf (f k) = .ref y by rw [hfk]; rfl]
  show W _ _ _ _ _ _ _ _ _ _ _ _ _ _ _ (F0 m 17 ls [.ref y])
  refine lv_astore_n hx hb (show decode prog_33_method_29_code 17 = .ok (.astore_n 3, 1) by decide +kernel) rfl hl (by decide) rfl (fun ls hl => ?_)
  refine lv_aload_n hx hb (show decode prog_33_method_29_code 18 = .ok (.aload_n 0, 1) by decide +kernel) rfl (lv_at hl 2 rfl) ?_
  refine lv_aload_n hx hb (show decode prog_33_method_29_code 19 = .ok (.aload_n 2, 1) by decide +kernel) rfl (lv_at hl 1 rfl) ?_
  refine lv_iload_n hx hb (show decode prog_33_method_29_code 20 = .ok (.iload_n 1, 1) by decide +kernel) rfl (lv_at hl 3 rfl) ?_
  have hcw2 := cwV (R := { frames := 3, cells := 0, slots := 0, locals := 130 }) (rm := { frames := 1, cells := 0, slots := 0, locals := 60 }) 2 hts2 (goodIn_app (a := [_, _, _, _]) (fun w hw => by
        simp only [List.mem_cons, List.not_mem_nil, or_false] at hw
        rcases hw with rfl | rfl | rfl | rfl
        · exact goodIn_1 (tbm 962 (by decide +kernel)) _ (List.mem_singleton.mpr rfl)
        · exact goodIn_1 (tbm 964 (by decide +kernel)) _ (List.mem_singleton.mpr rfl)
        · exact goodIn_1 (tbs (y := y_fre) (n := 3) 40 (by decide +kernel)) _ (List.mem_singleton.mpr rfl)
        · exact goodIn_1 (tbm 4 (by decide +kernel)) _ (List.mem_singleton.mpr rfl)) (goodIn_tb ok_freC) : GoodIn tb (wsV "java/util/ArrayList" 144 "java/util/ArrayList" y_fre (Cond.code y_fre prog_33_method_39_code 4 none :: tb))) rfl rfl rfl ⟨rfl, by decide +kernel⟩ ⟨Nat.le_of_ble_eq_true rfl, Nat.le_of_ble_eq_true rfl⟩
  refine va_callv (va_runV (As := [.ref bb, .int (nI k)]) (b := a) hS5 (met_fre (A := A) (D := D) (G := G) (H := s.heap) h0 ht h1 hnc h10 hcap hE hk) hcw2 ⟨PW_blind, (va_recv hK hP al_at h0), fun U hU hW => ⟨rfl, hU, hP, hK.moved hW.alike, hD, hxf.on hW.alike hS1, tbn_w hW hWn, fun q hq => hA q (Nat.le_trans hS1.1 hq)⟩⟩ rfl rfl hl.1 rfl (lv_room (Nat.le_of_ble_eq_true rfl)) (show decode prog_33_method_29_code 21 = .ok (.invokevirtual 144, 3) by decide +kernel) ⟨Nat.le_of_ble_eq_true rfl, Nat.le_of_ble_eq_true rfl⟩) hS1 (fun _ _ h => h) (fun _ h => h) (fun u2 t2 H2 locs2 ht2 hvm2 hw2 hB2 _ _ hS2 => ?_)
  obtain ⟨hP2, hK2, hD2⟩ := hB2
  rw [ht2] at hP2
  have hK2 := hK2.moved hvm2.symm
  refine lv_aload_n hx hb (show decode prog_33_method_29_code 24 = .ok (.aload_n 3, 1) by decide +kernel) rfl (lv_at hl 0 rfl) ?_
  exact W.aret hx hb hr (Or.inl ⟨_, rfl⟩) (Or.inr ⟨_, rfl⟩) (fun t ht9 hW => ⟨⟨some y, u2, rfl, ⟨hfk.symm, hw2⟩, by rw [ht9]; exact hP2, hK2.moved hW.alike, hD2⟩, hS2.F ht9⟩) hS2.2.2 (show decode prog_33_method_29_code 25 = .ok (.areturn, 1) by decide +kernel) hlocks
theorem met_abc {a : Nat} (H : Heap) : Met lc y_abc (Cond.code y_abc prog_31_method_1_code 1 none :: tb) { frames := 1, cells := 0, slots := 0, locals := 20 } (va_Pc [.ref a] (fun U => U.heap = H)) (va_Qv (fun (_ : Unit) => True) (fun _ t => t.heap = H) A) 0 0 A := by
  refine Met.ofW (cc := prog_31_method_1_code) (maxL := 1) (ret := none) (by decide +kernel) rfl ?_
  intro p e s m args below meth c s₁ B hml hv
  obtain ⟨rfl, hh⟩ := hv
  subst hh
  have hx := B.exec
  have hb := B.bytes
  have hr := B.returns
  have hts := atoms_spec (ws := Cond.code y_abc prog_31_method_1_code 1 none :: tb) B.pre
  have hts2 : ∀ w ∈ tb, w.before _ s = true := fun w hw => hts w (List.mem_cons_of_mem _ hw)
  have hown : s.vm.findClass "java/util/AbstractCollection" = some m.cls := findClass_of_methodNamed B.named
  have hlocks := B.notSynchronized
  have hS0 : va_S A s.heap s.heap [] := va_S.rf
  have hS5 : CallFix p m c prog_31_method_1_code 1 s _ tb "java/util/AbstractCollection" := ⟨hx, hb, hml, hown, hts2⟩
  have hl := lv_entry ([.ref a]) (n := 1) (Nat.le_of_ble_eq_true rfl)
  rw [lg_entry_eq]
  generalize (lg_sl ([.ref a]) ++ List.replicate (1 - (lg_sl ([.ref a])).length) Slot.unset).toArray = ls at hl ⊢
  have hl : lv_has ls 1 [(0, .ref a)] := hl
  refine lv_aload_n hx hb (show decode prog_31_method_1_code 0 = .ok (.aload_n 0, 1) by decide +kernel) rfl (lv_at hl 0 rfl) ?_
  refine W.objInit hx hb hown (hts2 _ (tbm 50 (by decide +kernel))) (hts2 _ (tbm 37 (by decide +kernel))) (hts2 _ ok_obj.2) (g := F0 m 1 ls [.ref a]) rfl (hl.1.trans hml.symm) rfl (show decode prog_31_method_1_code 1 = .ok (.invokespecial 1, 3) by decide +kernel) (Nat.le_of_ble_eq_true rfl) (Nat.le_of_ble_eq_true rfl) ?_
  show W _ _ _ _ _ _ _ _ _ _ _ _ _ _ _ (F0 m 4 ls [])
  exact W.vret hx hb hr (fun t ht hW => ⟨⟨(), rfl, trivial, ht⟩, hS0.F ht⟩) hS0.2.2 (show decode prog_31_method_1_code 4 = .ok (.return_, 1) by decide +kernel) hlocks
theorem met_abl {ws : va_W} {tys : List (ClassId × FieldType)} {H : Heap} {q0 a : Nat} (h0 : ws[q0]? = some (a, .inr (0, [.int 0, .null, .int 0]))) : Met lc y_abl (Cond.code y_abl prog_32_method_1_code 1 none :: tb) { frames := 2, cells := 0, slots := 0, locals := 60 } (va_Pc [.ref a] (PW D G A ws tys H)) (va_Qv (fun (u : va_W × List (ClassId × FieldType)) => u = (ws.set q0 (a, .inr (0, [.int 0, .null, .int 0])), tys)) (QW D A) A) 0 0 A := by
  refine Met.ofW (cc := prog_32_method_1_code) (maxL := 1) (ret := none) (by decide +kernel) rfl ?_
  intro p e s m args below meth c s₁ B hml hv
  obtain ⟨rfl, hh, hP, hK, hD, hxf, hWn, hA⟩ := hv
  subst hh
  have hx := B.exec
  have hb := B.bytes
  have hr := B.returns
  have hts := atoms_spec (ws := Cond.code y_abl prog_32_method_1_code 1 none :: tb) B.pre
  have hts2 : ∀ w ∈ tb, w.before _ s = true := fun w hw => hts w (List.mem_cons_of_mem _ hw)
  have hown : s.vm.findClass "java/util/AbstractList" = some m.cls := findClass_of_methodNamed B.named
  have hlocks := B.notSynchronized
  have hS0 : va_S A s.heap s.heap [] := va_S.rf
  have hS5 : CallFix p m c prog_32_method_1_code 1 s _ tb "java/util/AbstractList" := ⟨hx, hb, hml, hown, hts2⟩
  have hl := lv_entry ([.ref a]) (n := 1) (Nat.le_of_ble_eq_true rfl)
  rw [lg_entry_eq]
  generalize (lg_sl ([.ref a]) ++ List.replicate (1 - (lg_sl ([.ref a])).length) Slot.unset).toArray = ls at hl ⊢
  have hl : lv_has ls 1 [(0, .ref a)] := hl
  refine lv_aload_n hx hb (show decode prog_32_method_1_code 0 = .ok (.aload_n 0, 1) by decide +kernel) rfl (lv_at hl 0 rfl) ?_
  have hcw1 := cwI (own := "java/util/AbstractList") (index := 1) (y := y_abc) (R := { frames := 2, cells := 0, slots := 0, locals := 60 }) (rm := { frames := 1, cells := 0, slots := 0, locals := 20 }) 0 hts2 (goodIn_tb ok_abcC) rfl rfl rfl (hts2 _ (tbm 2 (by decide +kernel))) (hts2 _ (tbm 47 (by decide +kernel))) (hts2 _ (tbm 48 (by decide +kernel))) rfl (by decide +kernel) ⟨Nat.le_of_ble_eq_true rfl, Nat.le_of_ble_eq_true rfl⟩
  refine va_callv (va_runI (As := []) (b := a) hS5 (met_abc (A := A) s.heap) hcw1 ⟨(by rintro a U g mk ⟨h0, h1⟩; exact ⟨h0, h1⟩), fun U hU hW => ⟨rfl, hU⟩⟩ rfl rfl hl.1 rfl (lv_room (Nat.le_of_ble_eq_true rfl)) (show decode prog_32_method_1_code 1 = .ok (.invokespecial 1, 3) by decide +kernel) ⟨Nat.le_of_ble_eq_true rfl, Nat.le_of_ble_eq_true rfl⟩) hS0 (fun _ _ h => h) (fun _ h => h) (fun u1 t1 H1 locs1 ht1 hvm1 hw1 hB1 _ _ hS1 => ?_)
  have hB1 : t1.heap = s.heap := hB1
  rw [ht1] at hB1
  subst hB1
  refine lv_aload_n hx hb (show decode prog_32_method_1_code 4 = .ok (.aload_n 0, 1) by decide +kernel) rfl (lv_at hl 0 rfl) ?_
  refine lv_iconst hx hb (v := nI 0) (show decode prog_32_method_1_code 5 = .ok (.iconst 0, 1) by decide +kernel) (by decide +kernel) ?_
  refine va_put (C := RAL) (T := TJx4a65c) (N := 3) (ty := tyJx4a65c 0) (ref := "java/util/AbstractList") hx hb hts2 al_in tyJx4a65c tyJx4a65c_ok nmJx4a65c hown hK hP hD hS1 q0 h0 al_at 0 (by decide) (hts2 _ (tbm 55 (by decide +kernel))) (fun _ h => h) rfl rfl rfl rfl (Nat.le_of_ble_eq_true rfl) (show decode prog_32_method_1_code 6 = .ok (.putfield 7, 3) by decide +kernel) (fun H7 locs7 hP7 hD7 hS7 => ?_)
  exact W.vret hx hb hr (fun t ht9 hW => ⟨⟨(_, _), rfl, rfl, by rw [ht9]; exact hP7, hK.moved hW.alike, hD7⟩, hS7.F ht9⟩) hS7.2.2 (show decode prog_32_method_1_code 9 = .ok (.return_, 1) by decide +kernel) hlocks
theorem met_ali {ws : va_W} {tys : List (ClassId × FieldType)} {H : Heap} {q0 a : Nat} (h0 : ws[q0]? = some (a, .inr (0, [.int 0, .null, .int 0]))) : Met lc y_ali (Cond.code y_ali prog_33_method_2_code 1 none :: tb) { frames := 3, cells := 0, slots := 0, locals := 110 } (va_Pc [.ref a] (PW D G A ws tys H)) (va_Qv (fun (u : va_W × List (ClassId × FieldType)) => u.1[q0]? = some (a, lsE 0 (.ref G.2.2.2.2.2) 0) ∧ u.1.length = ws.length ∧ (∀ (q : Nat) (x : Nat × va_E), q ≠ q0 → ws[q]? = some x → u.1[q]? = some x) ∧ u.2 = tys) (QW D A) A) 0 0 A := by
  refine Met.ofW (cc := prog_33_method_2_code) (maxL := 1) (ret := none) (by decide +kernel) rfl ?_
  intro p e s m args below meth c s₁ B hml hv
  obtain ⟨rfl, hh, hP, hK, hD, hxf, hWn, hA⟩ := hv
  subst hh
  have hx := B.exec
  have hb := B.bytes
  have hr := B.returns
  have hts := atoms_spec (ws := Cond.code y_ali prog_33_method_2_code 1 none :: tb) B.pre
  have hts2 : ∀ w ∈ tb, w.before _ s = true := fun w hw => hts w (List.mem_cons_of_mem _ hw)
  have hown : s.vm.findClass "java/util/ArrayList" = some m.cls := findClass_of_methodNamed B.named
  have hlocks := B.notSynchronized
  have hS0 : va_S A s.heap s.heap [] := va_S.rf
  have hS5 : CallFix p m c prog_33_method_2_code 1 s _ tb "java/util/ArrayList" := ⟨hx, hb, hml, hown, hts2⟩
  have hl := lv_entry ([.ref a]) (n := 1) (Nat.le_of_ble_eq_true rfl)
  rw [lg_entry_eq]
  generalize (lg_sl ([.ref a]) ++ List.replicate (1 - (lg_sl ([.ref a])).length) Slot.unset).toArray = ls at hl ⊢
  have hl : lv_has ls 1 [(0, .ref a)] := hl
  refine lv_aload_n hx hb (show decode prog_33_method_2_code 0 = .ok (.aload_n 0, 1) by decide +kernel) rfl (lv_at hl 0 rfl) ?_
  have hcw1 := cwI (own := "java/util/ArrayList") (index := 1) (y := y_abl) (R := { frames := 3, cells := 0, slots := 0, locals := 110 }) (rm := { frames := 2, cells := 0, slots := 0, locals := 60 }) 0 hts2 (goodIn_tb ok_ablC) rfl rfl rfl (hts2 _ (tbm 3 (by decide +kernel))) (hts2 _ (tbm 44 (by decide +kernel))) (hts2 _ (tbm 45 (by decide +kernel))) rfl (by decide +kernel) ⟨Nat.le_of_ble_eq_true rfl, Nat.le_of_ble_eq_true rfl⟩
  refine va_callv (va_runI (As := []) (b := a) hS5 (met_abl (A := A) (D := D) (G := G) (H := s.heap) h0) hcw1 ⟨PW_blind, fun U hU hW => ⟨rfl, hU, hP, hK.moved hW.alike, hD, hxf.on hW.alike hS0, tbn_w hW hWn, fun q hq => hA q (Nat.le_trans hS0.1 hq)⟩⟩ rfl rfl hl.1 rfl (lv_room (Nat.le_of_ble_eq_true rfl)) (show decode prog_33_method_2_code 1 = .ok (.invokespecial 1, 3) by decide +kernel) ⟨Nat.le_of_ble_eq_true rfl, Nat.le_of_ble_eq_true rfl⟩) hS0 (fun _ _ h => h) (fun _ h => h) (fun u1 t1 H1 locs1 ht1 hvm1 hw1 hB1 _ _ hS1 => ?_)
  obtain ⟨hP1, hK1, hD1⟩ := hB1
  rw [ht1] at hP1
  have hK1 := hK1.moved hvm1.symm
  obtain ⟨u9, v9⟩ := u1
  cases hw1
  refine lv_aload_n hx hb (show decode prog_33_method_2_code 4 = .ok (.aload_n 0, 1) by decide +kernel) rfl (lv_at hl 0 rfl) ?_
  refine va_gets hx hb hxf.2.2.1 hS1 hown (hts2 _ (tbm 51 (by decide +kernel))) (fun _ h => h) (show decode prog_33_method_2_code 5 = .ok (.getstatic 39, 3) by decide +kernel) ?_
  refine va_put (C := RAL) (T := TJx4a65c) (N := 3) (ty := tyJx4a65c 1) hx hb hts2 al_in tyJx4a65c tyJx4a65c_ok nmJx4a65c hown hK1 hP1 hD1 hS1 q0 (set_at h0) al_at 1 (by decide) (hts2 _ al_f9) (fun _ h => h) rfl rfl rfl rfl (Nat.le_of_ble_eq_true rfl) (show decode prog_33_method_2_code 8 = .ok (.putfield 9, 3) by decide +kernel) (fun H2 locs2 hP2 hD2 hS2 => ?_)
  exact W.vret hx hb hr (fun t ht9 hW => ⟨⟨(_, _), rfl, ⟨set_at (set_at h0), by rw [List.length_set, List.length_set], fun q x e h => set_ne (Ne.symm e) (set_ne (Ne.symm e) h), rfl⟩, by rw [ht9]; exact hP2, hK1.moved hW.alike, hD2⟩, hS2.F ht9⟩) hS2.2.2 (show decode prog_33_method_2_code 11 = .ok (.return_, 1) by decide +kernel) hlocks
end SIMQ5
