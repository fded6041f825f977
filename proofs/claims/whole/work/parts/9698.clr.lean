section SIMQ6
variable {D : va_G} {G : xG} {A : Nat → Prop} {mid d : Nat} {p : Program} {lc : Launch} {e : Env} {R : Room} {s : State} {m : MethodId} {args : Array Value} {below : List Frame} {meth : Method} {c : Code} {Z : State → Prop} {ad0 : sA} {b0 : Nat × Nat} {pc : Nat} {l : aL} {st r : List aV} {σ : aM}
abbrev y_clr : MethodName := ⟨"java/util/ArrayList", "clear", "()V"⟩
set_option maxRecDepth 100000 in
theorem ok_clrC : Cond.code y_clr prog_33_method_40_code 4 none ∈ tb := tbm 1136 ⟨rfl, rfl⟩
abbrev y_cpi : MethodName := ⟨"java/util/Arrays", "copyOf", "([II)[I"⟩
set_option maxRecDepth 100000 in
theorem ok_cpiC : Cond.code y_cpi prog_34_method_123_code 3 (some (.array .int)) ∈ tb := tbm 738 ⟨rfl, rfl⟩
theorem clr_loop {cells slots : Nat} {H0 : Heap} {tys : List (ClassId × FieldType)} {w0 : va_W} {q1 t0 bb cap n : Nat} {cA : ClassId} {a : Nat} {f0 : Nat → Option Nat} (hx : p.tables.exec = Jvm.exec) (hb : c.code = prog_33_method_40_code) (hK : va_K D vwCl tys s) (ht : tys[t0]? = some (cA, .object oOA)) (h1 : w0[q1]? = some (bb, rfA cA cap f0)) (hnc : n ≤ cap) (hcap : cap ≤ 100000) {Q9 : State → Prop} {A9 : Nat → Prop}
    (kk : ∀ (H1 : Heap) (locs1 : List Loc) (ls : Array Slot) (f : Nat → Option Nat), va_P D vwCl (w0.set q1 (bb, rfA cA cap f)) H1 → va_D A9 (w0.set q1 (bb, rfA cA cap f)) → va_S A9 H0 H1 locs1 → W p lc e R s m args below meth c H1 locs1 cells slots Q9 (F0 m 42 ls [])) :
    ∀ (r j : Nat) (H : Heap) (locs : List Loc) (f : Nat → Option Nat) (ls : Array Slot), j + r = n → va_P D vwCl (w0.set q1 (bb, rfA cA cap f)) H → va_D A9 (w0.set q1 (bb, rfA cA cap f)) → va_S A9 H0 H locs → lv_has ls 4 [(3, .int (nI j)), (0, .ref a), (1, .ref bb), (2, .int (nI n))] → W p lc e R s m args below meth c H locs cells slots Q9 (F0 m 27 ls []) := by
  intro r
  induction r with
  | zero =>
    intro j H locs f ls hj hP hD hS hl
    refine lv_iload_n hx hb (show decode prog_33_method_40_code 27 = .ok (.iload_n 3, 1) by decide +kernel) rfl (lv_at hl 0 rfl) ?_
    refine lv_iload_n hx hb (show decode prog_33_method_40_code 28 = .ok (.iload_n 2, 1) by decide +kernel) rfl (lv_at hl 3 rfl) ?_
    refine lv_icmp_ge hx hb (show decode prog_33_method_40_code 29 = .ok (.if_icmp .ge 13, 3) by decide +kernel) (tgt := 42) rfl (fun _ => ?_) (fun h => absurd (nI_le (by omega) (by omega)) h)
    exact kk H locs ls f hP hD hS
  | succ r ih =>
    intro j H locs f ls hj hP hD hS hl
    refine lv_iload_n hx hb (show decode prog_33_method_40_code 27 = .ok (.iload_n 3, 1) by decide +kernel) rfl (lv_at hl 0 rfl) ?_
    refine lv_iload_n hx hb (show decode prog_33_method_40_code 28 = .ok (.iload_n 2, 1) by decide +kernel) rfl (lv_at hl 3 rfl) ?_
    refine lv_icmp_ge hx hb (show decode prog_33_method_40_code 29 = .ok (.if_icmp .ge 13, 3) by decide +kernel) (tgt := 42) rfl (fun h => absurd ((nI_leI (by omega) (by omega)).mp h) (by omega)) (fun _ => ?_)
    refine lv_aload_n hx hb (show decode prog_33_method_40_code 32 = .ok (.aload_n 1, 1) by decide +kernel) rfl (lv_at hl 2 rfl) ?_
    refine lv_iload_n hx hb (show decode prog_33_method_40_code 33 = .ok (.iload_n 3, 1) by decide +kernel) rfl (lv_at hl 0 rfl) ?_
    refine lv_null hx hb (show decode prog_33_method_40_code 34 = .ok (.aconst_null, 1) by decide +kernel) ?_
    refine va_astqN hx hb hK hP hD hS q1 t0 (set_at h1) ht (i := nI j) (vp_in_nI (by omega) (by omega)) (show decode prog_33_method_40_code 35 = .ok (.aastore, 1) by decide +kernel) (fun H1 locs1 hP1 hD1 hS1 => ?_)
    rw [List.set_set] at hP1 hD1
    refine lv_iinc hx hb (show decode prog_33_method_40_code 36 = .ok (.iinc 3 1, 3) by decide +kernel) hl (k := 0) rfl (v := nI (j + 1)) (nI_1 j) (by decide) rfl (fun ls hl => ?_)
    refine lv_goto hx hb (show decode prog_33_method_40_code 39 = .ok (.goto (-12), 3) by decide +kernel) (tgt := 27) rfl ?_
    exact ih (j + 1) H1 locs1 _ ls (by omega) hP1 hD1 hS1 hl
theorem met_clr {ws : va_W} {tys : List (ClassId × FieldType)} {H : Heap} {q0 a bb n : Nat} {m9 : Int32} {f : Nat → Option Nat} {qb : Option Nat} (h0 : ws[q0]? = some (a, lsE m9 (.ref bb) n)) (hB : BK G ws tys bb n qb f) (hn : n ≤ 100000) (hE : ELm G ws tys n f) : Met lc y_clr (Cond.code y_clr prog_33_method_40_code 4 none :: tb) { frames := 1, cells := 0, slots := 0, locals := 40 } (va_Pc [.ref a] (PW D G A ws tys H)) (va_Qv (fun (u : va_W × List (ClassId × FieldType)) => ∃ f9, LST G u.1 u.2 q0 a 0 qb f9 ∧ (∀ (q : Nat) (x : Nat × va_E), q ≠ q0 → qb ≠ some q → ws[q]? = some x → u.1[q]? = some x) ∧ u.2 = tys) (QW D A) A) 0 0 A := by
  refine Met.ofW (cc := prog_33_method_40_code) (maxL := 4) (ret := none) (by decide +kernel) rfl ?_
  intro p e s m args below meth c s₁ B hml hv
  obtain ⟨rfl, hh, hP, hK, hD, hxf, hWn, hA⟩ := hv
  subst hh
  have hx := B.exec
  have hb := B.bytes
  have hr := B.returns
  have hts := atoms_spec (ws := Cond.code y_clr prog_33_method_40_code 4 none :: tb) B.pre
  have hts2 : ∀ w ∈ tb, w.before _ s = true := fun w hw => hts w (List.mem_cons_of_mem _ hw)
  have hown : s.vm.findClass "java/util/ArrayList" = some m.cls := findClass_of_methodNamed B.named
  have hlocks := B.notSynchronized
  have hS0 : va_S A s.heap s.heap [] := va_S.rf
  have hS5 : CallFix p m c prog_33_method_40_code 4 s _ tb "java/util/ArrayList" := ⟨hx, hb, hml, hown, hts2⟩
  have hl := lv_entry ([.ref a]) (n := 4) (Nat.le_of_ble_eq_true rfl)
  rw [lg_entry_eq]
  generalize (lg_sl ([.ref a]) ++ List.replicate (4 - (lg_sl ([.ref a])).length) Slot.unset).toArray = ls at hl ⊢
  have hl : lv_has ls 4 [(0, .ref a)] := hl
  refine lv_aload_n hx hb (show decode prog_33_method_40_code 0 = .ok (.aload_n 0, 1) by decide +kernel) rfl (lv_at hl 0 rfl) ?_
  refine lv_dup hx hb (show decode prog_33_method_40_code 1 = .ok (.dup, 1) by decide +kernel) rfl ?_
  refine va_get (C := RAL) (T := TJx4a65c) (N := 3) hx hb hts2 al_in hown hK hP q0 h0 al_at 0 (by decide) (hts2 _ al_f63) (fun x h => u_same (hts2 _ al_sm) x h) rfl (show decode prog_33_method_40_code 2 = .ok (.getfield 63, 3) by decide +kernel) ?_
  refine lv_iconst hx hb (v := nI 1) (show decode prog_33_method_40_code 5 = .ok (.iconst 1, 1) by decide +kernel) (by decide +kernel) ?_
  refine lv_iadd hx hb (show decode prog_33_method_40_code 6 = .ok (.iadd, 1) by decide +kernel) ?_
  refine lv_topi (fun z1 hz1 => ?_)
  have hz1 : z1 = m9 + nI 1 := hz1.trans (rfl)
  subst hz1
  refine va_put (C := RAL) (T := TJx4a65c) (N := 3) (ty := tyJx4a65c 0) hx hb hts2 al_in tyJx4a65c tyJx4a65c_ok nmJx4a65c hown hK hP hD hS0 q0 h0 al_at 0 (by decide) (hts2 _ al_f63) (fun x h => u_same (hts2 _ al_sm) x h) rfl rfl rfl rfl (Nat.le_of_ble_eq_true rfl) (show decode prog_33_method_40_code 7 = .ok (.putfield 63, 3) by decide +kernel) (fun H2 locs2 hP2 hD2 hS2 => ?_)
  obtain ⟨w1, hw1⟩ : ∃ w, w = ws.set q0 (a, lsE (m9 + nI 1) (.ref bb) n) := ⟨_, rfl⟩
  have hPw : va_P D vwCl w1 H2 := by rw [hw1]; exact hP2
  have hDw : va_D A w1 := by rw [hw1]; exact hD2
  have g0 : w1[q0]? = some (a, lsE (m9 + nI 1) (.ref bb) n) := by rw [hw1]; exact set_at h0
  have gB : BK G w1 tys bb n qb f := by rw [hw1]; exact hB.mod h0
  have gK : KS ws w1 := by rw [hw1]; exact KS.set h0 rfl
  have gE : ELm G w1 tys n f := hE.keep gK keepT.rf
  have gW : ∀ (q : Nat) (x : Nat × va_E), q ≠ q0 → ws[q]? = some x → w1[q]? = some x := fun q x e h => by rw [hw1]; exact set_ne (Ne.symm e) h
  have gL : w1.length = ws.length := by rw [hw1]; exact List.length_set
  refine lv_aload_n hx hb (show decode prog_33_method_40_code 10 = .ok (.aload_n 0, 1) by decide +kernel) rfl (lv_at hl 0 rfl) ?_
  refine va_get (C := RAL) (T := TJx4a65c) (N := 3) hx hb hts2 al_in hown hK hPw q0 g0 al_at 1 (by decide) (hts2 _ al_f9) (fun _ h => h) rfl (show decode prog_33_method_40_code 11 = .ok (.getfield 9, 3) by decide +kernel) ?_
  refine lv_astore_n hx hb (show decode prog_33_method_40_code 14 = .ok (.astore_n 1, 1) by decide +kernel) rfl hl (by decide) rfl (fun ls hl => ?_)
  refine lv_aload_n hx hb (show decode prog_33_method_40_code 15 = .ok (.aload_n 0, 1) by decide +kernel) rfl (lv_at hl 1 rfl) ?_
  refine va_get (C := RAL) (T := TJx4a65c) (N := 3) hx hb hts2 al_in hown hK hPw q0 g0 al_at 2 (by decide) (hts2 _ al_f48) (fun _ h => h) rfl (show decode prog_33_method_40_code 16 = .ok (.getfield 48, 3) by decide +kernel) ?_
  refine lv_istore_n hx hb (show decode prog_33_method_40_code 19 = .ok (.istore_n 2, 1) by decide +kernel) rfl hl (by decide) rfl (fun ls hl => ?_)
  refine lv_aload_n hx hb (show decode prog_33_method_40_code 20 = .ok (.aload_n 0, 1) by decide +kernel) rfl (lv_at hl 2 rfl) ?_
  refine lv_iconst hx hb (v := nI 0) (show decode prog_33_method_40_code 21 = .ok (.iconst 0, 1) by decide +kernel) (by decide +kernel) ?_
  refine lv_dup_x1 hx hb (show decode prog_33_method_40_code 22 = .ok (.dup_x1, 1) by decide +kernel) rfl rfl ?_
  refine va_put (C := RAL) (T := TJx4a65c) (N := 3) (ty := tyJx4a65c 2) hx hb hts2 al_in tyJx4a65c tyJx4a65c_ok nmJx4a65c hown hK hPw hDw hS2 q0 g0 al_at 2 (by decide) (hts2 _ al_f48) (fun _ h => h) rfl rfl rfl rfl (Nat.le_of_ble_eq_true rfl) (show decode prog_33_method_40_code 23 = .ok (.putfield 48, 3) by decide +kernel) (fun H3 locs3 hP3 hD3 hS3 => ?_)
  refine lv_istore_n hx hb (show decode prog_33_method_40_code 26 = .ok (.istore_n 3, 1) by decide +kernel) rfl hl (by decide) rfl (fun ls hl => ?_)
  rcases gB with ⟨rfl, hn0, rfl⟩ | ⟨q1, t0, cap, cA, rfl, ht, h1, hnc, h10, hcap⟩
  · refine lv_iload_n hx hb (show decode prog_33_method_40_code 27 = .ok (.iload_n 3, 1) by decide +kernel) rfl (lv_at hl 0 rfl) ?_
    refine lv_iload_n hx hb (show decode prog_33_method_40_code 28 = .ok (.iload_n 2, 1) by decide +kernel) rfl (lv_at hl 1 rfl) ?_
    refine lv_icmp_ge hx hb (show decode prog_33_method_40_code 29 = .ok (.if_icmp .ge 13, 3) by decide +kernel) (tgt := 42) rfl (fun _ => ?_) (fun h => absurd (nI_le (by omega) (by omega)) h)
    exact W.vret hx hb hr (fun t ht9 hW => ⟨⟨(_, _), rfl, ⟨f, ⟨m9 + nI 1, _, set_at g0, Or.inl ⟨rfl, rfl, rfl⟩⟩, fun q x h1 h2 h3 => set_ne (Ne.symm h1) (gW q x h1 h3), rfl⟩, by rw [ht9]; exact hP3, hK.moved hW.alike, hD3⟩, hS3.F ht9⟩) hS3.2.2 (show decode prog_33_method_40_code 42 = .ok (.return_, 1) by decide +kernel) hlocks
  · have hne : q1 ≠ q0 := fun e => (ls_ne g0 h1) e.symm
    have e1 := set_ne (y := (a, lsE (m9 + nI 1) (.ref bb) 0)) (Ne.symm hne) h1
    have hset : (w1.set q0 (a, lsE (m9 + nI 1) (.ref bb) 0)).set q1 (bb, rfA cA cap f) = w1.set q0 (a, lsE (m9 + nI 1) (.ref bb) 0) := set_same e1
    refine clr_loop hx hb hK ht e1 hnc hcap (a := a) (A9 := A) (H0 := s.heap) (fun H9 locs9 ls f9 hP9 hD9 hS9 => ?_) n 0 _ _ f ls (by omega) (by rw [hset]; exact hP3) (by rw [hset]; exact hD3) hS3 (lv_sub hl [0, 3, 2, 1] rfl)
    exact W.vret hx hb hr (fun t ht9 hW => ⟨⟨(_, _), rfl, ⟨f9, ⟨m9 + nI 1, bb, set_ne hne (set_at g0), Or.inr ⟨q1, t0, cap, cA, rfl, ht, set_at e1, by omega, h10, hcap⟩⟩, fun q x h1 h2 h3 => set_ne (fun e => h2 (by rw [e])) (set_ne (Ne.symm h1) (gW q x h1 h3)), rfl⟩, by rw [ht9]; exact hP9, hK.moved hW.alike, hD9⟩, hS9.F ht9⟩) hS9.2.2 (show decode prog_33_method_40_code 42 = .ok (.return_, 1) by decide +kernel) hlocks
end SIMQ6
