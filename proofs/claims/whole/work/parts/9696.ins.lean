section SIMQ4
variable {D : va_G} {G : xG} {A : Nat → Prop} {mid d : Nat} {p : Program} {lc : Launch} {e : Env} {R : Room} {s : State} {m : MethodId} {args : Array Value} {below : List Frame} {meth : Method} {c : Code} {Z : State → Prop} {ad0 : sA} {b0 : Nat × Nat} {pc : Nat} {l : aL} {st r : List aV} {σ : aM}
abbrev y_rca : MethodName := ⟨"java/util/ArrayList", "rangeCheckForAdd", "(I)V"⟩
set_option maxRecDepth 100000 in
theorem ok_rcaC : Cond.code y_rca prog_33_method_45_code 2 none ∈ tb := tbm 765 ⟨rfl, rfl⟩
abbrev y_adi : MethodName := ⟨"java/util/ArrayList", "add", "(ILjava/lang/Object;)V"⟩
set_option maxRecDepth 100000 in
theorem ok_adiC : Cond.code y_adi prog_33_method_26_code 5 none ∈ tb := tbm 761 ⟨rfl, rfl⟩
abbrev y_fre : MethodName := ⟨"java/util/ArrayList", "fastRemove", "([Ljava/lang/Object;I)V"⟩
set_option maxRecDepth 100000 in
theorem ok_freC : Cond.code y_fre prog_33_method_39_code 4 none ∈ tb := tbm 965 ⟨rfl, rfl⟩
abbrev y_rem : MethodName := ⟨"java/util/ArrayList", "remove", "(I)Ljava/lang/Object;"⟩
set_option maxRecDepth 100000 in
theorem ok_remC : Cond.code y_rem prog_33_method_29_code 4 (some (.object "java/lang/Object")) ∈ tb := tbm 961 ⟨rfl, rfl⟩
abbrev y_abc : MethodName := ⟨"java/util/AbstractCollection", "<init>", "()V"⟩
set_option maxRecDepth 100000 in
theorem ok_abcC : Cond.code y_abc prog_31_method_1_code 1 none ∈ tb := tbm 49 ⟨rfl, rfl⟩
abbrev y_abl : MethodName := ⟨"java/util/AbstractList", "<init>", "()V"⟩
set_option maxRecDepth 100000 in
theorem ok_ablC : Cond.code y_abl prog_32_method_1_code 1 none ∈ tb := tbm 46 ⟨rfl, rfl⟩
abbrev y_ali : MethodName := ⟨"java/util/ArrayList", "<init>", "()V"⟩
set_option maxRecDepth 100000 in
theorem ok_aliC : Cond.code y_ali prog_33_method_2_code 1 none ∈ tb := tbm 43 ⟨rfl, rfl⟩
theorem met_rca {ws : va_W} {tys : List (ClassId × FieldType)} {H : Heap} {q0 a bb n k : Nat} {m9 : Int32} (h0 : ws[q0]? = some (a, lsE m9 (.ref bb) n)) (hn : n ≤ 40000) (hk : k ≤ n) : Met lc y_rca (Cond.code y_rca prog_33_method_45_code 2 none :: tb) { frames := 1, cells := 0, slots := 0, locals := 20 } (va_Pc [.ref a, .int (nI k)] (PW D G A ws tys H)) (va_Qv (fun (_ : Unit) => True) (fun _ t => t.heap = H) A) 0 0 A := by
  refine Met.ofW (cc := prog_33_method_45_code) (maxL := 2) (ret := none) (by decide +kernel) rfl ?_
  intro p e s m args below meth c s₁ B hml hv
  obtain ⟨rfl, hh, hP, hK, hD, hxf, hWn, hA⟩ := hv
  subst hh
  have hx := B.exec
  have hb := B.bytes
  have hr := B.returns
  have hts := atoms_spec (ws := Cond.code y_rca prog_33_method_45_code 2 none :: tb) B.pre
  have hts2 : ∀ w ∈ tb, w.before _ s = true := fun w hw => hts w (List.mem_cons_of_mem _ hw)
  have hown : s.vm.findClass "java/util/ArrayList" = some m.cls := findClass_of_methodNamed B.named
  have hlocks := B.notSynchronized
  have hS0 : va_S A s.heap s.heap [] := va_S.rf
  have hS5 : CallFix p m c prog_33_method_45_code 2 s _ tb "java/util/ArrayList" := ⟨hx, hb, hml, hown, hts2⟩
  have hl := lv_entry ([.ref a, .int (nI k)]) (n := 2) (Nat.le_of_ble_eq_true rfl)
  rw [lg_entry_eq]
  generalize (lg_sl ([.ref a, .int (nI k)]) ++ List.replicate (2 - (lg_sl ([.ref a, .int (nI k)])).length) Slot.unset).toArray = ls at hl ⊢
  have hl : lv_has ls 2 [(0, .ref a), (1, .int (nI k))] := hl
  refine lv_iload_n hx hb (show decode prog_33_method_45_code 0 = .ok (.iload_n 1, 1) by decide +kernel) rfl (lv_at hl 1 rfl) ?_
  refine lv_aload_n hx hb (show decode prog_33_method_45_code 1 = .ok (.aload_n 0, 1) by decide +kernel) rfl (lv_at hl 0 rfl) ?_
  refine va_get (C := RAL) (T := TJx4a65c) (N := 3) hx hb hts2 al_in hown hK hP q0 h0 al_at 2 (by decide) (hts2 _ al_f48) (fun _ h => h) rfl (show decode prog_33_method_45_code 2 = .ok (.getfield 48, 3) by decide +kernel) ?_
  refine lv_icmp_gt hx hb (show decode prog_33_method_45_code 5 = .ok (.if_icmp .gt 7, 3) by decide +kernel) (tgt := 12) rfl (fun h => absurd h (nI_nlt hk (by omega))) (fun hbr => ?_)
  refine lv_iload_n hx hb (show decode prog_33_method_45_code 8 = .ok (.iload_n 1, 1) by decide +kernel) rfl (lv_at hl 1 rfl) ?_
  refine lv_if_ge hx hb (show decode prog_33_method_45_code 9 = .ok (.ifCond .ge 16, 3) by decide +kernel) (tgt := 25) rfl (fun hbr => ?_) (fun h => absurd (Int32.not_lt.mp (nI_pos (by omega))) h)
  exact W.vret hx hb hr (fun t ht hW => ⟨⟨(), rfl, trivial, ht⟩, hS0.F ht⟩) hS0.2.2 (show decode prog_33_method_45_code 25 = .ok (.return_, 1) by decide +kernel) hlocks
theorem met_adiN {ws : va_W} {tys : List (ClassId × FieldType)} {H : Heap} {q0 a bb n : Nat} {m9 : Int32} {f : Nat → Option Nat} {qb : Option Nat} (h0 : ws[q0]? = some (a, lsE m9 (.ref bb) n)) (hB : BK G ws tys bb n qb f) (hn : n ≤ 40000) (hE : ELm G ws tys n f) {k : Nat} (hk : k ≤ n) : Met lc y_adi (Cond.code y_adi prog_33_method_26_code 5 none :: tb) { frames := 6, cells := 1, slots := (n + n / 2 + 10), locals := 330 } (va_Pc [.ref a, .int (nI k), .null] (PW D G A ws tys H)) (va_Qv (fun (u : va_W × List (ClassId × FieldType)) => ADQ G ws tys q0 a (n + 1) qb (fun j => if j < k then f j else if j = k then none else f (j - 1)) u) (QW D A) A) 1 (n + n / 2 + 10) A := by
  refine Met.ofW (cc := prog_33_method_26_code) (maxL := 5) (ret := none) (by decide +kernel) rfl ?_
  intro p e s m args below meth c s₁ B hml hv
  obtain ⟨rfl, hh, hP, hK, hD, hxf, hWn, hA⟩ := hv
  subst hh
  have hx := B.exec
  have hb := B.bytes
  have hr := B.returns
  have hts := atoms_spec (ws := Cond.code y_adi prog_33_method_26_code 5 none :: tb) B.pre
  have hts2 : ∀ w ∈ tb, w.before _ s = true := fun w hw => hts w (List.mem_cons_of_mem _ hw)
  have hown : s.vm.findClass "java/util/ArrayList" = some m.cls := findClass_of_methodNamed B.named
  have hlocks := B.notSynchronized
  have hS0 : va_S A s.heap s.heap [] := va_S.rf
  have hS5 : CallFix p m c prog_33_method_26_code 5 s _ tb "java/util/ArrayList" := ⟨hx, hb, hml, hown, hts2⟩
  have hl := lv_entry ([.ref a, .int (nI k), .null]) (n := 5) (Nat.le_of_ble_eq_true rfl)
  rw [lg_entry_eq]
  generalize (lg_sl ([.ref a, .int (nI k), .null]) ++ List.replicate (5 - (lg_sl ([.ref a, .int (nI k), .null])).length) Slot.unset).toArray = ls at hl ⊢
  have hl : lv_has ls 5 [(0, .ref a), (1, .int (nI k)), (2, .null)] := hl
  refine lv_aload_n hx hb (show decode prog_33_method_26_code 0 = .ok (.aload_n 0, 1) by decide +kernel) rfl (lv_at hl 0 rfl) ?_
  refine lv_iload_n hx hb (show decode prog_33_method_26_code 1 = .ok (.iload_n 1, 1) by decide +kernel) rfl (lv_at hl 1 rfl) ?_
  have hcw1 := cwV (R := { frames := 6, cells := 1, slots := (n + n / 2 + 10), locals := 330 }) (rm := { frames := 1, cells := 0, slots := 0, locals := 20 }) 1 hts2 (goodIn_app (a := [_, _, _, _]) (fun w hw => by
        simp only [List.mem_cons, List.not_mem_nil, or_false] at hw
        rcases hw with rfl | rfl | rfl | rfl
        · exact goodIn_1 (tbm 762 (by decide +kernel)) _ (List.mem_singleton.mpr rfl)
        · exact goodIn_1 (tbm 764 (by decide +kernel)) _ (List.mem_singleton.mpr rfl)
        · exact goodIn_1 (tbs (y := y_rca) (n := 3) 27 (by decide +kernel)) _ (List.mem_singleton.mpr rfl)
        · exact goodIn_1 (tbm 4 (by decide +kernel)) _ (List.mem_singleton.mpr rfl)) (goodIn_tb ok_rcaC) : GoodIn tb (wsV "java/util/ArrayList" 135 "java/util/ArrayList" y_rca (Cond.code y_rca prog_33_method_45_code 2 none :: tb))) rfl rfl rfl ⟨rfl, by decide +kernel⟩ ⟨Nat.le_of_ble_eq_true rfl, Nat.le_of_ble_eq_true rfl⟩
  refine va_callv (va_runV (As := [.int (nI k)]) (b := a) hS5 (met_rca (A := A) (D := D) (G := G) (H := s.heap) h0 hn hk) hcw1 ⟨PW_blind, (va_recv hK hP al_at h0), fun U hU hW => ⟨rfl, hU, hP, hK.moved hW.alike, hD, hxf.on hW.alike hS0, tbn_w hW hWn, fun q hq => hA q (Nat.le_trans hS0.1 hq)⟩⟩ rfl rfl hl.1 rfl (lv_room (Nat.le_of_ble_eq_true rfl)) (show decode prog_33_method_26_code 2 = .ok (.invokevirtual 135, 3) by decide +kernel) ⟨Nat.le_of_ble_eq_true rfl, by show 0 + 0 ≤ n + n / 2 + 10; omega⟩) hS0 (fun _ _ h => h) (fun _ h => h) (fun u1 t1 H1 locs1 ht1 hvm1 hw1 hB1 _ _ hS1 => ?_)
  have hB1 : t1.heap = s.heap := hB1
  rw [ht1] at hB1
  subst hB1
  refine lv_aload_n hx hb (show decode prog_33_method_26_code 5 = .ok (.aload_n 0, 1) by decide +kernel) rfl (lv_at hl 0 rfl) ?_
  refine lv_dup hx hb (show decode prog_33_method_26_code 6 = .ok (.dup, 1) by decide +kernel) rfl ?_
  refine va_get (C := RAL) (T := TJx4a65c) (N := 3) hx hb hts2 al_in hown hK hP q0 h0 al_at 0 (by decide) (hts2 _ al_f63) (fun x h => u_same (hts2 _ al_sm) x h) rfl (show decode prog_33_method_26_code 7 = .ok (.getfield 63, 3) by decide +kernel) ?_
  refine lv_iconst hx hb (v := nI 1) (show decode prog_33_method_26_code 10 = .ok (.iconst 1, 1) by decide +kernel) (by decide +kernel) ?_
  refine lv_iadd hx hb (show decode prog_33_method_26_code 11 = .ok (.iadd, 1) by decide +kernel) ?_
  refine lv_topi (fun z2 hz2 => ?_)
  have hz2 : z2 = m9 + nI 1 := hz2.trans (rfl)
  subst hz2
  refine va_put (C := RAL) (T := TJx4a65c) (N := 3) (ty := tyJx4a65c 0) hx hb hts2 al_in tyJx4a65c tyJx4a65c_ok nmJx4a65c hown hK hP hD hS1 q0 h0 al_at 0 (by decide) (hts2 _ al_f63) (fun x h => u_same (hts2 _ al_sm) x h) rfl rfl rfl rfl (Nat.le_of_ble_eq_true rfl) (show decode prog_33_method_26_code 12 = .ok (.putfield 63, 3) by decide +kernel) (fun H3 locs3 hP3 hD3 hS3 => ?_)
  obtain ⟨w1, hw1⟩ : ∃ w, w = ws.set q0 (a, lsE (m9 + nI 1) (.ref bb) n) := ⟨_, rfl⟩
  have hPw : va_P D vwCl w1 H3 := by rw [hw1]; exact hP3
  have hDw : va_D A w1 := by rw [hw1]; exact hD3
  have g0 : w1[q0]? = some (a, lsE (m9 + nI 1) (.ref bb) n) := by rw [hw1]; exact set_at h0
  have gB : BK G w1 tys bb n qb f := by rw [hw1]; exact hB.mod h0
  have gK : KS ws w1 := by rw [hw1]; exact KS.set h0 rfl
  have gE : ELm G w1 tys n f := hE.keep gK keepT.rf
  have gW : ∀ (q : Nat) (x : Nat × va_E), q ≠ q0 → ws[q]? = some x → w1[q]? = some x := fun q x e h => by rw [hw1]; exact set_ne (Ne.symm e) h
  have gL : w1.length = ws.length := by rw [hw1]; exact List.length_set
  refine lv_aload_n hx hb (show decode prog_33_method_26_code 15 = .ok (.aload_n 0, 1) by decide +kernel) rfl (lv_at hl 0 rfl) ?_
  refine va_get (C := RAL) (T := TJx4a65c) (N := 3) hx hb hts2 al_in hown hK hPw q0 g0 al_at 2 (by decide) (hts2 _ al_f48) (fun _ h => h) rfl (show decode prog_33_method_26_code 16 = .ok (.getfield 48, 3) by decide +kernel) ?_
  refine lv_dup hx hb (show decode prog_33_method_26_code 19 = .ok (.dup, 1) by decide +kernel) rfl ?_
  refine lv_istore_n hx hb (show decode prog_33_method_26_code 20 = .ok (.istore_n 3, 1) by decide +kernel) rfl hl (by decide) rfl (fun ls hl => ?_)
  refine lv_aload_n hx hb (show decode prog_33_method_26_code 21 = .ok (.aload_n 0, 1) by decide +kernel) rfl (lv_at hl 1 rfl) ?_
  refine va_get (C := RAL) (T := TJx4a65c) (N := 3) hx hb hts2 al_in hown hK hPw q0 g0 al_at 1 (by decide) (hts2 _ al_f9) (fun _ h => h) rfl (show decode prog_33_method_26_code 22 = .ok (.getfield 9, 3) by decide +kernel) ?_
  have gB2 := gB
  rcases gB with ⟨rfl, hn0, rfl⟩ | ⟨q1, t0, cap, cA, rfl, ht, h1, hnc, h10, hcap⟩
  · refine lv_dup hx hb (show decode prog_33_method_26_code 25 = .ok (.dup, 1) by decide +kernel) rfl ?_
    refine lv_astore hx hb (show decode prog_33_method_26_code 26 = .ok (.astore 4, 2) by decide +kernel) hl (by decide) rfl (fun ls hl => ?_)
    refine va_tlen hx hb hxf.2.2.2.1 hS3 (v := nI n) (by rw [hn0]; rfl) (show decode prog_33_method_26_code 28 = .ok (.arraylength, 1) by decide +kernel) ?_
    refine lv_icmp_ne hx hb (show decode prog_33_method_26_code 29 = .ok (.if_icmp .ne 9, 3) by decide +kernel) (tgt := 38) rfl (fun h => absurd (rfl) h) (fun hbr => ?_)
    refine lv_aload_n hx hb (show decode prog_33_method_26_code 32 = .ok (.aload_n 0, 1) by decide +kernel) rfl (lv_at hl 2 rfl) ?_
    have hcw4 := cwV (R := { frames := 6, cells := 1, slots := (n + n / 2 + 10), locals := 330 }) (rm := { frames := 5, cells := 1, slots := (n + n / 2 + 10), locals := 260 }) 0 hts2 (goodIn_app (a := [_, _, _, _]) (fun w hw => by
          simp only [List.mem_cons, List.not_mem_nil, or_false] at hw
          rcases hw with rfl | rfl | rfl | rfl
          · exact goodIn_1 (tbm 184 (by decide +kernel)) _ (List.mem_singleton.mpr rfl)
          · exact goodIn_1 (tbm 186 (by decide +kernel)) _ (List.mem_singleton.mpr rfl)
          · exact goodIn_1 (tbs (y := y_gr0) (n := 3) 1 (by decide +kernel)) _ (List.mem_singleton.mpr rfl)
          · exact goodIn_1 (tbm 4 (by decide +kernel)) _ (List.mem_singleton.mpr rfl)) (goodIn_tb ok_gr0C) : GoodIn tb (wsV "java/util/ArrayList" 129 "java/util/ArrayList" y_gr0 (Cond.code y_gr0 prog_33_method_7_code 1 (some (.array (.object "java/lang/Object"))) :: tb))) rfl rfl rfl ⟨rfl, by decide +kernel⟩ ⟨Nat.le_of_ble_eq_true rfl, Nat.le_of_ble_eq_true rfl⟩
    refine va_callq (va_runV (As := []) (b := a) hS5 (met_gr0 (A := A) (D := D) (G := G) (H := H3) g0 (Or.inl ⟨rfl, hn0⟩) hn gE) hcw4 ⟨PW_blind, (va_recv hK hPw al_at g0), fun U hU hW => ⟨rfl, hU, hPw, hK.moved hW.alike, hDw, hxf.on hW.alike hS3, tbn_w hW hWn, fun q hq => hA q (Nat.le_trans hS3.1 hq)⟩⟩ rfl rfl hl.1 rfl (lv_room (Nat.le_of_ble_eq_true rfl)) (show decode prog_33_method_26_code 33 = .ok (.invokevirtual 129, 3) by decide +kernel) ⟨Nat.le_of_ble_eq_true rfl, by show 0 + 0 + (n + n / 2 + 10) ≤ n + n / 2 + 10; omega⟩) hS3 (fun _ _ h => h) (fun _ h => h) (fun r4 u4 t4 H4 locs4 ht4 hvm4 hw4 hB4 _ _ hS4 => ?_)
    obtain ⟨hP4, hK4, hD4⟩ := hB4
    rw [ht4] at hP4
    have hK4 := hK4.moved hvm4.symm
    obtain ⟨q, cap9, cB, f9, rfl, k0, k1, k2, c1, c2, c3, k3, k4, k5, k6⟩ := hw4
    have hne : w1.length ≠ q0 := by have := at_lt g0; omega
    refine lv_astore hx hb (show decode prog_33_method_26_code 36 = .ok (.astore 4, 2) by decide +kernel) hl (by decide) rfl (fun ls hl => ?_)
    refine lv_aload hx hb (show decode prog_33_method_26_code 38 = .ok (.aload 4, 2) by decide +kernel) (lv_at hl 0 rfl) ?_
    refine lv_iload_n hx hb (show decode prog_33_method_26_code 40 = .ok (.iload_n 1, 1) by decide +kernel) rfl (lv_at hl 3 rfl) ?_
    refine lv_aload hx hb (show decode prog_33_method_26_code 41 = .ok (.aload 4, 2) by decide +kernel) (lv_at hl 0 rfl) ?_
    refine lv_iload_n hx hb (show decode prog_33_method_26_code 43 = .ok (.iload_n 1, 1) by decide +kernel) rfl (lv_at hl 3 rfl) ?_
    refine lv_iconst hx hb (v := nI 1) (show decode prog_33_method_26_code 44 = .ok (.iconst 1, 1) by decide +kernel) (by decide +kernel) ?_
    refine lv_iadd hx hb (show decode prog_33_method_26_code 45 = .ok (.iadd, 1) by decide +kernel) ?_
    refine lv_topi (fun z5 hz5 => ?_)
    have hz5 : z5 = nI (k + 1) := hz5.trans (nI_add k 1)
    subst hz5
    refine lv_iload_n hx hb (show decode prog_33_method_26_code 46 = .ok (.iload_n 3, 1) by decide +kernel) rfl (lv_at hl 1 rfl) ?_
    refine lv_iload_n hx hb (show decode prog_33_method_26_code 47 = .ok (.iload_n 1, 1) by decide +kernel) rfl (lv_at hl 3 rfl) ?_
    refine lv_isub hx hb (show decode prog_33_method_26_code 48 = .ok (.isub, 1) by decide +kernel) ?_
    refine lv_topi (fun z6 hz6 => ?_)
    have hz6 : z6 = nI (n - k) := hz6.trans (pk_sub (by omega))
    subst hz6
    refine va_copyM hx hb (hml.trans hl.1.symm) hown (hts2 _ (tbm 766 (by decide +kernel))) (hts2 _ (tbm 235 (by decide +kernel))) (hts2 _ (tbm 234 (by decide +kernel))) (hts2 _ (tbm 11 (by decide +kernel))) hK4 hP4 hD4 hS4 w1.length w1.length tys.length tys.length k1 k1 k2 k2 (sp := nI (k)) (dp := nI (k + 1)) (n := nI (n - k)) (nI_pos (by omega)) (nI_pos (by omega)) (nI_pos (by omega)) (by rw [nI_clamp (by omega), nI_clamp (by omega)]; omega) (by rw [nI_clamp (by omega), nI_clamp (by omega)]; omega) (fun i hi y hy => by
        rw [nI_clamp (by omega)] at hi hy
        exact ((gE (k + i) (by omega) y ((k3 _ (by omega)).symm.trans hy)).keep k6 k5).any hP4 hK4 hxf hS4 hWn) (Nat.le_of_ble_eq_true rfl) (Nat.le_of_ble_eq_true rfl) (show decode prog_33_method_26_code 49 = .ok (.invokestatic 112, 3) by decide +kernel) (fun H7 locs7 hP7 hD7 hS7 => ?_)
    simp only [nI_clamp (show k < 2 ^ 31 by omega), nI_clamp (show k + 1 < 2 ^ 31 by omega), nI_clamp (show n - k < 2 ^ 31 by omega)] at hP7 hD7
    refine lv_aload hx hb (show decode prog_33_method_26_code 52 = .ok (.aload 4, 2) by decide +kernel) (lv_at hl 0 rfl) ?_
    refine lv_iload_n hx hb (show decode prog_33_method_26_code 54 = .ok (.iload_n 1, 1) by decide +kernel) rfl (lv_at hl 3 rfl) ?_
    refine lv_aload_nN hx hb (show decode prog_33_method_26_code 55 = .ok (.aload_n 2, 1) by decide +kernel) rfl (lv_at hl 4 rfl) ?_
    refine va_astqN hx hb hK4 hP7 hD7 hS7 w1.length tys.length (set_at k1) k2 (i := nI k) (vp_in_nI (by omega) (by omega)) (show decode prog_33_method_26_code 56 = .ok (.aastore, 1) by decide +kernel) (fun H8 locs8 hP8 hD8 hS8 => ?_)
    rw [nI_clamp (by omega)] at hP8 hD8
    refine lv_aload_n hx hb (show decode prog_33_method_26_code 57 = .ok (.aload_n 0, 1) by decide +kernel) rfl (lv_at hl 2 rfl) ?_
    refine lv_iload_n hx hb (show decode prog_33_method_26_code 58 = .ok (.iload_n 3, 1) by decide +kernel) rfl (lv_at hl 1 rfl) ?_
    refine lv_iconst hx hb (v := nI 1) (show decode prog_33_method_26_code 59 = .ok (.iconst 1, 1) by decide +kernel) (by decide +kernel) ?_
    refine lv_iadd hx hb (show decode prog_33_method_26_code 60 = .ok (.iadd, 1) by decide +kernel) ?_
    refine lv_topi (fun z9 hz9 => ?_)
    have hz9 : z9 = nI (n + 1) := hz9.trans (nI_add n 1)
    subst hz9
    refine va_put (C := RAL) (T := TJx4a65c) (N := 3) (ty := tyJx4a65c 2) hx hb hts2 al_in tyJx4a65c tyJx4a65c_ok nmJx4a65c hown hK4 hP8 hD8 hS8 q0 (set_ne hne (set_ne hne k0)) al_at 2 (by decide) (hts2 _ al_f48) (fun _ h => h) rfl rfl rfl rfl (Nat.le_of_ble_eq_true rfl) (show decode prog_33_method_26_code 61 = .ok (.putfield 48, 3) by decide +kernel) (fun H10 locs10 hP10 hD10 hS10 => ?_)
    refine W.widen (k := 1) (n := n + n / 2 + 10) (Nat.le_of_ble_eq_true rfl) (by show 0 + 0 + (n + n / 2 + 10) ≤ n + n / 2 + 10; omega) ?_
    exact W.vret hx hb hr (fun t ht9 hW => ⟨⟨(_, _), rfl, ⟨w1.length, va_up (va_cpy f9 f9 k (k + 1) (n - k)) k none, ⟨m9 + nI 1, q, set_at (set_ne hne (set_ne hne k0)), Or.inr ⟨w1.length, tys.length, cap9, cB, rfl, k2, set_ne (Ne.symm hne) (set_at (set_at k1)), by omega, c2, c3⟩⟩, fun j hj => by
        show (if j = k then _ else va_cpy f9 f9 k (k + 1) (n - k) j) = if j < k then f j else if j = k then _ else f (j - 1)
        by_cases c : j = k
        · rw [if_pos c, if_neg (by omega), if_pos c]
        · rw [if_neg c]
          by_cases c2 : j < k
          · rw [if_pos c2, pk_cpy_out (Or.inl (by omega))]; exact k3 j (by omega)
          · rw [if_neg c2, if_neg c, pk_cpy_in (by omega) (by omega), show k + (j - (k + 1)) = j - 1 by omega]; exact k3 (j - 1) (by omega), fun q x a b h => set_ne (Ne.symm a) (set_ne (Ne.symm b) (set_ne (Ne.symm b) (k4 q x a (gW q x a h)))), Or.inr (by omega), k5⟩, by rw [ht9]; exact hP10, hK4.moved hW.alike, hD10⟩, hS10.F ht9⟩) hS10.2.2 (show decode prog_33_method_26_code 64 = .ok (.return_, 1) by decide +kernel) hlocks
  · rcases Nat.lt_or_ge n cap with hlt | hge
    · refine lv_dup hx hb (show decode prog_33_method_26_code 25 = .ok (.dup, 1) by decide +kernel) rfl ?_
      refine lv_astore hx hb (show decode prog_33_method_26_code 26 = .ok (.astore 4, 2) by decide +kernel) hl (by decide) rfl (fun ls hl => ?_)
      refine va_alen hx hb hK hPw q1 t0 h1 ht (v := nI cap) rfl (show decode prog_33_method_26_code 28 = .ok (.arraylength, 1) by decide +kernel) ?_
      refine lv_icmp_ne hx hb (show decode prog_33_method_26_code 29 = .ok (.if_icmp .ne 9, 3) by decide +kernel) (tgt := 38) rfl (fun hbr => ?_) (fun h => absurd h (fun e => absurd ((nI_eq (by omega) (by omega)).mp e) (by omega)))
      have hne : q1 ≠ q0 := fun e => (ls_ne g0 h1) e.symm
      refine lv_aload hx hb (show decode prog_33_method_26_code 38 = .ok (.aload 4, 2) by decide +kernel) (lv_at hl 0 rfl) ?_
      refine lv_iload_n hx hb (show decode prog_33_method_26_code 40 = .ok (.iload_n 1, 1) by decide +kernel) rfl (lv_at hl 3 rfl) ?_
      refine lv_aload hx hb (show decode prog_33_method_26_code 41 = .ok (.aload 4, 2) by decide +kernel) (lv_at hl 0 rfl) ?_
      refine lv_iload_n hx hb (show decode prog_33_method_26_code 43 = .ok (.iload_n 1, 1) by decide +kernel) rfl (lv_at hl 3 rfl) ?_
      refine lv_iconst hx hb (v := nI 1) (show decode prog_33_method_26_code 44 = .ok (.iconst 1, 1) by decide +kernel) (by decide +kernel) ?_
      refine lv_iadd hx hb (show decode prog_33_method_26_code 45 = .ok (.iadd, 1) by decide +kernel) ?_
      refine lv_topi (fun z4 hz4 => ?_)
      have hz4 : z4 = nI (k + 1) := hz4.trans (nI_add k 1)
      subst hz4
      refine lv_iload_n hx hb (show decode prog_33_method_26_code 46 = .ok (.iload_n 3, 1) by decide +kernel) rfl (lv_at hl 1 rfl) ?_
      refine lv_iload_n hx hb (show decode prog_33_method_26_code 47 = .ok (.iload_n 1, 1) by decide +kernel) rfl (lv_at hl 3 rfl) ?_
      refine lv_isub hx hb (show decode prog_33_method_26_code 48 = .ok (.isub, 1) by decide +kernel) ?_
      refine lv_topi (fun z5 hz5 => ?_)
      have hz5 : z5 = nI (n - k) := hz5.trans (pk_sub (by omega))
      subst hz5
      refine va_copyM hx hb (hml.trans hl.1.symm) hown (hts2 _ (tbm 766 (by decide +kernel))) (hts2 _ (tbm 235 (by decide +kernel))) (hts2 _ (tbm 234 (by decide +kernel))) (hts2 _ (tbm 11 (by decide +kernel))) hK hPw hDw hS3 q1 q1 t0 t0 h1 h1 ht ht (sp := nI (k)) (dp := nI (k + 1)) (n := nI (n - k)) (nI_pos (by omega)) (nI_pos (by omega)) (nI_pos (by omega)) (by rw [nI_clamp (by omega), nI_clamp (by omega)]; omega) (by rw [nI_clamp (by omega), nI_clamp (by omega)]; omega) (fun i hi y hy => by
          rw [nI_clamp (by omega)] at hi hy
          exact ((gE (k + i) (by omega) y (hy)).keep KS.rf keepT.rf).any hPw hK hxf hS3 hWn) (Nat.le_of_ble_eq_true rfl) (Nat.le_of_ble_eq_true rfl) (show decode prog_33_method_26_code 49 = .ok (.invokestatic 112, 3) by decide +kernel) (fun H6 locs6 hP6 hD6 hS6 => ?_)
      simp only [nI_clamp (show k < 2 ^ 31 by omega), nI_clamp (show k + 1 < 2 ^ 31 by omega), nI_clamp (show n - k < 2 ^ 31 by omega)] at hP6 hD6
      refine lv_aload hx hb (show decode prog_33_method_26_code 52 = .ok (.aload 4, 2) by decide +kernel) (lv_at hl 0 rfl) ?_
      refine lv_iload_n hx hb (show decode prog_33_method_26_code 54 = .ok (.iload_n 1, 1) by decide +kernel) rfl (lv_at hl 3 rfl) ?_
      refine lv_aload_nN hx hb (show decode prog_33_method_26_code 55 = .ok (.aload_n 2, 1) by decide +kernel) rfl (lv_at hl 4 rfl) ?_
      refine va_astqN hx hb hK hP6 hD6 hS6 q1 t0 (set_at h1) ht (i := nI k) (vp_in_nI (by omega) (by omega)) (show decode prog_33_method_26_code 56 = .ok (.aastore, 1) by decide +kernel) (fun H7 locs7 hP7 hD7 hS7 => ?_)
      rw [nI_clamp (by omega)] at hP7 hD7
      refine lv_aload_n hx hb (show decode prog_33_method_26_code 57 = .ok (.aload_n 0, 1) by decide +kernel) rfl (lv_at hl 2 rfl) ?_
      refine lv_iload_n hx hb (show decode prog_33_method_26_code 58 = .ok (.iload_n 3, 1) by decide +kernel) rfl (lv_at hl 1 rfl) ?_
      refine lv_iconst hx hb (v := nI 1) (show decode prog_33_method_26_code 59 = .ok (.iconst 1, 1) by decide +kernel) (by decide +kernel) ?_
      refine lv_iadd hx hb (show decode prog_33_method_26_code 60 = .ok (.iadd, 1) by decide +kernel) ?_
      refine lv_topi (fun z8 hz8 => ?_)
      have hz8 : z8 = nI (n + 1) := hz8.trans (nI_add n 1)
      subst hz8
      refine va_put (C := RAL) (T := TJx4a65c) (N := 3) (ty := tyJx4a65c 2) hx hb hts2 al_in tyJx4a65c tyJx4a65c_ok nmJx4a65c hown hK hP7 hD7 hS7 q0 (set_ne hne (set_ne hne g0)) al_at 2 (by decide) (hts2 _ al_f48) (fun _ h => h) rfl rfl rfl rfl (Nat.le_of_ble_eq_true rfl) (show decode prog_33_method_26_code 61 = .ok (.putfield 48, 3) by decide +kernel) (fun H9 locs9 hP9 hD9 hS9 => ?_)
      refine W.widen (k := 1) (n := n + n / 2 + 10) (Nat.le_of_ble_eq_true rfl) (by show 0 + 0 ≤ n + n / 2 + 10; omega) ?_
      exact W.vret hx hb hr (fun t ht9 hW => ⟨⟨(_, _), rfl, ⟨q1, va_up (va_cpy f f k (k + 1) (n - k)) k none, ⟨m9 + nI 1, bb, set_at (set_ne hne (set_ne hne g0)), Or.inr ⟨q1, t0, cap, cA, rfl, ht, set_ne (Ne.symm hne) (set_at (set_at h1)), by omega, h10, hcap⟩⟩, fun j hj => by
          show (if j = k then _ else va_cpy f f k (k + 1) (n - k) j) = if j < k then f j else if j = k then _ else f (j - 1)
          by_cases c : j = k
          · rw [if_pos c, if_neg (by omega), if_pos c]
          · rw [if_neg c]
            by_cases c2 : j < k
            · rw [if_pos c2, pk_cpy_out (Or.inl (by omega))]
            · rw [if_neg c2, if_neg c, pk_cpy_in (by omega) (by omega), show k + (j - (k + 1)) = j - 1 by omega], fun q x a b h => set_ne (Ne.symm a) (set_ne (Ne.symm b) (set_ne (Ne.symm b) (gW q x a h))), Or.inl rfl, keepT.rf⟩, by rw [ht9]; exact hP9, hK.moved hW.alike, hD9⟩, hS9.F ht9⟩) hS9.2.2 (show decode prog_33_method_26_code 64 = .ok (.return_, 1) by decide +kernel) hlocks
    · obtain rfl : n = cap := by omega
      refine lv_dup hx hb (show decode prog_33_method_26_code 25 = .ok (.dup, 1) by decide +kernel) rfl ?_
      refine lv_astore hx hb (show decode prog_33_method_26_code 26 = .ok (.astore 4, 2) by decide +kernel) hl (by decide) rfl (fun ls hl => ?_)
      refine va_alen hx hb hK hPw q1 t0 h1 ht (v := nI n) rfl (show decode prog_33_method_26_code 28 = .ok (.arraylength, 1) by decide +kernel) ?_
      refine lv_icmp_ne hx hb (show decode prog_33_method_26_code 29 = .ok (.if_icmp .ne 9, 3) by decide +kernel) (tgt := 38) rfl (fun h => absurd (rfl) h) (fun hbr => ?_)
      refine lv_aload_n hx hb (show decode prog_33_method_26_code 32 = .ok (.aload_n 0, 1) by decide +kernel) rfl (lv_at hl 2 rfl) ?_
      have hcw4 := cwV (R := { frames := 6, cells := 1, slots := (n + n / 2 + 10), locals := 330 }) (rm := { frames := 5, cells := 1, slots := (n + n / 2 + 10), locals := 260 }) 0 hts2 (goodIn_app (a := [_, _, _, _]) (fun w hw => by
            simp only [List.mem_cons, List.not_mem_nil, or_false] at hw
            rcases hw with rfl | rfl | rfl | rfl
            · exact goodIn_1 (tbm 184 (by decide +kernel)) _ (List.mem_singleton.mpr rfl)
            · exact goodIn_1 (tbm 186 (by decide +kernel)) _ (List.mem_singleton.mpr rfl)
            · exact goodIn_1 (tbs (y := y_gr0) (n := 3) 1 (by decide +kernel)) _ (List.mem_singleton.mpr rfl)
            · exact goodIn_1 (tbm 4 (by decide +kernel)) _ (List.mem_singleton.mpr rfl)) (goodIn_tb ok_gr0C) : GoodIn tb (wsV "java/util/ArrayList" 129 "java/util/ArrayList" y_gr0 (Cond.code y_gr0 prog_33_method_7_code 1 (some (.array (.object "java/lang/Object"))) :: tb))) rfl rfl rfl ⟨rfl, by decide +kernel⟩ ⟨Nat.le_of_ble_eq_true rfl, Nat.le_of_ble_eq_true rfl⟩
      refine va_callq (va_runV (As := []) (b := a) hS5 (met_gr0 (A := A) (D := D) (G := G) (H := H3) g0 (Or.inr ⟨q1, t0, cA, ht, h1, h10⟩) hn gE) hcw4 ⟨PW_blind, (va_recv hK hPw al_at g0), fun U hU hW => ⟨rfl, hU, hPw, hK.moved hW.alike, hDw, hxf.on hW.alike hS3, tbn_w hW hWn, fun q hq => hA q (Nat.le_trans hS3.1 hq)⟩⟩ rfl rfl hl.1 rfl (lv_room (Nat.le_of_ble_eq_true rfl)) (show decode prog_33_method_26_code 33 = .ok (.invokevirtual 129, 3) by decide +kernel) ⟨Nat.le_of_ble_eq_true rfl, by show 0 + 0 + (n + n / 2 + 10) ≤ n + n / 2 + 10; omega⟩) hS3 (fun _ _ h => h) (fun _ h => h) (fun r4 u4 t4 H4 locs4 ht4 hvm4 hw4 hB4 _ _ hS4 => ?_)
      obtain ⟨hP4, hK4, hD4⟩ := hB4
      rw [ht4] at hP4
      have hK4 := hK4.moved hvm4.symm
      obtain ⟨q, cap9, cB, f9, rfl, k0, k1, k2, c1, c2, c3, k3, k4, k5, k6⟩ := hw4
      have hne : w1.length ≠ q0 := by have := at_lt g0; omega
      refine lv_astore hx hb (show decode prog_33_method_26_code 36 = .ok (.astore 4, 2) by decide +kernel) hl (by decide) rfl (fun ls hl => ?_)
      refine lv_aload hx hb (show decode prog_33_method_26_code 38 = .ok (.aload 4, 2) by decide +kernel) (lv_at hl 0 rfl) ?_
      refine lv_iload_n hx hb (show decode prog_33_method_26_code 40 = .ok (.iload_n 1, 1) by decide +kernel) rfl (lv_at hl 3 rfl) ?_
      refine lv_aload hx hb (show decode prog_33_method_26_code 41 = .ok (.aload 4, 2) by decide +kernel) (lv_at hl 0 rfl) ?_
      refine lv_iload_n hx hb (show decode prog_33_method_26_code 43 = .ok (.iload_n 1, 1) by decide +kernel) rfl (lv_at hl 3 rfl) ?_
      refine lv_iconst hx hb (v := nI 1) (show decode prog_33_method_26_code 44 = .ok (.iconst 1, 1) by decide +kernel) (by decide +kernel) ?_
      refine lv_iadd hx hb (show decode prog_33_method_26_code 45 = .ok (.iadd, 1) by decide +kernel) ?_
      refine lv_topi (fun z5 hz5 => ?_)
      have hz5 : z5 = nI (k + 1) := hz5.trans (nI_add k 1)
      subst hz5
      refine lv_iload_n hx hb (show decode prog_33_method_26_code 46 = .ok (.iload_n 3, 1) by decide +kernel) rfl (lv_at hl 1 rfl) ?_
      refine lv_iload_n hx hb (show decode prog_33_method_26_code 47 = .ok (.iload_n 1, 1) by decide +kernel) rfl (lv_at hl 3 rfl) ?_
      refine lv_isub hx hb (show decode prog_33_method_26_code 48 = .ok (.isub, 1) by decide +kernel) ?_
      refine lv_topi (fun z6 hz6 => ?_)
      have hz6 : z6 = nI (n - k) := hz6.trans (pk_sub (by omega))
      subst hz6
      refine va_copyM hx hb (hml.trans hl.1.symm) hown (hts2 _ (tbm 766 (by decide +kernel))) (hts2 _ (tbm 235 (by decide +kernel))) (hts2 _ (tbm 234 (by decide +kernel))) (hts2 _ (tbm 11 (by decide +kernel))) hK4 hP4 hD4 hS4 w1.length w1.length tys.length tys.length k1 k1 k2 k2 (sp := nI (k)) (dp := nI (k + 1)) (n := nI (n - k)) (nI_pos (by omega)) (nI_pos (by omega)) (nI_pos (by omega)) (by rw [nI_clamp (by omega), nI_clamp (by omega)]; omega) (by rw [nI_clamp (by omega), nI_clamp (by omega)]; omega) (fun i hi y hy => by
          rw [nI_clamp (by omega)] at hi hy
          exact ((gE (k + i) (by omega) y ((k3 _ (by omega)).symm.trans hy)).keep k6 k5).any hP4 hK4 hxf hS4 hWn) (Nat.le_of_ble_eq_true rfl) (Nat.le_of_ble_eq_true rfl) (show decode prog_33_method_26_code 49 = .ok (.invokestatic 112, 3) by decide +kernel) (fun H7 locs7 hP7 hD7 hS7 => ?_)
      simp only [nI_clamp (show k < 2 ^ 31 by omega), nI_clamp (show k + 1 < 2 ^ 31 by omega), nI_clamp (show n - k < 2 ^ 31 by omega)] at hP7 hD7
      refine lv_aload hx hb (show decode prog_33_method_26_code 52 = .ok (.aload 4, 2) by decide +kernel) (lv_at hl 0 rfl) ?_
      refine lv_iload_n hx hb (show decode prog_33_method_26_code 54 = .ok (.iload_n 1, 1) by decide +kernel) rfl (lv_at hl 3 rfl) ?_
      refine lv_aload_nN hx hb (show decode prog_33_method_26_code 55 = .ok (.aload_n 2, 1) by decide +kernel) rfl (lv_at hl 4 rfl) ?_
      refine va_astqN hx hb hK4 hP7 hD7 hS7 w1.length tys.length (set_at k1) k2 (i := nI k) (vp_in_nI (by omega) (by omega)) (show decode prog_33_method_26_code 56 = .ok (.aastore, 1) by decide +kernel) (fun H8 locs8 hP8 hD8 hS8 => ?_)
      rw [nI_clamp (by omega)] at hP8 hD8
      refine lv_aload_n hx hb (show decode prog_33_method_26_code 57 = .ok (.aload_n 0, 1) by decide +kernel) rfl (lv_at hl 2 rfl) ?_
      refine lv_iload_n hx hb (show decode prog_33_method_26_code 58 = .ok (.iload_n 3, 1) by decide +kernel) rfl (lv_at hl 1 rfl) ?_
      refine lv_iconst hx hb (v := nI 1) (show decode prog_33_method_26_code 59 = .ok (.iconst 1, 1) by decide +kernel) (by decide +kernel) ?_
      refine lv_iadd hx hb (show decode prog_33_method_26_code 60 = .ok (.iadd, 1) by decide +kernel) ?_
      refine lv_topi (fun z9 hz9 => ?_)
      have hz9 : z9 = nI (n + 1) := hz9.trans (nI_add n 1)
      subst hz9
      refine va_put (C := RAL) (T := TJx4a65c) (N := 3) (ty := tyJx4a65c 2) hx hb hts2 al_in tyJx4a65c tyJx4a65c_ok nmJx4a65c hown hK4 hP8 hD8 hS8 q0 (set_ne hne (set_ne hne k0)) al_at 2 (by decide) (hts2 _ al_f48) (fun _ h => h) rfl rfl rfl rfl (Nat.le_of_ble_eq_true rfl) (show decode prog_33_method_26_code 61 = .ok (.putfield 48, 3) by decide +kernel) (fun H10 locs10 hP10 hD10 hS10 => ?_)
      refine W.widen (k := 1) (n := n + n / 2 + 10) (Nat.le_of_ble_eq_true rfl) (by show 0 + 0 + (n + n / 2 + 10) ≤ n + n / 2 + 10; omega) ?_
      exact W.vret hx hb hr (fun t ht9 hW => ⟨⟨(_, _), rfl, ⟨w1.length, va_up (va_cpy f9 f9 k (k + 1) (n - k)) k none, ⟨m9 + nI 1, q, set_at (set_ne hne (set_ne hne k0)), Or.inr ⟨w1.length, tys.length, cap9, cB, rfl, k2, set_ne (Ne.symm hne) (set_at (set_at k1)), by omega, c2, c3⟩⟩, fun j hj => by
          show (if j = k then _ else va_cpy f9 f9 k (k + 1) (n - k) j) = if j < k then f j else if j = k then _ else f (j - 1)
          by_cases c : j = k
          · rw [if_pos c, if_neg (by omega), if_pos c]
          · rw [if_neg c]
            by_cases c2 : j < k
            · rw [if_pos c2, pk_cpy_out (Or.inl (by omega))]; exact k3 j (by omega)
            · rw [if_neg c2, if_neg c, pk_cpy_in (by omega) (by omega), show k + (j - (k + 1)) = j - 1 by omega]; exact k3 (j - 1) (by omega), fun q x a b h => set_ne (Ne.symm a) (set_ne (Ne.symm b) (set_ne (Ne.symm b) (k4 q x a (gW q x a h)))), Or.inr (by omega), k5⟩, by rw [ht9]; exact hP10, hK4.moved hW.alike, hD10⟩, hS10.F ht9⟩) hS10.2.2 (show decode prog_33_method_26_code 64 = .ok (.return_, 1) by decide +kernel) hlocks
theorem met_adiR {ws : va_W} {tys : List (ClassId × FieldType)} {H : Heap} {q0 a bb n : Nat} {m9 : Int32} {f : Nat → Option Nat} {qb : Option Nat} (h0 : ws[q0]? = some (a, lsE m9 (.ref bb) n)) (hB : BK G ws tys bb n qb f) (hn : n ≤ 40000) (hE : ELm G ws tys n f) {k : Nat} (hk : k ≤ n) {y : Nat} (hy : OBJ G ws tys y) : Met lc y_adi (Cond.code y_adi prog_33_method_26_code 5 none :: tb) { frames := 6, cells := 1, slots := (n + n / 2 + 10), locals := 330 } (va_Pc [.ref a, .int (nI k), .ref y] (PW D G A ws tys H)) (va_Qv (fun (u : va_W × List (ClassId × FieldType)) => ADQ G ws tys q0 a (n + 1) qb (fun j => if j < k then f j else if j = k then (some y) else f (j - 1)) u) (QW D A) A) 1 (n + n / 2 + 10) A := by
  refine Met.ofW (cc := prog_33_method_26_code) (maxL := 5) (ret := none) (by decide +kernel) rfl ?_
  intro p e s m args below meth c s₁ B hml hv
  obtain ⟨rfl, hh, hP, hK, hD, hxf, hWn, hA⟩ := hv
  subst hh
  have hx := B.exec
  have hb := B.bytes
  have hr := B.returns
  have hts := atoms_spec (ws := Cond.code y_adi prog_33_method_26_code 5 none :: tb) B.pre
  have hts2 : ∀ w ∈ tb, w.before _ s = true := fun w hw => hts w (List.mem_cons_of_mem _ hw)
  have hown : s.vm.findClass "java/util/ArrayList" = some m.cls := findClass_of_methodNamed B.named
  have hlocks := B.notSynchronized
  have hS0 : va_S A s.heap s.heap [] := va_S.rf
  have hS5 : CallFix p m c prog_33_method_26_code 5 s _ tb "java/util/ArrayList" := ⟨hx, hb, hml, hown, hts2⟩
  have hl := lv_entry ([.ref a, .int (nI k), .ref y]) (n := 5) (Nat.le_of_ble_eq_true rfl)
  rw [lg_entry_eq]
  generalize (lg_sl ([.ref a, .int (nI k), .ref y]) ++ List.replicate (5 - (lg_sl ([.ref a, .int (nI k), .ref y])).length) Slot.unset).toArray = ls at hl ⊢
  have hl : lv_has ls 5 [(0, .ref a), (1, .int (nI k)), (2, .ref y)] := hl
  refine lv_aload_n hx hb (show decode prog_33_method_26_code 0 = .ok (.aload_n 0, 1) by decide +kernel) rfl (lv_at hl 0 rfl) ?_
  refine lv_iload_n hx hb (show decode prog_33_method_26_code 1 = .ok (.iload_n 1, 1) by decide +kernel) rfl (lv_at hl 1 rfl) ?_
  have hcw1 := cwV (R := { frames := 6, cells := 1, slots := (n + n / 2 + 10), locals := 330 }) (rm := { frames := 1, cells := 0, slots := 0, locals := 20 }) 1 hts2 (goodIn_app (a := [_, _, _, _]) (fun w hw => by
        simp only [List.mem_cons, List.not_mem_nil, or_false] at hw
        rcases hw with rfl | rfl | rfl | rfl
        · exact goodIn_1 (tbm 762 (by decide +kernel)) _ (List.mem_singleton.mpr rfl)
        · exact goodIn_1 (tbm 764 (by decide +kernel)) _ (List.mem_singleton.mpr rfl)
        · exact goodIn_1 (tbs (y := y_rca) (n := 3) 27 (by decide +kernel)) _ (List.mem_singleton.mpr rfl)
        · exact goodIn_1 (tbm 4 (by decide +kernel)) _ (List.mem_singleton.mpr rfl)) (goodIn_tb ok_rcaC) : GoodIn tb (wsV "java/util/ArrayList" 135 "java/util/ArrayList" y_rca (Cond.code y_rca prog_33_method_45_code 2 none :: tb))) rfl rfl rfl ⟨rfl, by decide +kernel⟩ ⟨Nat.le_of_ble_eq_true rfl, Nat.le_of_ble_eq_true rfl⟩
  refine va_callv (va_runV (As := [.int (nI k)]) (b := a) hS5 (met_rca (A := A) (D := D) (G := G) (H := s.heap) h0 hn hk) hcw1 ⟨PW_blind, (va_recv hK hP al_at h0), fun U hU hW => ⟨rfl, hU, hP, hK.moved hW.alike, hD, hxf.on hW.alike hS0, tbn_w hW hWn, fun q hq => hA q (Nat.le_trans hS0.1 hq)⟩⟩ rfl rfl hl.1 rfl (lv_room (Nat.le_of_ble_eq_true rfl)) (show decode prog_33_method_26_code 2 = .ok (.invokevirtual 135, 3) by decide +kernel) ⟨Nat.le_of_ble_eq_true rfl, by show 0 + 0 ≤ n + n / 2 + 10; omega⟩) hS0 (fun _ _ h => h) (fun _ h => h) (fun u1 t1 H1 locs1 ht1 hvm1 hw1 hB1 _ _ hS1 => ?_)
  have hB1 : t1.heap = s.heap := hB1
  rw [ht1] at hB1
  subst hB1
  refine lv_aload_n hx hb (show decode prog_33_method_26_code 5 = .ok (.aload_n 0, 1) by decide +kernel) rfl (lv_at hl 0 rfl) ?_
  refine lv_dup hx hb (show decode prog_33_method_26_code 6 = .ok (.dup, 1) by decide +kernel) rfl ?_
  refine va_get (C := RAL) (T := TJx4a65c) (N := 3) hx hb hts2 al_in hown hK hP q0 h0 al_at 0 (by decide) (hts2 _ al_f63) (fun x h => u_same (hts2 _ al_sm) x h) rfl (show decode prog_33_method_26_code 7 = .ok (.getfield 63, 3) by decide +kernel) ?_
  refine lv_iconst hx hb (v := nI 1) (show decode prog_33_method_26_code 10 = .ok (.iconst 1, 1) by decide +kernel) (by decide +kernel) ?_
  refine lv_iadd hx hb (show decode prog_33_method_26_code 11 = .ok (.iadd, 1) by decide +kernel) ?_
  refine lv_topi (fun z2 hz2 => ?_)
  have hz2 : z2 = m9 + nI 1 := hz2.trans (rfl)
  subst hz2
  refine va_put (C := RAL) (T := TJx4a65c) (N := 3) (ty := tyJx4a65c 0) hx hb hts2 al_in tyJx4a65c tyJx4a65c_ok nmJx4a65c hown hK hP hD hS1 q0 h0 al_at 0 (by decide) (hts2 _ al_f63) (fun x h => u_same (hts2 _ al_sm) x h) rfl rfl rfl rfl (Nat.le_of_ble_eq_true rfl) (show decode prog_33_method_26_code 12 = .ok (.putfield 63, 3) by decide +kernel) (fun H3 locs3 hP3 hD3 hS3 => ?_)
  obtain ⟨w1, hw1⟩ : ∃ w, w = ws.set q0 (a, lsE (m9 + nI 1) (.ref bb) n) := ⟨_, rfl⟩
  have hPw : va_P D vwCl w1 H3 := by rw [hw1]; exact hP3
  have hDw : va_D A w1 := by rw [hw1]; exact hD3
  have g0 : w1[q0]? = some (a, lsE (m9 + nI 1) (.ref bb) n) := by rw [hw1]; exact set_at h0
  have gB : BK G w1 tys bb n qb f := by rw [hw1]; exact hB.mod h0
  have gK : KS ws w1 := by rw [hw1]; exact KS.set h0 rfl
  have gE : ELm G w1 tys n f := hE.keep gK keepT.rf
  have gW : ∀ (q : Nat) (x : Nat × va_E), q ≠ q0 → ws[q]? = some x → w1[q]? = some x := fun q x e h => by rw [hw1]; exact set_ne (Ne.symm e) h
  have gL : w1.length = ws.length := by rw [hw1]; exact List.length_set
  refine lv_aload_n hx hb (show decode prog_33_method_26_code 15 = .ok (.aload_n 0, 1) by decide +kernel) rfl (lv_at hl 0 rfl) ?_
  refine va_get (C := RAL) (T := TJx4a65c) (N := 3) hx hb hts2 al_in hown hK hPw q0 g0 al_at 2 (by decide) (hts2 _ al_f48) (fun _ h => h) rfl (show decode prog_33_method_26_code 16 = .ok (.getfield 48, 3) by decide +kernel) ?_
  refine lv_dup hx hb (show decode prog_33_method_26_code 19 = .ok (.dup, 1) by decide +kernel) rfl ?_
  refine lv_istore_n hx hb (show decode prog_33_method_26_code 20 = .ok (.istore_n 3, 1) by decide +kernel) rfl hl (by decide) rfl (fun ls hl => ?_)
  refine lv_aload_n hx hb (show decode prog_33_method_26_code 21 = .ok (.aload_n 0, 1) by decide +kernel) rfl (lv_at hl 1 rfl) ?_
  refine va_get (C := RAL) (T := TJx4a65c) (N := 3) hx hb hts2 al_in hown hK hPw q0 g0 al_at 1 (by decide) (hts2 _ al_f9) (fun _ h => h) rfl (show decode prog_33_method_26_code 22 = .ok (.getfield 9, 3) by decide +kernel) ?_
  have gB2 := gB
  rcases gB with ⟨rfl, hn0, rfl⟩ | ⟨q1, t0, cap, cA, rfl, ht, h1, hnc, h10, hcap⟩
  · refine lv_dup hx hb (show decode prog_33_method_26_code 25 = .ok (.dup, 1) by decide +kernel) rfl ?_
    refine lv_astore hx hb (show decode prog_33_method_26_code 26 = .ok (.astore 4, 2) by decide +kernel) hl (by decide) rfl (fun ls hl => ?_)
    refine va_tlen hx hb hxf.2.2.2.1 hS3 (v := nI n) (by rw [hn0]; rfl) (show decode prog_33_method_26_code 28 = .ok (.arraylength, 1) by decide +kernel) ?_
    refine lv_icmp_ne hx hb (show decode prog_33_method_26_code 29 = .ok (.if_icmp .ne 9, 3) by decide +kernel) (tgt := 38) rfl (fun h => absurd (rfl) h) (fun hbr => ?_)
    refine lv_aload_n hx hb (show decode prog_33_method_26_code 32 = .ok (.aload_n 0, 1) by decide +kernel) rfl (lv_at hl 2 rfl) ?_
    have hcw4 := cwV (R := { frames := 6, cells := 1, slots := (n + n / 2 + 10), locals := 330 }) (rm := { frames := 5, cells := 1, slots := (n + n / 2 + 10), locals := 260 }) 0 hts2 (goodIn_app (a := [_, _, _, _]) (fun w hw => by
          simp only [List.mem_cons, List.not_mem_nil, or_false] at hw
          rcases hw with rfl | rfl | rfl | rfl
          · exact goodIn_1 (tbm 184 (by decide +kernel)) _ (List.mem_singleton.mpr rfl)
          · exact goodIn_1 (tbm 186 (by decide +kernel)) _ (List.mem_singleton.mpr rfl)
          · exact goodIn_1 (tbs (y := y_gr0) (n := 3) 1 (by decide +kernel)) _ (List.mem_singleton.mpr rfl)
          · exact goodIn_1 (tbm 4 (by decide +kernel)) _ (List.mem_singleton.mpr rfl)) (goodIn_tb ok_gr0C) : GoodIn tb (wsV "java/util/ArrayList" 129 "java/util/ArrayList" y_gr0 (Cond.code y_gr0 prog_33_method_7_code 1 (some (.array (.object "java/lang/Object"))) :: tb))) rfl rfl rfl ⟨rfl, by decide +kernel⟩ ⟨Nat.le_of_ble_eq_true rfl, Nat.le_of_ble_eq_true rfl⟩
    refine va_callq (va_runV (As := []) (b := a) hS5 (met_gr0 (A := A) (D := D) (G := G) (H := H3) g0 (Or.inl ⟨rfl, hn0⟩) hn gE) hcw4 ⟨PW_blind, (va_recv hK hPw al_at g0), fun U hU hW => ⟨rfl, hU, hPw, hK.moved hW.alike, hDw, hxf.on hW.alike hS3, tbn_w hW hWn, fun q hq => hA q (Nat.le_trans hS3.1 hq)⟩⟩ rfl rfl hl.1 rfl (lv_room (Nat.le_of_ble_eq_true rfl)) (show decode prog_33_method_26_code 33 = .ok (.invokevirtual 129, 3) by decide +kernel) ⟨Nat.le_of_ble_eq_true rfl, by show 0 + 0 + (n + n / 2 + 10) ≤ n + n / 2 + 10; omega⟩) hS3 (fun _ _ h => h) (fun _ h => h) (fun r4 u4 t4 H4 locs4 ht4 hvm4 hw4 hB4 _ _ hS4 => ?_)
    obtain ⟨hP4, hK4, hD4⟩ := hB4
    rw [ht4] at hP4
    have hK4 := hK4.moved hvm4.symm
    obtain ⟨q, cap9, cB, f9, rfl, k0, k1, k2, c1, c2, c3, k3, k4, k5, k6⟩ := hw4
    have hne : w1.length ≠ q0 := by have := at_lt g0; omega
    refine lv_astore hx hb (show decode prog_33_method_26_code 36 = .ok (.astore 4, 2) by decide +kernel) hl (by decide) rfl (fun ls hl => ?_)
    refine lv_aload hx hb (show decode prog_33_method_26_code 38 = .ok (.aload 4, 2) by decide +kernel) (lv_at hl 0 rfl) ?_
    refine lv_iload_n hx hb (show decode prog_33_method_26_code 40 = .ok (.iload_n 1, 1) by decide +kernel) rfl (lv_at hl 3 rfl) ?_
    refine lv_aload hx hb (show decode prog_33_method_26_code 41 = .ok (.aload 4, 2) by decide +kernel) (lv_at hl 0 rfl) ?_
    refine lv_iload_n hx hb (show decode prog_33_method_26_code 43 = .ok (.iload_n 1, 1) by decide +kernel) rfl (lv_at hl 3 rfl) ?_
    refine lv_iconst hx hb (v := nI 1) (show decode prog_33_method_26_code 44 = .ok (.iconst 1, 1) by decide +kernel) (by decide +kernel) ?_
    refine lv_iadd hx hb (show decode prog_33_method_26_code 45 = .ok (.iadd, 1) by decide +kernel) ?_
    refine lv_topi (fun z5 hz5 => ?_)
    have hz5 : z5 = nI (k + 1) := hz5.trans (nI_add k 1)
    subst hz5
    refine lv_iload_n hx hb (show decode prog_33_method_26_code 46 = .ok (.iload_n 3, 1) by decide +kernel) rfl (lv_at hl 1 rfl) ?_
    refine lv_iload_n hx hb (show decode prog_33_method_26_code 47 = .ok (.iload_n 1, 1) by decide +kernel) rfl (lv_at hl 3 rfl) ?_
    refine lv_isub hx hb (show decode prog_33_method_26_code 48 = .ok (.isub, 1) by decide +kernel) ?_
    refine lv_topi (fun z6 hz6 => ?_)
    have hz6 : z6 = nI (n - k) := hz6.trans (pk_sub (by omega))
    subst hz6
    refine va_copyM hx hb (hml.trans hl.1.symm) hown (hts2 _ (tbm 766 (by decide +kernel))) (hts2 _ (tbm 235 (by decide +kernel))) (hts2 _ (tbm 234 (by decide +kernel))) (hts2 _ (tbm 11 (by decide +kernel))) hK4 hP4 hD4 hS4 w1.length w1.length tys.length tys.length k1 k1 k2 k2 (sp := nI (k)) (dp := nI (k + 1)) (n := nI (n - k)) (nI_pos (by omega)) (nI_pos (by omega)) (nI_pos (by omega)) (by rw [nI_clamp (by omega), nI_clamp (by omega)]; omega) (by rw [nI_clamp (by omega), nI_clamp (by omega)]; omega) (fun i hi y hy => by
        rw [nI_clamp (by omega)] at hi hy
        exact ((gE (k + i) (by omega) y ((k3 _ (by omega)).symm.trans hy)).keep k6 k5).any hP4 hK4 hxf hS4 hWn) (Nat.le_of_ble_eq_true rfl) (Nat.le_of_ble_eq_true rfl) (show decode prog_33_method_26_code 49 = .ok (.invokestatic 112, 3) by decide +kernel) (fun H7 locs7 hP7 hD7 hS7 => ?_)
    simp only [nI_clamp (show k < 2 ^ 31 by omega), nI_clamp (show k + 1 < 2 ^ 31 by omega), nI_clamp (show n - k < 2 ^ 31 by omega)] at hP7 hD7
    refine lv_aload hx hb (show decode prog_33_method_26_code 52 = .ok (.aload 4, 2) by decide +kernel) (lv_at hl 0 rfl) ?_
    refine lv_iload_n hx hb (show decode prog_33_method_26_code 54 = .ok (.iload_n 1, 1) by decide +kernel) rfl (lv_at hl 3 rfl) ?_
    refine lv_aload_n hx hb (show decode prog_33_method_26_code 55 = .ok (.aload_n 2, 1) by decide +kernel) rfl (lv_at hl 4 rfl) ?_
    refine va_astqM hx hb hK4 hP7 hD7 hS7 w1.length tys.length (set_at k1) k2 ((hy.keep ((gK.tr k6).tr (KS.set (e' := rfA cB cap9 (va_cpy f9 f9 k (k + 1) (n - k))) k1 rfl)) k5).any hP7 hK4 hxf hS7 hWn) (i := nI k) (vp_in_nI (by omega) (by omega)) (show decode prog_33_method_26_code 56 = .ok (.aastore, 1) by decide +kernel) (fun H8 locs8 hP8 hD8 hS8 => ?_)
    rw [nI_clamp (by omega)] at hP8 hD8
    refine lv_aload_n hx hb (show decode prog_33_method_26_code 57 = .ok (.aload_n 0, 1) by decide +kernel) rfl (lv_at hl 2 rfl) ?_
    refine lv_iload_n hx hb (show decode prog_33_method_26_code 58 = .ok (.iload_n 3, 1) by decide +kernel) rfl (lv_at hl 1 rfl) ?_
    refine lv_iconst hx hb (v := nI 1) (show decode prog_33_method_26_code 59 = .ok (.iconst 1, 1) by decide +kernel) (by decide +kernel) ?_
    refine lv_iadd hx hb (show decode prog_33_method_26_code 60 = .ok (.iadd, 1) by decide +kernel) ?_
    refine lv_topi (fun z9 hz9 => ?_)
    have hz9 : z9 = nI (n + 1) := hz9.trans (nI_add n 1)
    subst hz9
    refine va_put (C := RAL) (T := TJx4a65c) (N := 3) (ty := tyJx4a65c 2) hx hb hts2 al_in tyJx4a65c tyJx4a65c_ok nmJx4a65c hown hK4 hP8 hD8 hS8 q0 (set_ne hne (set_ne hne k0)) al_at 2 (by decide) (hts2 _ al_f48) (fun _ h => h) rfl rfl rfl rfl (Nat.le_of_ble_eq_true rfl) (show decode prog_33_method_26_code 61 = .ok (.putfield 48, 3) by decide +kernel) (fun H10 locs10 hP10 hD10 hS10 => ?_)
    refine W.widen (k := 1) (n := n + n / 2 + 10) (Nat.le_of_ble_eq_true rfl) (by show 0 + 0 + (n + n / 2 + 10) ≤ n + n / 2 + 10; omega) ?_
    exact W.vret hx hb hr (fun t ht9 hW => ⟨⟨(_, _), rfl, ⟨w1.length, va_up (va_cpy f9 f9 k (k + 1) (n - k)) k (some y), ⟨m9 + nI 1, q, set_at (set_ne hne (set_ne hne k0)), Or.inr ⟨w1.length, tys.length, cap9, cB, rfl, k2, set_ne (Ne.symm hne) (set_at (set_at k1)), by omega, c2, c3⟩⟩, fun j hj => by
        show (if j = k then _ else va_cpy f9 f9 k (k + 1) (n - k) j) = if j < k then f j else if j = k then _ else f (j - 1)
        by_cases c : j = k
        · rw [if_pos c, if_neg (by omega), if_pos c]
        · rw [if_neg c]
          by_cases c2 : j < k
          · rw [if_pos c2, pk_cpy_out (Or.inl (by omega))]; exact k3 j (by omega)
          · rw [if_neg c2, if_neg c, pk_cpy_in (by omega) (by omega), show k + (j - (k + 1)) = j - 1 by omega]; exact k3 (j - 1) (by omega), fun q x a b h => set_ne (Ne.symm a) (set_ne (Ne.symm b) (set_ne (Ne.symm b) (k4 q x a (gW q x a h)))), Or.inr (by omega), k5⟩, by rw [ht9]; exact hP10, hK4.moved hW.alike, hD10⟩, hS10.F ht9⟩) hS10.2.2 (show decode prog_33_method_26_code 64 = .ok (.return_, 1) by decide +kernel) hlocks
  · rcases Nat.lt_or_ge n cap with hlt | hge
    · refine lv_dup hx hb (show decode prog_33_method_26_code 25 = .ok (.dup, 1) by decide +kernel) rfl ?_
      refine lv_astore hx hb (show decode prog_33_method_26_code 26 = .ok (.astore 4, 2) by decide +kernel) hl (by decide) rfl (fun ls hl => ?_)
      refine va_alen hx hb hK hPw q1 t0 h1 ht (v := nI cap) rfl (show decode prog_33_method_26_code 28 = .ok (.arraylength, 1) by decide +kernel) ?_
      refine lv_icmp_ne hx hb (show decode prog_33_method_26_code 29 = .ok (.if_icmp .ne 9, 3) by decide +kernel) (tgt := 38) rfl (fun hbr => ?_) (fun h => absurd h (fun e => absurd ((nI_eq (by omega) (by omega)).mp e) (by omega)))
      have hne : q1 ≠ q0 := fun e => (ls_ne g0 h1) e.symm
      refine lv_aload hx hb (show decode prog_33_method_26_code 38 = .ok (.aload 4, 2) by decide +kernel) (lv_at hl 0 rfl) ?_
      refine lv_iload_n hx hb (show decode prog_33_method_26_code 40 = .ok (.iload_n 1, 1) by decide +kernel) rfl (lv_at hl 3 rfl) ?_
      refine lv_aload hx hb (show decode prog_33_method_26_code 41 = .ok (.aload 4, 2) by decide +kernel) (lv_at hl 0 rfl) ?_
      refine lv_iload_n hx hb (show decode prog_33_method_26_code 43 = .ok (.iload_n 1, 1) by decide +kernel) rfl (lv_at hl 3 rfl) ?_
      refine lv_iconst hx hb (v := nI 1) (show decode prog_33_method_26_code 44 = .ok (.iconst 1, 1) by decide +kernel) (by decide +kernel) ?_
      refine lv_iadd hx hb (show decode prog_33_method_26_code 45 = .ok (.iadd, 1) by decide +kernel) ?_
      refine lv_topi (fun z4 hz4 => ?_)
      have hz4 : z4 = nI (k + 1) := hz4.trans (nI_add k 1)
      subst hz4
      refine lv_iload_n hx hb (show decode prog_33_method_26_code 46 = .ok (.iload_n 3, 1) by decide +kernel) rfl (lv_at hl 1 rfl) ?_
      refine lv_iload_n hx hb (show decode prog_33_method_26_code 47 = .ok (.iload_n 1, 1) by decide +kernel) rfl (lv_at hl 3 rfl) ?_
      refine lv_isub hx hb (show decode prog_33_method_26_code 48 = .ok (.isub, 1) by decide +kernel) ?_
      refine lv_topi (fun z5 hz5 => ?_)
      have hz5 : z5 = nI (n - k) := hz5.trans (pk_sub (by omega))
      subst hz5
      refine va_copyM hx hb (hml.trans hl.1.symm) hown (hts2 _ (tbm 766 (by decide +kernel))) (hts2 _ (tbm 235 (by decide +kernel))) (hts2 _ (tbm 234 (by decide +kernel))) (hts2 _ (tbm 11 (by decide +kernel))) hK hPw hDw hS3 q1 q1 t0 t0 h1 h1 ht ht (sp := nI (k)) (dp := nI (k + 1)) (n := nI (n - k)) (nI_pos (by omega)) (nI_pos (by omega)) (nI_pos (by omega)) (by rw [nI_clamp (by omega), nI_clamp (by omega)]; omega) (by rw [nI_clamp (by omega), nI_clamp (by omega)]; omega) (fun i hi y hy => by
          rw [nI_clamp (by omega)] at hi hy
          exact ((gE (k + i) (by omega) y (hy)).keep KS.rf keepT.rf).any hPw hK hxf hS3 hWn) (Nat.le_of_ble_eq_true rfl) (Nat.le_of_ble_eq_true rfl) (show decode prog_33_method_26_code 49 = .ok (.invokestatic 112, 3) by decide +kernel) (fun H6 locs6 hP6 hD6 hS6 => ?_)
      simp only [nI_clamp (show k < 2 ^ 31 by omega), nI_clamp (show k + 1 < 2 ^ 31 by omega), nI_clamp (show n - k < 2 ^ 31 by omega)] at hP6 hD6
      refine lv_aload hx hb (show decode prog_33_method_26_code 52 = .ok (.aload 4, 2) by decide +kernel) (lv_at hl 0 rfl) ?_
      refine lv_iload_n hx hb (show decode prog_33_method_26_code 54 = .ok (.iload_n 1, 1) by decide +kernel) rfl (lv_at hl 3 rfl) ?_
      refine lv_aload_n hx hb (show decode prog_33_method_26_code 55 = .ok (.aload_n 2, 1) by decide +kernel) rfl (lv_at hl 4 rfl) ?_
      refine va_astqM hx hb hK hP6 hD6 hS6 q1 t0 (set_at h1) ht ((hy.keep ((gK.tr KS.rf).tr (KS.set (e' := rfA cA cap (va_cpy f f k (k + 1) (n - k))) h1 rfl)) keepT.rf).any hP6 hK hxf hS6 hWn) (i := nI k) (vp_in_nI (by omega) (by omega)) (show decode prog_33_method_26_code 56 = .ok (.aastore, 1) by decide +kernel) (fun H7 locs7 hP7 hD7 hS7 => ?_)
      rw [nI_clamp (by omega)] at hP7 hD7
      refine lv_aload_n hx hb (show decode prog_33_method_26_code 57 = .ok (.aload_n 0, 1) by decide +kernel) rfl (lv_at hl 2 rfl) ?_
      refine lv_iload_n hx hb (show decode prog_33_method_26_code 58 = .ok (.iload_n 3, 1) by decide +kernel) rfl (lv_at hl 1 rfl) ?_
      refine lv_iconst hx hb (v := nI 1) (show decode prog_33_method_26_code 59 = .ok (.iconst 1, 1) by decide +kernel) (by decide +kernel) ?_
      refine lv_iadd hx hb (show decode prog_33_method_26_code 60 = .ok (.iadd, 1) by decide +kernel) ?_
      refine lv_topi (fun z8 hz8 => ?_)
      have hz8 : z8 = nI (n + 1) := hz8.trans (nI_add n 1)
      subst hz8
      refine va_put (C := RAL) (T := TJx4a65c) (N := 3) (ty := tyJx4a65c 2) hx hb hts2 al_in tyJx4a65c tyJx4a65c_ok nmJx4a65c hown hK hP7 hD7 hS7 q0 (set_ne hne (set_ne hne g0)) al_at 2 (by decide) (hts2 _ al_f48) (fun _ h => h) rfl rfl rfl rfl (Nat.le_of_ble_eq_true rfl) (show decode prog_33_method_26_code 61 = .ok (.putfield 48, 3) by decide +kernel) (fun H9 locs9 hP9 hD9 hS9 => ?_)
      refine W.widen (k := 1) (n := n + n / 2 + 10) (Nat.le_of_ble_eq_true rfl) (by show 0 + 0 ≤ n + n / 2 + 10; omega) ?_
      exact W.vret hx hb hr (fun t ht9 hW => ⟨⟨(_, _), rfl, ⟨q1, va_up (va_cpy f f k (k + 1) (n - k)) k (some y), ⟨m9 + nI 1, bb, set_at (set_ne hne (set_ne hne g0)), Or.inr ⟨q1, t0, cap, cA, rfl, ht, set_ne (Ne.symm hne) (set_at (set_at h1)), by omega, h10, hcap⟩⟩, fun j hj => by
          show (if j = k then _ else va_cpy f f k (k + 1) (n - k) j) = if j < k then f j else if j = k then _ else f (j - 1)
          by_cases c : j = k
          · rw [if_pos c, if_neg (by omega), if_pos c]
          · rw [if_neg c]
            by_cases c2 : j < k
            · rw [if_pos c2, pk_cpy_out (Or.inl (by omega))]
            · rw [if_neg c2, if_neg c, pk_cpy_in (by omega) (by omega), show k + (j - (k + 1)) = j - 1 by omega], fun q x a b h => set_ne (Ne.symm a) (set_ne (Ne.symm b) (set_ne (Ne.symm b) (gW q x a h))), Or.inl rfl, keepT.rf⟩, by rw [ht9]; exact hP9, hK.moved hW.alike, hD9⟩, hS9.F ht9⟩) hS9.2.2 (show decode prog_33_method_26_code 64 = .ok (.return_, 1) by decide +kernel) hlocks
    · obtain rfl : n = cap := by omega
      refine lv_dup hx hb (show decode prog_33_method_26_code 25 = .ok (.dup, 1) by decide +kernel) rfl ?_
      refine lv_astore hx hb (show decode prog_33_method_26_code 26 = .ok (.astore 4, 2) by decide +kernel) hl (by decide) rfl (fun ls hl => ?_)
      refine va_alen hx hb hK hPw q1 t0 h1 ht (v := nI n) rfl (show decode prog_33_method_26_code 28 = .ok (.arraylength, 1) by decide +kernel) ?_
      refine lv_icmp_ne hx hb (show decode prog_33_method_26_code 29 = .ok (.if_icmp .ne 9, 3) by decide +kernel) (tgt := 38) rfl (fun h => absurd (rfl) h) (fun hbr => ?_)
      refine lv_aload_n hx hb (show decode prog_33_method_26_code 32 = .ok (.aload_n 0, 1) by decide +kernel) rfl (lv_at hl 2 rfl) ?_
      have hcw4 := cwV (R := { frames := 6, cells := 1, slots := (n + n / 2 + 10), locals := 330 }) (rm := { frames := 5, cells := 1, slots := (n + n / 2 + 10), locals := 260 }) 0 hts2 (goodIn_app (a := [_, _, _, _]) (fun w hw => by
            simp only [List.mem_cons, List.not_mem_nil, or_false] at hw
            rcases hw with rfl | rfl | rfl | rfl
            · exact goodIn_1 (tbm 184 (by decide +kernel)) _ (List.mem_singleton.mpr rfl)
            · exact goodIn_1 (tbm 186 (by decide +kernel)) _ (List.mem_singleton.mpr rfl)
            · exact goodIn_1 (tbs (y := y_gr0) (n := 3) 1 (by decide +kernel)) _ (List.mem_singleton.mpr rfl)
            · exact goodIn_1 (tbm 4 (by decide +kernel)) _ (List.mem_singleton.mpr rfl)) (goodIn_tb ok_gr0C) : GoodIn tb (wsV "java/util/ArrayList" 129 "java/util/ArrayList" y_gr0 (Cond.code y_gr0 prog_33_method_7_code 1 (some (.array (.object "java/lang/Object"))) :: tb))) rfl rfl rfl ⟨rfl, by decide +kernel⟩ ⟨Nat.le_of_ble_eq_true rfl, Nat.le_of_ble_eq_true rfl⟩
      refine va_callq (va_runV (As := []) (b := a) hS5 (met_gr0 (A := A) (D := D) (G := G) (H := H3) g0 (Or.inr ⟨q1, t0, cA, ht, h1, h10⟩) hn gE) hcw4 ⟨PW_blind, (va_recv hK hPw al_at g0), fun U hU hW => ⟨rfl, hU, hPw, hK.moved hW.alike, hDw, hxf.on hW.alike hS3, tbn_w hW hWn, fun q hq => hA q (Nat.le_trans hS3.1 hq)⟩⟩ rfl rfl hl.1 rfl (lv_room (Nat.le_of_ble_eq_true rfl)) (show decode prog_33_method_26_code 33 = .ok (.invokevirtual 129, 3) by decide +kernel) ⟨Nat.le_of_ble_eq_true rfl, by show 0 + 0 + (n + n / 2 + 10) ≤ n + n / 2 + 10; omega⟩) hS3 (fun _ _ h => h) (fun _ h => h) (fun r4 u4 t4 H4 locs4 ht4 hvm4 hw4 hB4 _ _ hS4 => ?_)
      obtain ⟨hP4, hK4, hD4⟩ := hB4
      rw [ht4] at hP4
      have hK4 := hK4.moved hvm4.symm
      obtain ⟨q, cap9, cB, f9, rfl, k0, k1, k2, c1, c2, c3, k3, k4, k5, k6⟩ := hw4
      have hne : w1.length ≠ q0 := by have := at_lt g0; omega
      refine lv_astore hx hb (show decode prog_33_method_26_code 36 = .ok (.astore 4, 2) by decide +kernel) hl (by decide) rfl (fun ls hl => ?_)
      refine lv_aload hx hb (show decode prog_33_method_26_code 38 = .ok (.aload 4, 2) by decide +kernel) (lv_at hl 0 rfl) ?_
      refine lv_iload_n hx hb (show decode prog_33_method_26_code 40 = .ok (.iload_n 1, 1) by decide +kernel) rfl (lv_at hl 3 rfl) ?_
      refine lv_aload hx hb (show decode prog_33_method_26_code 41 = .ok (.aload 4, 2) by decide +kernel) (lv_at hl 0 rfl) ?_
      refine lv_iload_n hx hb (show decode prog_33_method_26_code 43 = .ok (.iload_n 1, 1) by decide +kernel) rfl (lv_at hl 3 rfl) ?_
      refine lv_iconst hx hb (v := nI 1) (show decode prog_33_method_26_code 44 = .ok (.iconst 1, 1) by decide +kernel) (by decide +kernel) ?_
      refine lv_iadd hx hb (show decode prog_33_method_26_code 45 = .ok (.iadd, 1) by decide +kernel) ?_
      refine lv_topi (fun z5 hz5 => ?_)
      have hz5 : z5 = nI (k + 1) := hz5.trans (nI_add k 1)
      subst hz5
      refine lv_iload_n hx hb (show decode prog_33_method_26_code 46 = .ok (.iload_n 3, 1) by decide +kernel) rfl (lv_at hl 1 rfl) ?_
      refine lv_iload_n hx hb (show decode prog_33_method_26_code 47 = .ok (.iload_n 1, 1) by decide +kernel) rfl (lv_at hl 3 rfl) ?_
      refine lv_isub hx hb (show decode prog_33_method_26_code 48 = .ok (.isub, 1) by decide +kernel) ?_
      refine lv_topi (fun z6 hz6 => ?_)
      have hz6 : z6 = nI (n - k) := hz6.trans (pk_sub (by omega))
      subst hz6
      refine va_copyM hx hb (hml.trans hl.1.symm) hown (hts2 _ (tbm 766 (by decide +kernel))) (hts2 _ (tbm 235 (by decide +kernel))) (hts2 _ (tbm 234 (by decide +kernel))) (hts2 _ (tbm 11 (by decide +kernel))) hK4 hP4 hD4 hS4 w1.length w1.length tys.length tys.length k1 k1 k2 k2 (sp := nI (k)) (dp := nI (k + 1)) (n := nI (n - k)) (nI_pos (by omega)) (nI_pos (by omega)) (nI_pos (by omega)) (by rw [nI_clamp (by omega), nI_clamp (by omega)]; omega) (by rw [nI_clamp (by omega), nI_clamp (by omega)]; omega) (fun i hi y hy => by
          rw [nI_clamp (by omega)] at hi hy
          exact ((gE (k + i) (by omega) y ((k3 _ (by omega)).symm.trans hy)).keep k6 k5).any hP4 hK4 hxf hS4 hWn) (Nat.le_of_ble_eq_true rfl) (Nat.le_of_ble_eq_true rfl) (show decode prog_33_method_26_code 49 = .ok (.invokestatic 112, 3) by decide +kernel) (fun H7 locs7 hP7 hD7 hS7 => ?_)
      simp only [nI_clamp (show k < 2 ^ 31 by omega), nI_clamp (show k + 1 < 2 ^ 31 by omega), nI_clamp (show n - k < 2 ^ 31 by omega)] at hP7 hD7
      refine lv_aload hx hb (show decode prog_33_method_26_code 52 = .ok (.aload 4, 2) by decide +kernel) (lv_at hl 0 rfl) ?_
      refine lv_iload_n hx hb (show decode prog_33_method_26_code 54 = .ok (.iload_n 1, 1) by decide +kernel) rfl (lv_at hl 3 rfl) ?_
      refine lv_aload_n hx hb (show decode prog_33_method_26_code 55 = .ok (.aload_n 2, 1) by decide +kernel) rfl (lv_at hl 4 rfl) ?_
      refine va_astqM hx hb hK4 hP7 hD7 hS7 w1.length tys.length (set_at k1) k2 ((hy.keep ((gK.tr k6).tr (KS.set (e' := rfA cB cap9 (va_cpy f9 f9 k (k + 1) (n - k))) k1 rfl)) k5).any hP7 hK4 hxf hS7 hWn) (i := nI k) (vp_in_nI (by omega) (by omega)) (show decode prog_33_method_26_code 56 = .ok (.aastore, 1) by decide +kernel) (fun H8 locs8 hP8 hD8 hS8 => ?_)
      rw [nI_clamp (by omega)] at hP8 hD8
      refine lv_aload_n hx hb (show decode prog_33_method_26_code 57 = .ok (.aload_n 0, 1) by decide +kernel) rfl (lv_at hl 2 rfl) ?_
      refine lv_iload_n hx hb (show decode prog_33_method_26_code 58 = .ok (.iload_n 3, 1) by decide +kernel) rfl (lv_at hl 1 rfl) ?_
      refine lv_iconst hx hb (v := nI 1) (show decode prog_33_method_26_code 59 = .ok (.iconst 1, 1) by decide +kernel) (by decide +kernel) ?_
      refine lv_iadd hx hb (show decode prog_33_method_26_code 60 = .ok (.iadd, 1) by decide +kernel) ?_
      refine lv_topi (fun z9 hz9 => ?_)
      have hz9 : z9 = nI (n + 1) := hz9.trans (nI_add n 1)
      subst hz9
      refine va_put (C := RAL) (T := TJx4a65c) (N := 3) (ty := tyJx4a65c 2) hx hb hts2 al_in tyJx4a65c tyJx4a65c_ok nmJx4a65c hown hK4 hP8 hD8 hS8 q0 (set_ne hne (set_ne hne k0)) al_at 2 (by decide) (hts2 _ al_f48) (fun _ h => h) rfl rfl rfl rfl (Nat.le_of_ble_eq_true rfl) (show decode prog_33_method_26_code 61 = .ok (.putfield 48, 3) by decide +kernel) (fun H10 locs10 hP10 hD10 hS10 => ?_)
      refine W.widen (k := 1) (n := n + n / 2 + 10) (Nat.le_of_ble_eq_true rfl) (by show 0 + 0 + (n + n / 2 + 10) ≤ n + n / 2 + 10; omega) ?_
      exact W.vret hx hb hr (fun t ht9 hW => ⟨⟨(_, _), rfl, ⟨w1.length, va_up (va_cpy f9 f9 k (k + 1) (n - k)) k (some y), ⟨m9 + nI 1, q, set_at (set_ne hne (set_ne hne k0)), Or.inr ⟨w1.length, tys.length, cap9, cB, rfl, k2, set_ne (Ne.symm hne) (set_at (set_at k1)), by omega, c2, c3⟩⟩, fun j hj => by
          show (if j = k then _ else va_cpy f9 f9 k (k + 1) (n - k) j) = if j < k then f j else if j = k then _ else f (j - 1)
          by_cases c : j = k
          · rw [if_pos c, if_neg (by omega), if_pos c]
          · rw [if_neg c]
            by_cases c2 : j < k
            · rw [if_pos c2, pk_cpy_out (Or.inl (by omega))]; exact k3 j (by omega)
            · rw [if_neg c2, if_neg c, pk_cpy_in (by omega) (by omega), show k + (j - (k + 1)) = j - 1 by omega]; exact k3 (j - 1) (by omega), fun q x a b h => set_ne (Ne.symm a) (set_ne (Ne.symm b) (set_ne (Ne.symm b) (k4 q x a (gW q x a h)))), Or.inr (by omega), k5⟩, by rw [ht9]; exact hP10, hK4.moved hW.alike, hD10⟩, hS10.F ht9⟩) hS10.2.2 (show decode prog_33_method_26_code 64 = .ok (.return_, 1) by decide +kernel) hlocks
end SIMQ4
