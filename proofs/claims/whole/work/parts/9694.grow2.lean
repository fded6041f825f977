section SIMQ2
variable {D : va_G} {G : xG} {A : Nat → Prop} {mid d : Nat} {p : Program} {lc : Launch} {e : Env} {R : Room} {s : State} {m : MethodId} {args : Array Value} {below : List Frame} {meth : Method} {c : Code} {Z : State → Prop} {ad0 : sA} {b0 : Nat × Nat} {pc : Nat} {l : aL} {st r : List aV} {σ : aM}
abbrev y_gr1 : MethodName := ⟨"java/util/ArrayList", "grow", "(I)[Ljava/lang/Object;"⟩
set_option maxRecDepth 100000 in
theorem ok_gr1C : Cond.code y_gr1 prog_33_method_6_code 4 (some (.array (.object "java/lang/Object"))) ∈ tb := tbm 191 ⟨rfl, rfl⟩
abbrev y_gr0 : MethodName := ⟨"java/util/ArrayList", "grow", "()[Ljava/lang/Object;"⟩
set_option maxRecDepth 100000 in
theorem ok_gr0C : Cond.code y_gr0 prog_33_method_7_code 1 (some (.array (.object "java/lang/Object"))) ∈ tb := tbm 187 ⟨rfl, rfl⟩
def GB (G : xG) (ws : va_W) (tys : List (ClassId × FieldType)) (bb n : Nat) (f : Nat → Option Nat) : Prop := (bb = G.2.2.2.2.2 ∧ n = 0) ∨ ∃ (q1 t0 : Nat) (cA : ClassId), tys[t0]? = some (cA, .object oOA) ∧ ws[q1]? = some (bb, rfA cA n f) ∧ 10 ≤ n
theorem KP_ks {ws u : va_W} (h : ∀ (q : Nat) (x : Nat × va_E), ws[q]? = some x → u[q]? = some x) : KS ws u := fun q y e g => ⟨e, h q _ g, shp.rf⟩
theorem met_gr1 {ws : va_W} {tys : List (ClassId × FieldType)} {H : Heap} {q0 a bb n : Nat} {m9 : Int32} {f : Nat → Option Nat} (h0 : ws[q0]? = some (a, lsE m9 (.ref bb) n)) (hG : GB G ws tys bb n f) (hn : n ≤ 40000) (hE : ELm G ws tys n f) : Met lc y_gr1 (Cond.code y_gr1 prog_33_method_6_code 4 (some (.array (.object "java/lang/Object"))) :: tb) { frames := 4, cells := 1, slots := (n + n / 2 + 10), locals := 210 } (va_Pc [.ref a, .int (nI (n + 1))] (PW D G A ws tys H)) (va_Qq (fun r (u : va_W × List (ClassId × FieldType)) => GRW ws tys q0 a n m9 f r u) (QW D A) A) 1 (n + n / 2 + 10) A := by
  refine Met.ofW (cc := prog_33_method_6_code) (maxL := 4) (ret := (some (.array (.object "java/lang/Object")))) (by decide +kernel) rfl ?_
  intro p e s m args below meth c s₁ B hml hv
  obtain ⟨rfl, hh, hP, hK, hD, hxf, hWn, hA⟩ := hv
  subst hh
  have hx := B.exec
  have hb := B.bytes
  have hr := B.returns
  have hts := atoms_spec (ws := Cond.code y_gr1 prog_33_method_6_code 4 (some (.array (.object "java/lang/Object"))) :: tb) B.pre
  have hts2 : ∀ w ∈ tb, w.before _ s = true := fun w hw => hts w (List.mem_cons_of_mem _ hw)
  have hown : s.vm.findClass "java/util/ArrayList" = some m.cls := findClass_of_methodNamed B.named
  have hlocks := B.notSynchronized
  have hS0 : va_S A s.heap s.heap [] := va_S.rf
  have hS5 : CallFix p m c prog_33_method_6_code 4 s _ tb "java/util/ArrayList" := ⟨hx, hb, hml, hown, hts2⟩
  have hl := lv_entry ([.ref a, .int (nI (n + 1))]) (n := 4) (Nat.le_of_ble_eq_true rfl)
  rw [lg_entry_eq]
  generalize (lg_sl ([.ref a, .int (nI (n + 1))]) ++ List.replicate (4 - (lg_sl ([.ref a, .int (nI (n + 1))])).length) Slot.unset).toArray = ls at hl ⊢
  have hl : lv_has ls 4 [(0, .ref a), (1, .int (nI (n + 1)))] := hl
  rcases hG with ⟨rfl, hn0⟩ | ⟨q1, t0, cA, ht, h1, h10⟩
  · refine lv_aload_n hx hb (show decode prog_33_method_6_code 0 = .ok (.aload_n 0, 1) by decide +kernel) rfl (lv_at hl 0 rfl) ?_
    refine va_get (C := RAL) (T := TJx4a65c) (N := 3) hx hb hts2 al_in hown hK hP q0 h0 al_at 1 (by decide) (hts2 _ al_f9) (fun _ h => h) rfl (show decode prog_33_method_6_code 1 = .ok (.getfield 9, 3) by decide +kernel) ?_
    refine va_tlen hx hb hxf.2.2.2.1 hS0 (v := nI n) (by rw [hn0]; rfl) (show decode prog_33_method_6_code 4 = .ok (.arraylength, 1) by decide +kernel) ?_
    refine lv_istore_n hx hb (show decode prog_33_method_6_code 5 = .ok (.istore_n 2, 1) by decide +kernel) rfl hl (by decide) rfl (fun ls hl => ?_)
    refine lv_iload_n hx hb (show decode prog_33_method_6_code 6 = .ok (.iload_n 2, 1) by decide +kernel) rfl (lv_at hl 0 rfl) ?_
    refine lv_if_gt hx hb (show decode prog_33_method_6_code 7 = .ok (.ifCond .gt 13, 3) by decide +kernel) (tgt := 20) rfl (fun h => absurd h (show ¬ (0 : Int32) < nI n by rw [hn0]; decide)) (fun hbr => ?_)
    refine lv_aload_n hx hb (show decode prog_33_method_6_code 10 = .ok (.aload_n 0, 1) by decide +kernel) rfl (lv_at hl 1 rfl) ?_
    refine va_get (C := RAL) (T := TJx4a65c) (N := 3) hx hb hts2 al_in hown hK hP q0 h0 al_at 1 (by decide) (hts2 _ al_f9) (fun _ h => h) rfl (show decode prog_33_method_6_code 11 = .ok (.getfield 9, 3) by decide +kernel) ?_
    refine va_gets hx hb hxf.2.2.1 hS0 hown (hts2 _ (tbm 51 (by decide +kernel))) (fun _ h => h) (show decode prog_33_method_6_code 14 = .ok (.getstatic 39, 3) by decide +kernel) ?_
    refine lv_acmp_eq (rx := some G.2.2.2.2.2) (ry := some G.2.2.2.2.2) hx hb (show decode prog_33_method_6_code 17 = .ok (.if_acmp .eq 28, 3) by decide +kernel) (tgt := 45) rfl (fun _ => ?_) (fun h => absurd rfl h)
    refine lv_aload_n hx hb (show decode prog_33_method_6_code 45 = .ok (.aload_n 0, 1) by decide +kernel) rfl (lv_at hl 1 rfl) ?_
    refine lv_bipush hx hb (show decode prog_33_method_6_code 46 = .ok (.bipush 10, 2) by decide +kernel) (v := nI 10) (by decide +kernel) ?_
    refine lv_iload_n hx hb (show decode prog_33_method_6_code 48 = .ok (.iload_n 1, 1) by decide +kernel) rfl (lv_at hl 2 rfl) ?_
    refine va_mmax hx hb (hml.trans hl.1.symm) hown (hts2 _ (tbm 236 (by decide +kernel))) (hts2 _ (tbm 196 (by decide +kernel))) (hts2 _ (tbm 9 (by decide +kernel))) (hts2 _ ok_mxC) (Nat.le_of_ble_eq_true rfl) (Nat.le_of_ble_eq_true rfl) (Nat.le_of_ble_eq_true rfl) (by show 0 ≤ n + n / 2 + 10; omega) (show decode prog_33_method_6_code 49 = .ok (.invokestatic 79, 3) by decide +kernel) ?_
    refine lv_topi (fun z1 hz1 => ?_)
    have hz1 : z1 = nI 10 := hz1.trans (if_neg (nI_nlt (by omega) (by omega)))
    subst hz1
    refine va_newq hx hb hown (hts2 _ (tbm 237 (by decide +kernel))) hWn.2.2.2.2.1 hK hP hD hS0 hA (n := nI 10) (N' := 10) (nI_pos (by omega)) (nI_clamp (by omega)) (by omega) (Nat.le_of_ble_eq_true rfl) (by show 0 + 10 ≤ n + n / 2 + 10; omega) (show decode prog_33_method_6_code 52 = .ok (.anewarray 7, 3) by decide +kernel) (fun q cB H1 hK1 hP1 hD1 hS1 => ?_)
    refine lv_dup_x1 hx hb (show decode prog_33_method_6_code 55 = .ok (.dup_x1, 1) by decide +kernel) rfl rfl ?_
    refine va_put (C := RAL) (T := TJx4a65c) (N := 3) (ty := tyJx4a65c 1) hx hb hts2 al_in tyJx4a65c tyJx4a65c_ok nmJx4a65c hown hK1 hP1 hD1 hS1 q0 (app_lt h0) al_at 1 (by decide) (hts2 _ al_f9) (fun _ h => h) rfl rfl rfl rfl (Nat.le_of_ble_eq_true rfl) (show decode prog_33_method_6_code 56 = .ok (.putfield 9, 3) by decide +kernel) (fun H8 locs8 hP8 hD8 hS8 => ?_)
    refine W.widen (k := 1) (n := n + n / 2 + 10) (Nat.le_of_ble_eq_true rfl) (by show 0 + 10 ≤ n + n / 2 + 10; omega) ?_
    exact W.aret hx hb hr (Or.inr ⟨_, rfl⟩) (Or.inr ⟨_, rfl⟩) (fun t ht9 hW => ⟨⟨some q, (_, _), rfl, ⟨q, 10, cB, fun _ => none, rfl, set_at (app_lt h0), set_ne (by have := at_lt h0; omega) app_at, app_at, by omega, by omega, by omega, fun j hj => absurd hj (by omega), (fun q x h1 h2 => set_ne (Ne.symm h1) (app_lt h2)), keepT.app, KS.app.tr (KS.set (app_lt h0) rfl)⟩, by rw [ht9]; exact hP8, hK1.moved hW.alike, hD8⟩, hS8.F ht9⟩) hS8.2.2 (show decode prog_33_method_6_code 59 = .ok (.areturn, 1) by decide +kernel) hlocks
  · refine lv_aload_n hx hb (show decode prog_33_method_6_code 0 = .ok (.aload_n 0, 1) by decide +kernel) rfl (lv_at hl 0 rfl) ?_
    refine va_get (C := RAL) (T := TJx4a65c) (N := 3) hx hb hts2 al_in hown hK hP q0 h0 al_at 1 (by decide) (hts2 _ al_f9) (fun _ h => h) rfl (show decode prog_33_method_6_code 1 = .ok (.getfield 9, 3) by decide +kernel) ?_
    refine va_alen hx hb hK hP q1 t0 h1 ht (v := nI n) rfl (show decode prog_33_method_6_code 4 = .ok (.arraylength, 1) by decide +kernel) ?_
    refine lv_istore_n hx hb (show decode prog_33_method_6_code 5 = .ok (.istore_n 2, 1) by decide +kernel) rfl hl (by decide) rfl (fun ls hl => ?_)
    refine lv_iload_n hx hb (show decode prog_33_method_6_code 6 = .ok (.iload_n 2, 1) by decide +kernel) rfl (lv_at hl 0 rfl) ?_
    refine lv_if_gt hx hb (show decode prog_33_method_6_code 7 = .ok (.ifCond .gt 13, 3) by decide +kernel) (tgt := 20) rfl (fun hbr => ?_) (fun h => absurd (show (0 : Int32) < nI n by rw [← nI_0]; exact nI_lt (by omega) (by omega)) h)
    refine lv_iload_n hx hb (show decode prog_33_method_6_code 20 = .ok (.iload_n 2, 1) by decide +kernel) rfl (lv_at hl 0 rfl) ?_
    refine lv_iload_n hx hb (show decode prog_33_method_6_code 21 = .ok (.iload_n 1, 1) by decide +kernel) rfl (lv_at hl 2 rfl) ?_
    refine lv_iload_n hx hb (show decode prog_33_method_6_code 22 = .ok (.iload_n 2, 1) by decide +kernel) rfl (lv_at hl 0 rfl) ?_
    refine lv_isub hx hb (show decode prog_33_method_6_code 23 = .ok (.isub, 1) by decide +kernel) ?_
    refine lv_topi (fun z1 hz1 => ?_)
    have hz1 : z1 = nI 1 := hz1.trans ((pk_sub (by omega)).trans (congrArg nI (by omega)))
    subst hz1
    refine lv_iload_n hx hb (show decode prog_33_method_6_code 24 = .ok (.iload_n 2, 1) by decide +kernel) rfl (lv_at hl 0 rfl) ?_
    refine lv_iconst hx hb (v := nI 1) (show decode prog_33_method_6_code 25 = .ok (.iconst 1, 1) by decide +kernel) (by decide +kernel) ?_
    refine lv_ishr hx hb (show decode prog_33_method_6_code 26 = .ok (.ishr, 1) by decide +kernel) ?_
    refine lv_topi (fun z2 hz2 => ?_)
    have hz2 : z2 = nI (n / 2) := hz2.trans (shr1 (by omega))
    subst hz2
    have hcw3 := va_cwS (R := { frames := 4, cells := 1, slots := (n + n / 2 + 10), locals := 210 }) (rm := { frames := 2, cells := 0, slots := 0, locals := 60 }) 3 hts2 (goodIn_app (a := [_, _, _]) (fun w hw => by
          simp only [List.mem_cons, List.not_mem_nil, or_false] at hw
          rcases hw with rfl | rfl | rfl
          · exact goodIn_1 (tbm 192 (by decide +kernel)) _ (List.mem_singleton.mpr rfl)
          · exact goodIn_1 (tbm 193 (by decide +kernel)) _ (List.mem_singleton.mpr rfl)
          · exact goodIn_1 (tbm 8 (by decide +kernel)) _ (List.mem_singleton.mpr rfl)) (goodIn_tb ok_nlC) : GoodIn tb (va_wsS "java/util/ArrayList" 73 y_nl (Cond.code y_nl prog_41_method_27_code 4 (some .int) :: tb))) rfl rfl rfl ⟨by decide, by decide, by decide +kernel⟩ ⟨Nat.le_of_ble_eq_true rfl, Nat.le_of_ble_eq_true rfl⟩
    refine va_calli (va_runS (As := [.int (nI n), .int (nI 1), .int (nI (n / 2))]) hS5 (met_nl (A := A) (H := s.heap) h10 (by omega)) hcw3 ⟨(by rintro a U g mk ⟨h0, h1⟩; exact ⟨h0, h1⟩), fun U hU hW => ⟨rfl, hU⟩⟩ rfl rfl hl.1 rfl (lv_room (Nat.le_of_ble_eq_true rfl)) (show decode prog_33_method_6_code 27 = .ok (.invokestatic 73, 3) by decide +kernel) ⟨Nat.le_of_ble_eq_true rfl, by show 0 + 0 ≤ n + n / 2 + 10; omega⟩) hS0 (fun _ _ h => h) (fun _ h => h) (fun r3 u3 t3 H3 locs3 ht3 hvm3 hw3 hB3 _ _ hS3 => ?_)
    have hB3 : t3.heap = s.heap := hB3
    rw [ht3] at hB3
    subst hB3
    have hw3 : r3 = nI (n + n / 2) := hw3
    subst hw3
    refine lv_istore_n hx hb (show decode prog_33_method_6_code 30 = .ok (.istore_n 3, 1) by decide +kernel) rfl hl (by decide) rfl (fun ls hl => ?_)
    refine lv_aload_n hx hb (show decode prog_33_method_6_code 31 = .ok (.aload_n 0, 1) by decide +kernel) rfl (lv_at hl 2 rfl) ?_
    refine lv_aload_n hx hb (show decode prog_33_method_6_code 32 = .ok (.aload_n 0, 1) by decide +kernel) rfl (lv_at hl 2 rfl) ?_
    refine va_get (C := RAL) (T := TJx4a65c) (N := 3) hx hb hts2 al_in hown hK hP q0 h0 al_at 1 (by decide) (hts2 _ al_f9) (fun _ h => h) rfl (show decode prog_33_method_6_code 33 = .ok (.getfield 9, 3) by decide +kernel) ?_
    refine lv_iload_n hx hb (show decode prog_33_method_6_code 36 = .ok (.iload_n 3, 1) by decide +kernel) rfl (lv_at hl 0 rfl) ?_
    have hcw4 := va_cwS (R := { frames := 4, cells := 1, slots := (n + n / 2 + 10), locals := 210 }) (rm := { frames := 2, cells := 1, slots := (n + n / 2), locals := 110 }) 2 hts2 (goodIn_app (a := [_, _, _]) (fun w hw => by
          simp only [List.mem_cons, List.not_mem_nil, or_false] at hw
          rcases hw with rfl | rfl | rfl
          · exact goodIn_1 (tbm 202 (by decide +kernel)) _ (List.mem_singleton.mpr rfl)
          · exact goodIn_1 (tbm 203 (by decide +kernel)) _ (List.mem_singleton.mpr rfl)
          · exact goodIn_1 (tbm 10 (by decide +kernel)) _ (List.mem_singleton.mpr rfl)) (goodIn_tb ok_cp2C) : GoodIn tb (va_wsS "java/util/ArrayList" 66 y_cp2 (Cond.code y_cp2 prog_34_method_119_code 2 (some (.array (.object "java/lang/Object"))) :: tb))) rfl rfl rfl ⟨by decide, by decide, by decide +kernel⟩ ⟨Nat.le_of_ble_eq_true rfl, Nat.le_of_ble_eq_true rfl⟩
    refine va_callq (va_runS (As := [.ref bb, .int (nI (n + n / 2))]) hS5 (met_cp2 (A := A) (D := D) (G := G) (H := s.heap) (n2 := n + n / 2) h1 ht (by omega) (by omega) hE) hcw4 ⟨PW_blind, fun U hU hW => ⟨rfl, hU, hP, hK.moved hW.alike, hD, hxf.on hW.alike hS3, tbn_w hW hWn, fun q hq => hA q (Nat.le_trans hS3.1 hq)⟩⟩ rfl rfl hl.1 rfl (lv_room (Nat.le_of_ble_eq_true rfl)) (show decode prog_33_method_6_code 37 = .ok (.invokestatic 66, 3) by decide +kernel) ⟨Nat.le_of_ble_eq_true rfl, by show 0 + 0 + (n + n / 2) ≤ n + n / 2 + 10; omega⟩) hS3 (fun _ _ h => h) (fun _ h => h) (fun r4 u4 t4 H4 locs4 ht4 hvm4 hw4 hB4 _ _ hS4 => ?_)
    obtain ⟨hP4, hK4, hD4⟩ := hB4
    rw [ht4] at hP4
    have hK4 := hK4.moved hvm4.symm
    obtain ⟨q, cB, rfl, g1, g2, g3, g4⟩ := hw4
    refine lv_dup_x1 hx hb (show decode prog_33_method_6_code 40 = .ok (.dup_x1, 1) by decide +kernel) rfl rfl ?_
    refine va_put (C := RAL) (T := TJx4a65c) (N := 3) (ty := tyJx4a65c 1) hx hb hts2 al_in tyJx4a65c tyJx4a65c_ok nmJx4a65c hown hK4 hP4 hD4 hS4 q0 (g3 _ _ h0) al_at 1 (by decide) (hts2 _ al_f9) (fun _ h => h) rfl rfl rfl rfl (Nat.le_of_ble_eq_true rfl) (show decode prog_33_method_6_code 41 = .ok (.putfield 9, 3) by decide +kernel) (fun H5 locs5 hP5 hD5 hS5 => ?_)
    refine W.widen (k := 1) (n := n + n / 2 + 10) (Nat.le_of_ble_eq_true rfl) (by show 0 + 0 + (n + n / 2) ≤ n + n / 2 + 10; omega) ?_
    exact W.aret hx hb hr (Or.inr ⟨_, rfl⟩) (Or.inr ⟨_, rfl⟩) (fun t ht9 hW => ⟨⟨some q, (_, _), rfl, ⟨q, n + n / 2, cB, va_cpy f (fun _ => none) 0 0 n, rfl, set_at (g3 _ _ h0), set_ne (by have := at_lt h0; omega) g1, g2, by omega, by omega, by omega, fun j hj => (pk_cpy_in (by omega) (by omega)).trans (congrArg f (by omega)), (fun q x h1 h2 => set_ne (Ne.symm h1) (g3 _ _ h2)), g4, (KP_ks g3).tr (KS.set (g3 _ _ h0) rfl)⟩, by rw [ht9]; exact hP5, hK4.moved hW.alike, hD5⟩, hS5.F ht9⟩) hS5.2.2 (show decode prog_33_method_6_code 44 = .ok (.areturn, 1) by decide +kernel) hlocks
theorem met_gr0 {ws : va_W} {tys : List (ClassId × FieldType)} {H : Heap} {q0 a bb n : Nat} {m9 : Int32} {f : Nat → Option Nat} (h0 : ws[q0]? = some (a, lsE m9 (.ref bb) n)) (hG : GB G ws tys bb n f) (hn : n ≤ 40000) (hE : ELm G ws tys n f) : Met lc y_gr0 (Cond.code y_gr0 prog_33_method_7_code 1 (some (.array (.object "java/lang/Object"))) :: tb) { frames := 5, cells := 1, slots := (n + n / 2 + 10), locals := 260 } (va_Pc [.ref a] (PW D G A ws tys H)) (va_Qq (fun r (u : va_W × List (ClassId × FieldType)) => GRW ws tys q0 a n m9 f r u) (QW D A) A) 1 (n + n / 2 + 10) A := by
  refine Met.ofW (cc := prog_33_method_7_code) (maxL := 1) (ret := (some (.array (.object "java/lang/Object")))) (by decide +kernel) rfl ?_
  intro p e s m args below meth c s₁ B hml hv
  obtain ⟨rfl, hh, hP, hK, hD, hxf, hWn, hA⟩ := hv
  subst hh
  have hx := B.exec
  have hb := B.bytes
  have hr := B.returns
  have hts := atoms_spec (ws := Cond.code y_gr0 prog_33_method_7_code 1 (some (.array (.object "java/lang/Object"))) :: tb) B.pre
  have hts2 : ∀ w ∈ tb, w.before _ s = true := fun w hw => hts w (List.mem_cons_of_mem _ hw)
  have hown : s.vm.findClass "java/util/ArrayList" = some m.cls := findClass_of_methodNamed B.named
  have hlocks := B.notSynchronized
  have hS0 : va_S A s.heap s.heap [] := va_S.rf
  have hS5 : CallFix p m c prog_33_method_7_code 1 s _ tb "java/util/ArrayList" := ⟨hx, hb, hml, hown, hts2⟩
  have hl := lv_entry ([.ref a]) (n := 1) (Nat.le_of_ble_eq_true rfl)
  rw [lg_entry_eq]
  generalize (lg_sl ([.ref a]) ++ List.replicate (1 - (lg_sl ([.ref a])).length) Slot.unset).toArray = ls at hl ⊢
  have hl : lv_has ls 1 [(0, .ref a)] := hl
  refine lv_aload_n hx hb (show decode prog_33_method_7_code 0 = .ok (.aload_n 0, 1) by decide +kernel) rfl (lv_at hl 0 rfl) ?_
  refine lv_aload_n hx hb (show decode prog_33_method_7_code 1 = .ok (.aload_n 0, 1) by decide +kernel) rfl (lv_at hl 0 rfl) ?_
  refine va_get (C := RAL) (T := TJx4a65c) (N := 3) hx hb hts2 al_in hown hK hP q0 h0 al_at 2 (by decide) (hts2 _ al_f48) (fun _ h => h) rfl (show decode prog_33_method_7_code 2 = .ok (.getfield 48, 3) by decide +kernel) ?_
  refine lv_iconst hx hb (v := nI 1) (show decode prog_33_method_7_code 5 = .ok (.iconst 1, 1) by decide +kernel) (by decide +kernel) ?_
  refine lv_iadd hx hb (show decode prog_33_method_7_code 6 = .ok (.iadd, 1) by decide +kernel) ?_
  refine lv_topi (fun z1 hz1 => ?_)
  have hz1 : z1 = nI (n + 1) := hz1.trans (nI_add n 1)
  subst hz1
  have hcw2 := cwV (R := { frames := 5, cells := 1, slots := (n + n / 2 + 10), locals := 260 }) (rm := { frames := 4, cells := 1, slots := (n + n / 2 + 10), locals := 210 }) 1 hts2 (goodIn_app (a := [_, _, _, _]) (fun w hw => by
        simp only [List.mem_cons, List.not_mem_nil, or_false] at hw
        rcases hw with rfl | rfl | rfl | rfl
        · exact goodIn_1 (tbm 188 (by decide +kernel)) _ (List.mem_singleton.mpr rfl)
        · exact goodIn_1 (tbm 190 (by decide +kernel)) _ (List.mem_singleton.mpr rfl)
        · exact goodIn_1 (tbs (y := y_gr1) (n := 3) 2 (by decide +kernel)) _ (List.mem_singleton.mpr rfl)
        · exact goodIn_1 (tbm 4 (by decide +kernel)) _ (List.mem_singleton.mpr rfl)) (goodIn_tb ok_gr1C) : GoodIn tb (wsV "java/util/ArrayList" 69 "java/util/ArrayList" y_gr1 (Cond.code y_gr1 prog_33_method_6_code 4 (some (.array (.object "java/lang/Object"))) :: tb))) rfl rfl rfl ⟨rfl, by decide +kernel⟩ ⟨Nat.le_of_ble_eq_true rfl, Nat.le_of_ble_eq_true rfl⟩
  refine va_callq (va_runV (As := [.int (nI (n + 1))]) (b := a) hS5 (met_gr1 (A := A) (D := D) (G := G) (H := s.heap) h0 hG hn hE) hcw2 ⟨PW_blind, (va_recv hK hP al_at h0), fun U hU hW => ⟨rfl, hU, hP, hK.moved hW.alike, hD, hxf.on hW.alike hS0, tbn_w hW hWn, fun q hq => hA q (Nat.le_trans hS0.1 hq)⟩⟩ rfl rfl hl.1 rfl (lv_room (Nat.le_of_ble_eq_true rfl)) (show decode prog_33_method_7_code 7 = .ok (.invokevirtual 69, 3) by decide +kernel) ⟨Nat.le_of_ble_eq_true rfl, by show 0 + (n + n / 2 + 10) ≤ n + n / 2 + 10; omega⟩) hS0 (fun _ _ h => h) (fun _ h => h) (fun r2 u2 t2 H2 locs2 ht2 hvm2 hw2 hB2 _ _ hS2 => ?_)
  obtain ⟨hP2, hK2, hD2⟩ := hB2
  rw [ht2] at hP2
  have hK2 := hK2.moved hvm2.symm
  refine W.widen (k := 1) (n := n + n / 2 + 10) (Nat.le_of_ble_eq_true rfl) (by show 0 + (n + n / 2 + 10) ≤ n + n / 2 + 10; omega) ?_
  exact W.aret hx hb hr (Or.inr ⟨_, rfl⟩) (va_rf_or _) (fun t ht9 hW => ⟨⟨_, u2, rfl, hw2, by rw [ht9]; exact hP2, hK2.moved hW.alike, hD2⟩, hS2.F ht9⟩) hS2.2.2 (show decode prog_33_method_7_code 10 = .ok (.areturn, 1) by decide +kernel) hlocks
end SIMQ2
