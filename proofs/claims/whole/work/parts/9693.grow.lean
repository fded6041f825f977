section SIMQ
variable {D : va_G} {G : xG} {A : Nat → Prop} {mid d : Nat} {p : Program} {lc : Launch} {e : Env} {R : Room} {s : State} {m : MethodId} {args : Array Value} {below : List Frame} {meth : Method} {c : Code} {Z : State → Prop} {ad0 : sA} {b0 : Nat × Nat} {pc : Nat} {l : aL} {st r : List aV} {σ : aM}
abbrev y_nl : MethodName := ⟨"jdk/internal/util/ArraysSupport", "newLength", "(III)I"⟩
set_option maxRecDepth 100000 in
theorem ok_nlC : Cond.code y_nl prog_41_method_27_code 4 (some .int) ∈ tb := tbm 194 ⟨rfl, rfl⟩
abbrev y_cp3 : MethodName := ⟨"java/util/Arrays", "copyOf", "([Ljava/lang/Object;ILjava/lang/Class;)[Ljava/lang/Object;"⟩
set_option maxRecDepth 100000 in
theorem ok_cp3C : Cond.code y_cp3 prog_34_method_120_code 4 (some (.array (.object "java/lang/Object"))) ∈ tb := tbm 226 ⟨rfl, rfl⟩
abbrev y_cp2 : MethodName := ⟨"java/util/Arrays", "copyOf", "([Ljava/lang/Object;I)[Ljava/lang/Object;"⟩
set_option maxRecDepth 100000 in
theorem ok_cp2C : Cond.code y_cp2 prog_34_method_119_code 2 (some (.array (.object "java/lang/Object"))) ∈ tb := tbm 204 ⟨rfl, rfl⟩
set_option maxRecDepth 100000 in
theorem ok_mxC : Cond.code Lib.Math.max.name Lib.Math.max.code 2 (some .int) ∈ tb := tbm 197 ⟨rfl, rfl⟩
set_option maxRecDepth 100000 in
theorem ok_mnC : Cond.code Lib.Math.min.name Lib.Math.min.code 2 (some .int) ∈ tb := tbm 232 ⟨rfl, rfl⟩
theorem shr1 {n : Nat} (h : n < 100001) : nI n >>> (nI 1 &&& 31) = nI (n / 2) := by
  have k := pk_shrN (n := n) (by omega) ((1 : Int32) &&& 31) 1 (by decide)
  rw [Nat.pow_one] at k
  exact k
abbrev oOA : String := "java/lang/Object"
theorem met_nl {n : Nat} {H : Heap} (h2 : 10 ≤ n) (hn : n ≤ 60000) : Met lc y_nl (Cond.code y_nl prog_41_method_27_code 4 (some .int) :: tb) { frames := 2, cells := 0, slots := 0, locals := 60 } (va_Pc [.int (nI n), .int (nI 1), .int (nI (n / 2))] (fun U => U.heap = H)) (va_Qi (fun r (_ : Unit) => r = nI (n + n / 2)) (fun _ t => t.heap = H) A) 0 0 A := by
  refine Met.ofW (cc := prog_41_method_27_code) (maxL := 4) (ret := (some .int)) (by decide +kernel) rfl ?_
  intro p e s m args below meth c s₁ B hml hv
  obtain ⟨rfl, hh⟩ := hv
  subst hh
  have hx := B.exec
  have hb := B.bytes
  have hr := B.returns
  have hts := atoms_spec (ws := Cond.code y_nl prog_41_method_27_code 4 (some .int) :: tb) B.pre
  have hts2 : ∀ w ∈ tb, w.before _ s = true := fun w hw => hts w (List.mem_cons_of_mem _ hw)
  have hown : s.vm.findClass "jdk/internal/util/ArraysSupport" = some m.cls := findClass_of_methodNamed B.named
  have hlocks := B.notSynchronized
  have hS0 : va_S A s.heap s.heap [] := va_S.rf
  have hS5 : CallFix p m c prog_41_method_27_code 4 s _ tb "jdk/internal/util/ArraysSupport" := ⟨hx, hb, hml, hown, hts2⟩
  have hl := lv_entry ([.int (nI n), .int (nI 1), .int (nI (n / 2))]) (n := 4) (Nat.le_of_ble_eq_true rfl)
  rw [lg_entry_eq]
  generalize (lg_sl ([.int (nI n), .int (nI 1), .int (nI (n / 2))]) ++ List.replicate (4 - (lg_sl ([.int (nI n), .int (nI 1), .int (nI (n / 2))])).length) Slot.unset).toArray = ls at hl ⊢
  have hl : lv_has ls 4 [(0, .int (nI n)), (1, .int (nI 1)), (2, .int (nI (n / 2)))] := hl
  refine lv_iload_n hx hb (show decode prog_41_method_27_code 0 = .ok (.iload_n 0, 1) by decide +kernel) rfl (lv_at hl 0 rfl) ?_
  refine lv_iload_n hx hb (show decode prog_41_method_27_code 1 = .ok (.iload_n 1, 1) by decide +kernel) rfl (lv_at hl 1 rfl) ?_
  refine lv_iload_n hx hb (show decode prog_41_method_27_code 2 = .ok (.iload_n 2, 1) by decide +kernel) rfl (lv_at hl 2 rfl) ?_
  refine va_mmax hx hb (hml.trans hl.1.symm) hown (hts2 _ (tbm 195 (by decide +kernel))) (hts2 _ (tbm 196 (by decide +kernel))) (hts2 _ (tbm 9 (by decide +kernel))) (hts2 _ ok_mxC) (Nat.le_of_ble_eq_true rfl) (Nat.le_of_ble_eq_true rfl) (Nat.le_of_ble_eq_true rfl) (Nat.le_of_ble_eq_true rfl) (show decode prog_41_method_27_code 3 = .ok (.invokestatic 194, 3) by decide +kernel) ?_
  refine lv_topi (fun z1 hz1 => ?_)
  have hz1 : z1 = nI (n / 2) := hz1.trans (if_pos (nI_lt (by omega) (by omega)))
  subst hz1
  refine lv_iadd hx hb (show decode prog_41_method_27_code 6 = .ok (.iadd, 1) by decide +kernel) ?_
  refine lv_topi (fun z2 hz2 => ?_)
  have hz2 : z2 = nI (n + n / 2) := hz2.trans (nI_add n (n / 2))
  subst hz2
  refine lv_istore_n hx hb (show decode prog_41_method_27_code 7 = .ok (.istore_n 3, 1) by decide +kernel) rfl hl (by decide) rfl (fun ls hl => ?_)
  refine lv_iconst hx hb (v := nI 0) (show decode prog_41_method_27_code 8 = .ok (.iconst 0, 1) by decide +kernel) (by decide +kernel) ?_
  refine lv_iload_n hx hb (show decode prog_41_method_27_code 9 = .ok (.iload_n 3, 1) by decide +kernel) rfl (lv_at hl 0 rfl) ?_
  refine lv_icmp_ge hx hb (show decode prog_41_method_27_code 10 = .ok (.if_icmp .ge 11, 3) by decide +kernel) (tgt := 21) rfl (fun h => absurd h (nI_nle (by omega) (by omega))) (fun hbr => ?_)
  refine lv_iload_n hx hb (show decode prog_41_method_27_code 13 = .ok (.iload_n 3, 1) by decide +kernel) rfl (lv_at hl 0 rfl) ?_
  refine lv_ldc hx hb (v := 2147483639) hown (hts2 _ (tbm 198 (by decide +kernel))) (show decode prog_41_method_27_code 14 = .ok (.ldc 200, 2) by decide +kernel) ?_
  refine lv_icmp_gt hx hb (show decode prog_41_method_27_code 16 = .ok (.if_icmp .gt 5, 3) by decide +kernel) (tgt := 21) rfl (fun h => absurd h (show ¬ nI 2147483639 < nI (n + n / 2) from nI_nlt (by omega) (by decide))) (fun hbr => ?_)
  refine lv_iload_n hx hb (show decode prog_41_method_27_code 19 = .ok (.iload_n 3, 1) by decide +kernel) rfl (lv_at hl 0 rfl) ?_
  exact W.iret hx hb hr (fun t ht hW => ⟨⟨_, (), rfl, rfl, ht⟩, hS0.F ht⟩) hS0.2.2 (show decode prog_41_method_27_code 20 = .ok (.ireturn, 1) by decide +kernel) hlocks
theorem met_cp3 {ws : va_W} {tys : List (ClassId × FieldType)} {H : Heap} {q1 t0 ba cap n2 : Nat} {cA : ClassId} {f : Nat → Option Nat} (h1 : ws[q1]? = some (ba, rfA cA cap f)) (ht : tys[t0]? = some (cA, .object oOA)) (hc : cap ≤ n2) (hn2 : n2 ≤ 100000) (hE : ELm G ws tys cap f) {mi : Nat} : Met lc y_cp3 (Cond.code y_cp3 prog_34_method_120_code 4 (some (.array (.object "java/lang/Object"))) :: tb) { frames := 1, cells := 1, slots := n2, locals := 60 } (va_Pc [.ref ba, .int (nI n2), .ref mi] (fun U => PW D G A ws tys H U ∧ va_Mi "[Ljava/lang/Object;" mi U)) (va_Qq (fun r (u : va_W × List (ClassId × FieldType)) => ∃ (q : Nat) (cB : ClassId), r = some q ∧ u.1[ws.length]? = some (q, rfA cB n2 (va_cpy f (fun _ => none) 0 0 cap)) ∧ u.2[tys.length]? = some (cB, .object oOA) ∧ (∀ (q : Nat) (x : Nat × va_E), ws[q]? = some x → u.1[q]? = some x) ∧ keepT tys u.2) (QW D A) A) 1 n2 A := by
  refine Met.ofW (cc := prog_34_method_120_code) (maxL := 4) (ret := (some (.array (.object "java/lang/Object")))) (by decide +kernel) rfl ?_
  intro p e s m args below meth c s₁ B hml hv
  obtain ⟨rfl, ⟨hh, hP, hK, hD, hxf, hWn, hA⟩, hmi⟩ := hv
  subst hh
  have hx := B.exec
  have hb := B.bytes
  have hr := B.returns
  have hts := atoms_spec (ws := Cond.code y_cp3 prog_34_method_120_code 4 (some (.array (.object "java/lang/Object"))) :: tb) B.pre
  have hts2 : ∀ w ∈ tb, w.before _ s = true := fun w hw => hts w (List.mem_cons_of_mem _ hw)
  have hown : s.vm.findClass "java/util/Arrays" = some m.cls := findClass_of_methodNamed B.named
  have hlocks := B.notSynchronized
  have hS0 : va_S A s.heap s.heap [] := va_S.rf
  have hS5 : CallFix p m c prog_34_method_120_code 4 s _ tb "java/util/Arrays" := ⟨hx, hb, hml, hown, hts2⟩
  have hl := lv_entry ([.ref ba, .int (nI n2), .ref mi]) (n := 4) (Nat.le_of_ble_eq_true rfl)
  rw [lg_entry_eq]
  generalize (lg_sl ([.ref ba, .int (nI n2), .ref mi]) ++ List.replicate (4 - (lg_sl ([.ref ba, .int (nI n2), .ref mi])).length) Slot.unset).toArray = ls at hl ⊢
  have hl : lv_has ls 4 [(0, .ref ba), (1, .int (nI n2)), (2, .ref mi)] := hl
  refine lv_aload_n hx hb (show decode prog_34_method_120_code 0 = .ok (.aload_n 2, 1) by decide +kernel) rfl (lv_at hl 2 rfl) ?_
  refine va_ldcM hx hb hown (hts2 _ (tbm 227 (by decide +kernel))) hmi (show decode prog_34_method_120_code 1 = .ok (.ldc 110, 2) by decide +kernel) ?_
  refine lv_acmp_ne (rx := some mi) (ry := some mi) hx hb (show decode prog_34_method_120_code 3 = .ok (.if_acmp .ne 10, 3) by decide +kernel) (tgt := 13) rfl (fun h => absurd rfl h) (fun _ => ?_)
  refine lv_iload_n hx hb (show decode prog_34_method_120_code 6 = .ok (.iload_n 1, 1) by decide +kernel) rfl (lv_at hl 1 rfl) ?_
  refine va_newq hx hb hown (hts2 _ (tbm 229 (by decide +kernel))) hWn.2.2.2.2.1 hK hP hD hS0 hA (n := nI n2) (N' := n2) (nI_pos (by omega)) (nI_clamp (by omega)) (by omega) (Nat.le_of_ble_eq_true rfl) (by show 0 + n2 ≤ n2; omega) (show decode prog_34_method_120_code 7 = .ok (.anewarray 2, 3) by decide +kernel) (fun q cB H1 hK1 hP1 hD1 hS1 => ?_)
  refine lv_goto hx hb (show decode prog_34_method_120_code 10 = .ok (.goto 14, 3) by decide +kernel) (tgt := 24) rfl ?_
  refine lv_astore_n hx hb (show decode prog_34_method_120_code 24 = .ok (.astore_n 3, 1) by decide +kernel) rfl hl (by decide) rfl (fun ls hl => ?_)
  refine lv_aload_n hx hb (show decode prog_34_method_120_code 25 = .ok (.aload_n 0, 1) by decide +kernel) rfl (lv_at hl 1 rfl) ?_
  refine lv_iconst hx hb (v := nI 0) (show decode prog_34_method_120_code 26 = .ok (.iconst 0, 1) by decide +kernel) (by decide +kernel) ?_
  refine lv_aload_n hx hb (show decode prog_34_method_120_code 27 = .ok (.aload_n 3, 1) by decide +kernel) rfl (lv_at hl 0 rfl) ?_
  refine lv_iconst hx hb (v := nI 0) (show decode prog_34_method_120_code 28 = .ok (.iconst 0, 1) by decide +kernel) (by decide +kernel) ?_
  refine lv_aload_n hx hb (show decode prog_34_method_120_code 29 = .ok (.aload_n 0, 1) by decide +kernel) rfl (lv_at hl 1 rfl) ?_
  refine va_alen hx hb hK1 hP1 q1 t0 (app_lt h1) (app_lt ht) (v := nI cap) rfl (show decode prog_34_method_120_code 30 = .ok (.arraylength, 1) by decide +kernel) ?_
  refine lv_iload_n hx hb (show decode prog_34_method_120_code 31 = .ok (.iload_n 1, 1) by decide +kernel) rfl (lv_at hl 2 rfl) ?_
  refine va_mmin hx hb (hml.trans hl.1.symm) hown (hts2 _ (tbm 230 (by decide +kernel))) (hts2 _ (tbm 231 (by decide +kernel))) (hts2 _ (tbm 9 (by decide +kernel))) (hts2 _ ok_mnC) (Nat.le_of_ble_eq_true rfl) (Nat.le_of_ble_eq_true rfl) (Nat.le_of_ble_eq_true rfl) (by show 0 + n2 ≤ n2; omega) (show decode prog_34_method_120_code 32 = .ok (.invokestatic 304, 3) by decide +kernel) ?_
  refine lv_topi (fun z1 hz1 => ?_)
  have hz1 : z1 = nI cap := hz1.trans (if_neg (nI_nlt hc (by omega)))
  subst hz1
  refine va_copyM hx hb (hml.trans hl.1.symm) hown (hts2 _ (tbm 233 (by decide +kernel))) (hts2 _ (tbm 235 (by decide +kernel))) (hts2 _ (tbm 234 (by decide +kernel))) (hts2 _ (tbm 11 (by decide +kernel))) hK1 hP1 hD1 hS1 q1 ws.length t0 tys.length (app_lt h1) app_at (app_lt ht) app_at (sp := nI 0) (dp := nI 0) (n := nI cap) (nI_pos (by omega)) (nI_pos (by omega)) (nI_pos (by omega)) (by rw [nI_clamp (by omega), nI_clamp (by omega)]; omega) (by rw [nI_clamp (by omega), nI_clamp (by omega)]; omega) (fun i hi y hy => by
      rw [nI_clamp (by omega)] at hi hy
      rw [Nat.zero_add] at hy
      exact ((hE i hi y hy).keep KS.app keepT.app).any hP1 hK1 hxf hS1 hWn) (Nat.le_of_ble_eq_true rfl) (Nat.le_of_ble_eq_true rfl) (show decode prog_34_method_120_code 35 = .ok (.invokestatic 150, 3) by decide +kernel) (fun H2 locs2 hP2 hD2 hS2 => ?_)
  simp only [nI_clamp (show 0 < 2 ^ 31 by omega), nI_clamp (show cap < 2 ^ 31 by omega)] at hP2 hD2
  refine lv_aload_n hx hb (show decode prog_34_method_120_code 38 = .ok (.aload_n 3, 1) by decide +kernel) rfl (lv_at hl 0 rfl) ?_
  refine W.widen (k := 1) (n := n2) (Nat.le_of_ble_eq_true rfl) (by show 0 + n2 ≤ n2; omega) ?_
  exact W.aret hx hb hr (Or.inr ⟨_, rfl⟩) (Or.inr ⟨_, rfl⟩) (fun t ht9 hW => ⟨⟨some q, (_, _), rfl, ⟨q, cB, rfl, set_at app_at, app_at, fun j x h => set_ne (by have := at_lt h; omega) (app_lt h), keepT.app⟩, by rw [ht9]; exact hP2, hK1.moved hW.alike, hD2⟩, hS2.F ht9⟩) hS2.2.2 (show decode prog_34_method_120_code 39 = .ok (.areturn, 1) by decide +kernel) hlocks
theorem met_cp2 {ws : va_W} {tys : List (ClassId × FieldType)} {H : Heap} {q1 t0 ba cap n2 : Nat} {cA : ClassId} {f : Nat → Option Nat} (h1 : ws[q1]? = some (ba, rfA cA cap f)) (ht : tys[t0]? = some (cA, .object oOA)) (hc : cap ≤ n2) (hn2 : n2 ≤ 100000) (hE : ELm G ws tys cap f) : Met lc y_cp2 (Cond.code y_cp2 prog_34_method_119_code 2 (some (.array (.object "java/lang/Object"))) :: tb) { frames := 2, cells := 1, slots := n2, locals := 110 } (va_Pc [.ref ba, .int (nI n2)] (PW D G A ws tys H)) (va_Qq (fun r (u : va_W × List (ClassId × FieldType)) => ∃ (q : Nat) (cB : ClassId), r = some q ∧ u.1[ws.length]? = some (q, rfA cB n2 (va_cpy f (fun _ => none) 0 0 cap)) ∧ u.2[tys.length]? = some (cB, .object oOA) ∧ (∀ (q : Nat) (x : Nat × va_E), ws[q]? = some x → u.1[q]? = some x) ∧ keepT tys u.2) (QW D A) A) 1 n2 A := by
  refine Met.ofW (cc := prog_34_method_119_code) (maxL := 2) (ret := (some (.array (.object "java/lang/Object")))) (by decide +kernel) rfl ?_
  intro p e s m args below meth c s₁ B hml hv
  obtain ⟨rfl, hh, hP, hK, hD, hxf, hWn, hA⟩ := hv
  subst hh
  have hx := B.exec
  have hb := B.bytes
  have hr := B.returns
  have hts := atoms_spec (ws := Cond.code y_cp2 prog_34_method_119_code 2 (some (.array (.object "java/lang/Object"))) :: tb) B.pre
  have hts2 : ∀ w ∈ tb, w.before _ s = true := fun w hw => hts w (List.mem_cons_of_mem _ hw)
  have hown : s.vm.findClass "java/util/Arrays" = some m.cls := findClass_of_methodNamed B.named
  have hlocks := B.notSynchronized
  have hS0 : va_S A s.heap s.heap [] := va_S.rf
  have hS5 : CallFix p m c prog_34_method_119_code 2 s _ tb "java/util/Arrays" := ⟨hx, hb, hml, hown, hts2⟩
  have hl := lv_entry ([.ref ba, .int (nI n2)]) (n := 2) (Nat.le_of_ble_eq_true rfl)
  rw [lg_entry_eq]
  generalize (lg_sl ([.ref ba, .int (nI n2)]) ++ List.replicate (2 - (lg_sl ([.ref ba, .int (nI n2)])).length) Slot.unset).toArray = ls at hl ⊢
  have hl : lv_has ls 2 [(0, .ref ba), (1, .int (nI n2))] := hl
  obtain ⟨mi, hmi⟩ := hxf.2.2.2.2.2.2.1
  refine lv_aload_n hx hb (show decode prog_34_method_119_code 0 = .ok (.aload_n 0, 1) by decide +kernel) rfl (lv_at hl 0 rfl) ?_
  refine lv_iload_n hx hb (show decode prog_34_method_119_code 1 = .ok (.iload_n 1, 1) by decide +kernel) rfl (lv_at hl 1 rfl) ?_
  refine lv_aload_n hx hb (show decode prog_34_method_119_code 2 = .ok (.aload_n 0, 1) by decide +kernel) rfl (lv_at hl 0 rfl) ?_
  refine va_getC hx hb (hml.trans hl.1.symm) hown (hts2 _ (tbm 205 (by decide +kernel))) (va_Dc.use hWn.2.2.2.2.2) (hts2 _ (tbm 1966 (by decide +kernel))) (hts2 _ (tbm 206 (by decide +kernel))) (hts2 _ (tbm 223 (by decide +kernel))) hmi ⟨_, hP q1 _ h1, rfl, va_nmO (hK.2 t0 _ ht).2 (by decide +kernel)⟩ (Nat.le_of_ble_eq_true rfl) (Nat.le_of_ble_eq_true rfl) (show decode prog_34_method_119_code 3 = .ok (.invokevirtual 86, 3) by decide +kernel) ?_
  have hcw1 := va_cwS (R := { frames := 2, cells := 1, slots := n2, locals := 110 }) (rm := { frames := 1, cells := 1, slots := n2, locals := 60 }) 3 hts2 (goodIn_app (a := [_, _, _]) (fun w hw => by
        simp only [List.mem_cons, List.not_mem_nil, or_false] at hw
        rcases hw with rfl | rfl | rfl
        · exact goodIn_1 (tbm 224 (by decide +kernel)) _ (List.mem_singleton.mpr rfl)
        · exact goodIn_1 (tbm 225 (by decide +kernel)) _ (List.mem_singleton.mpr rfl)
        · exact goodIn_1 (tbm 10 (by decide +kernel)) _ (List.mem_singleton.mpr rfl)) (goodIn_tb ok_cp3C) : GoodIn tb (va_wsS "java/util/Arrays" 300 y_cp3 (Cond.code y_cp3 prog_34_method_120_code 4 (some (.array (.object "java/lang/Object"))) :: tb))) rfl rfl rfl ⟨by decide, by decide, by decide +kernel⟩ ⟨Nat.le_of_ble_eq_true rfl, Nat.le_of_ble_eq_true rfl⟩
  refine va_callq (va_runS (As := [.ref ba, .int (nI n2), .ref mi]) hS5 (met_cp3 (A := A) (D := D) (G := G) (H := s.heap) (mi := mi) h1 ht hc hn2 hE) hcw1 ⟨(by rintro a U g mk ⟨h0, ⟨h1, h2, h3, h4, h5, h6, h7⟩, h8⟩; exact ⟨h0, ⟨h1, h2, h3.moved (Vm.Alike.refl U.vm), h4, h5.on (Vm.Alike.refl U.vm) va_S.rf, tbn_v (s := U) rfl h6, h7⟩, va_Mi.moved (Vm.Alike.refl U.vm) h8⟩), fun U hU hW => ⟨rfl, ⟨hU, hP, hK.moved hW.alike, hD, hxf.on hW.alike hS0, tbn_w hW hWn, fun q hq => hA q (Nat.le_trans hS0.1 hq)⟩, va_Mi.moved hW.alike hmi⟩⟩ rfl rfl hl.1 rfl (lv_room (Nat.le_of_ble_eq_true rfl)) (show decode prog_34_method_119_code 6 = .ok (.invokestatic 300, 3) by decide +kernel) ⟨Nat.le_of_ble_eq_true rfl, by show 0 + n2 ≤ n2; omega⟩) hS0 (fun _ _ h => h) (fun _ h => h) (fun r1 u1 t1 H1 locs1 ht1 hvm1 hw1 hB1 _ _ hS1 => ?_)
  obtain ⟨hP1, hK1, hD1⟩ := hB1
  rw [ht1] at hP1
  have hK1 := hK1.moved hvm1.symm
  exact W.widen (k := 1) (n := n2) (Nat.le_of_ble_eq_true rfl) (by show 0 + n2 ≤ n2; omega) (W.aret hx hb hr (Or.inr ⟨_, rfl⟩) (va_rf_or _) (fun t ht9 hW => ⟨⟨_, u1, rfl, hw1, by rw [ht9]; exact hP1, hK1.moved hW.alike, hD1⟩, hS1.F ht9⟩) hS1.2.2 (show decode prog_34_method_119_code 9 = .ok (.areturn, 1) by decide +kernel) hlocks)
end SIMQ
