section SIMT
variable {D : va_G} {G : xG} {A : Nat → Prop} {mid d : Nat} {p : Program} {lc : Launch} {e : Env} {R : Room} {s : State} {m : MethodId} {args : Array Value} {below : List Frame} {meth : Method} {c : Code} {Z : State → Prop} {ad0 : sA} {b0 : Nat × Nat} {pc : Nat} {l : aL} {st r : List aV} {σ : aM}
abbrev y_cod : MethodName := ⟨"java/lang/String", "coder", "()B"⟩
set_option maxRecDepth 100000 in
theorem ok_codC : Cond.code y_cod prog_24_method_152_code 1 (some .byte) ∈ tb := tbm 580 ⟨rfl, rfl⟩
abbrev y_len : MethodName := ⟨"java/lang/String", "length", "()I"⟩
set_option maxRecDepth 100000 in
theorem ok_lenC : Cond.code y_len prog_24_method_54_code 1 (some .int) ∈ tb := tbm 576 ⟨rfl, rfl⟩
abbrev y_isl : MethodName := ⟨"java/lang/String", "isLatin1", "()Z"⟩
set_option maxRecDepth 100000 in
theorem ok_islC : Cond.code y_isl prog_24_method_154_code 1 (some .boolean) ∈ tb := tbm 590 ⟨rfl, rfl⟩
abbrev y_lch : MethodName := ⟨"java/lang/StringLatin1", "charAt", "([BI)C"⟩
set_option maxRecDepth 100000 in
theorem ok_lchC : Cond.code y_lch prog_25_method_2_code 2 (some .char) ∈ tb := tbm 593 ⟨rfl, rfl⟩
abbrev y_sci : MethodName := ⟨"java/lang/String", "checkIndex", "(II)V"⟩
set_option maxRecDepth 100000 in
theorem ok_sciC : Cond.code y_sci prog_24_method_155_code 2 none ∈ tb := tbm 596 ⟨rfl, rfl⟩
abbrev y_cha : MethodName := ⟨"java/lang/String", "charAt", "(I)C"⟩
set_option maxRecDepth 100000 in
theorem ok_chaC : Cond.code y_cha prog_24_method_56_code 2 (some .char) ∈ tb := tbm 586 ⟨rfl, rfl⟩
theorem ok_pcC1 : Cond.code yPC prog_42_method_11_code 3 (some .int) ∈ tb := ok_pcC
theorem SX_blind {H : Heap} {vs : List Value} : FrameBlind (va_Pc vs (fun U => U.heap = H ∧ xf G A U H)) := by
  rintro a U g mk ⟨h0, h1, h2⟩
  exact ⟨h0, h1, h2.on (Vm.Alike.refl U.vm) va_S.rf⟩
theorem stx_128 : ∀ t, t < stxt.length → ∀ j, j < (stxt.getD t []).length → (stxt.getD t []).getD j 0 < 128 := by decide +kernel
theorem stx_len : ∀ t, t < stxt.length → (stxt.getD t []).length < 100 := by decide +kernel
theorem met_cod {t : Nat} {H : Heap} (ht : t < stxt.length) : Met lc y_cod (Cond.code y_cod prog_24_method_152_code 1 (some .byte) :: tb) { frames := 1, cells := 0, slots := 0, locals := 12 } (va_Pc [.ref (G.2.2.2.1 t)] (fun U => U.heap = H ∧ xf G A U H)) (va_Qi (fun r (_ : Unit) => r = 0) (fun _ t => t.heap = H) A) 0 0 A := by
  refine Met.ofW (cc := prog_24_method_152_code) (maxL := 1) (ret := (some .byte)) (by decide +kernel) rfl ?_
  intro p e s m args below meth c s₁ B hml hv
  obtain ⟨rfl, hh, hxf⟩ := hv
  subst hh
  have hx := B.exec
  have hb := B.bytes
  have hr := B.returns
  have hts := atoms_spec (ws := Cond.code y_cod prog_24_method_152_code 1 (some .byte) :: tb) B.pre
  have hts2 : ∀ w ∈ tb, w.before _ s = true := fun w hw => hts w (List.mem_cons_of_mem _ hw)
  have hown : s.vm.findClass "java/lang/String" = some m.cls := findClass_of_methodNamed B.named
  have hlocks := B.notSynchronized
  have hS0 : va_S A s.heap s.heap [] := va_S.rf
  have hS5 : CallFix p m c prog_24_method_152_code 1 s _ tb "java/lang/String" := ⟨hx, hb, hml, hown, hts2⟩
  have hl := lv_entry ([.ref (G.2.2.2.1 t)]) (n := 1) (Nat.le_of_ble_eq_true rfl)
  rw [lg_entry_eq]
  generalize (lg_sl ([.ref (G.2.2.2.1 t)]) ++ List.replicate (1 - (lg_sl ([.ref (G.2.2.2.1 t)])).length) Slot.unset).toArray = ls at hl ⊢
  have hl : lv_has ls 1 [(0, .ref (G.2.2.2.1 t))] := hl
  obtain ⟨-, hsx, hz1, hz2, hz3, hz4, hz5, hz6, hz7⟩ := id hxf
  obtain ⟨hO, hco, hva, hT⟩ := hsx t ht
  have h100 := stx_len t ht
  refine va_gets hx hb hz3 hS0 hown (hts2 _ (tbm 581 (by decide +kernel))) (fun _ h => h) (show decode prog_24_method_152_code 0 = .ok (.getstatic 38, 3) by decide +kernel) ?_
  refine lv_if_eq hx hb (show decode prog_24_method_152_code 3 = .ok (.ifCond .eq 10, 3) by decide +kernel) (tgt := 13) rfl (fun h => absurd h (by decide)) (fun hbr => ?_)
  refine lv_aload_n hx hb (show decode prog_24_method_152_code 6 = .ok (.aload_n 0, 1) by decide +kernel) rfl (lv_at hl 0 rfl) ?_
  refine vk_getf hx hb hco hS0 hown (hts2 _ (tbm 1974 (by decide +kernel))) (fun _ h => h) (show decode prog_24_method_152_code 7 = .ok (.getfield 15, 3) by decide +kernel) ?_
  refine lv_goto hx hb (show decode prog_24_method_152_code 10 = .ok (.goto 4, 3) by decide +kernel) (tgt := 14) rfl ?_
  exact W.zret hx hb hr (by first | rfl | decide) (fun t ht hW => ⟨⟨_, (), rfl, rfl, ht⟩, hS0.F ht⟩) hS0.2.2 (show decode prog_24_method_152_code 14 = .ok (.ireturn, 1) by decide +kernel) hlocks
theorem met_isl {t : Nat} {H : Heap} (ht : t < stxt.length) : Met lc y_isl (Cond.code y_isl prog_24_method_154_code 1 (some .boolean) :: tb) { frames := 1, cells := 0, slots := 0, locals := 12 } (va_Pc [.ref (G.2.2.2.1 t)] (fun U => U.heap = H ∧ xf G A U H)) (va_Qi (fun r (_ : Unit) => r = 1) (fun _ t => t.heap = H) A) 0 0 A := by
  refine Met.ofW (cc := prog_24_method_154_code) (maxL := 1) (ret := (some .boolean)) (by decide +kernel) rfl ?_
  intro p e s m args below meth c s₁ B hml hv
  obtain ⟨rfl, hh, hxf⟩ := hv
  subst hh
  have hx := B.exec
  have hb := B.bytes
  have hr := B.returns
  have hts := atoms_spec (ws := Cond.code y_isl prog_24_method_154_code 1 (some .boolean) :: tb) B.pre
  have hts2 : ∀ w ∈ tb, w.before _ s = true := fun w hw => hts w (List.mem_cons_of_mem _ hw)
  have hown : s.vm.findClass "java/lang/String" = some m.cls := findClass_of_methodNamed B.named
  have hlocks := B.notSynchronized
  have hS0 : va_S A s.heap s.heap [] := va_S.rf
  have hS5 : CallFix p m c prog_24_method_154_code 1 s _ tb "java/lang/String" := ⟨hx, hb, hml, hown, hts2⟩
  have hl := lv_entry ([.ref (G.2.2.2.1 t)]) (n := 1) (Nat.le_of_ble_eq_true rfl)
  rw [lg_entry_eq]
  generalize (lg_sl ([.ref (G.2.2.2.1 t)]) ++ List.replicate (1 - (lg_sl ([.ref (G.2.2.2.1 t)])).length) Slot.unset).toArray = ls at hl ⊢
  have hl : lv_has ls 1 [(0, .ref (G.2.2.2.1 t))] := hl
  obtain ⟨-, hsx, hz1, hz2, hz3, hz4, hz5, hz6, hz7⟩ := id hxf
  obtain ⟨hO, hco, hva, hT⟩ := hsx t ht
  have h100 := stx_len t ht
  refine va_gets hx hb hz3 hS0 hown (hts2 _ (tbm 581 (by decide +kernel))) (fun _ h => h) (show decode prog_24_method_154_code 0 = .ok (.getstatic 38, 3) by decide +kernel) ?_
  refine lv_if_eq hx hb (show decode prog_24_method_154_code 3 = .ok (.ifCond .eq 14, 3) by decide +kernel) (tgt := 17) rfl (fun h => absurd h (by decide)) (fun hbr => ?_)
  refine lv_aload_n hx hb (show decode prog_24_method_154_code 6 = .ok (.aload_n 0, 1) by decide +kernel) rfl (lv_at hl 0 rfl) ?_
  refine vk_getf hx hb hco hS0 hown (hts2 _ (tbm 1974 (by decide +kernel))) (fun _ h => h) (show decode prog_24_method_154_code 7 = .ok (.getfield 15, 3) by decide +kernel) ?_
  refine lv_if_ne hx hb (show decode prog_24_method_154_code 10 = .ok (.ifCond .ne 7, 3) by decide +kernel) (tgt := 17) rfl (fun h => absurd (by decide) h) (fun hbr => ?_)
  refine lv_iconst hx hb (v := nI 1) (show decode prog_24_method_154_code 13 = .ok (.iconst 1, 1) by decide +kernel) (by decide +kernel) ?_
  refine lv_goto hx hb (show decode prog_24_method_154_code 14 = .ok (.goto 4, 3) by decide +kernel) (tgt := 18) rfl ?_
  exact W.zret hx hb hr (by first | rfl | decide) (fun t ht hW => ⟨⟨_, (), rfl, rfl, ht⟩, hS0.F ht⟩) hS0.2.2 (show decode prog_24_method_154_code 18 = .ok (.ireturn, 1) by decide +kernel) hlocks
theorem met_len {t : Nat} {H : Heap} (ht : t < stxt.length) : Met lc y_len (Cond.code y_len prog_24_method_54_code 1 (some .int) :: tb) { frames := 2, cells := 0, slots := 0, locals := 40 } (va_Pc [.ref (G.2.2.2.1 t)] (fun U => U.heap = H ∧ xf G A U H)) (va_Qi (fun r (_ : Unit) => r = nI (stxt.getD t []).length) (fun _ t => t.heap = H) A) 0 0 A := by
  refine Met.ofW (cc := prog_24_method_54_code) (maxL := 1) (ret := (some .int)) (by decide +kernel) rfl ?_
  intro p e s m args below meth c s₁ B hml hv
  obtain ⟨rfl, hh, hxf⟩ := hv
  subst hh
  have hx := B.exec
  have hb := B.bytes
  have hr := B.returns
  have hts := atoms_spec (ws := Cond.code y_len prog_24_method_54_code 1 (some .int) :: tb) B.pre
  have hts2 : ∀ w ∈ tb, w.before _ s = true := fun w hw => hts w (List.mem_cons_of_mem _ hw)
  have hown : s.vm.findClass "java/lang/String" = some m.cls := findClass_of_methodNamed B.named
  have hlocks := B.notSynchronized
  have hS0 : va_S A s.heap s.heap [] := va_S.rf
  have hS5 : CallFix p m c prog_24_method_54_code 1 s _ tb "java/lang/String" := ⟨hx, hb, hml, hown, hts2⟩
  have hl := lv_entry ([.ref (G.2.2.2.1 t)]) (n := 1) (Nat.le_of_ble_eq_true rfl)
  rw [lg_entry_eq]
  generalize (lg_sl ([.ref (G.2.2.2.1 t)]) ++ List.replicate (1 - (lg_sl ([.ref (G.2.2.2.1 t)])).length) Slot.unset).toArray = ls at hl ⊢
  have hl : lv_has ls 1 [(0, .ref (G.2.2.2.1 t))] := hl
  obtain ⟨-, hsx, hz1, hz2, hz3, hz4, hz5, hz6, hz7⟩ := id hxf
  obtain ⟨hO, hco, hva, hT⟩ := hsx t ht
  have h100 := stx_len t ht
  refine lv_aload_n hx hb (show decode prog_24_method_54_code 0 = .ok (.aload_n 0, 1) by decide +kernel) rfl (lv_at hl 0 rfl) ?_
  refine vk_getf hx hb hva hS0 hown (hts2 _ (tbm 1973 (by decide +kernel))) (fun _ h => h) (show decode prog_24_method_54_code 1 = .ok (.getfield 9, 3) by decide +kernel) ?_
  refine va_tlen hx hb hT hS0 (v := nI (stxt.getD t []).length) rfl (show decode prog_24_method_54_code 4 = .ok (.arraylength, 1) by decide +kernel) ?_
  refine lv_aload_n hx hb (show decode prog_24_method_54_code 5 = .ok (.aload_n 0, 1) by decide +kernel) rfl (lv_at hl 0 rfl) ?_
  have hcw1 := cwV (R := { frames := 2, cells := 0, slots := 0, locals := 40 }) (rm := { frames := 1, cells := 0, slots := 0, locals := 12 }) 0 hts2 (goodIn_app (a := [_, _, _, _]) (fun w hw => by
        simp only [List.mem_cons, List.not_mem_nil, or_false] at hw
        rcases hw with rfl | rfl | rfl | rfl
        · exact goodIn_1 (tbm 577 (by decide +kernel)) _ (List.mem_singleton.mpr rfl)
        · exact goodIn_1 (tbm 578 (by decide +kernel)) _ (List.mem_singleton.mpr rfl)
        · exact goodIn_1 (tbm 579 (by decide +kernel)) _ (List.mem_singleton.mpr rfl)
        · exact goodIn_1 (tbm 18 (by decide +kernel)) _ (List.mem_singleton.mpr rfl)) (goodIn_tb ok_codC) : GoodIn tb (wsV "java/lang/String" 335 "java/lang/String" y_cod (Cond.code y_cod prog_24_method_152_code 1 (some .byte) :: tb))) rfl rfl rfl ⟨rfl, by decide +kernel⟩ ⟨Nat.le_of_ble_eq_true rfl, Nat.le_of_ble_eq_true rfl⟩
  refine va_calli (va_runV (As := []) (b := (G.2.2.2.1 t)) hS5 (met_cod (A := A) (G := G) (H := s.heap) ht) hcw1 ⟨SX_blind, ((hO.kept hS0.2.1).imp fun _ h => ⟨h.1, h.2.1, h.2.2.1⟩), fun U hU hW => ⟨rfl, hU, hxf.on hW.alike hS0⟩⟩ rfl rfl hl.1 rfl (lv_room (Nat.le_of_ble_eq_true rfl)) (show decode prog_24_method_54_code 6 = .ok (.invokevirtual 335, 3) by decide +kernel) ⟨Nat.le_of_ble_eq_true rfl, Nat.le_of_ble_eq_true rfl⟩) hS0 (fun _ _ h => h) (fun _ h => h) (fun r1 u1 t1 H1 locs1 ht1 hvm1 hw1 hB1 _ _ hS1 => ?_)
  have hB1 : t1.heap = s.heap := hB1
  rw [ht1] at hB1
  subst hB1
  have hw1 : r1 = 0 := hw1
  subst hw1
  refine lv_ishr hx hb (show decode prog_24_method_54_code 9 = .ok (.ishr, 1) by decide +kernel) ?_
  refine lv_topi (fun z2 hz2 => ?_)
  have hz2 : z2 = nI (stxt.getD t []).length := hz2.trans (by show nI (stxt.getD t []).length >>> ((0 : Int32) &&& 31) = _; rw [show (0 : Int32) &&& 31 = 0 by decide]; exact Int32.shiftRight_zero)
  subst hz2
  exact W.iret hx hb hr (fun t ht hW => ⟨⟨_, (), rfl, rfl, ht⟩, hS1.F ht⟩) hS1.2.2 (show decode prog_24_method_54_code 10 = .ok (.ireturn, 1) by decide +kernel) hlocks
theorem met_pcR {fm : Nat} {j n : Int32} (H : Heap) (h0 : ¬ j < 0) (h1 : j < n) : Met lc yPC (Cond.code yPC prog_42_method_11_code 3 (some .int) :: tb) { frames := 1, cells := 0, slots := 0, locals := 14 } (va_Pc [.int j, .int n, .ref fm] (fun U => U.heap = H)) (va_Qi (fun r (_ : Unit) => r = j) (fun _ t => t.heap = H) A) 0 0 A := by
  refine Met.ofW (cc := prog_42_method_11_code) (maxL := 3) (ret := (some .int)) (by decide +kernel) rfl ?_
  intro p e s m args below meth c s₁ B hml hv
  obtain ⟨rfl, hh⟩ := hv
  subst hh
  have hx := B.exec
  have hb := B.bytes
  have hr := B.returns
  have hts := atoms_spec (ws := Cond.code yPC prog_42_method_11_code 3 (some .int) :: tb) B.pre
  have hts2 : ∀ w ∈ tb, w.before _ s = true := fun w hw => hts w (List.mem_cons_of_mem _ hw)
  have hown : s.vm.findClass "jdk/internal/util/Preconditions" = some m.cls := findClass_of_methodNamed B.named
  have hlocks := B.notSynchronized
  have hS0 : va_S A s.heap s.heap [] := va_S.rf
  have hS5 : CallFix p m c prog_42_method_11_code 3 s _ tb "jdk/internal/util/Preconditions" := ⟨hx, hb, hml, hown, hts2⟩
  have hl := lv_entry ([.int j, .int n, .ref fm]) (n := 3) (Nat.le_of_ble_eq_true rfl)
  rw [lg_entry_eq]
  generalize (lg_sl ([.int j, .int n, .ref fm]) ++ List.replicate (3 - (lg_sl ([.int j, .int n, .ref fm])).length) Slot.unset).toArray = ls at hl ⊢
  have hl : lv_has ls 3 [(0, .int j), (1, .int n), (2, .ref fm)] := hl
  refine lv_iload_n hx hb (show decode prog_42_method_11_code 0 = .ok (.iload_n 0, 1) by decide +kernel) rfl (lv_at hl 0 rfl) ?_
  refine lv_if_lt hx hb (show decode prog_42_method_11_code 1 = .ok (.ifCond .lt 8, 3) by decide +kernel) (tgt := 9) rfl (fun h => absurd h (h0)) (fun hbr => ?_)
  refine lv_iload_n hx hb (show decode prog_42_method_11_code 4 = .ok (.iload_n 0, 1) by decide +kernel) rfl (lv_at hl 0 rfl) ?_
  refine lv_iload_n hx hb (show decode prog_42_method_11_code 5 = .ok (.iload_n 1, 1) by decide +kernel) rfl (lv_at hl 1 rfl) ?_
  refine lv_icmp_lt hx hb (show decode prog_42_method_11_code 6 = .ok (.if_icmp .lt 10, 3) by decide +kernel) (tgt := 16) rfl (fun hbr => ?_) (fun h => absurd (h1) h)
  refine lv_iload_n hx hb (show decode prog_42_method_11_code 16 = .ok (.iload_n 0, 1) by decide +kernel) rfl (lv_at hl 0 rfl) ?_
  exact W.iret hx hb hr (fun t ht hW => ⟨⟨_, (), rfl, rfl, ht⟩, hS0.F ht⟩) hS0.2.2 (show decode prog_42_method_11_code 17 = .ok (.ireturn, 1) by decide +kernel) hlocks
theorem met_sci {j n : Int32} {H : Heap} (h0 : ¬ j < 0) (h1 : j < n) : Met lc y_sci (Cond.code y_sci prog_24_method_155_code 2 none :: tb) { frames := 2, cells := 0, slots := 0, locals := 50 } (va_Pc [.int j, .int n] (fun U => U.heap = H ∧ xf G A U H)) (va_Qv (fun (_ : Unit) => True) (fun _ t => t.heap = H) A) 0 0 A := by
  refine Met.ofW (cc := prog_24_method_155_code) (maxL := 2) (ret := none) (by decide +kernel) rfl ?_
  intro p e s m args below meth c s₁ B hml hv
  obtain ⟨rfl, hh, hxf⟩ := hv
  subst hh
  have hx := B.exec
  have hb := B.bytes
  have hr := B.returns
  have hts := atoms_spec (ws := Cond.code y_sci prog_24_method_155_code 2 none :: tb) B.pre
  have hts2 : ∀ w ∈ tb, w.before _ s = true := fun w hw => hts w (List.mem_cons_of_mem _ hw)
  have hown : s.vm.findClass "java/lang/String" = some m.cls := findClass_of_methodNamed B.named
  have hlocks := B.notSynchronized
  have hS0 : va_S A s.heap s.heap [] := va_S.rf
  have hS5 : CallFix p m c prog_24_method_155_code 2 s _ tb "java/lang/String" := ⟨hx, hb, hml, hown, hts2⟩
  have hl := lv_entry ([.int j, .int n]) (n := 2) (Nat.le_of_ble_eq_true rfl)
  rw [lg_entry_eq]
  generalize (lg_sl ([.int j, .int n]) ++ List.replicate (2 - (lg_sl ([.int j, .int n])).length) Slot.unset).toArray = ls at hl ⊢
  have hl : lv_has ls 2 [(0, .int j), (1, .int n)] := hl
  obtain ⟨-, hsx, hz1, hz2, hz3, hz4, hz5, hz6, hz7⟩ := id hxf
  refine lv_iload_n hx hb (show decode prog_24_method_155_code 0 = .ok (.iload_n 0, 1) by decide +kernel) rfl (lv_at hl 0 rfl) ?_
  refine lv_iload_n hx hb (show decode prog_24_method_155_code 1 = .ok (.iload_n 1, 1) by decide +kernel) rfl (lv_at hl 1 rfl) ?_
  rcases hz4 with hz4 | ⟨fm, hz4⟩
  · refine va_gets hx hb hz4 hS0 hown (hts2 _ (tbm 597 (by decide +kernel))) (fun _ h => h) (show decode prog_24_method_155_code 2 = .ok (.getstatic 1053, 3) by decide +kernel) ?_
    have hcw1 := va_cwS (R := { frames := 2, cells := 0, slots := 0, locals := 50 }) (rm := { frames := 1, cells := 0, slots := 0, locals := 14 }) 3 hts2 (goodIn_app (a := [_, _, _]) (fun w hw => by
          simp only [List.mem_cons, List.not_mem_nil, or_false] at hw
          rcases hw with rfl | rfl | rfl
          · exact goodIn_1 (tbm 599 (by decide +kernel)) _ (List.mem_singleton.mpr rfl)
          · exact goodIn_1 (tbm 445 (by decide +kernel)) _ (List.mem_singleton.mpr rfl)
          · exact goodIn_1 (tbm 16 (by decide +kernel)) _ (List.mem_singleton.mpr rfl)) (goodIn_tb ok_pcC) : GoodIn tb (va_wsS "java/lang/String" 1059 yPC (Cond.code yPC prog_42_method_11_code 3 (some .int) :: tb))) rfl rfl rfl ⟨by decide, by decide, by decide +kernel⟩ ⟨Nat.le_of_ble_eq_true rfl, Nat.le_of_ble_eq_true rfl⟩
    refine va_calli (va_runS (As := [.int j, .int n, .null]) hS5 (met_pc (A := A) s.heap h0 h1) hcw1 ⟨(by rintro a U g mk ⟨h0, h1⟩; exact ⟨h0, h1⟩), fun U hU hW => ⟨rfl, hU⟩⟩ rfl rfl hl.1 rfl (lv_room (Nat.le_of_ble_eq_true rfl)) (show decode prog_24_method_155_code 5 = .ok (.invokestatic 1059, 3) by decide +kernel) ⟨Nat.le_of_ble_eq_true rfl, Nat.le_of_ble_eq_true rfl⟩) hS0 (fun _ _ h => h) (fun _ h => h) (fun r1 u1 t1 H1 locs1 ht1 hvm1 hw1 hB1 _ _ hS1 => ?_)
    have hB1 : t1.heap = s.heap := hB1
    rw [ht1] at hB1
    subst hB1
    refine lv_pop hx hb (show decode prog_24_method_155_code 8 = .ok (.pop, 1) by decide +kernel) rfl ?_
    exact W.vret hx hb hr (fun t ht hW => ⟨⟨(), rfl, trivial, ht⟩, hS1.F ht⟩) hS1.2.2 (show decode prog_24_method_155_code 9 = .ok (.return_, 1) by decide +kernel) hlocks
  · refine va_gets hx hb hz4 hS0 hown (hts2 _ (tbm 597 (by decide +kernel))) (fun _ h => h) (show decode prog_24_method_155_code 2 = .ok (.getstatic 1053, 3) by decide +kernel) ?_
    have hcw1 := va_cwS (R := { frames := 2, cells := 0, slots := 0, locals := 50 }) (rm := { frames := 1, cells := 0, slots := 0, locals := 14 }) 3 hts2 (goodIn_app (a := [_, _, _]) (fun w hw => by
          simp only [List.mem_cons, List.not_mem_nil, or_false] at hw
          rcases hw with rfl | rfl | rfl
          · exact goodIn_1 (tbm 599 (by decide +kernel)) _ (List.mem_singleton.mpr rfl)
          · exact goodIn_1 (tbm 445 (by decide +kernel)) _ (List.mem_singleton.mpr rfl)
          · exact goodIn_1 (tbm 16 (by decide +kernel)) _ (List.mem_singleton.mpr rfl)) (goodIn_tb ok_pcC) : GoodIn tb (va_wsS "java/lang/String" 1059 yPC (Cond.code yPC prog_42_method_11_code 3 (some .int) :: tb))) rfl rfl rfl ⟨by decide, by decide, by decide +kernel⟩ ⟨Nat.le_of_ble_eq_true rfl, Nat.le_of_ble_eq_true rfl⟩
    refine va_calli (va_runS (As := [.int j, .int n, .ref fm]) hS5 (met_pcR (A := A) (fm := fm) s.heap h0 h1) hcw1 ⟨(by rintro a U g mk ⟨h0, h1⟩; exact ⟨h0, h1⟩), fun U hU hW => ⟨rfl, hU⟩⟩ rfl rfl hl.1 rfl (lv_room (Nat.le_of_ble_eq_true rfl)) (show decode prog_24_method_155_code 5 = .ok (.invokestatic 1059, 3) by decide +kernel) ⟨Nat.le_of_ble_eq_true rfl, Nat.le_of_ble_eq_true rfl⟩) hS0 (fun _ _ h => h) (fun _ h => h) (fun r1 u1 t1 H1 locs1 ht1 hvm1 hw1 hB1 _ _ hS1 => ?_)
    have hB1 : t1.heap = s.heap := hB1
    rw [ht1] at hB1
    subst hB1
    refine lv_pop hx hb (show decode prog_24_method_155_code 8 = .ok (.pop, 1) by decide +kernel) rfl ?_
    exact W.vret hx hb hr (fun t ht hW => ⟨⟨(), rfl, trivial, ht⟩, hS1.F ht⟩) hS1.2.2 (show decode prog_24_method_155_code 9 = .ok (.return_, 1) by decide +kernel) hlocks
theorem met_lch {t : Nat} {H : Heap} (ht : t < stxt.length) {j : Nat} (hj : j < (stxt.getD t []).length) : Met lc y_lch (Cond.code y_lch prog_25_method_2_code 2 (some .char) :: tb) { frames := 3, cells := 0, slots := 0, locals := 90 } (va_Pc [.ref (G.2.2.2.2.1 t), .int (nI j)] (fun U => U.heap = H ∧ xf G A U H)) (va_Qi (fun r (_ : Unit) => r = nI ((stxt.getD t []).getD j 0)) (fun _ t => t.heap = H) A) 0 0 A := by
  refine Met.ofW (cc := prog_25_method_2_code) (maxL := 2) (ret := (some .char)) (by decide +kernel) rfl ?_
  intro p e s m args below meth c s₁ B hml hv
  obtain ⟨rfl, hh, hxf⟩ := hv
  subst hh
  have hx := B.exec
  have hb := B.bytes
  have hr := B.returns
  have hts := atoms_spec (ws := Cond.code y_lch prog_25_method_2_code 2 (some .char) :: tb) B.pre
  have hts2 : ∀ w ∈ tb, w.before _ s = true := fun w hw => hts w (List.mem_cons_of_mem _ hw)
  have hown : s.vm.findClass "java/lang/StringLatin1" = some m.cls := findClass_of_methodNamed B.named
  have hlocks := B.notSynchronized
  have hS0 : va_S A s.heap s.heap [] := va_S.rf
  have hS5 : CallFix p m c prog_25_method_2_code 2 s _ tb "java/lang/StringLatin1" := ⟨hx, hb, hml, hown, hts2⟩
  have hl := lv_entry ([.ref (G.2.2.2.2.1 t), .int (nI j)]) (n := 2) (Nat.le_of_ble_eq_true rfl)
  rw [lg_entry_eq]
  generalize (lg_sl ([.ref (G.2.2.2.2.1 t), .int (nI j)]) ++ List.replicate (2 - (lg_sl ([.ref (G.2.2.2.2.1 t), .int (nI j)])).length) Slot.unset).toArray = ls at hl ⊢
  have hl : lv_has ls 2 [(0, .ref (G.2.2.2.2.1 t)), (1, .int (nI j))] := hl
  obtain ⟨-, hsx, hz1, hz2, hz3, hz4, hz5, hz6, hz7⟩ := id hxf
  obtain ⟨hO, hco, hva, hT⟩ := hsx t ht
  have h100 := stx_len t ht
  have h128 := stx_128 t ht j hj
  refine lv_iload_n hx hb (show decode prog_25_method_2_code 0 = .ok (.iload_n 1, 1) by decide +kernel) rfl (lv_at hl 1 rfl) ?_
  refine lv_aload_n hx hb (show decode prog_25_method_2_code 1 = .ok (.aload_n 0, 1) by decide +kernel) rfl (lv_at hl 0 rfl) ?_
  refine va_tlen hx hb hT hS0 (v := nI (stxt.getD t []).length) rfl (show decode prog_25_method_2_code 2 = .ok (.arraylength, 1) by decide +kernel) ?_
  have hcw1 := va_cwS (R := { frames := 3, cells := 0, slots := 0, locals := 90 }) (rm := { frames := 2, cells := 0, slots := 0, locals := 50 }) 2 hts2 (goodIn_app (a := [_, _, _]) (fun w hw => by
        simp only [List.mem_cons, List.not_mem_nil, or_false] at hw
        rcases hw with rfl | rfl | rfl
        · exact goodIn_1 (tbm 594 (by decide +kernel)) _ (List.mem_singleton.mpr rfl)
        · exact goodIn_1 (tbm 595 (by decide +kernel)) _ (List.mem_singleton.mpr rfl)
        · exact goodIn_1 (tbm 18 (by decide +kernel)) _ (List.mem_singleton.mpr rfl)) (goodIn_tb ok_sciC) : GoodIn tb (va_wsS "java/lang/StringLatin1" 9 y_sci (Cond.code y_sci prog_24_method_155_code 2 none :: tb))) rfl rfl rfl ⟨by decide, by decide, by decide +kernel⟩ ⟨Nat.le_of_ble_eq_true rfl, Nat.le_of_ble_eq_true rfl⟩
  refine va_callv (va_runS (As := [.int (nI j), .int (nI (stxt.getD t []).length)]) hS5 (met_sci (A := A) (G := G) (H := s.heap) (nI_pos (by omega)) (nI_lt hj (by omega))) hcw1 ⟨SX_blind, fun U hU hW => ⟨rfl, hU, hxf.on hW.alike hS0⟩⟩ rfl rfl hl.1 rfl (lv_room (Nat.le_of_ble_eq_true rfl)) (show decode prog_25_method_2_code 3 = .ok (.invokestatic 9, 3) by decide +kernel) ⟨Nat.le_of_ble_eq_true rfl, Nat.le_of_ble_eq_true rfl⟩) hS0 (fun _ _ h => h) (fun _ h => h) (fun u1 t1 H1 locs1 ht1 hvm1 hw1 hB1 _ _ hS1 => ?_)
  have hB1 : t1.heap = s.heap := hB1
  rw [ht1] at hB1
  subst hB1
  refine lv_aload_n hx hb (show decode prog_25_method_2_code 6 = .ok (.aload_n 0, 1) by decide +kernel) rfl (lv_at hl 0 rfl) ?_
  refine lv_iload_n hx hb (show decode prog_25_method_2_code 7 = .ok (.iload_n 1, 1) by decide +kernel) rfl (lv_at hl 1 rfl) ?_
  refine va_tb hx hb hT hS1 (i := nI j) (vp_in_nI hj (by omega)) (v := .int (nI ((stxt.getD t []).getD j 0))) (by rw [nI_clamp (by omega)]) (show decode prog_25_method_2_code 8 = .ok (.baload, 1) by decide +kernel) ?_
  refine lv_sipush hx hb (show decode prog_25_method_2_code 9 = .ok (.sipush 255, 3) by decide +kernel) (v := nI 255) (by decide +kernel) ?_
  refine lv_iand hx hb (show decode prog_25_method_2_code 12 = .ok (.iand, 1) by decide +kernel) ?_
  refine lv_topi (fun z2 hz2 => ?_)
  have hz2 : z2 = nI ((stxt.getD t []).getD j 0) := hz2.trans (by revert h128; generalize (stxt.getD t []).getD j 0 = x; exact (show ∀ x, x < 128 → nI x &&& nI 255 = nI x by decide +kernel) x)
  subst hz2
  refine lv_i2c hx hb (show decode prog_25_method_2_code 13 = .ok (.i2c, 1) by decide +kernel) (v := nI ((stxt.getD t []).getD j 0)) (by revert h128; generalize (stxt.getD t []).getD j 0 = x; exact (show ∀ x, x < 128 → ((nI x).toUInt32 % 65536).toInt32 = nI x by decide +kernel) x) ?_
  have hnar : narrow .char (.int (nI ((stxt.getD t []).getD j 0))) = .int (nI ((stxt.getD t []).getD j 0)) := by revert h128; generalize (stxt.getD t []).getD j 0 = x; exact (show ∀ x, x < 128 → narrow .char (.int (nI x)) = .int (nI x) by decide +kernel) x
  exact W.zret hx hb hr hnar (fun t ht hW => ⟨⟨_, (), rfl, rfl, ht⟩, hS1.F ht⟩) hS1.2.2 (show decode prog_25_method_2_code 14 = .ok (.ireturn, 1) by decide +kernel) hlocks
theorem met_cha {t : Nat} {H : Heap} (ht : t < stxt.length) {j : Nat} (hj : j < (stxt.getD t []).length) : Met lc y_cha (Cond.code y_cha prog_24_method_56_code 2 (some .char) :: tb) { frames := 4, cells := 0, slots := 0, locals := 140 } (va_Pc [.ref (G.2.2.2.1 t), .int (nI j)] (fun U => U.heap = H ∧ xf G A U H)) (va_Qi (fun r (_ : Unit) => r = nI ((stxt.getD t []).getD j 0)) (fun _ t => t.heap = H) A) 0 0 A := by
  refine Met.ofW (cc := prog_24_method_56_code) (maxL := 2) (ret := (some .char)) (by decide +kernel) rfl ?_
  intro p e s m args below meth c s₁ B hml hv
  obtain ⟨rfl, hh, hxf⟩ := hv
  subst hh
  have hx := B.exec
  have hb := B.bytes
  have hr := B.returns
  have hts := atoms_spec (ws := Cond.code y_cha prog_24_method_56_code 2 (some .char) :: tb) B.pre
  have hts2 : ∀ w ∈ tb, w.before _ s = true := fun w hw => hts w (List.mem_cons_of_mem _ hw)
  have hown : s.vm.findClass "java/lang/String" = some m.cls := findClass_of_methodNamed B.named
  have hlocks := B.notSynchronized
  have hS0 : va_S A s.heap s.heap [] := va_S.rf
  have hS5 : CallFix p m c prog_24_method_56_code 2 s _ tb "java/lang/String" := ⟨hx, hb, hml, hown, hts2⟩
  have hl := lv_entry ([.ref (G.2.2.2.1 t), .int (nI j)]) (n := 2) (Nat.le_of_ble_eq_true rfl)
  rw [lg_entry_eq]
  generalize (lg_sl ([.ref (G.2.2.2.1 t), .int (nI j)]) ++ List.replicate (2 - (lg_sl ([.ref (G.2.2.2.1 t), .int (nI j)])).length) Slot.unset).toArray = ls at hl ⊢
  have hl : lv_has ls 2 [(0, .ref (G.2.2.2.1 t)), (1, .int (nI j))] := hl
  obtain ⟨-, hsx, hz1, hz2, hz3, hz4, hz5, hz6, hz7⟩ := id hxf
  obtain ⟨hO, hco, hva, hT⟩ := hsx t ht
  have h100 := stx_len t ht
  have h128 := stx_128 t ht j hj
  refine lv_aload_n hx hb (show decode prog_24_method_56_code 0 = .ok (.aload_n 0, 1) by decide +kernel) rfl (lv_at hl 0 rfl) ?_
  have hcw1 := cwV (R := { frames := 4, cells := 0, slots := 0, locals := 140 }) (rm := { frames := 1, cells := 0, slots := 0, locals := 12 }) 0 hts2 (goodIn_app (a := [_, _, _, _]) (fun w hw => by
        simp only [List.mem_cons, List.not_mem_nil, or_false] at hw
        rcases hw with rfl | rfl | rfl | rfl
        · exact goodIn_1 (tbm 587 (by decide +kernel)) _ (List.mem_singleton.mpr rfl)
        · exact goodIn_1 (tbm 588 (by decide +kernel)) _ (List.mem_singleton.mpr rfl)
        · exact goodIn_1 (tbm 589 (by decide +kernel)) _ (List.mem_singleton.mpr rfl)
        · exact goodIn_1 (tbm 18 (by decide +kernel)) _ (List.mem_singleton.mpr rfl)) (goodIn_tb ok_islC) : GoodIn tb (wsV "java/lang/String" 492 "java/lang/String" y_isl (Cond.code y_isl prog_24_method_154_code 1 (some .boolean) :: tb))) rfl rfl rfl ⟨rfl, by decide +kernel⟩ ⟨Nat.le_of_ble_eq_true rfl, Nat.le_of_ble_eq_true rfl⟩
  refine va_calli (va_runV (As := []) (b := (G.2.2.2.1 t)) hS5 (met_isl (A := A) (G := G) (H := s.heap) ht) hcw1 ⟨SX_blind, ((hO.kept hS0.2.1).imp fun _ h => ⟨h.1, h.2.1, h.2.2.1⟩), fun U hU hW => ⟨rfl, hU, hxf.on hW.alike hS0⟩⟩ rfl rfl hl.1 rfl (lv_room (Nat.le_of_ble_eq_true rfl)) (show decode prog_24_method_56_code 1 = .ok (.invokevirtual 492, 3) by decide +kernel) ⟨Nat.le_of_ble_eq_true rfl, Nat.le_of_ble_eq_true rfl⟩) hS0 (fun _ _ h => h) (fun _ h => h) (fun r1 u1 t1 H1 locs1 ht1 hvm1 hw1 hB1 _ _ hS1 => ?_)
  have hB1 : t1.heap = s.heap := hB1
  rw [ht1] at hB1
  subst hB1
  have hw1 : r1 = 1 := hw1
  subst hw1
  refine lv_if_eq hx hb (show decode prog_24_method_56_code 4 = .ok (.ifCond .eq 12, 3) by decide +kernel) (tgt := 16) rfl (fun h => absurd h (by decide)) (fun hbr => ?_)
  refine lv_aload_n hx hb (show decode prog_24_method_56_code 7 = .ok (.aload_n 0, 1) by decide +kernel) rfl (lv_at hl 0 rfl) ?_
  refine vk_getf hx hb hva hS1 hown (hts2 _ (tbm 1973 (by decide +kernel))) (fun _ h => h) (show decode prog_24_method_56_code 8 = .ok (.getfield 9, 3) by decide +kernel) ?_
  refine lv_iload_n hx hb (show decode prog_24_method_56_code 11 = .ok (.iload_n 1, 1) by decide +kernel) rfl (lv_at hl 1 rfl) ?_
  have hcw2 := va_cwS (R := { frames := 4, cells := 0, slots := 0, locals := 140 }) (rm := { frames := 3, cells := 0, slots := 0, locals := 90 }) 2 hts2 (goodIn_app (a := [_, _, _]) (fun w hw => by
        simp only [List.mem_cons, List.not_mem_nil, or_false] at hw
        rcases hw with rfl | rfl | rfl
        · exact goodIn_1 (tbm 591 (by decide +kernel)) _ (List.mem_singleton.mpr rfl)
        · exact goodIn_1 (tbm 592 (by decide +kernel)) _ (List.mem_singleton.mpr rfl)
        · exact goodIn_1 (tbm 19 (by decide +kernel)) _ (List.mem_singleton.mpr rfl)) (goodIn_tb ok_lchC) : GoodIn tb (va_wsS "java/lang/String" 495 y_lch (Cond.code y_lch prog_25_method_2_code 2 (some .char) :: tb))) rfl rfl rfl ⟨by decide, by decide, by decide +kernel⟩ ⟨Nat.le_of_ble_eq_true rfl, Nat.le_of_ble_eq_true rfl⟩
  refine va_calli (va_runS (As := [.ref (G.2.2.2.2.1 t), .int (nI j)]) hS5 (met_lch (A := A) (G := G) (H := s.heap) ht hj) hcw2 ⟨SX_blind, fun U hU hW => ⟨rfl, hU, hxf.on hW.alike hS0⟩⟩ rfl rfl hl.1 rfl (lv_room (Nat.le_of_ble_eq_true rfl)) (show decode prog_24_method_56_code 12 = .ok (.invokestatic 495, 3) by decide +kernel) ⟨Nat.le_of_ble_eq_true rfl, Nat.le_of_ble_eq_true rfl⟩) hS1 (fun _ _ h => h) (fun _ h => h) (fun r2 u2 t2 H2 locs2 ht2 hvm2 hw2 hB2 _ _ hS2 => ?_)
  have hB2 : t2.heap = s.heap := hB2
  rw [ht2] at hB2
  subst hB2
  have hw2 : r2 = nI ((stxt.getD t []).getD j 0) := hw2
  subst hw2
  have hnar : narrow .char (.int (nI ((stxt.getD t []).getD j 0))) = .int (nI ((stxt.getD t []).getD j 0)) := by revert h128; generalize (stxt.getD t []).getD j 0 = x; exact (show ∀ x, x < 128 → narrow .char (.int (nI x)) = .int (nI x) by decide +kernel) x
  exact W.zret hx hb hr hnar (fun t ht hW => ⟨⟨_, (), rfl, rfl, ht⟩, hS2.F ht⟩) hS2.2.2 (show decode prog_24_method_56_code 15 = .ok (.ireturn, 1) by decide +kernel) hlocks
end SIMT
