section SIMX
variable {D : va_G} {G : xG} {A : Nat → Prop} {mid d : Nat} {p : Program} {lc : Launch} {e : Env} {R : Room} {s : State} {m : MethodId} {args : Array Value} {below : List Frame} {meth : Method} {c : Code} {Z : State → Prop} {ad0 : sA} {b0 : Nat × Nat} {pc : Nat} {l : aL} {st r : List aV} {σ : aM}
abbrev yPC : MethodName := ⟨"jdk/internal/util/Preconditions", "checkIndex", "(IILjava/util/function/BiFunction;)I"⟩
abbrev yOC : MethodName := ⟨"java/util/Objects", "checkIndex", "(II)I"⟩
set_option maxRecDepth 100000 in
theorem ok_pcC : Cond.code yPC prog_42_method_11_code 3 (some .int) ∈ tb := tbm 446 ⟨rfl, rfl⟩
set_option maxRecDepth 100000 in
theorem ok_ocC : Cond.code yOC prog_38_method_17_code 2 (some .int) ∈ tb := tbm 443 ⟨rfl, rfl⟩
theorem ok_pc : Cond.methodLink "java/util/Objects" 105 yPC ∈ tb ∧ Cond.static yPC ∈ tb ∧ Cond.initialized "jdk/internal/util/Preconditions" ∈ tb := ⟨tbm 444 (by decide +kernel), tbm 445 (by decide +kernel), tbm 16 (by decide +kernel)⟩
theorem ok_oc : Cond.methodLink RAL 118 yOC ∈ tb ∧ Cond.static yOC ∈ tb ∧ Cond.initialized "java/util/Objects" ∈ tb := ⟨tbm 441 (by decide +kernel), tbm 442 (by decide +kernel), tbm 15 (by decide +kernel)⟩
/-- an index that is in range comes back -/
theorem met_pc (H : Heap) {j n : Int32} (h0 : ¬ j < 0) (h1 : j < n) : Met lc yPC (Cond.code yPC prog_42_method_11_code 3 (some .int) :: tb) { frames := 1, cells := 0, slots := 0, locals := 14 } (va_Pc [.int j, .int n, .null] (fun U => U.heap = H)) (va_Qi (fun r (_ : Unit) => r = j) (fun _ t => t.heap = H) A) 0 0 A := by
  refine Met.ofW (cc := prog_42_method_11_code) (maxL := 3) (ret := some .int) (by decide +kernel) rfl ?_
  intro p e s m args below meth c s₁ B hml hv
  obtain ⟨rfl, hh⟩ := hv
  subst hh
  have hx := B.exec
  have hb := B.bytes
  have hr := B.returns
  have hlocks := B.notSynchronized
  have hS0 : va_S A s.heap s.heap [] := va_S.rf
  have hl := lv_entry ([.int j, .int n, .null]) (n := 3) (Nat.le_of_ble_eq_true rfl)
  rw [lg_entry_eq]
  generalize (lg_sl ([.int j, .int n, .null]) ++ List.replicate (3 - (lg_sl ([.int j, .int n, .null])).length) Slot.unset).toArray = ls at hl ⊢
  have hl : lv_has ls 3 [(0, .int j), (1, .int n), (2, .null)] := hl
  refine lv_iload_n hx hb (show decode prog_42_method_11_code 0 = .ok (.iload_n 0, 1) by decide +kernel) rfl (lv_at hl 0 rfl) ?_
  refine lv_if_lt hx hb (show decode prog_42_method_11_code 1 = .ok (.ifCond .lt 8, 3) by decide +kernel) (tgt := 9) rfl (fun h => absurd h h0) (fun _ => ?_)
  refine lv_iload_n hx hb (show decode prog_42_method_11_code 4 = .ok (.iload_n 0, 1) by decide +kernel) rfl (lv_at hl 0 rfl) ?_
  refine lv_iload_n hx hb (show decode prog_42_method_11_code 5 = .ok (.iload_n 1, 1) by decide +kernel) rfl (lv_at hl 1 rfl) ?_
  refine lv_icmp_lt hx hb (show decode prog_42_method_11_code 6 = .ok (.if_icmp .lt 10, 3) by decide +kernel) (tgt := 16) rfl (fun _ => ?_) (fun h => absurd h1 h)
  refine lv_iload_n hx hb (show decode prog_42_method_11_code 16 = .ok (.iload_n 0, 1) by decide +kernel) rfl (lv_at hl 0 rfl) ?_
  exact W.iret hx hb hr (fun t ht hW => ⟨⟨_, (), rfl, rfl, ht⟩, hS0.F ht⟩) hS0.2.2 (show decode prog_42_method_11_code 17 = .ok (.ireturn, 1) by decide +kernel) hlocks
theorem met_oc (H : Heap) {j n : Int32} (h0 : ¬ j < 0) (h1 : j < n) : Met lc yOC (Cond.code yOC prog_38_method_17_code 2 (some .int) :: tb) { frames := 2, cells := 0, slots := 0, locals := 64 } (va_Pc [.int j, .int n] (fun U => U.heap = H)) (va_Qi (fun r (_ : Unit) => r = j) (fun _ t => t.heap = H) A) 0 0 A := by
  refine Met.ofW (cc := prog_38_method_17_code) (maxL := 2) (ret := some .int) (by decide +kernel) rfl ?_
  intro p e s m args below meth c s₁ B hml hv
  obtain ⟨rfl, hh⟩ := hv
  subst hh
  have hx := B.exec
  have hb := B.bytes
  have hr := B.returns
  have hts := atoms_spec (ws := Cond.code yOC prog_38_method_17_code 2 (some .int) :: tb) B.pre
  have hts2 : ∀ w ∈ tb, w.before _ s = true := fun w hw => hts w (List.mem_cons_of_mem _ hw)
  have hown : s.vm.findClass "java/util/Objects" = some m.cls := findClass_of_methodNamed B.named
  have hlocks := B.notSynchronized
  have hS0 : va_S A s.heap s.heap [] := va_S.rf
  have hl := lv_entry ([.int j, .int n]) (n := 2) (Nat.le_of_ble_eq_true rfl)
  rw [lg_entry_eq]
  generalize (lg_sl ([.int j, .int n]) ++ List.replicate (2 - (lg_sl ([.int j, .int n])).length) Slot.unset).toArray = ls at hl ⊢
  have hl : lv_has ls 2 [(0, .int j), (1, .int n)] := hl
  refine lv_iload_n hx hb (show decode prog_38_method_17_code 0 = .ok (.iload_n 0, 1) by decide +kernel) rfl (lv_at hl 0 rfl) ?_
  refine lv_iload_n hx hb (show decode prog_38_method_17_code 1 = .ok (.iload_n 1, 1) by decide +kernel) rfl (lv_at hl 1 rfl) ?_
  refine lv_null hx hb (show decode prog_38_method_17_code 2 = .ok (.aconst_null, 1) by decide +kernel) ?_
  obtain ⟨o1, o2, o3⟩ := ok_pc
  have hS5 : CallFix p m c prog_38_method_17_code 2 s _ tb "java/util/Objects" := ⟨hx, hb, hml, hown, hts2⟩
  have hcw := va_cwS (R := { frames := 2, cells := 0, slots := 0, locals := 64 }) (rm := { frames := 1, cells := 0, slots := 0, locals := 14 }) 3 hts2 (goodIn_app (a := [_, _, _]) (fun w hw => by
        simp only [List.mem_cons, List.not_mem_nil, or_false] at hw
        rcases hw with rfl | rfl | rfl
        · exact goodIn_1 o1 _ (List.mem_singleton.mpr rfl)
        · exact goodIn_1 o2 _ (List.mem_singleton.mpr rfl)
        · exact goodIn_1 o3 _ (List.mem_singleton.mpr rfl)) (goodIn_tb ok_pcC) : GoodIn tb (va_wsS "java/util/Objects" 105 yPC (Cond.code yPC prog_42_method_11_code 3 (some .int) :: tb))) rfl rfl rfl ⟨by decide, by decide, by decide +kernel⟩ ⟨by decide, by decide⟩
  refine va_calli (va_runS (As := [.int j, .int n, .null]) hS5 (met_pc (A := A) s.heap h0 h1) hcw ⟨by rintro a U g mk ⟨h0, h1⟩; exact ⟨h0, h1⟩, fun U hU hW => ⟨rfl, hU⟩⟩ rfl rfl hl.1 rfl (lv_room (by decide)) (show decode prog_38_method_17_code 3 = .ok (.invokestatic 105, 3) by decide +kernel) ⟨by decide, by decide⟩) hS0 (fun _ _ h => h) (fun _ h => h) (fun r1 u t H1 locs1 ht hvm hw2 hB2 _ _ hS1 => ?_)
  have hw2 : r1 = j := hw2
  have hB2 : t.heap = s.heap := hB2
  rw [ht] at hB2
  subst hw2
  subst hB2
  exact W.iret hx hb hr (fun t ht hW => ⟨⟨_, (), rfl, rfl, ht⟩, hS0.F ht⟩) hS1.2.2 (show decode prog_38_method_17_code 6 = .ok (.ireturn, 1) by decide +kernel) hlocks
end SIMX
