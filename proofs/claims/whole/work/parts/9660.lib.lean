section SIML
variable {D : va_G} {G : xG} {A : Nat → Prop} {mid d : Nat} {p : Program} {lc : Launch} {e : Env} {R : Room} {s : State} {m : MethodId} {args : Array Value} {below : List Frame} {meth : Method} {c : Code} {Z : State → Prop} {ad0 : sA} {b0 : Nat × Nat} {pc : Nat} {l : aL} {st r : List aV} {σ : aM}
theorem calM33 : ∀ e ∈ calL, e.2.2.1 = 33 → e.1 = 12 ∧ e.2.1 = 233 := by decide +kernel
theorem calM34 : ∀ e ∈ calL, e.2.2.1 = 34 → e.1 = 12 ∧ e.2.1 = 414 := by decide +kernel
set_option maxRecDepth 100000 in
theorem ok_math : Cond.methodLink (cN 12) 233 Lib.Math.min.name ∈ tb ∧ Cond.static Lib.Math.min.name ∈ tb ∧ Cond.initialized "java/lang/Math" ∈ tb ∧ Cond.code Lib.Math.min.name Lib.Math.min.code 2 (some .int) ∈ tb := ⟨tbm 920 (by decide +kernel), tbm 231 (by decide +kernel), tbm 9 (by decide +kernel), tbm 232 ⟨rfl, rfl⟩⟩
set_option maxRecDepth 100000 in
theorem ok_mathL : Cond.methodLink (cN 12) 414 Lib.MathLoose.max_long.x ∈ tb ∧ Cond.static Lib.MathLoose.max_long.x ∈ tb ∧ Cond.code Lib.MathLoose.max_long.x Lib.MathLoose.max_long.code 4 (some .long) ∈ tb := ⟨tbm 1161 (by decide +kernel), tbm 1162 (by decide +kernel), tbm 1163 ⟨rfl, rfl⟩⟩
theorem rl_min {k cm : Nat} {a b : Int32} (C : Cx mid d G A p R s m args meth c) (hd : decode (mcode mid) pc = .ok (.invokestatic k, 3)) (hf : cal (mcl mid) k = some (33, cm)) (hr : r.length ≤ 4) (hB : (gB σ).1 ≤ R.cells + b0.1 ∧ (gB σ).2 ≤ R.slots + b0.2) (kk : Rl D G A mid p lc e R s m args below meth c Z ad0 b0 (pc + 3) l (vi (if b < a then b else a) :: r) σ) : Rl D G A mid p lc e R s m args below meth c Z ad0 b0 pc l (vi b :: vi a :: r) σ := by
  intro H locs cells slots ls cst ad bk ws tys lv hH hS hle hl hlr hll hst h1 h2
  obtain ⟨w1, c1, rfl, e1, hs1⟩ := hst.cons
  cases e1
  obtain ⟨w2, c2, rfl, e2, hs2⟩ := hs1.cons
  cases e2
  have hw : (c2.map fun v => v.category).sum ≤ 8 := by
    have := hs2.weigh
    omega
  have hC := C
  obtain ⟨hx, hb, hml, hown, hts, _, _, _, hfr, hlo, _⟩ := hC
  obtain ⟨e1, e2⟩ := calM33 _ (lk_s (L := calL) hf) rfl
  have e1 : mcl mid = 12 := e1
  have e2 : k = 233 := e2
  subst e2
  obtain ⟨o1, o2, o3, o4⟩ := ok_math
  rw [← e1] at o1
  exact va_mmin hx hb (hml.trans hl.1.symm) hown (hts _ o1) (hts _ o2) (hts _ o3) (hts _ o4) (by omega) (by omega) (by omega) (by omega) hd (kk H locs cells slots ls _ ad bk ws tys lv hH hS hle hl hlr hll ⟨rfl, hs2⟩ h1 h2)
theorem rl_maxL {k cm : Nat} {a b : Int64} (C : Cx mid d G A p R s m args meth c) (hd : decode (mcode mid) pc = .ok (.invokestatic k, 3)) (hf : cal (mcl mid) k = some (34, cm)) (hr : r.length ≤ 4) (hB : (gB σ).1 ≤ R.cells + b0.1 ∧ (gB σ).2 ≤ R.slots + b0.2) (kk : Rl D G A mid p lc e R s m args below meth c Z ad0 b0 (pc + 3) l (vl (if a < b then b else a) :: r) σ) : Rl D G A mid p lc e R s m args below meth c Z ad0 b0 pc l (vl b :: vl a :: r) σ := by
  intro H locs cells slots ls cst ad bk ws tys lv hH hS hle hl hlr hll hst h1 h2
  obtain ⟨w1, c1, rfl, e1, hs1⟩ := hst.cons
  cases e1
  obtain ⟨w2, c2, rfl, e2, hs2⟩ := hs1.cons
  cases e2
  have hw : (c2.map fun v => v.category).sum ≤ 8 := by
    have := hs2.weigh
    omega
  have hC := C
  obtain ⟨hx, hb, hml, hown, hts, _, _, _, hfr, hlo, _⟩ := hC
  obtain ⟨e1, e2⟩ := calM34 _ (lk_s (L := calL) hf) rfl
  have e1 : mcl mid = 12 := e1
  have e2 : k = 414 := e2
  subst e2
  obtain ⟨_, _, o3, _⟩ := ok_math
  obtain ⟨o1, o2, o4⟩ := ok_mathL
  rw [← e1] at o1
  have hm : (if a < b then b else a) = (if b < a then a else b) := by
    by_cases c1 : a < b
    · have c2 : ¬ b < a := by
        rw [Int64.lt_iff_toInt_lt] at c1 ⊢
        omega
      rw [if_pos c1, if_neg c2]
    · rw [if_neg c1]
      by_cases c2 : b < a
      · rw [if_pos c2]
      · rw [if_neg c2]
        rw [Int64.lt_iff_toInt_lt] at c1 c2
        exact Int64.toInt_inj.mp (by omega)
  refine va_mmax_long hx hb (hml.trans hl.1.symm) hown (hts _ o1) (hts _ o2) (hts _ o3) (hts _ o4) (by omega) (by omega) (by omega) (by omega) hd ?_
  rw [← hm]
  exact kk H locs cells slots ls _ ad bk ws tys lv hH hS hle hl hlr hll ⟨rfl, hs2⟩ h1 h2
abbrev yBC : MethodName := ⟨"java/lang/Integer", "bitCount", "(I)I"⟩
theorem calM35 : ∀ e ∈ calL, e.2.2.1 = 35 → e.1 = 13 ∧ e.2.1 = 498 := by decide +kernel
set_option maxRecDepth 100000 in
theorem ok_bcC : Cond.code yBC prog_20_method_49_code 1 (some .int) ∈ tb := tbm 1915 ⟨rfl, rfl⟩
theorem ok_bc : Cond.methodLink (cN 13) 498 yBC ∈ tb ∧ Cond.static yBC ∈ tb ∧ Cond.initialized "java/lang/Integer" ∈ tb := ⟨tbm 1913 (by decide +kernel), tbm 1914 (by decide +kernel), tbm 30 (by decide +kernel)⟩
theorem ok_bc265 : Cond.constant "java/lang/Integer" 265 1431655765 ∈ tb := tbm 1916 (by decide +kernel)
theorem ok_bc266 : Cond.constant "java/lang/Integer" 266 858993459 ∈ tb := tbm 1917 (by decide +kernel)
theorem ok_bc267 : Cond.constant "java/lang/Integer" 267 252645135 ∈ tb := tbm 1918 (by decide +kernel)
set_option maxHeartbeats 4000000 in
theorem met_bc (H : Heap) (x : Int32) : Met lc yBC (Cond.code yBC prog_20_method_49_code 1 (some .int) :: tb) { frames := 1, cells := 0, slots := 0, locals := 12 } (va_Pc [.int x] (fun U => U.heap = H)) (va_Qi (fun r (_ : Unit) => r = am_bc x) (fun _ t => t.heap = H) A) 0 0 A := by
  refine Met.ofW (cc := prog_20_method_49_code) (maxL := 1) (ret := some .int) (by decide) rfl ?_
  intro p e s m args below meth c s₁ B hml hv
  obtain ⟨rfl, hh⟩ := hv
  subst hh
  have hx := B.exec
  have hb := B.bytes
  have hr := B.returns
  have hts := atoms_spec (ws := Cond.code yBC prog_20_method_49_code 1 (some .int) :: tb) B.pre
  have hown : s.vm.findClass "java/lang/Integer" = some m.cls := findClass_of_methodNamed B.named
  have hlocks := B.notSynchronized
  have hS0 : va_S A s.heap s.heap [] := va_S.rf
  have hl := lv_entry ([.int x]) (n := 1) (Nat.le_of_ble_eq_true rfl)
  rw [lg_entry_eq]
  generalize (lg_sl ([.int x]) ++ List.replicate (1 - (lg_sl ([.int x])).length) Slot.unset).toArray = ls at hl ⊢
  have hl : lv_has ls 1 [(0, .int x)] := hl
  refine lv_iload_n hx hb (show decode prog_20_method_49_code 0 = .ok (.iload_n 0, 1) by decide +kernel) rfl (lv_at hl 0 rfl) ?_
  refine lv_iload_n hx hb (show decode prog_20_method_49_code 1 = .ok (.iload_n 0, 1) by decide +kernel) rfl (lv_at hl 0 rfl) ?_
  refine lv_iconst hx hb (show decode prog_20_method_49_code 2 = .ok (.iconst 1, 1) by decide +kernel) rfl ?_
  refine lv_iushr hx hb (show decode prog_20_method_49_code 3 = .ok (.iushr, 1) by decide +kernel) rfl ?_
  refine lv_ldcw hx hb hown (hts _ (List.mem_cons_of_mem _ ok_bc265)) (show decode prog_20_method_49_code 4 = .ok (.ldc_w 265, 3) by decide +kernel) ?_
  refine lv_iand hx hb (show decode prog_20_method_49_code 7 = .ok (.iand, 1) by decide +kernel) ?_
  refine lv_isub hx hb (show decode prog_20_method_49_code 8 = .ok (.isub, 1) by decide +kernel) ?_
  refine lv_istore_n hx hb (show decode prog_20_method_49_code 9 = .ok (.istore_n 0, 1) by decide +kernel) rfl hl (by decide) rfl (fun ls hl => ?_)
  refine lv_iload_n hx hb (show decode prog_20_method_49_code 10 = .ok (.iload_n 0, 1) by decide +kernel) rfl (lv_at hl 0 rfl) ?_
  refine lv_ldcw hx hb hown (hts _ (List.mem_cons_of_mem _ ok_bc266)) (show decode prog_20_method_49_code 11 = .ok (.ldc_w 266, 3) by decide +kernel) ?_
  refine lv_iand hx hb (show decode prog_20_method_49_code 14 = .ok (.iand, 1) by decide +kernel) ?_
  refine lv_iload_n hx hb (show decode prog_20_method_49_code 15 = .ok (.iload_n 0, 1) by decide +kernel) rfl (lv_at hl 0 rfl) ?_
  refine lv_iconst hx hb (show decode prog_20_method_49_code 16 = .ok (.iconst 2, 1) by decide +kernel) rfl ?_
  refine lv_iushr hx hb (show decode prog_20_method_49_code 17 = .ok (.iushr, 1) by decide +kernel) rfl ?_
  refine lv_ldcw hx hb hown (hts _ (List.mem_cons_of_mem _ ok_bc266)) (show decode prog_20_method_49_code 18 = .ok (.ldc_w 266, 3) by decide +kernel) ?_
  refine lv_iand hx hb (show decode prog_20_method_49_code 21 = .ok (.iand, 1) by decide +kernel) ?_
  refine lv_iadd hx hb (show decode prog_20_method_49_code 22 = .ok (.iadd, 1) by decide +kernel) ?_
  refine lv_istore_n hx hb (show decode prog_20_method_49_code 23 = .ok (.istore_n 0, 1) by decide +kernel) rfl hl (by decide) rfl (fun ls hl => ?_)
  refine lv_iload_n hx hb (show decode prog_20_method_49_code 24 = .ok (.iload_n 0, 1) by decide +kernel) rfl (lv_at hl 0 rfl) ?_
  refine lv_iload_n hx hb (show decode prog_20_method_49_code 25 = .ok (.iload_n 0, 1) by decide +kernel) rfl (lv_at hl 0 rfl) ?_
  refine lv_iconst hx hb (show decode prog_20_method_49_code 26 = .ok (.iconst 4, 1) by decide +kernel) rfl ?_
  refine lv_iushr hx hb (show decode prog_20_method_49_code 27 = .ok (.iushr, 1) by decide +kernel) rfl ?_
  refine lv_iadd hx hb (show decode prog_20_method_49_code 28 = .ok (.iadd, 1) by decide +kernel) ?_
  refine lv_ldcw hx hb hown (hts _ (List.mem_cons_of_mem _ ok_bc267)) (show decode prog_20_method_49_code 29 = .ok (.ldc_w 267, 3) by decide +kernel) ?_
  refine lv_iand hx hb (show decode prog_20_method_49_code 32 = .ok (.iand, 1) by decide +kernel) ?_
  refine lv_istore_n hx hb (show decode prog_20_method_49_code 33 = .ok (.istore_n 0, 1) by decide +kernel) rfl hl (by decide) rfl (fun ls hl => ?_)
  refine lv_iload_n hx hb (show decode prog_20_method_49_code 34 = .ok (.iload_n 0, 1) by decide +kernel) rfl (lv_at hl 0 rfl) ?_
  refine lv_iload_n hx hb (show decode prog_20_method_49_code 35 = .ok (.iload_n 0, 1) by decide +kernel) rfl (lv_at hl 0 rfl) ?_
  refine lv_bipush hx hb (v := 8) (show decode prog_20_method_49_code 36 = .ok (.bipush 8, 2) by decide +kernel) (by decide +kernel) ?_
  refine lv_iushr hx hb (show decode prog_20_method_49_code 38 = .ok (.iushr, 1) by decide +kernel) rfl ?_
  refine lv_iadd hx hb (show decode prog_20_method_49_code 39 = .ok (.iadd, 1) by decide +kernel) ?_
  refine lv_istore_n hx hb (show decode prog_20_method_49_code 40 = .ok (.istore_n 0, 1) by decide +kernel) rfl hl (by decide) rfl (fun ls hl => ?_)
  refine lv_iload_n hx hb (show decode prog_20_method_49_code 41 = .ok (.iload_n 0, 1) by decide +kernel) rfl (lv_at hl 0 rfl) ?_
  refine lv_iload_n hx hb (show decode prog_20_method_49_code 42 = .ok (.iload_n 0, 1) by decide +kernel) rfl (lv_at hl 0 rfl) ?_
  refine lv_bipush hx hb (v := 16) (show decode prog_20_method_49_code 43 = .ok (.bipush 16, 2) by decide +kernel) (by decide +kernel) ?_
  refine lv_iushr hx hb (show decode prog_20_method_49_code 45 = .ok (.iushr, 1) by decide +kernel) rfl ?_
  refine lv_iadd hx hb (show decode prog_20_method_49_code 46 = .ok (.iadd, 1) by decide +kernel) ?_
  refine lv_istore_n hx hb (show decode prog_20_method_49_code 47 = .ok (.istore_n 0, 1) by decide +kernel) rfl hl (by decide) rfl (fun ls hl => ?_)
  refine lv_iload_n hx hb (show decode prog_20_method_49_code 48 = .ok (.iload_n 0, 1) by decide +kernel) rfl (lv_at hl 0 rfl) ?_
  refine lv_bipush hx hb (v := 63) (show decode prog_20_method_49_code 49 = .ok (.bipush 63, 2) by decide +kernel) (by decide +kernel) ?_
  refine lv_iand hx hb (show decode prog_20_method_49_code 51 = .ok (.iand, 1) by decide +kernel) ?_
  exact W.iret hx hb hr (fun t ht hW => ⟨⟨_, (), rfl, rfl, ht⟩, hS0.F ht⟩) hS0.2.2 (show decode prog_20_method_49_code 52 = .ok (.ireturn, 1) by decide +kernel) hlocks
theorem rl_bc {k cm : Nat} {a : Int32} (C : Cx mid d G A p R s m args meth c) (hd : decode (mcode mid) pc = .ok (.invokestatic k, 3)) (hf : cal (mcl mid) k = some (35, cm)) (hr : r.length ≤ 4) (hB : (gB σ).1 ≤ R.cells + b0.1 ∧ (gB σ).2 ≤ R.slots + b0.2) (kk : Rl D G A mid p lc e R s m args below meth c Z ad0 b0 (pc + 3) l (vi (am_bc a) :: r) σ) : Rl D G A mid p lc e R s m args below meth c Z ad0 b0 pc l (vi a :: r) σ := by
  intro H locs cells slots ls cst ad bk ws tys lv hH hS hle hl hlr hll hst h1 h2
  obtain ⟨w1, c1, rfl, e1, hs1⟩ := hst.cons
  cases e1
  have hw : (c1.map fun v => v.category).sum ≤ 8 := by
    have := hs1.weigh
    omega
  obtain ⟨hx, hbc, hml, hown, hts, hlk, hrt, hini, hfr, hlo, hxf, hA, htn⟩ := id C
  obtain ⟨e1, e2⟩ := calM35 _ (lk_s (L := calL) hf) rfl
  have e1 : mcl mid = 13 := e1
  have e2 : k = 498 := e2
  subst e2
  obtain ⟨o1, o2, o3⟩ := ok_bc
  rw [← e1] at o1
  have hS5 : CallFix p m c (mcode mid) (mml mid) s args tb (cN (mcl mid)) := ⟨hx, hbc, hml, hown, hts⟩
  have hcw := va_cwS (R := R) (args := args) (rm := { frames := 1, cells := 0, slots := 0, locals := 12 }) 1 hts (goodIn_app (a := [_, _, _]) (fun w hw => by
        simp only [List.mem_cons, List.not_mem_nil, or_false] at hw
        rcases hw with rfl | rfl | rfl
        · exact goodIn_1 o1 _ (List.mem_singleton.mpr rfl)
        · exact goodIn_1 o2 _ (List.mem_singleton.mpr rfl)
        · exact goodIn_1 o3 _ (List.mem_singleton.mpr rfl)) (goodIn_tb ok_bcC) : GoodIn tb (va_wsS (cN (mcl mid)) 498 yBC (Cond.code yBC prog_20_method_49_code 1 (some .int) :: tb))) rfl rfl rfl ⟨by decide, by decide, by decide +kernel⟩ ⟨by show 1 + 1 ≤ _; omega, by show 8 + (1 + 11) + 12 ≤ _; omega⟩
  have hrun : va_Run p lc e R s m args below meth c H locs cells slots 0 0 (F0 m pc ls (.int a :: c1)) c1 (va_Qi (fun r (_ : Unit) => r = am_bc a) (fun _ t => t.heap = H) A [Value.int a].toArray) A :=
    va_runS (As := [.int a]) hS5 (met_bc H a) hcw ⟨by rintro a U g mk ⟨h0, h1⟩; exact ⟨h0, h1⟩, fun U hU hW => ⟨rfl, hU⟩⟩ rfl rfl hl.1 rfl (lv_room (by omega)) hd ⟨by omega, by omega⟩
  refine va_calli hrun hS (fun _ _ h => h) (fun _ h => h) (fun r1 u t H1 locs1 ht hvm hw2 hB2 _ _ hS1 => ?_)
  have hw2 : r1 = am_bc a := hw2
  have hB2 : t.heap = H := hB2
  rw [ht] at hB2
  subst hw2
  subst hB2
  exact kk _ locs1 _ _ ls (.int (am_bc a) :: c1) ad bk ws tys lv hH hS1 hle hl hlr hll ⟨rfl, hs1⟩ (by omega) (by omega)
end SIML
