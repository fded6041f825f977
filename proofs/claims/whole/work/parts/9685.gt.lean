section SIMG2
variable {D : va_G} {G : xG} {A : Nat → Prop} {mid d : Nat} {p : Program} {lc : Launch} {e : Env} {R : Room} {s : State} {m : MethodId} {args : Array Value} {below : List Frame} {meth : Method} {c : Code} {Z : State → Prop} {ad0 : sA} {b0 : Nat × Nat} {pc : Nat} {l : aL} {st r : List aV} {σ : aM}
abbrev yGt : MethodName := ⟨RAL, "get", "(I)Ljava/lang/Object;"⟩
theorem calM13 : ∀ e ∈ calL, e.2.2.1 = 13 → (e.1 = 12 ∧ e.2.1 = 180) ∨ (e.1 = 4 ∧ e.2.1 = 55) := by decide +kernel
set_option maxRecDepth 100000 in
theorem ok_gtC : Cond.code yGt prog_33_method_20_code 2 (some oOb) ∈ tb := tbm 440 ⟨rfl, rfl⟩
theorem ok_gt : Cond.methodLink (cN 12) 180 yGt ∈ tb ∧ Cond.methodLink (cN 4) 55 yGt ∈ tb ∧ Cond.instanceMethod yGt ∈ tb ∧ Cond.selects RAL yGt yGt ∈ tb ∧ Cond.initialized RAL ∈ tb := ⟨tbm 437 (by decide +kernel), tbm 751 (by decide +kernel), tbm 438 (by decide +kernel), tbm 439 (by decide +kernel), tbm 4 (by decide +kernel)⟩
theorem ok_ed : Cond.methodLink RAL 123 yEd ∈ tb ∧ Cond.instanceMethod yEd ∈ tb ∧ Cond.selects RAL yEd yEd ∈ tb := ⟨tbm 447 (by decide +kernel), tbm 448 (by decide +kernel), tbm 449 (by decide +kernel)⟩
theorem met_gt {K i a : Nat} {H : Heap} {ad bk : sA} {ws : va_W} {tys : List (ClassId × FieldType)} {j : Int32} (ha : ad K i = some a) (hk : kT K = (5, 0)) (hj : am_in j (gN σ K i)) : Met lc yGt (Cond.code yGt prog_33_method_20_code 2 (some oOb) :: tb) { frames := 3, cells := 0, slots := 0, locals := 128 } (va_Pc [.ref a, .int j] (fun U => U.heap = H ∧ HR D G A U σ ad bk ws tys H)) (va_Qq (fun r (_ : Unit) => vrel ad (vr (gR σ K i j.toNatClampNeg)) (va_rf r)) (fun _ t => t.heap = H) A) 0 0 A := by
  refine Met.ofW (cc := prog_33_method_20_code) (maxL := 2) (ret := some oOb) (by decide +kernel) rfl ?_
  intro p e s m args below meth c s₁ B hml hv
  obtain ⟨rfl, hh, hHR⟩ := hv
  subst hh
  have hx := B.exec
  have hb := B.bytes
  have hr := B.returns
  have hts := atoms_spec (ws := Cond.code yGt prog_33_method_20_code 2 (some oOb) :: tb) B.pre
  have hts2 : ∀ w ∈ tb, w.before _ s = true := fun w hw => hts w (List.mem_cons_of_mem _ hw)
  have hown : s.vm.findClass RAL = some m.cls := findClass_of_methodNamed B.named
  have hlocks := B.notSynchronized
  have hS0 : va_S A s.heap s.heap [] := va_S.rf
  have hl := lv_entry ([.ref a, .int j]) (n := 2) (Nat.le_of_ble_eq_true rfl)
  rw [lg_entry_eq]
  generalize (lg_sl ([.ref a, .int j]) ++ List.replicate (2 - (lg_sl ([.ref a, .int j])).length) Slot.unset).toArray = ls at hl ⊢
  have hl : lv_has ls 2 [(0, .ref a), (1, .int j)] := hl
  obtain ⟨hP, hK, hD, h4, h5, h6, _⟩ := id hHR
  obtain ⟨q0, m9, b9, e1, e2⟩ := h6 _ _ _ ha (by rw [hk])
  have hj2 : j.toNatClampNeg < gN σ K i := hj.2
  have hg : gN σ K i < 2 ^ 31 := by
    rcases e2 with ⟨_, g, _⟩ | ⟨_, _, _, cap, _, _, _, _, _, _, g, g', _⟩
    · omega
    · omega
  obtain ⟨jn, hjn, rfl⟩ := nI_of (Int32.not_lt.mpr hj.1)
  rw [nI_clamp hjn] at hj2
  obtain ⟨o1, o2, o3⟩ := ok_oc
  obtain ⟨u1, u2, u3⟩ := ok_ed
  have u4 : Cond.initialized RAL ∈ tb := ok_gt.2.2.2.2
  have hrec := va_recv hK hP vq0_at e1
  rw [vq0_1] at hrec
  have hS5 : CallFix p m c prog_33_method_20_code 2 s _ tb RAL := ⟨hx, hb, hml, hown, hts2⟩
  have hcw := va_cwS (R := { frames := 3, cells := 0, slots := 0, locals := 128 }) (rm := { frames := 2, cells := 0, slots := 0, locals := 64 }) 2 hts2 (goodIn_app (a := [_, _, _]) (fun w hw => by
        simp only [List.mem_cons, List.not_mem_nil, or_false] at hw
        rcases hw with rfl | rfl | rfl
        · exact goodIn_1 o1 _ (List.mem_singleton.mpr rfl)
        · exact goodIn_1 o2 _ (List.mem_singleton.mpr rfl)
        · exact goodIn_1 o3 _ (List.mem_singleton.mpr rfl)) (goodIn_tb ok_ocC) : GoodIn tb (va_wsS RAL 118 yOC (Cond.code yOC prog_38_method_17_code 2 (some .int) :: tb))) rfl rfl rfl ⟨by decide, by decide, by decide +kernel⟩ ⟨by decide, by decide⟩
  have hcw2 := cwV (R := { frames := 3, cells := 0, slots := 0, locals := 128 }) (rm := { frames := 1, cells := 0, slots := 0, locals := 13 }) 1 hts2 (goodIn_app (a := [_, _, _, _]) (fun w hw => by
        simp only [List.mem_cons, List.not_mem_nil, or_false] at hw
        rcases hw with rfl | rfl | rfl | rfl
        · exact goodIn_1 u1 _ (List.mem_singleton.mpr rfl)
        · exact goodIn_1 u2 _ (List.mem_singleton.mpr rfl)
        · exact goodIn_1 u3 _ (List.mem_singleton.mpr rfl)
        · exact goodIn_1 u4 _ (List.mem_singleton.mpr rfl)) (goodIn_tb ok_edC) : GoodIn tb (wsV RAL 123 RAL yEd (Cond.code yEd prog_33_method_18_code 2 (some oOb) :: tb))) rfl rfl rfl ⟨rfl, by decide +kernel⟩ ⟨by decide, by decide⟩
  refine lv_iload_n hx hb (show decode prog_33_method_20_code 0 = .ok (.iload_n 1, 1) by decide +kernel) rfl (lv_at hl 1 rfl) ?_
  refine lv_aload_n hx hb (show decode prog_33_method_20_code 1 = .ok (.aload_n 0, 1) by decide +kernel) rfl (lv_at hl 0 rfl) ?_
  refine va_get hx hb hts2 vq0_in hown hK hP q0 e1 vq0_at 2 (by rw [vq0_N]; decide) (hts2 _ ok_szf) (fun _ h => h) rfl (show decode prog_33_method_20_code 2 = .ok (.getfield 48, 3) by decide +kernel) ?_
  refine va_calli (va_runS (As := [.int (nI jn), .int (nI (gN σ K i))]) hS5 (met_oc (A := A) s.heap (nI_pos hjn) (nI_lt hj2 hg)) hcw ⟨by rintro a U g mk ⟨h0, h1⟩; exact ⟨h0, h1⟩, fun U hU hW => ⟨rfl, hU⟩⟩ rfl rfl hl.1 rfl (lv_room (by decide)) (show decode prog_33_method_20_code 5 = .ok (.invokestatic 118, 3) by decide +kernel) ⟨by decide, by decide⟩) hS0 (fun _ _ h => h) (fun _ h => h) (fun r1 u t H1 locs1 ht hvm hw2 hB2 _ _ hS1 => ?_)
  have hB2 : t.heap = s.heap := hB2
  rw [ht] at hB2
  subst hB2
  refine lv_pop hx hb (show decode prog_33_method_20_code 8 = .ok (.pop, 1) by decide +kernel) rfl ?_
  refine lv_aload_n hx hb (show decode prog_33_method_20_code 9 = .ok (.aload_n 0, 1) by decide +kernel) rfl (lv_at hl 0 rfl) ?_
  refine lv_iload_n hx hb (show decode prog_33_method_20_code 10 = .ok (.iload_n 1, 1) by decide +kernel) rfl (lv_at hl 1 rfl) ?_
  refine va_callq (va_runV (As := [.int (nI jn)]) (b := a) hS5 (met_ed (A := A) ha hk hj) hcw2 ⟨by rintro a U g mk ⟨h0, h1, h2⟩; exact ⟨h0, h1, h2.moved (Vm.Alike.refl U.vm)⟩, hrec, fun U hU hW => ⟨rfl, hU, hHR.moved hW.alike⟩⟩ rfl rfl hl.1 rfl (lv_room (by decide)) (show decode prog_33_method_20_code 11 = .ok (.invokevirtual 123, 3) by decide +kernel) ⟨by decide, by decide⟩) hS1 (fun _ _ h => h) (fun _ h => h) (fun r1 u t2 H2 locs2 ht2 hvm2 hw3 hB3 _ _ hS2 => ?_)
  have hB3 : t2.heap = s.heap := hB3
  rw [ht2] at hB3
  subst hB3
  exact W.aret hx hb hr (Or.inl ⟨_, rfl⟩) (va_rf_or _) (fun t ht hW => ⟨⟨_, (), rfl, hw3, ht⟩, hS0.F ht⟩) hS2.2.2 (show decode prog_33_method_20_code 14 = .ok (.areturn, 1) by decide +kernel) hlocks
end SIMG2
