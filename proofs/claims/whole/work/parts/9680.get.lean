section SIMG
variable {D : va_G} {G : xG} {A : Nat → Prop} {mid d : Nat} {p : Program} {lc : Launch} {e : Env} {R : Room} {s : State} {m : MethodId} {args : Array Value} {below : List Frame} {meth : Method} {c : Code} {Z : State → Prop} {ad0 : sA} {b0 : Nat × Nat} {pc : Nat} {l : aL} {st r : List aV} {σ : aM}
abbrev yEd : MethodName := ⟨RAL, "elementData", "(I)Ljava/lang/Object;"⟩
abbrev oOb : FieldType := .object "java/lang/Object"
set_option maxRecDepth 100000 in
theorem ok_edC : Cond.code yEd prog_33_method_18_code 2 (some oOb) ∈ tb := tbm 450 ⟨rfl, rfl⟩
theorem ok_edf : Cond.fieldLink RAL 9 (vq0.2.1 1).1 (vq0.2.1 1).2.1 (vq0.2.1 1).2.2.1 ∈ tb := tbm 53 (by decide +kernel)
theorem met_ed {K i a : Nat} {H : Heap} {ad bk : sA} {ws : va_W} {tys : List (ClassId × FieldType)} {j : Int32} (ha : ad K i = some a) (hk : kT K = (5, 0)) (hj : am_in j (gN σ K i)) : Met lc yEd (Cond.code yEd prog_33_method_18_code 2 (some oOb) :: tb) { frames := 1, cells := 0, slots := 0, locals := 13 } (va_Pc [.ref a, .int j] (fun U => U.heap = H ∧ HR D G A U σ ad bk ws tys H)) (va_Qq (fun r (_ : Unit) => vrel ad (vr (gR σ K i j.toNatClampNeg)) (va_rf r)) (fun _ t => t.heap = H) A) 0 0 A := by
  refine Met.ofW (cc := prog_33_method_18_code) (maxL := 2) (ret := some oOb) (by decide +kernel) rfl ?_
  intro p e s m args below meth c s₁ B hml hv
  obtain ⟨rfl, hh, hHR⟩ := hv
  subst hh
  have hx := B.exec
  have hb := B.bytes
  have hr := B.returns
  have hts := atoms_spec (ws := Cond.code yEd prog_33_method_18_code 2 (some oOb) :: tb) B.pre
  have hts2 : ∀ w ∈ tb, w.before _ s = true := fun w hw => hts w (List.mem_cons_of_mem _ hw)
  have hown : s.vm.findClass RAL = some m.cls := findClass_of_methodNamed B.named
  have hlocks := B.notSynchronized
  have hS0 : va_S A s.heap s.heap [] := va_S.rf
  have hl := lv_entry ([.ref a, .int j]) (n := 2) (Nat.le_of_ble_eq_true rfl)
  rw [lg_entry_eq]
  generalize (lg_sl ([.ref a, .int j]) ++ List.replicate (2 - (lg_sl ([.ref a, .int j])).length) Slot.unset).toArray = ls at hl ⊢
  have hl : lv_has ls 2 [(0, .ref a), (1, .int j)] := hl
  obtain ⟨hP, hK, hD, h4, h5, h6, _⟩ := id hHR
  obtain ⟨q0, m9, b9, e1, e2⟩ := h6 _ _ _ ha (by rw [hk])
  have hj2 : j.toNatClampNeg < gN σ K i := hj.2
  rcases e2 with ⟨_, g, _⟩ | ⟨ba, q1, t0, cap, cA, f, rfl, g2, g3, g4, g5, g6, g7⟩
  · omega
  refine lv_aload_n hx hb (show decode prog_33_method_18_code 0 = .ok (.aload_n 0, 1) by decide +kernel) rfl (lv_at hl 0 rfl) ?_
  refine va_get hx hb hts2 vq0_in hown hK hP q0 e1 vq0_at 1 (by rw [vq0_N]; decide) (hts2 _ ok_edf) (fun _ h => h) rfl (show decode prog_33_method_18_code 1 = .ok (.getfield 9, 3) by decide +kernel) ?_
  refine lv_iload_n hx hb (show decode prog_33_method_18_code 4 = .ok (.iload_n 1, 1) by decide +kernel) rfl (lv_at hl 1 rfl) ?_
  refine va_aldq hx hb hK hP q1 t0 g4 g3 (vin ⟨hj.1, Nat.lt_of_lt_of_le hj2 g5⟩) (show decode prog_33_method_18_code 5 = .ok (.aaload, 1) by decide +kernel) ?_
  exact W.aret hx hb hr (Or.inl ⟨_, rfl⟩) (va_rf_or _) (fun t ht hW => ⟨⟨_, (), rfl, g7 _ hj2, ht⟩, hS0.F ht⟩) hS0.2.2 (show decode prog_33_method_18_code 6 = .ok (.areturn, 1) by decide +kernel) hlocks
end SIMG
