section SIMV
variable {D : va_G} {G : xG} {A : Nat → Prop} {mid d : Nat} {p : Program} {lc : Launch} {e : Env} {R : Room} {s : State} {m : MethodId} {args : Array Value} {below : List Frame} {meth : Method} {c : Code} {Z : State → Prop} {ad0 : sA} {b0 : Nat × Nat} {pc : Nat} {l : aL} {st r : List aV} {σ : aM}
def vq0 : vw_C := vwCl.headD ("", fun _ => ("", "", "", false), 0)
theorem vq0_at : vwCl[0]? = some (vq0.1, vq0.2.1, vq0.2.2) := rfl
abbrev RAL : String := "java/util/ArrayList"
abbrev ySz : MethodName := ⟨RAL, "size", "()I"⟩
abbrev yEm : MethodName := ⟨RAL, "isEmpty", "()Z"⟩
theorem calM15 : ∀ e ∈ calL, e.2.2.1 = 15 → (e.1 = 12 ∧ e.2.1 = 79) ∨ (e.1 = 4 ∧ e.2.1 = 51) := by decide +kernel
set_option maxRecDepth 100000 in
theorem ok_szC : Cond.code ySz prog_33_method_8_code 1 (some .int) ∈ tb := tbm 294 ⟨rfl, rfl⟩
theorem ok_sz : Cond.methodLink (cN 12) 79 ySz ∈ tb ∧ Cond.methodLink (cN 4) 51 ySz ∈ tb ∧ Cond.instanceMethod ySz ∈ tb ∧ Cond.selects RAL ySz ySz ∈ tb ∧ Cond.initialized RAL ∈ tb := ⟨tbm 291 (by decide +kernel), tbm 750 (by decide +kernel), tbm 292 (by decide +kernel), tbm 293 (by decide +kernel), tbm 4 (by decide +kernel)⟩
theorem ok_szf : Cond.fieldLink RAL 48 (vq0.2.1 2).1 (vq0.2.1 2).2.1 (vq0.2.1 2).2.2.1 ∈ tb := tbm 54 (by decide +kernel)
theorem vq0_1 : vq0.1 = RAL := by decide +kernel
theorem vq0_N : vq0.2.2 = 3 := by decide +kernel
theorem vq0_in : ∀ w ∈ u_ws vq0.1 vq0.2.1 vq0.2.2, w ∈ tb := by
  obtain ⟨q, hq, hin, _⟩ := okVs (ci := 0) vq0_at
  rw [vq0_at] at hq
  cases hq
  exact hin
theorem met_sz {K i a : Nat} {H : Heap} {ad bk : sA} {ws : va_W} {tys : List (ClassId × FieldType)} (ha : ad K i = some a) (hk : kT K = (5, 0)) : Met lc ySz (Cond.code ySz prog_33_method_8_code 1 (some .int) :: tb) { frames := 1, cells := 0, slots := 0, locals := 12 } (va_Pc [.ref a] (fun U => U.heap = H ∧ HR D G A U σ ad bk ws tys H)) (va_Qi (fun r (_ : Unit) => r = nI (gN σ K i)) (fun _ t => t.heap = H) A) 0 0 A := by
  refine Met.ofW (cc := prog_33_method_8_code) (maxL := 1) (ret := some .int) (by decide +kernel) rfl ?_
  intro p e s m args below meth c s₁ B hml hv
  obtain ⟨rfl, hh, hHR⟩ := hv
  subst hh
  have hx := B.exec
  have hb := B.bytes
  have hr := B.returns
  have hts := atoms_spec (ws := Cond.code ySz prog_33_method_8_code 1 (some .int) :: tb) B.pre
  have hts2 : ∀ w ∈ tb, w.before _ s = true := fun w hw => hts w (List.mem_cons_of_mem _ hw)
  have hown : s.vm.findClass RAL = some m.cls := findClass_of_methodNamed B.named
  have hlocks := B.notSynchronized
  have hS0 : va_S A s.heap s.heap [] := va_S.rf
  have hl := lv_entry ([.ref a]) (n := 1) (Nat.le_of_ble_eq_true rfl)
  rw [lg_entry_eq]
  generalize (lg_sl ([.ref a]) ++ List.replicate (1 - (lg_sl ([.ref a])).length) Slot.unset).toArray = ls at hl ⊢
  have hl : lv_has ls 1 [(0, .ref a)] := hl
  obtain ⟨hP, hK, hD, h4, h5, h6, _⟩ := id hHR
  obtain ⟨q0, m9, b9, e1, _⟩ := h6 _ _ _ ha (by rw [hk])
  refine lv_aload_n hx hb (show decode prog_33_method_8_code 0 = .ok (.aload_n 0, 1) by decide +kernel) rfl (lv_at hl 0 rfl) ?_
  refine va_get hx hb hts2 vq0_in hown hK hP q0 e1 vq0_at 2 (by rw [vq0_N]; decide) (hts2 _ ok_szf) (fun _ h => h) rfl (show decode prog_33_method_8_code 1 = .ok (.getfield 48, 3) by decide +kernel) ?_
  exact W.iret hx hb hr (fun t ht hW => ⟨⟨_, (), rfl, rfl, ht⟩, hS0.F ht⟩) hS0.2.2 (show decode prog_33_method_8_code 4 = .ok (.ireturn, 1) by decide +kernel) hlocks
theorem rl_sz {k cm K i : Nat} (C : Cx mid d G A p R s m args meth c) (hd : decode (mcode mid) pc = .ok (.invokevirtual k, 3)) (hf : cal (mcl mid) k = some (15, cm)) (hk : kT K = (5, 0)) (hr : r.length ≤ 4) (hB : (gB σ).1 ≤ R.cells + b0.1 ∧ (gB σ).2 ≤ R.slots + b0.2) (kk : Rl D G A mid p lc e R s m args below meth c Z ad0 b0 (pc + 3) l (vi (nI (gN σ K i)) :: r) σ) : Rl D G A mid p lc e R s m args below meth c Z ad0 b0 pc l (vr (some (K, i)) :: r) σ := by
  intro H locs cells slots ls cst ad bk ws tys lv hH hS hle hl hlr hll hst h1 h2
  obtain ⟨a, c1, rfl, ha, hs1⟩ := hst.ref
  have hw : (c1.map fun v => v.category).sum ≤ 8 := by
    have := hs1.weigh
    omega
  obtain ⟨hx, hbc, hml, hown, hts, hlk, hrt, hini, hfr, hlo, hxf, hA, htn⟩ := id C
  obtain ⟨o1, o1b, o2, o3, o4⟩ := ok_sz
  have o : Cond.methodLink (cN (mcl mid)) k ySz ∈ tb := by
    rcases calM15 _ (lk_s (L := calL) hf) rfl with ⟨e1, e2⟩ | ⟨e1, e2⟩
    · have e1 : mcl mid = 12 := e1
      have e2 : k = 79 := e2
      rw [e1, e2]; exact o1
    · have e1 : mcl mid = 4 := e1
      have e2 : k = 51 := e2
      rw [e1, e2]; exact o1b
  obtain ⟨hP, hK, hD, h4, h5, h6, _⟩ := id hH
  obtain ⟨q0, m9, b9, e1, _⟩ := h6 _ _ _ ha (by rw [hk])
  have hrec := va_recv hK hP vq0_at e1
  rw [vq0_1] at hrec
  have hS5 : CallFix p m c (mcode mid) (mml mid) s args tb (cN (mcl mid)) := ⟨hx, hbc, hml, hown, hts⟩
  have hcw := cwV (R := R) (args := args) (rm := { frames := 1, cells := 0, slots := 0, locals := 12 }) 0 hts (goodIn_app (a := [_, _, _, _]) (fun w hw => by
      simp only [List.mem_cons, List.not_mem_nil, or_false] at hw
      rcases hw with rfl | rfl | rfl | rfl
      · exact goodIn_1 o _ (List.mem_singleton.mpr rfl)
      · exact goodIn_1 o2 _ (List.mem_singleton.mpr rfl)
      · exact goodIn_1 o3 _ (List.mem_singleton.mpr rfl)
      · exact goodIn_1 o4 _ (List.mem_singleton.mpr rfl)) (goodIn_tb ok_szC) : GoodIn tb (wsV (cN (mcl mid)) k RAL ySz (Cond.code ySz prog_33_method_8_code 1 (some .int) :: tb))) rfl rfl rfl ⟨rfl, by decide +kernel⟩ ⟨by show 1 + 1 ≤ _; omega, by show 8 + (1 + 11) + 12 ≤ _; omega⟩
  have hrun : va_Run p lc e R s m args below meth c H locs cells slots 0 0 (F0 m pc ls (.ref a :: c1)) c1 (va_Qi (fun r (_ : Unit) => r = nI (gN σ K i)) (fun _ t => t.heap = H) A [Value.ref a].toArray) A :=
    va_runV (As := []) (b := a) hS5 (met_sz ha hk) hcw ⟨by rintro a U g mk ⟨h0, h1, h2⟩; exact ⟨h0, h1, h2.moved (Vm.Alike.refl U.vm)⟩, hrec, fun U hU hW => ⟨rfl, hU, hH.moved hW.alike⟩⟩ rfl rfl hl.1 rfl (lv_room (by omega)) hd ⟨by omega, by omega⟩
  refine va_calli hrun hS (fun _ _ h => h) (fun _ h => h) (fun r1 u t H1 locs1 ht hvm hw2 hB2 _ _ hS1 => ?_)
  have hw2 : r1 = nI (gN σ K i) := hw2
  have hB2 : t.heap = H := hB2
  rw [ht] at hB2
  subst hw2
  subst hB2
  exact kk _ locs1 _ _ ls _ ad bk ws tys lv hH hS1 hle hl hlr hll ⟨rfl, hs1⟩ (by omega) (by omega)
theorem calM17 : ∀ e ∈ calL, e.2.2.1 = 17 → e.1 = 12 ∧ e.2.1 = 396 := by decide +kernel
set_option maxRecDepth 100000 in
theorem ok_emC : Cond.code yEm prog_33_method_9_code 1 (some .boolean) ∈ tb := tbm 1140 ⟨rfl, rfl⟩
theorem ok_em : Cond.methodLink (cN 12) 396 yEm ∈ tb ∧ Cond.instanceMethod yEm ∈ tb ∧ Cond.selects RAL yEm yEm ∈ tb ∧ Cond.initialized RAL ∈ tb := ⟨tbm 1137 (by decide +kernel), tbm 1138 (by decide +kernel), tbm 1139 (by decide +kernel), tbm 4 (by decide +kernel)⟩
theorem met_em {K i a : Nat} {H : Heap} {ad bk : sA} {ws : va_W} {tys : List (ClassId × FieldType)} (ha : ad K i = some a) (hk : kT K = (5, 0)) : Met lc yEm (Cond.code yEm prog_33_method_9_code 1 (some .boolean) :: tb) { frames := 1, cells := 0, slots := 0, locals := 12 } (va_Pc [.ref a] (fun U => U.heap = H ∧ HR D G A U σ ad bk ws tys H)) (va_Qi (fun r (_ : Unit) => r = (if gN σ K i = 0 then 1 else 0)) (fun _ t => t.heap = H) A) 0 0 A := by
  refine Met.ofW (cc := prog_33_method_9_code) (maxL := 1) (ret := some .boolean) (by decide +kernel) rfl ?_
  intro p e s m args below meth c s₁ B hml hv
  obtain ⟨rfl, hh, hHR⟩ := hv
  subst hh
  have hx := B.exec
  have hb := B.bytes
  have hr := B.returns
  have hts := atoms_spec (ws := Cond.code yEm prog_33_method_9_code 1 (some .boolean) :: tb) B.pre
  have hts2 : ∀ w ∈ tb, w.before _ s = true := fun w hw => hts w (List.mem_cons_of_mem _ hw)
  have hown : s.vm.findClass RAL = some m.cls := findClass_of_methodNamed B.named
  have hlocks := B.notSynchronized
  have hS0 : va_S A s.heap s.heap [] := va_S.rf
  have hl := lv_entry ([.ref a]) (n := 1) (Nat.le_of_ble_eq_true rfl)
  rw [lg_entry_eq]
  generalize (lg_sl ([.ref a]) ++ List.replicate (1 - (lg_sl ([.ref a])).length) Slot.unset).toArray = ls at hl ⊢
  have hl : lv_has ls 1 [(0, .ref a)] := hl
  obtain ⟨hP, hK, hD, h4, h5, h6, _⟩ := id hHR
  obtain ⟨q0, m9, b9, e1, e2⟩ := h6 _ _ _ ha (by rw [hk])
  refine lv_aload_n hx hb (show decode prog_33_method_9_code 0 = .ok (.aload_n 0, 1) by decide +kernel) rfl (lv_at hl 0 rfl) ?_
  refine va_get hx hb hts2 vq0_in hown hK hP q0 e1 vq0_at 2 (by rw [vq0_N]; decide) (hts2 _ ok_szf) (fun _ h => h) rfl (show decode prog_33_method_9_code 1 = .ok (.getfield 48, 3) by decide +kernel) ?_
  have hg : gN σ K i < 2 ^ 31 := by
    rcases e2 with ⟨_, g, _⟩ | ⟨_, _, _, cap, _, _, _, _, _, _, g, g', _⟩
    · omega
    · omega
  refine lv_if_ne hx hb (show decode prog_33_method_9_code 4 = .ok (.ifCond .ne 7, 3) by decide +kernel) (tgt := 11) rfl (fun h => ?_) (fun h => ?_)
  · have h0 : ¬ gN σ K i = 0 := fun h1 => h (by rw [h1]; rfl)
    refine lv_iconst hx hb (v := 0) (show decode prog_33_method_9_code 11 = .ok (.iconst 0, 1) by decide +kernel) rfl ?_
    exact W.zret hx hb hr (by decide) (fun t ht hW => ⟨⟨_, (), rfl, (if_neg h0).symm, ht⟩, hS0.F ht⟩) hS0.2.2 (show decode prog_33_method_9_code 12 = .ok (.ireturn, 1) by decide +kernel) hlocks
  · have h0 : gN σ K i = 0 := Classical.byContradiction fun h1 => nI_ne0 (Nat.pos_of_ne_zero h1) hg h
    refine lv_iconst hx hb (v := 1) (show decode prog_33_method_9_code 7 = .ok (.iconst 1, 1) by decide +kernel) rfl ?_
    refine lv_goto hx hb (show decode prog_33_method_9_code 8 = .ok (.goto 4, 3) by decide +kernel) (tgt := 12) rfl ?_
    exact W.zret hx hb hr (by decide) (fun t ht hW => ⟨⟨_, (), rfl, (if_pos h0).symm, ht⟩, hS0.F ht⟩) hS0.2.2 (show decode prog_33_method_9_code 12 = .ok (.ireturn, 1) by decide +kernel) hlocks
theorem rl_em {k cm K i : Nat} (C : Cx mid d G A p R s m args meth c) (hd : decode (mcode mid) pc = .ok (.invokevirtual k, 3)) (hf : cal (mcl mid) k = some (17, cm)) (hk : kT K = (5, 0)) (hr : r.length ≤ 4) (hB : (gB σ).1 ≤ R.cells + b0.1 ∧ (gB σ).2 ≤ R.slots + b0.2) (kk : Rl D G A mid p lc e R s m args below meth c Z ad0 b0 (pc + 3) l (vi (if gN σ K i = 0 then 1 else 0) :: r) σ) : Rl D G A mid p lc e R s m args below meth c Z ad0 b0 pc l (vr (some (K, i)) :: r) σ := by
  intro H locs cells slots ls cst ad bk ws tys lv hH hS hle hl hlr hll hst h1 h2
  obtain ⟨a, c1, rfl, ha, hs1⟩ := hst.ref
  have hw : (c1.map fun v => v.category).sum ≤ 8 := by
    have := hs1.weigh
    omega
  obtain ⟨hx, hbc, hml, hown, hts, hlk, hrt, hini, hfr, hlo, hxf, hA, htn⟩ := id C
  obtain ⟨o1, o2, o3, o4⟩ := ok_em
  have o : Cond.methodLink (cN (mcl mid)) k yEm ∈ tb := by
    obtain ⟨e1, e2⟩ := calM17 _ (lk_s (L := calL) hf) rfl
    have e1 : mcl mid = 12 := e1
    have e2 : k = 396 := e2
    rw [e1, e2]; exact o1
  obtain ⟨hP, hK, hD, h4, h5, h6, _⟩ := id hH
  obtain ⟨q0, m9, b9, e1, _⟩ := h6 _ _ _ ha (by rw [hk])
  have hrec := va_recv hK hP vq0_at e1
  rw [vq0_1] at hrec
  have hS5 : CallFix p m c (mcode mid) (mml mid) s args tb (cN (mcl mid)) := ⟨hx, hbc, hml, hown, hts⟩
  have hcw := cwV (R := R) (args := args) (rm := { frames := 1, cells := 0, slots := 0, locals := 12 }) 0 hts (goodIn_app (a := [_, _, _, _]) (fun w hw => by
      simp only [List.mem_cons, List.not_mem_nil, or_false] at hw
      rcases hw with rfl | rfl | rfl | rfl
      · exact goodIn_1 o _ (List.mem_singleton.mpr rfl)
      · exact goodIn_1 o2 _ (List.mem_singleton.mpr rfl)
      · exact goodIn_1 o3 _ (List.mem_singleton.mpr rfl)
      · exact goodIn_1 o4 _ (List.mem_singleton.mpr rfl)) (goodIn_tb ok_emC) : GoodIn tb (wsV (cN (mcl mid)) k RAL yEm (Cond.code yEm prog_33_method_9_code 1 (some .boolean) :: tb))) rfl rfl rfl ⟨rfl, by decide +kernel⟩ ⟨by show 1 + 1 ≤ _; omega, by show 8 + (1 + 11) + 12 ≤ _; omega⟩
  have hrun : va_Run p lc e R s m args below meth c H locs cells slots 0 0 (F0 m pc ls (.ref a :: c1)) c1 (va_Qi (fun r (_ : Unit) => r = (if gN σ K i = 0 then 1 else 0)) (fun _ t => t.heap = H) A [Value.ref a].toArray) A :=
    va_runV (As := []) (b := a) hS5 (met_em ha hk) hcw ⟨by rintro a U g mk ⟨h0, h1, h2⟩; exact ⟨h0, h1, h2.moved (Vm.Alike.refl U.vm)⟩, hrec, fun U hU hW => ⟨rfl, hU, hH.moved hW.alike⟩⟩ rfl rfl hl.1 rfl (lv_room (by omega)) hd ⟨by omega, by omega⟩
  refine va_calli hrun hS (fun _ _ h => h) (fun _ h => h) (fun r1 u t H1 locs1 ht hvm hw2 hB2 _ _ hS1 => ?_)
  have hw2 : r1 = (if gN σ K i = 0 then 1 else 0) := hw2
  have hB2 : t.heap = H := hB2
  rw [ht] at hB2
  subst hw2
  subst hB2
  exact kk _ locs1 _ _ ls _ ad bk ws tys lv hH hS1 hle hl hlr hll ⟨rfl, hs1⟩ (by omega) (by omega)
end SIMV
