section SIMG3
variable {D : va_G} {G : xG} {A : Nat → Prop} {mid d : Nat} {p : Program} {lc : Launch} {e : Env} {R : Room} {s : State} {m : MethodId} {args : Array Value} {below : List Frame} {meth : Method} {c : Code} {Z : State → Prop} {ad0 : sA} {b0 : Nat × Nat} {pc : Nat} {l : aL} {st r : List aV} {σ : aM}
theorem rl_gt {k cm K i : Nat} {j : Int32} (C : Cx mid d G A p R s m args meth c) (hd : decode (mcode mid) pc = .ok (.invokevirtual k, 3)) (hf : cal (mcl mid) k = some (13, cm)) (hk : kT K = (5, 0)) (hj : am_in j (gN σ K i)) (hr : r.length ≤ 4) (hB : (gB σ).1 ≤ R.cells + b0.1 ∧ (gB σ).2 ≤ R.slots + b0.2) (kk : Rl D G A mid p lc e R s m args below meth c Z ad0 b0 (pc + 3) l (vr (gR σ K i j.toNatClampNeg) :: r) σ) : Rl D G A mid p lc e R s m args below meth c Z ad0 b0 pc l (vi j :: vr (some (K, i)) :: r) σ := by
  intro H locs cells slots ls cst ad bk ws tys lv hH hS hle hl hlr hll hst h1 h2
  obtain ⟨w1, c0, rfl, e0, hs0⟩ := hst.cons
  cases e0
  obtain ⟨a, c1, rfl, ha, hs1⟩ := hs0.ref
  have hw : (c1.map fun v => v.category).sum ≤ 8 := by
    have := hs1.weigh
    omega
  obtain ⟨hx, hbc, hml, hown, hts, hlk, hrt, hini, hfr, hlo, hxf, hA, htn⟩ := id C
  obtain ⟨o1, o1b, o2, o3, o4⟩ := ok_gt
  have o : Cond.methodLink (cN (mcl mid)) k yGt ∈ tb := by
    rcases calM13 _ (lk_s (L := calL) hf) rfl with ⟨e1, e2⟩ | ⟨e1, e2⟩
    · have e1 : mcl mid = 12 := e1
      have e2 : k = 180 := e2
      rw [e1, e2]; exact o1
    · have e1 : mcl mid = 4 := e1
      have e2 : k = 55 := e2
      rw [e1, e2]; exact o1b
  obtain ⟨hP, hK, hD, h4, h5, h6, _⟩ := id hH
  obtain ⟨q0, m9, b9, e1, _⟩ := h6 _ _ _ ha (by rw [hk])
  have hrec := va_recv hK hP vq0_at e1
  rw [vq0_1] at hrec
  have hS5 : CallFix p m c (mcode mid) (mml mid) s args tb (cN (mcl mid)) := ⟨hx, hbc, hml, hown, hts⟩
  have hcw := cwV (R := R) (args := args) (rm := { frames := 3, cells := 0, slots := 0, locals := 128 }) 1 hts (goodIn_app (a := [_, _, _, _]) (fun w hw => by
      simp only [List.mem_cons, List.not_mem_nil, or_false] at hw
      rcases hw with rfl | rfl | rfl | rfl
      · exact goodIn_1 o _ (List.mem_singleton.mpr rfl)
      · exact goodIn_1 o2 _ (List.mem_singleton.mpr rfl)
      · exact goodIn_1 o3 _ (List.mem_singleton.mpr rfl)
      · exact goodIn_1 o4 _ (List.mem_singleton.mpr rfl)) (goodIn_tb ok_gtC) : GoodIn tb (wsV (cN (mcl mid)) k RAL yGt (Cond.code yGt prog_33_method_20_code 2 (some oOb) :: tb))) rfl rfl rfl ⟨rfl, by decide +kernel⟩ ⟨by show 3 + 1 ≤ _; omega, by show 8 + (2 + 11) + 128 ≤ _; omega⟩
  have hrun : va_Run p lc e R s m args below meth c H locs cells slots 0 0 (F0 m pc ls (.int j :: .ref a :: c1)) c1 (va_Qq (fun r (_ : Unit) => vrel ad (vr (gR σ K i j.toNatClampNeg)) (va_rf r)) (fun _ t => t.heap = H) A [Value.ref a, Value.int j].toArray) A :=
    va_runV (As := [.int j]) (b := a) hS5 (met_gt ha hk hj) hcw ⟨by rintro a U g mk ⟨h0, h1, h2⟩; exact ⟨h0, h1, h2.moved (Vm.Alike.refl U.vm)⟩, hrec, fun U hU hW => ⟨rfl, hU, hH.moved hW.alike⟩⟩ rfl rfl hl.1 rfl (lv_room (by omega)) hd ⟨by omega, by omega⟩
  refine va_callq hrun hS (fun _ _ h => h) (fun _ h => h) (fun r1 u t H1 locs1 ht hvm hw2 hB2 _ _ hS1 => ?_)
  have hB2 : t.heap = H := hB2
  rw [ht] at hB2
  subst hB2
  exact kk _ locs1 _ _ ls _ ad bk ws tys lv hH hS1 hle hl hlr hll ⟨hw2, hs1⟩ (by omega) (by omega)
end SIMG3
