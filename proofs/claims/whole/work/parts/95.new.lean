def dfOk (ty : FieldType) : Bool := match ty with
  | .float => false
  | .double => false
  | _ => true
theorem dfs : ∀ ci, ci < 14 → ∀ j, j < am_nf ci → dfOk ((vwTy.getD ci tyX0) j) = true := by decide +kernel
theorem dfv {ad : sA} {ty : FieldType} (h : dfOk ty = true) : vrel ad (if ftg ty = 1 then vl 0 else if ftg ty = 2 then vr none else vi 0) (defaultValue ty) := by
  cases ty <;> first | exact rfl | cases h
theorem fv_mk {σ : aM} {K n s j u : Nat} : am_fv (am_mk σ K n s) K (gC σ K) j u = if u = 1 then vl 0 else if u = 2 then vr none else vi 0 := by
  unfold am_fv
  simp only [gI_am_mk, gL_am_mk, gR_am_mk, and_self, if_true]
theorem mk_agr {σ : aM} {K n s : Nat} : ∀ a b, ¬ (a = K ∧ b = gC σ K) → gI (am_mk σ K n s) a b = gI σ a b ∧ gL (am_mk σ K n s) a b = gL σ a b ∧ gR (am_mk σ K n s) a b = gR σ a b ∧ gN (am_mk σ K n s) a b = gN σ a b := fun a b h => ⟨by funext j; rw [gI_am_mk, if_neg h], by funext j; rw [gL_am_mk, if_neg h], by funext j; rw [gR_am_mk, if_neg h], by rw [gN_am_mk, if_neg h]⟩
theorem sw_s {X : Type} {x : Int32} {pc : Nat} {d : Int} {k : Nat → Option X} {y : X} : ∀ (os : List Int) (lo : Int), am_sw x pc d k lo os = some y → (∃ (j : Nat) (o : Int) (t : Nat), os[j]? = some o ∧ x = Int32.ofInt (lo + j) ∧ (pc : Int) + o = (t : Int) ∧ k t = some y) ∨ ((∀ j : Nat, j < os.length → x ≠ Int32.ofInt (lo + j)) ∧ ∃ t : Nat, (pc : Int) + d = (t : Int) ∧ k t = some y)
  | [], lo, h => by
    obtain ⟨t, h1, h2⟩ := jm_s (show am_jm pc d k = some y from h)
    exact Or.inr ⟨fun j hj => absurd hj (Nat.not_lt_zero j), t, h1, h2⟩
  | o :: r, lo, h => by
    unfold am_sw at h
    by_cases c : x = Int32.ofInt lo
    · rw [if_pos c] at h
      obtain ⟨t, h1, h2⟩ := jm_s h
      exact Or.inl ⟨0, o, t, rfl, by rw [c]; simp, h1, h2⟩
    · rw [if_neg c] at h
      rcases sw_s r (lo + 1) h with ⟨j, o', t, g1, g2, g3, g4⟩ | ⟨g1, g2⟩
      · exact Or.inl ⟨j + 1, o', t, g1, by rw [g2]; congr 1; push_cast; omega, g3, g4⟩
      · refine Or.inr ⟨fun j hj => ?_, g2⟩
        cases j with
        | zero => simpa using c
        | succ j =>
          have := g1 j (by simpa using hj)
          intro e
          apply this
          rw [e]; congr 1; push_cast; omega
section SIMN
variable {D : va_G} {G : xG} {A : Nat → Prop} {mid d : Nat} {p : Program} {lc : Launch} {e : Env} {R : Room} {s : State} {m : MethodId} {args : Array Value} {below : List Frame} {meth : Method} {c : Code} {Z : State → Prop} {ad0 : sA} {b0 : Nat × Nat} {pc : Nat} {l : aL} {st r : List aV} {σ : aM}
theorem rl_tsw {x : Int32} {dflt lo hi : Int} {offs : Array Int} {len : Nat} {y : aX} {k : Nat → Option aX} (C : Cx mid d G A p R s m args meth c) (hd : decode (mcode mid) pc = .ok (.tableswitch dflt lo hi offs, len)) (hg : (offs.size : Int) = hi - lo + 1 ∧ -2147483648 ≤ lo ∧ hi < 2147483648 ∧ lo ≤ hi) (hs : am_sw x pc dflt k lo offs.toList = some y) (kk : ∀ t, k t = some y → Rl D G A mid p lc e R s m args below meth c Z ad0 b0 t l r σ) : Rl D G A mid p lc e R s m args below meth c Z ad0 b0 pc l (vi x :: r) σ := by
  intro H locs cells slots ls cst ad bk ws tys lv hH hS hle hl hlr hll hst h1 h2
  obtain ⟨w1, c1, rfl, e1, hs1⟩ := hst.cons
  cases e1
  obtain ⟨g1, g2, g3, g4⟩ := hg
  have hx1 := x.le_toInt
  have hx2 := x.toInt_lt
  rcases sw_s _ _ hs with ⟨j, o, t, k1, k2, k3, k4⟩ | ⟨k1, t, k3, k4⟩
  · have hj : j < offs.size := by
      have := (List.getElem?_eq_some_iff.mp k1).1
      simpa using this
    have hxv : x.toInt = lo + j := by
      rw [k2, Int32.toInt_ofInt_of_le (by simp; omega) (by simp; omega)]
    exact lv_tableIn C.1 C.2.1 hd (by omega) (by omega) (off := o) (by rw [hxv, show lo + (j : Int) - lo = (j : Int) by omega]; simpa using k1) k3 (kk t k4 H locs cells slots ls _ ad bk ws tys lv hH hS hle hl hlr hll hs1 h1 h2)
  · refine lv_tableOut C.1 C.2.1 hd ?_ k3 (kk t k4 H locs cells slots ls _ ad bk ws tys lv hH hS hle hl hlr hll hs1 h1 h2)
    by_cases c1 : x.toInt < lo
    · exact Or.inl c1
    · refine Or.inr (Classical.byContradiction fun c2 => ?_)
      have h9 := k1 (x.toInt - lo).toNat (by
        have : (x.toInt - lo).toNat < offs.size := by omega
        simpa using this)
      apply h9
      rw [show lo + ((x.toInt - lo).toNat : Int) = x.toInt by omega]
      exact (Int32.ofInt_toInt x).symm
theorem rl_cast {k K i : Nat} (C : Cx mid d G A p R s m args meth c) (hd : decode (mcode mid) pc = .ok (.checkcast k, 3)) (hk : (kT K).1 = 0) (hf : clsP (mcl mid) k = some (kT K).2) (kk : Rl D G A mid p lc e R s m args below meth c Z ad0 b0 (pc + 3) l (vr (some (K, i)) :: r) σ) : Rl D G A mid p lc e R s m args below meth c Z ad0 b0 pc l (vr (some (K, i)) :: r) σ := by
  intro H locs cells slots ls cst ad bk ws tys lv hH hS hle hl hlr hll hst h1 h2
  obtain ⟨a, c1, rfl, ha, hs1⟩ := hst.ref
  have hH0 := hH
  obtain ⟨hP, hK, hD, h4, h5, _⟩ := hH
  obtain ⟨q0, e0, g1, g2⟩ := h5 _ _ _ ha (by omega)
  obtain ⟨fs, rfl, g4, g5⟩ := g2.1 hk
  rcases ok_cls hf with ⟨g6, -⟩ | ⟨q, hq, g6, -, -⟩
  · have hN : ∀ K, (kT K).1 = 0 → (kT K).2 < 14 := by
      intro K hK
      rcases Nat.lt_or_ge K 101 with c | c
      · exact (show ∀ K, K < 101 → (kT K).1 = 0 → (kT K).2 < 14 by decide +kernel) K c hK
      · have : kT K = (99, 0) := by
          unfold kT List.getD
          rw [List.getElem?_eq_none (Nat.le_trans (by decide) c)]
          rfl
        rw [this] at hK; cases hK
    have g6 : (kT K).2 = 98 := g6
    have := hN K hk
    omega
  · have hq : vwCl[(kT K).2]? = some q := hq
    exact va_castS C.1 C.2.1 C.2.2.2.1 (C.2.2.2.2.1 _ g6) (hK.1 _ _ hq).2 (va_recv hK hP hq g1) hd (kk H locs cells slots ls _ ad bk ws tys lv hH0 hS hle hl hlr hll ⟨⟨a, ha, rfl⟩, hs1⟩ h1 h2)
theorem rl_cast0 {k : Nat} (C : Cx mid d G A p R s m args meth c) (hd : decode (mcode mid) pc = .ok (.checkcast k, 3)) (kk : Rl D G A mid p lc e R s m args below meth c Z ad0 b0 (pc + 3) l (vr none :: r) σ) : Rl D G A mid p lc e R s m args below meth c Z ad0 b0 pc l (vr none :: r) σ := by
  intro H locs cells slots ls cst ad bk ws tys lv hH hS hle hl hlr hll hst h1 h2
  obtain ⟨w1, c1, rfl, e1, hs1⟩ := hst.cons
  cases e1
  exact lv_castN C.1 C.2.1 hd (kk H locs cells slots ls _ ad bk ws tys lv hH hS hle hl hlr hll ⟨rfl, hs1⟩ h1 h2)
theorem rl_newO {k K ci : Nat} (C : Cx mid d G A p R s m args meth c) (hd : decode (mcode mid) pc = .ok (.new k, 3)) (hf : clsP (mcl mid) k = some ci) (h98 : ci ≠ 98) (hk : kT K = (0, ci)) (hB : (gB (am_mk σ K 0 (am_nf ci))).1 ≤ R.cells + b0.1 ∧ (gB (am_mk σ K 0 (am_nf ci))).2 ≤ R.slots + b0.2)
    (kk : Rl D G A mid p lc e R s m args below meth c Z ad0 b0 (pc + 3) l (vr (some (K, gC σ K)) :: st) (am_mk σ K 0 (am_nf ci))) : Rl D G A mid p lc e R s m args below meth c Z ad0 b0 pc l st σ := by
  intro H locs cells slots ls cst ad bk ws tys lv hH hS hle hl hlr hll hst h1 h2
  have hH0 := hH
  obtain ⟨hP, hK, hD, h4, h5, _⟩ := hH
  rcases ok_cls hf with ⟨g6, -⟩ | ⟨q, hq, g6, g7, g8⟩
  · exact absurd g6 h98
  obtain ⟨q', hq', hin, hpd, hnm, hnf, hfin, hcn, hdc⟩ := okVs hq
  have hq : vwCl[ci]? = some q := hq
  rw [hq] at hq'
  cases hq'
  obtain ⟨Cn, T, N⟩ := q
  have hnf : am_nf ci = N := hnf
  have hci : ci < 14 := (List.getElem?_eq_some_iff.mp hq).1
  rw [gB_am_mk, hnf] at hB
  have hk1 : (kT K).1 = 0 := by rw [hk]
  have hK3 := kT_low (K := K) (by rw [hk]; exact Nat.zero_le 5)
  refine va_new (fs := (List.range N).map (fun j => defaultValue ((vwTy.getD ci tyX0) j))) C.1 C.2.1 C.2.2.2.2.1 hin ((vwTy.getD ci tyX0)) hpd C.2.2.2.1 (C.2.2.2.2.1 _ g6) (C.2.2.2.2.1 _ g7) (C.2.2.2.2.1 _ g8) hK hP hD hS C.2.2.2.2.2.2.2.2.2.2.2.1 hq (fun j hj => by simp [vp_V, List.getD, hj]) (by have : (gB σ).1 + 1 ≤ R.cells + b0.1 := hB.1; omega) (by have : (gB σ).2 + N ≤ R.slots + b0.2 := hB.2; show slots + N ≤ R.slots; omega) hd (fun q H1 hP1 hD1 hS1 => ?_)
  obtain ⟨hH1, hle1⟩ := hH0.push (σ' := am_mk σ K 0 (am_nf ci)) (K := K) (by omega) (fun _ _ h => h) hK (fun a => gC_am_mk) mk_agr
    (fun _ => ⟨fun _ => ⟨_, by rw [hk], by rw [hk]; simp [hnf], fun j hj => by
      rw [hk] at hj ⊢
      have hj : j < am_nf ci := hj
      refine ⟨defaultValue ((vwTy.getD ci tyX0) j), by rw [hnf] at hj; simp [hj], ?_⟩
      rw [fv_mk]
      exact dfv (dfs ci hci j hj)⟩, fun h => absurd (hk1.symm.trans h) (by decide), fun h => absurd (hk1.symm.trans h) (by decide), fun h => absurd (hk1.symm.trans h) (by decide), fun h => absurd (hk1.symm.trans h) (by decide)⟩)
    (fun h => absurd (hk1.symm.trans h) (by decide)) hP1 hD1
  refine kk H1 locs (cells + 1) (slots + N) ls _ _ bk _ tys lv hH1 hS1 (hle.trans hle1) hl (hlr.mono hle1) hll ⟨⟨q, by unfold ad_n; rw [if_pos ⟨rfl, rfl⟩], rfl⟩, hst.mono hle1⟩ ?_ ?_
  · rw [gB_am_mk]; show cells + 1 + b0.1 ≤ (gB σ).1 + 1; omega
  · rw [gB_am_mk, hnf]; show slots + N + b0.2 ≤ (gB σ).2 + N; omega
theorem rl_newa {K : Nat} {n : Int32} {t : ArrayType} (C : Cx mid d G A p R s m args meth c) (hd : decode (mcode mid) pc = .ok (.newarray t, 2)) (hn : ¬ n < 0) (h8 : n.toNatClampNeg ≤ 8000000) (hk : kT K = (1, 0) ∧ t = .int ∨ kT K = (2, 0) ∧ t = .long ∨ kT K = (3, 0) ∧ t = .byte ∨ kT K = (4, 0) ∧ t = .boolean) (hB : (gB (am_mk σ K n.toNatClampNeg n.toNatClampNeg)).1 ≤ R.cells + b0.1 ∧ (gB (am_mk σ K n.toNatClampNeg n.toNatClampNeg)).2 ≤ R.slots + b0.2)
    (kk : Rl D G A mid p lc e R s m args below meth c Z ad0 b0 (pc + 2) l (vr (some (K, gC σ K)) :: r) (am_mk σ K n.toNatClampNeg n.toNatClampNeg)) : Rl D G A mid p lc e R s m args below meth c Z ad0 b0 pc l (vi n :: r) σ := by
  intro H locs cells slots ls cst ad bk ws tys lv hH hS hle hl hlr hll hst h1 h2
  obtain ⟨w1, c1, rfl, e1, hs1⟩ := hst.cons
  cases e1
  have hH0 := hH
  obtain ⟨hP, hK, hD, h4, h5, _⟩ := hH
  rw [gB_am_mk] at hB
  have hB1 : (gB σ).1 + 1 ≤ R.cells + b0.1 := hB.1
  have hB2 : (gB σ).2 + n.toNatClampNeg ≤ R.slots + b0.2 := hB.2
  have fin : ∀ (q : Nat) (cA : ClassId) (H1 : Heap) (ty : FieldType) (a0 : vp_A), va_K D vwCl (tys ++ [(cA, ty)]) s → va_P D vwCl (ws ++ [(q, .inl (cA, a0))]) H1 → va_D A (ws ++ [(q, .inl (cA, a0))]) → va_S A s.heap H1 locs → 3 ≤ K → (kT K).1 ≤ 4 → (∀ ad', erel ad' (am_mk σ K n.toNatClampNeg n.toNatClampNeg) K (gC σ K) (tys ++ [(cA, ty)]) (.inl (cA, a0))) → W p lc e R s m args below meth c H1 locs (cells + 1) (slots + n.toNatClampNeg) Z (F0 m (pc + 2) ls (.ref q :: c1)) := by
    intro q cA H1 ty a0 hK1 hP1 hD1 hS1 hK3 hk4 her
    obtain ⟨hH1, hle1⟩ := hH0.push (σ' := am_mk σ K n.toNatClampNeg n.toNatClampNeg) (K := K) (by omega) (fun t0 x hx => by rw [List.getElem?_append_left (List.getElem?_eq_some_iff.mp hx).1]; exact hx) hK1 (fun a => gC_am_mk) mk_agr (fun _ => her _) (fun h => by omega) hP1 hD1
    refine kk H1 locs (cells + 1) (slots + n.toNatClampNeg) ls _ _ bk _ _ lv hH1 hS1 (hle.trans hle1) hl (hlr.mono hle1) hll ⟨⟨q, by unfold ad_n; rw [if_pos ⟨rfl, rfl⟩], rfl⟩, hs1.mono hle1⟩ ?_ ?_
    · rw [gB_am_mk]; show cells + 1 + b0.1 ≤ (gB σ).1 + 1; omega
    · rw [gB_am_mk]; show slots + _ + b0.2 ≤ (gB σ).2 + n.toNatClampNeg; omega
  have hNN : gN (am_mk σ K n.toNatClampNeg n.toNatClampNeg) K (gC σ K) = n.toNatClampNeg := by rw [gN_am_mk, if_pos ⟨rfl, rfl⟩]
  have hII : gI (am_mk σ K n.toNatClampNeg n.toNatClampNeg) K (gC σ K) = fun _ => 0 := by funext j; rw [gI_am_mk, if_pos ⟨rfl, rfl⟩]
  have hLL : gL (am_mk σ K n.toNatClampNeg n.toNatClampNeg) K (gC σ K) = fun _ => 0 := by funext j; rw [gL_am_mk, if_pos ⟨rfl, rfl⟩]
  obtain ⟨o1, o2, o3, o4⟩ := ok_arr
  rcases hk with ⟨hk, rfl⟩ | ⟨hk, rfl⟩ | ⟨hk, rfl⟩ | ⟨hk, rfl⟩
  · have hk1 := congrArg Prod.fst hk
    refine va_newa (atype := .int) (ty := .int) (a0 := (n.toNatClampNeg, .inl fun _ => 0)) C.1 C.2.1 (C.2.2.2.2.1 _ o1) rfl hK hP hD hS C.2.2.2.2.2.2.2.2.2.2.2.1 (fun _ => rfl) hn rfl (by show _ * 4 ≤ _; omega) (by omega) (by omega) hd (fun q cA H1 hK1 hP1 hD1 hS1 => fin q cA H1 _ _ hK1 hP1 hD1 hS1 (kT_low (by rw [hk]; decide)) (by rw [hk]; decide) (fun ad' => ⟨fun h => absurd (hk1.symm.trans h) (by decide), fun _ => ⟨cA, tys.length, by simp, by rw [hNN, hII]⟩, fun h => absurd (hk1.symm.trans h) (by decide), fun h => absurd (hk1.symm.trans h) (by decide), fun h => absurd (hk1.symm.trans h) (by decide)⟩))
  · have hk1 := congrArg Prod.fst hk
    refine va_newa (atype := .long) (ty := .long) (a0 := (n.toNatClampNeg, .inr (.inl fun _ => 0))) C.1 C.2.1 (C.2.2.2.2.1 _ o2) rfl hK hP hD hS C.2.2.2.2.2.2.2.2.2.2.2.1 (fun _ => rfl) hn rfl (by show _ * 8 ≤ _; omega) (by omega) (by omega) hd (fun q cA H1 hK1 hP1 hD1 hS1 => fin q cA H1 _ _ hK1 hP1 hD1 hS1 (kT_low (by rw [hk]; decide)) (by rw [hk]; decide) (fun ad' => ⟨fun h => absurd (hk1.symm.trans h) (by decide), fun h => absurd (hk1.symm.trans h) (by decide), fun _ => ⟨cA, tys.length, by simp, by rw [hNN, hLL]⟩, fun h => absurd (hk1.symm.trans h) (by decide), fun h => absurd (hk1.symm.trans h) (by decide)⟩))
  · have hk1 := congrArg Prod.fst hk
    refine va_newa (atype := .byte) (ty := .byte) (a0 := (n.toNatClampNeg, .inl fun _ => 0)) C.1 C.2.1 (C.2.2.2.2.1 _ o3) rfl hK hP hD hS C.2.2.2.2.2.2.2.2.2.2.2.1 (fun _ => rfl) hn rfl (by show _ * 1 ≤ _; omega) (by omega) (by omega) hd (fun q cA H1 hK1 hP1 hD1 hS1 => fin q cA H1 _ _ hK1 hP1 hD1 hS1 (kT_low (by rw [hk]; decide)) (by rw [hk]; decide) (fun ad' => ⟨fun h => absurd (hk1.symm.trans h) (by decide), fun h => absurd (hk1.symm.trans h) (by decide), fun h => absurd (hk1.symm.trans h) (by decide), fun _ => ⟨cA, tys.length, by simp, by rw [hNN, hII]⟩, fun h => absurd (hk1.symm.trans h) (by decide)⟩))
  · have hk1 := congrArg Prod.fst hk
    refine va_newa (atype := .boolean) (ty := .boolean) (a0 := (n.toNatClampNeg, .inl fun _ => 0)) C.1 C.2.1 (C.2.2.2.2.1 _ o4) rfl hK hP hD hS C.2.2.2.2.2.2.2.2.2.2.2.1 (fun _ => rfl) hn rfl (by show _ * 1 ≤ _; omega) (by omega) (by omega) hd (fun q cA H1 hK1 hP1 hD1 hS1 => fin q cA H1 _ _ hK1 hP1 hD1 hS1 (kT_low (by rw [hk]; decide)) (by rw [hk]; decide) (fun ad' => ⟨fun h => absurd (hk1.symm.trans h) (by decide), fun h => absurd (hk1.symm.trans h) (by decide), fun h => absurd (hk1.symm.trans h) (by decide), fun h => absurd (hk1.symm.trans h) (by decide), fun _ => ⟨cA, tys.length, by simp, by rw [hNN, hII]⟩⟩))
theorem rl_obj {k cm K i : Nat} (C : Cx mid d G A p R s m args meth c) (hd : decode (mcode mid) pc = .ok (.invokespecial k, 3)) (hf : cal (mcl mid) k = some (40, cm)) (hr : r.length ≤ 4) (kk : Rl D G A mid p lc e R s m args below meth c Z ad0 b0 (pc + 3) l r σ) : Rl D G A mid p lc e R s m args below meth c Z ad0 b0 pc l (vr (some (K, i)) :: r) σ := by
  intro H locs cells slots ls cst ad bk ws tys lv hH hS hle hl hlr hll hst h1 h2
  obtain ⟨a, c1, rfl, ha, hs1⟩ := hst.ref
  have hw : (c1.map fun v => v.category).sum ≤ 8 := by
    have := hs1.weigh
    omega
  have hC := C
  obtain ⟨hx, hb, hml, hown, hts, _, _, _, hfr, hlo, _⟩ := hC
  exact W.objInit hx hb hown (hts _ ((ok_cal hf).2.2.2.2.2.2 rfl)) (hts _ ok_obj.1) (hts _ ok_obj.2) (g := F0 m pc ls (.ref a :: c1)) rfl (by rw [hml]; exact hl.1) rfl hd (by omega) (by show 2 * 0 + _ + 12 ≤ _; omega) (kk H locs cells slots ls _ ad bk ws tys lv hH hS hle hl hlr hll hs1 h1 h2)
end SIMN
