theorem fv_t {σ : aM} {K i f t : Nat} {ty : FieldType} (h : tyk t ty = true) : am_fv σ K i f t = am_fv σ K i f (ftg ty) := by
  unfold tyk at h
  split at h <;> first | rfl | cases h
section SIMH
variable {D : va_G} {G : xG} {A : Nat → Prop} {mid d : Nat} {p : Program} {lc : Launch} {e : Env} {R : Room} {s : State} {m : MethodId} {args : Array Value} {below : List Frame} {meth : Method} {c : Code} {Z : State → Prop} {ad0 : sA} {b0 : Nat × Nat} {pc : Nat} {l : aL} {st r : List aV} {σ : aM}
theorem rl_getf {k ci f t K i : Nat} (C : Cx mid d G A p R s m args meth c) (hd : decode (mcode mid) pc = .ok (.getfield k, 3)) (hf : fld (mcl mid) k = some (ci, f, t)) (hk : kT K = (0, ci)) (kk : Rl D G A mid p lc e R s m args below meth c Z ad0 b0 (pc + 3) l (am_fv σ K i f t :: r) σ) : Rl D G A mid p lc e R s m args below meth c Z ad0 b0 pc l (vr (some (K, i)) :: r) σ := by
  intro H locs cells slots ls cst ad bk ws tys lv hH hS hle hl hlr hll hst h1 h2
  obtain ⟨a, c1, rfl, ha, hs1⟩ := hst.ref
  have hH0 := hH
  obtain ⟨hP, hK, hD, h4, h5, _⟩ := hH
  obtain ⟨q0, e0, g1, g2⟩ := h5 _ _ _ ha (by rw [hk]; exact Nat.zero_le 4)
  obtain ⟨fs, rfl, g4, g5⟩ := g2.1 (by rw [hk])
  obtain ⟨q, hq, hfN, hlink, hty⟩ := ok_fld hf
  obtain ⟨q', hq', hin, hpd, hnm, hnf, hfin, hcn, hdc⟩ := okVs hq
  have hq : vwCl[ci]? = some q := hq
  rw [hq] at hq'
  cases hq'
  obtain ⟨Cn, T, N⟩ := q
  rw [hk] at g1 g4 g5
  have hfN : f < N := hfN
  obtain ⟨w, w1, w2⟩ := g5 f (by show f < am_nf ci; rw [hnf]; exact hfN)
  exact va_get C.1 C.2.1 C.2.2.2.2.1 hin C.2.2.2.1 hK hP q0 g1 hq f hfN (C.2.2.2.2.1 _ hlink) (fun _ h => h) w1 hd (kk H locs cells slots ls _ ad bk ws tys lv hH0 hS hle hl hlr hll ⟨by rw [fv_t hty]; exact w2, hs1⟩ h1 h2)
theorem fv_sI {σ : aM} {K i f j u : Nat} {x : Int32} : am_fv (sI σ K i f x) K i j u = if j = f ∧ u ≠ 1 ∧ u ≠ 2 then vi x else am_fv σ K i j u := by
  unfold am_fv
  by_cases c1 : u = 1
  · simp [c1, gL, sI]
  · by_cases c2 : u = 2
    · simp [c2, gR, sI]
    · by_cases c : j = f <;> simp [c1, c2, c, gI, sI, am_u3]
theorem fv_sL {σ : aM} {K i f j u : Nat} {x : Int64} : am_fv (sL σ K i f x) K i j u = if j = f ∧ u = 1 then vl x else am_fv σ K i j u := by
  unfold am_fv
  by_cases c1 : u = 1
  · by_cases c : j = f <;> simp [c1, c, gL, sL, am_u3]
  · by_cases c2 : u = 2 <;> simp [c1, c2, gR, gI, sL]
theorem fv_sR {σ : aM} {K i f j u : Nat} {x : Option (Nat × Nat)} : am_fv (sR σ K i f x) K i j u = if j = f ∧ u = 2 then vr x else am_fv σ K i j u := by
  unfold am_fv
  by_cases c1 : u = 1
  · simp [c1, gL, sR]
  · by_cases c2 : u = 2
    · by_cases c : j = f <;> simp [c2, c, gR, sR, am_u3]
    · simp [c1, c2, gI, sR]
theorem agr_I {σ : aM} {K i f : Nat} {x : Int32} : agr σ (sI σ K i f x) K i := ⟨fun _ => rfl, fun a b h => ⟨by funext j; show am_u3 σ.1 K i f x a b j = _; unfold am_u3; rw [if_neg (fun g => h ⟨g.1, g.2.1⟩)]; rfl, rfl, rfl, rfl⟩⟩
theorem agr_L {σ : aM} {K i f : Nat} {x : Int64} : agr σ (sL σ K i f x) K i := ⟨fun _ => rfl, fun a b h => ⟨rfl, by funext j; show am_u3 σ.2.1 K i f x a b j = _; unfold am_u3; rw [if_neg (fun g => h ⟨g.1, g.2.1⟩)]; rfl, rfl, rfl⟩⟩
theorem agr_R {σ : aM} {K i f : Nat} {x : Option (Nat × Nat)} : agr σ (sR σ K i f x) K i := ⟨fun _ => rfl, fun a b h => ⟨rfl, rfl, by funext j; show am_u3 σ.2.2.1 K i f x a b j = _; unfold am_u3; rw [if_neg (fun g => h ⟨g.1, g.2.1⟩)]; rfl, rfl⟩⟩
theorem fin0 : ∀ f, f < 3 → finS 0 f = false := by decide +kernel
theorem rl_put {k ci f t K i : Nat} {v : aV} {σ' : aM} (C : Cx mid d G A p R s m args meth c) (hd : decode (mcode mid) pc = .ok (.putfield k, 3)) (hf : fld (mcl mid) k = some (ci, f, t)) (hk : kT K = (0, ci)) (hF : finS ci f = true → am_isi mid = true ∧ mcl mid = ci) (hag : agr σ σ' K i) (hB : gB σ' = gB σ)
    (hfv : ∀ j, am_fv σ' K i j (ftg ((vwTy.getD ci tyX0) j)) = if j = f then v else am_fv σ K i j (ftg ((vwTy.getD ci tyX0) j))) (hvt : ∀ (ad : sA) (w : Value), vrel ad v w → narrow ((vwTy.getD ci tyX0) f) w = w ∧ fits ((vwTy.getD ci tyX0) f) w = true)
    (kk : Rl D G A mid p lc e R s m args below meth c Z ad0 b0 (pc + 3) l r σ') : Rl D G A mid p lc e R s m args below meth c Z ad0 b0 pc l (v :: vr (some (K, i)) :: r) σ := by
  intro H locs cells slots ls cst ad bk ws tys lv hH hS hle hl hlr hll hst h1 h2
  obtain ⟨w0, c0, rfl, hv, hs0⟩ := hst.cons
  obtain ⟨a, c1, rfl, ha, hs1⟩ := hs0.ref
  have hH0 := hH
  obtain ⟨hP, hK, hD, h4, h5, _⟩ := hH
  obtain ⟨q0, e0, g1, g2⟩ := h5 _ _ _ ha (by rw [hk]; exact Nat.zero_le 4)
  obtain ⟨fs, rfl, g4, g5⟩ := g2.1 (by rw [hk])
  obtain ⟨q, hq, hfN, hlink, hty⟩ := ok_fld hf
  obtain ⟨q', hq', hin, hpd, hnm, hnf, hfin, hcn, hdc⟩ := okVs hq
  have hq : vwCl[ci]? = some q := hq
  rw [hq] at hq'
  cases hq'
  obtain ⟨Cn, T, N⟩ := q
  rw [hk] at g1 g4 g5
  have hk1 : (kT K).1 = 0 := by rw [hk]
  have hfin : ∀ k, finS ci k = (T k).2.2.2 := hfin
  have hfN : f < N := hfN
  have g4 : fs.length = am_nf ci := g4
  have hnf : am_nf ci = N := hnf
  have hfl : f < fs.length := by omega
  have hout : ∀ (H1 : Heap) (locs1 : List Loc), va_P D vwCl (ws.set q0 (a, .inr (ci, fs.set f w0))) H1 → va_D A (ws.set q0 (a, .inr (ci, fs.set f w0))) → va_S A s.heap H1 locs1 → W p lc e R s m args below meth c H1 locs1 cells slots Z (F0 m (pc + 3) ls c1) := by
    intro H1 locs1 hP1 hD1 hS1
    have hH1 : HR D G A s σ' ad bk (ws.set q0 (a, .inr (ci, fs.set f w0))) tys H1 := by
      refine hH0.upd (by rw [hk]; exact Nat.zero_le 4) ha g1 hag ⟨fun _ => ⟨fs.set f w0, by rw [hk], by rw [List.length_set, hk]; exact g4, fun j hj => ?_⟩, fun h => absurd (hk1.symm.trans h) (by decide), fun h => absurd (hk1.symm.trans h) (by decide), fun h => absurd (hk1.symm.trans h) (by decide), fun h => absurd (hk1.symm.trans h) (by decide)⟩ hP1 hD1
      rw [hk]
      have e9 := hfv j
      show ∃ w, _ ∧ vrel ad (am_fv σ' K i j (ftg ((vwTy.getD ci tyX0) j))) w
      rw [e9]
      by_cases cj : j = f
      · subst cj
        rw [if_pos rfl]
        exact ⟨w0, List.getElem?_set_self hfl, hv⟩
      · rw [if_neg cj]
        obtain ⟨w, u1, u2⟩ := g5 j (by rw [hk] at hj; exact hj)
        exact ⟨w, by rw [List.getElem?_set_ne (Ne.symm cj)]; exact u1, u2⟩
    exact kk H1 locs1 cells slots ls c1 ad bk _ tys lv hH1 hS1 hle hl hlr hll hs1 (by rw [hB]; exact h1) (by rw [hB]; exact h2)
  by_cases hz : (T f).2.2.2 = true
  · obtain ⟨y1, y2⟩ := hF ((hfin f).trans hz)
    refine va_putF C.1 C.2.1 C.2.2.2.2.1 hin ((vwTy.getD ci tyX0)) hpd hnm C.2.2.2.1 hK hP hD hS q0 g1 hq f hfN (C.2.2.2.2.1 _ hlink) (fun _ h => h) hz (C.2.2.2.2.2.2.2.1 y1) ?_ (hpd f hfN) (hvt ad w0 hv).1 (hvt ad w0 hv).2 hfl hd hout
    rw [y2, hcn]
    rcases hdc f hfN with h | h
    · exact h
    · subst h
      cases hq
      exact absurd (((fin0 f hfN).symm.trans (hfin f)).trans hz) (by decide)
  · refine va_put C.1 C.2.1 C.2.2.2.2.1 hin ((vwTy.getD ci tyX0)) hpd hnm C.2.2.2.1 hK hP hD hS q0 g1 hq f hfN (C.2.2.2.2.1 _ hlink) (fun _ h => h) (Bool.eq_false_iff.mpr hz) (hpd f hfN) (hvt ad w0 hv).1 (hvt ad w0 hv).2 hfl hd hout
theorem rl_putI {k ci f t K i : Nat} {x : Int32} (C : Cx mid d G A p R s m args meth c) (hd : decode (mcode mid) pc = .ok (.putfield k, 3)) (hf : fld (mcl mid) k = some (ci, f, t)) (hk : kT K = (0, ci)) (hF : finS ci f = true → am_isi mid = true ∧ mcl mid = ci) (ht : t = 0 ∨ (t = 3 ∧ (x = 0 ∨ x = 1)))
    (kk : Rl D G A mid p lc e R s m args below meth c Z ad0 b0 (pc + 3) l r (sI σ K i f x)) : Rl D G A mid p lc e R s m args below meth c Z ad0 b0 pc l (vi x :: vr (some (K, i)) :: r) σ := by
  obtain ⟨q, hq, hfN, hlink, hty⟩ := ok_fld hf
  have hty : tyk t ((vwTy.getD ci tyX0) f) = true := hty
  refine rl_put C hd hf hk hF agr_I rfl (fun j => ?_) (fun ad w hw => ?_) kk
  · rw [fv_sI]
    by_cases cj : j = f
    · subst cj
      have : ftg ((vwTy.getD ci tyX0) j) ≠ 1 ∧ ftg ((vwTy.getD ci tyX0) j) ≠ 2 := by
        generalize (vwTy.getD ci tyX0) j = ty at hty
        rcases ht with rfl | ⟨rfl, -⟩ <;> (unfold tyk at hty; split at hty <;> first | exact ⟨by decide, by decide⟩ | contradiction)
      rw [if_pos ⟨rfl, this⟩, if_pos rfl]
    · rw [if_neg (fun h => cj h.1), if_neg cj]
  · cases hw
    generalize (vwTy.getD ci tyX0) f = ty at hty
    rcases ht with rfl | ⟨rfl, hx⟩
    · unfold tyk at hty
      split at hty <;> first | exact ⟨rfl, rfl⟩ | contradiction
    · unfold tyk at hty
      split at hty <;> first | contradiction | (rcases hx with rfl | rfl <;> exact ⟨by decide, by decide⟩)
theorem rl_putL {k ci f K i : Nat} {x : Int64} (C : Cx mid d G A p R s m args meth c) (hd : decode (mcode mid) pc = .ok (.putfield k, 3)) (hf : fld (mcl mid) k = some (ci, f, 1)) (hk : kT K = (0, ci)) (hF : finS ci f = true → am_isi mid = true ∧ mcl mid = ci)
    (kk : Rl D G A mid p lc e R s m args below meth c Z ad0 b0 (pc + 3) l r (sL σ K i f x)) : Rl D G A mid p lc e R s m args below meth c Z ad0 b0 pc l (vl x :: vr (some (K, i)) :: r) σ := by
  obtain ⟨q, hq, hfN, hlink, hty⟩ := ok_fld hf
  have hty : tyk 1 ((vwTy.getD ci tyX0) f) = true := hty
  refine rl_put C hd hf hk hF agr_L rfl (fun j => ?_) (fun ad w hw => ?_) kk
  · rw [fv_sL]
    by_cases cj : j = f
    · subst cj
      have : ftg ((vwTy.getD ci tyX0) j) = 1 := by
        generalize (vwTy.getD ci tyX0) j = ty at hty
        unfold tyk at hty; split at hty <;> first | rfl | contradiction
      rw [if_pos ⟨rfl, this⟩, if_pos rfl]
    · rw [if_neg (fun h => cj h.1), if_neg cj]
  · cases hw
    generalize (vwTy.getD ci tyX0) f = ty at hty
    unfold tyk at hty
    split at hty <;> first | exact ⟨rfl, rfl⟩ | contradiction
theorem rl_putR {k ci f K i : Nat} {x : Option (Nat × Nat)} (C : Cx mid d G A p R s m args meth c) (hd : decode (mcode mid) pc = .ok (.putfield k, 3)) (hf : fld (mcl mid) k = some (ci, f, 2)) (hk : kT K = (0, ci)) (hF : finS ci f = true → am_isi mid = true ∧ mcl mid = ci)
    (kk : Rl D G A mid p lc e R s m args below meth c Z ad0 b0 (pc + 3) l r (sR σ K i f x)) : Rl D G A mid p lc e R s m args below meth c Z ad0 b0 pc l (vr x :: vr (some (K, i)) :: r) σ := by
  obtain ⟨q, hq, hfN, hlink, hty⟩ := ok_fld hf
  have hty : tyk 2 ((vwTy.getD ci tyX0) f) = true := hty
  refine rl_put C hd hf hk hF agr_R rfl (fun j => ?_) (fun ad w hw => ?_) kk
  · rw [fv_sR]
    by_cases cj : j = f
    · subst cj
      have : ftg ((vwTy.getD ci tyX0) j) = 2 := by
        generalize (vwTy.getD ci tyX0) j = ty at hty
        unfold tyk at hty; split at hty <;> first | rfl | contradiction
      rw [if_pos ⟨rfl, this⟩, if_pos rfl]
    · rw [if_neg (fun h => cj h.1), if_neg cj]
  · have hw2 : w = .null ∨ ∃ a, w = .ref a := by
      cases x with
      | none => exact Or.inl hw
      | some x => obtain ⟨a, -, h⟩ := hw; exact Or.inr ⟨a, h⟩
    generalize (vwTy.getD ci tyX0) f = ty at hty
    unfold tyk at hty
    rcases hw2 with rfl | ⟨a, rfl⟩ <;> (split at hty <;> first | exact ⟨rfl, rfl⟩ | contradiction)
theorem vin {j : Int32} {n : Nat} (h : am_in j n) : vp_in j n := fun g => g.elim (fun g => Int32.not_lt.mpr h.1 g) (fun g => by have := h.2; omega)
theorem rl_iald {K i : Nat} {j : Int32} (C : Cx mid d G A p R s m args meth c) (hd : decode (mcode mid) pc = .ok (.iaload, 1)) (hc : ((kT K).1 = 1 ∧ i < gC σ K) ∨ (K = 0 ∧ i = 0)) (hin : am_in j (gN σ K i)) (kk : Rl D G A mid p lc e R s m args below meth c Z ad0 b0 (pc + 1) l (vi (gI σ K i j.toNatClampNeg) :: r) σ) : Rl D G A mid p lc e R s m args below meth c Z ad0 b0 pc l (vi j :: vr (some (K, i)) :: r) σ := by
  intro H locs cells slots ls cst ad bk ws tys lv hH hS hle hl hlr hll hst h1 h2
  obtain ⟨w0, c0, rfl, hv, hs0⟩ := hst.cons
  obtain ⟨a, c1, rfl, ha, hs1⟩ := hs0.ref
  cases hv
  have hH0 := hH
  obtain ⟨hP, hK, hD, h4, h5, h6, h7, h8, h9, h10, h11, h12⟩ := hH
  rcases hc with ⟨hk, -⟩ | ⟨rfl, rfl⟩
  · obtain ⟨q0, e0, g1, g2⟩ := h5 _ _ _ ha (by rw [hk]; decide)
    obtain ⟨cA, t0, g3, rfl⟩ := g2.2.1 hk
    exact va_iald C.1 C.2.1 hK hP q0 t0 g1 g3 (vin hin) hd (kk H locs cells slots ls _ ad bk ws tys lv hH0 hS hle hl hlr hll ⟨rfl, hs1⟩ h1 h2)
  · rw [h11.1] at ha
    cases ha
    obtain ⟨hX, hbl, hbA⟩ := C.2.2.2.2.2.2.2.2.2.2.1.1
    refine va_sld C.1 C.2.1 hX hbl hbA hS (by rw [← h11.2.1]; exact vin hin) hd (kk H locs cells slots ls _ ad bk ws tys lv hH0 hS hle hl hlr hll ⟨?_, hs1⟩ h1 h2)
    show _ = Value.int _
    rw [h11.2.2 _ (by rw [← h11.2.1]; exact hin.2)]
theorem rl_bald {K i : Nat} {j : Int32} (C : Cx mid d G A p R s m args meth c) (hd : decode (mcode mid) pc = .ok (.baload, 1)) (hc : (kT K).1 = 3 ∨ (kT K).1 = 4) (hin : am_in j (gN σ K i)) (kk : Rl D G A mid p lc e R s m args below meth c Z ad0 b0 (pc + 1) l (vi (gI σ K i j.toNatClampNeg) :: r) σ) : Rl D G A mid p lc e R s m args below meth c Z ad0 b0 pc l (vi j :: vr (some (K, i)) :: r) σ := by
  intro H locs cells slots ls cst ad bk ws tys lv hH hS hle hl hlr hll hst h1 h2
  obtain ⟨w0, c0, rfl, hv, hs0⟩ := hst.cons
  obtain ⟨a, c1, rfl, ha, hs1⟩ := hs0.ref
  cases hv
  have hH0 := hH
  obtain ⟨hP, hK, hD, h4, h5, h6, h7, h8, h9, h10, h11, h12⟩ := hH
  obtain ⟨q0, e0, g1, g2⟩ := h5 _ _ _ ha (by omega)
  rcases hc with hk | hk
  · obtain ⟨cA, t0, g3, rfl⟩ := g2.2.2.2.1 hk
    exact va_bald C.1 C.2.1 hK hP q0 t0 g1 g3 (vin hin) hd (kk H locs cells slots ls _ ad bk ws tys lv hH0 hS hle hl hlr hll ⟨rfl, hs1⟩ h1 h2)
  · obtain ⟨cA, t0, g3, rfl⟩ := g2.2.2.2.2 hk
    exact va_zald C.1 C.2.1 hK hP q0 t0 g1 g3 (vin hin) hd (kk H locs cells slots ls _ ad bk ws tys lv hH0 hS hle hl hlr hll ⟨rfl, hs1⟩ h1 h2)
theorem rl_lald {K i : Nat} {j : Int32} (C : Cx mid d G A p R s m args meth c) (hd : decode (mcode mid) pc = .ok (.laload, 1)) (hk : (kT K).1 = 2) (hin : am_in j (gN σ K i)) (kk : Rl D G A mid p lc e R s m args below meth c Z ad0 b0 (pc + 1) l (vl (gL σ K i j.toNatClampNeg) :: r) σ) : Rl D G A mid p lc e R s m args below meth c Z ad0 b0 pc l (vi j :: vr (some (K, i)) :: r) σ := by
  intro H locs cells slots ls cst ad bk ws tys lv hH hS hle hl hlr hll hst h1 h2
  obtain ⟨w0, c0, rfl, hv, hs0⟩ := hst.cons
  obtain ⟨a, c1, rfl, ha, hs1⟩ := hs0.ref
  cases hv
  have hH0 := hH
  obtain ⟨hP, hK, hD, h4, h5, h6, h7, h8, h9, h10, h11, h12⟩ := hH
  obtain ⟨q0, e0, g1, g2⟩ := h5 _ _ _ ha (by omega)
  obtain ⟨cA, t0, g3, rfl⟩ := g2.2.2.1 hk
  exact va_lald C.1 C.2.1 hK hP q0 t0 g1 g3 (vin hin) hd (kk H locs cells slots ls _ ad bk ws tys lv hH0 hS hle hl hlr hll ⟨rfl, hs1⟩ h1 h2)
theorem gI_up {σ : aM} {K i j : Nat} {x : Int32} : gI (sI σ K i j x) K i = upd (gI σ K i) j x := by
  funext c
  show (if K = K ∧ i = i ∧ c = j then x else gI σ K i c) = if c = j then x else gI σ K i c
  by_cases h : c = j <;> simp [h]
theorem gL_up {σ : aM} {K i j : Nat} {x : Int64} : gL (sL σ K i j x) K i = vp_updL (gL σ K i) j x := by
  funext c
  show (if K = K ∧ i = i ∧ c = j then x else gL σ K i c) = if c = j then x else gL σ K i c
  by_cases h : c = j <;> simp [h]
theorem rl_iast {K i : Nat} {j x : Int32} (C : Cx mid d G A p R s m args meth c) (hd : decode (mcode mid) pc = .ok (.iastore, 1)) (hk : (kT K).1 = 1) (hin : am_in j (gN σ K i)) (kk : Rl D G A mid p lc e R s m args below meth c Z ad0 b0 (pc + 1) l r (sI σ K i j.toNatClampNeg x)) : Rl D G A mid p lc e R s m args below meth c Z ad0 b0 pc l (vi x :: vi j :: vr (some (K, i)) :: r) σ := by
  intro H locs cells slots ls cst ad bk ws tys lv hH hS hle hl hlr hll hst h1 h2
  obtain ⟨wx, cx, rfl, hvx, hsx⟩ := hst.cons
  obtain ⟨w0, c0, rfl, hv, hs0⟩ := hsx.cons
  obtain ⟨a, c1, rfl, ha, hs1⟩ := hs0.ref
  cases hv; cases hvx
  have hH0 := hH
  obtain ⟨hP, hK, hD, h4, h5, h6, h7, h8, h9, h10, h11, h12⟩ := hH
  obtain ⟨q0, e0, g1, g2⟩ := h5 _ _ _ ha (by omega)
  obtain ⟨cA, t0, g3, rfl⟩ := g2.2.1 hk
  refine va_iast C.1 C.2.1 hK hP hD hS q0 t0 g1 g3 (vin hin) hd (fun H1 locs1 hP1 hD1 hS1 => ?_)
  have hH1 := hH0.upd (σ' := sI σ K i j.toNatClampNeg x) (by omega) ha g1 agr_I ⟨fun h => by omega, fun _ => ⟨cA, t0, g3, by rw [gI_up]; rfl⟩, fun h => by omega, fun h => by omega, fun h => by omega⟩ hP1 hD1
  exact kk H1 locs1 cells slots ls _ ad bk _ tys lv hH1 hS1 hle hl hlr hll hs1 h1 h2
theorem rl_bast {K i : Nat} {j x : Int32} (C : Cx mid d G A p R s m args meth c) (hd : decode (mcode mid) pc = .ok (.bastore, 1)) (hk : (kT K).1 = 3 ∨ ((kT K).1 = 4 ∧ (x = 0 ∨ x = 1))) (hin : am_in j (gN σ K i)) (kk : Rl D G A mid p lc e R s m args below meth c Z ad0 b0 (pc + 1) l r (sI σ K i j.toNatClampNeg (if (kT K).1 = 3 then x.toInt8.toInt32 else x))) : Rl D G A mid p lc e R s m args below meth c Z ad0 b0 pc l (vi x :: vi j :: vr (some (K, i)) :: r) σ := by
  intro H locs cells slots ls cst ad bk ws tys lv hH hS hle hl hlr hll hst h1 h2
  obtain ⟨wx, cx, rfl, hvx, hsx⟩ := hst.cons
  obtain ⟨w0, c0, rfl, hv, hs0⟩ := hsx.cons
  obtain ⟨a, c1, rfl, ha, hs1⟩ := hs0.ref
  cases hv; cases hvx
  have hH0 := hH
  obtain ⟨hP, hK, hD, h4, h5, h6, h7, h8, h9, h10, h11, h12⟩ := hH
  obtain ⟨q0, e0, g1, g2⟩ := h5 _ _ _ ha (by omega)
  rcases hk with hk | ⟨hk, hx⟩
  · obtain ⟨cA, t0, g3, rfl⟩ := g2.2.2.2.1 hk
    rw [if_pos hk] at kk
    refine va_bast C.1 C.2.1 hK hP hD hS q0 t0 g1 g3 (vin hin) hd (fun H1 locs1 hP1 hD1 hS1 => ?_)
    have hH1 := hH0.upd (σ' := sI σ K i j.toNatClampNeg x.toInt8.toInt32) (by omega) ha g1 agr_I ⟨fun h => by omega, fun h => by omega, fun h => by omega, fun _ => ⟨cA, t0, g3, by rw [gI_up, vp_nar_byte]; rfl⟩, fun h => by omega⟩ hP1 hD1
    exact kk H1 locs1 cells slots ls _ ad bk _ tys lv hH1 hS1 hle hl hlr hll hs1 h1 h2
  · obtain ⟨cA, t0, g3, rfl⟩ := g2.2.2.2.2 hk
    rw [if_neg (by omega)] at kk
    have ex : vp_nar .boolean x = x := by rcases hx with rfl | rfl <;> decide
    refine va_zast C.1 C.2.1 hK hP hD hS q0 t0 g1 g3 (vin hin) hd (fun H1 locs1 hP1 hD1 hS1 => ?_)
    have hH1 := hH0.upd (σ' := sI σ K i j.toNatClampNeg x) (by omega) ha g1 agr_I ⟨fun h => by omega, fun h => by omega, fun h => by omega, fun h => by omega, fun _ => ⟨cA, t0, g3, by rw [gI_up, ex]; rfl⟩⟩ hP1 hD1
    exact kk H1 locs1 cells slots ls _ ad bk _ tys lv hH1 hS1 hle hl hlr hll hs1 h1 h2
theorem rl_last {K i : Nat} {j : Int32} {x : Int64} (C : Cx mid d G A p R s m args meth c) (hd : decode (mcode mid) pc = .ok (.lastore, 1)) (hk : (kT K).1 = 2) (hin : am_in j (gN σ K i)) (kk : Rl D G A mid p lc e R s m args below meth c Z ad0 b0 (pc + 1) l r (sL σ K i j.toNatClampNeg x)) : Rl D G A mid p lc e R s m args below meth c Z ad0 b0 pc l (vl x :: vi j :: vr (some (K, i)) :: r) σ := by
  intro H locs cells slots ls cst ad bk ws tys lv hH hS hle hl hlr hll hst h1 h2
  obtain ⟨wx, cx, rfl, hvx, hsx⟩ := hst.cons
  obtain ⟨w0, c0, rfl, hv, hs0⟩ := hsx.cons
  obtain ⟨a, c1, rfl, ha, hs1⟩ := hs0.ref
  cases hv; cases hvx
  have hH0 := hH
  obtain ⟨hP, hK, hD, h4, h5, h6, h7, h8, h9, h10, h11, h12⟩ := hH
  obtain ⟨q0, e0, g1, g2⟩ := h5 _ _ _ ha (by omega)
  obtain ⟨cA, t0, g3, rfl⟩ := g2.2.2.1 hk
  refine va_last C.1 C.2.1 hK hP hD hS q0 t0 g1 g3 (vin hin) hd (fun H1 locs1 hP1 hD1 hS1 => ?_)
  have hH1 := hH0.upd (σ' := sL σ K i j.toNatClampNeg x) (by omega) ha g1 agr_L ⟨fun h => by omega, fun h => by omega, fun _ => ⟨cA, t0, g3, by rw [gL_up]; rfl⟩, fun h => by omega, fun h => by omega⟩ hP1 hD1
  exact kk H1 locs1 cells slots ls _ ad bk _ tys lv hH1 hS1 hle hl hlr hll hs1 h1 h2
theorem rl_alen {K i : Nat} (C : Cx mid d G A p R s m args meth c) (hd : decode (mcode mid) pc = .ok (.arraylength, 1)) (hc : (((kT K).1 = 1 ∨ (kT K).1 = 2 ∨ (kT K).1 = 3 ∨ (kT K).1 = 4) ∧ i < gC σ K) ∨ (K = 0 ∧ i = 0)) (kk : Rl D G A mid p lc e R s m args below meth c Z ad0 b0 (pc + 1) l (vi (nI (gN σ K i)) :: r) σ) : Rl D G A mid p lc e R s m args below meth c Z ad0 b0 pc l (vr (some (K, i)) :: r) σ := by
  intro H locs cells slots ls cst ad bk ws tys lv hH hS hle hl hlr hll hst h1 h2
  obtain ⟨a, c1, rfl, ha, hs1⟩ := hst.ref
  have hH0 := hH
  obtain ⟨hP, hK, hD, h4, h5, h6, h7, h8, h9, h10, h11, h12⟩ := hH
  rcases hc with ⟨hk, -⟩ | ⟨rfl, rfl⟩
  · obtain ⟨q0, e0, g1, g2⟩ := h5 _ _ _ ha (by omega)
    rcases hk with hk | hk | hk | hk
    · obtain ⟨cA, t0, g3, rfl⟩ := g2.2.1 hk
      exact va_alen C.1 C.2.1 hK hP q0 t0 g1 g3 rfl hd (kk H locs cells slots ls _ ad bk ws tys lv hH0 hS hle hl hlr hll ⟨rfl, hs1⟩ h1 h2)
    · obtain ⟨cA, t0, g3, rfl⟩ := g2.2.2.1 hk
      exact va_alen C.1 C.2.1 hK hP q0 t0 g1 g3 rfl hd (kk H locs cells slots ls _ ad bk ws tys lv hH0 hS hle hl hlr hll ⟨rfl, hs1⟩ h1 h2)
    · obtain ⟨cA, t0, g3, rfl⟩ := g2.2.2.2.1 hk
      exact va_alen C.1 C.2.1 hK hP q0 t0 g1 g3 rfl hd (kk H locs cells slots ls _ ad bk ws tys lv hH0 hS hle hl hlr hll ⟨rfl, hs1⟩ h1 h2)
    · obtain ⟨cA, t0, g3, rfl⟩ := g2.2.2.2.2 hk
      exact va_alen C.1 C.2.1 hK hP q0 t0 g1 g3 rfl hd (kk H locs cells slots ls _ ad bk ws tys lv hH0 hS hle hl hlr hll ⟨rfl, hs1⟩ h1 h2)
  · rw [h11.1] at ha
    cases ha
    obtain ⟨hX, hbl, hbA⟩ := C.2.2.2.2.2.2.2.2.2.2.1.1
    exact va_slen C.1 C.2.1 hX hbl hbA hS hd (kk H locs cells slots ls _ ad bk ws tys lv hH0 hS hle hl hlr hll ⟨by rw [h11.2.1]; rfl, hs1⟩ h1 h2)
end SIMH
