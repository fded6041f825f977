/-! PAIRS of runs: from one memory both sides end, and Post holds of what they leave together (the class's kinds of its end, the rest of the reference's) -/
def Pair (d1 m1 p1 : Nat) (l1 : aL) (st1 : List aV) (d2 m2 p2 : Nat) (l2 : aL) (st2 : List aV) (μ : aM) (Post : aR → aR → aM → Prop) : Prop := ∃ v w s1 s2, WP d1 m1 p1 l1 st1 μ (fun a b => a = v ∧ b = s1) ∧ WP d2 m2 p2 l2 st2 μ (fun a b => a = w ∧ b = s2) ∧ zkM zC s1 ∧ zkM zR s2 ∧ Post v w (mxC s1 s2)
section PAIR
variable {d1 m1 p1 p1' d2 m2 p2 p2' x1 x2 c1 c2 : Nat} {l1 l1' l2 l2' la1 la2 : aL} {st1 st1' st2 st2' r1 r2 : List aV} {μ c3 r3 : aM} {Post : aR → aR → aM → Prop}
/-- a run of the class to a given end, from the mixture to the class's own memory -/
theorem run_C {v : aR} {s1 : aM} (k1 : mC m1 = true) (hl : zkL zC l1) (hs : zkS zC st1) (zc : zkM zC c3) (h : WP d1 m1 p1 l1 st1 (mxC c3 r3) (fun a b => a = v ∧ b = s1)) : WP d1 m1 p1 l1 st1 c3 (fun a b => a = v ∧ b = mxC s1 c3) := by
  refine (teleC (σ := c3) k1 hl hs (zkM_C zc) (by rw [mxC_l, mxC_id]) h).mono ?_
  rintro r s ⟨s0, ⟨e1, e2⟩, e3, -, -⟩
  exact ⟨e1, by rw [e3, e2]⟩
theorem run_R {w : aR} {s2 : aM} (k2 : mR m2 = true) (hl : zkL zR l2) (hs : zkS zR st2) (zr : zkM zR r3) (h : WP d2 m2 p2 l2 st2 (mxC c3 r3) (fun a b => a = w ∧ b = s2)) : WP d2 m2 p2 l2 st2 r3 (fun a b => a = w ∧ b = mxC r3 s2) := by
  refine (teleR (σ := r3) k2 hl hs (zkM_R zr) (by rw [mxC_r, mxC_id]) h).mono ?_
  rintro r s ⟨s0, ⟨e1, e2⟩, e3, -, -⟩
  exact ⟨e1, by rw [e3, e2]⟩
/-- some steps on each side -/
theorem Pair.step (hC : ∀ Q, WP d1 m1 p1' l1' st1' c3 Q → WP d1 m1 p1 l1 st1 μ Q) (hR : ∀ Q, WP d2 m2 p2' l2' st2' r3 Q → WP d2 m2 p2 l2 st2 μ Q) (zc : zkM zC c3) (zr : zkM zR r3) (k1 : mC m1 = true) (k2 : mR m2 = true) (hl1 : zkL zC l1') (hs1 : zkS zC st1') (hl2 : zkL zR l2') (hs2 : zkS zR st2') (h : Pair d1 m1 p1' l1' st1' d2 m2 p2' l2' st2' (mxC c3 r3) Post) : Pair d1 m1 p1 l1 st1 d2 m2 p2 l2 st2 μ Post := by
  obtain ⟨v, w, s1, s2, h1, h2, z1, z2, hp⟩ := h
  refine ⟨v, w, mxC s1 c3, mxC r3 s2, hC _ (run_C k1 hl1 hs1 zc h1), hR _ (run_R k2 hl2 hs2 zr h2), zkM_C z1, zkM_R z2, ?_⟩
  rw [mxC_l, mxC_r]
  exact hp
/-- a call on both sides, each answers an int -/
theorem Pair.call {P1 : Int32 → Int32 → aM → Prop} (hC : ∀ Q, WP d1 c1 0 la1 [] μ (am_ko (d1 + 1) m1 x1 p1' l1' r1 Q) → WP (d1 + 1) m1 p1 l1 st1 μ Q) (hR : ∀ Q, WP d2 c2 0 la2 [] μ (am_ko (d2 + 1) m2 x2 p2' l2' r2 Q) → WP (d2 + 1) m2 p2 l2 st2 μ Q) (k1 : mC m1 = true) (k2 : mR m2 = true) (hl1 : zkL zC l1') (hs1 : zkS zC r1) (hl2 : zkL zR l2') (hs2 : zkS zR r2) (h : Pair d1 c1 0 la1 [] d2 c2 0 la2 [] μ (fun v w μ' => ∃ x y, v = some (some (vi x)) ∧ w = some (some (vi y)) ∧ P1 x y μ')) (k : ∀ x y μ', P1 x y μ' → zkM zC μ' → zkM zR μ' → Pair (d1 + 1) m1 p1' l1' (vi x :: r1) (d2 + 1) m2 p2' l2' (vi y :: r2) μ' Post) : Pair (d1 + 1) m1 p1 l1 st1 (d2 + 1) m2 p2 l2 st2 μ Post := by
  obtain ⟨v, w, s1, s2, h1, h2, z1, z2, x, y, rfl, rfl, hp⟩ := h
  obtain ⟨v', w', t1, t2, g1, g2, y1, y2, hq⟩ := k x y (mxC s1 s2) hp (zkM_C z1) (zkM_R z2)
  refine ⟨v', w', mxC t1 s1, mxC s2 t2, hC _ (h1.mono ?_), hR _ (h2.mono ?_), zkM_C y1, zkM_R y2, ?_⟩
  · rintro a b ⟨rfl, rfl⟩
    exact am_ko_v.mpr (run_C k1 hl1 (zkS_c zkv_i hs1) z1 g1)
  · rintro a b ⟨rfl, rfl⟩
    exact am_ko_v.mpr (run_R k2 hl2 (zkS_c zkv_i hs2) z2 g2)
  · rw [mxC_l, mxC_r]
    exact hq
/-- at the end of both -/
theorem Pair.done {v w : aR} (hC : ∀ Q : aR → aM → Prop, Q v c3 → WP d1 m1 p1 l1 st1 μ Q) (hR : ∀ Q : aR → aM → Prop, Q w r3 → WP d2 m2 p2 l2 st2 μ Q) (zc : zkM zC c3) (zr : zkM zR r3) (h : Post v w (mxC c3 r3)) : Pair d1 m1 p1 l1 st1 d2 m2 p2 l2 st2 μ Post :=
  ⟨v, w, c3, r3, hC _ ⟨rfl, rfl⟩, hR _ ⟨rfl, rfl⟩, zc, zr, h⟩
/-- class first, then the reference: as the law has it -/
theorem Pair.two {Q : aR → aR → aM → Prop} (k1 : mC m1 = true) (k2 : mR m2 = true) (hl1 : zkL zC l1) (hl2 : zkL zR l2) (hz : zkM zC μ) (hr : zkM zR μ) (h : Pair d1 m1 0 l1 [] d2 m2 0 l2 [] μ Q) : WP d1 m1 0 l1 [] μ (fun v σ1 => WP d2 m2 0 l2 [] σ1 (fun w σ2 => Q v w σ2)) := by
  obtain ⟨v, w, s1, s2, h1, h2, z1, z2, hp⟩ := h
  refine (ownC k1 hl1 zkS_n hz h1).mono ?_
  rintro a b ⟨⟨rfl, rfl⟩, e, -, -⟩
  refine (teleR (σ := b) k2 hl2 zkS_n hr e h2).mono ?_
  rintro r s ⟨s0, ⟨rfl, rfl⟩, rfl, -, -⟩
  exact hp
end PAIR
