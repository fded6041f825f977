/-! a call that throws, and its handler -/
section SIMX
variable {D : va_G} {G : xG} {A : Nat → Prop} {lc : Launch}
theorem HR.grow {s : State} {σ : aM} {ad bk : sA} {ws : va_W} {tys : List (ClassId × FieldType)} {H H1 : Heap} (h : HR D G A s σ ad bk ws tys H) (hk : ∀ q : Nat, q < H.size → H1[q]? = H[q]?) : HR D G A s σ ad bk ws tys H1 := by
  obtain ⟨h1, h2⟩ := h
  exact ⟨h1.kept fun k q hq => hk _ (vx_lt h1 hq), h2⟩
theorem k2t : (kT 2).1 = 8 := by decide +kernel
theorem HR.thr {s : State} {σ : aM} {ad bk : sA} {ws : va_W} {tys : List (ClassId × FieldType)} {H : Heap} (h : HR D G A s σ ad bk ws tys H) (q : Nat) : HR D G A s (am_thr σ) (ad_n ad 2 (gC σ 2) q) bk ws tys H ∧ sm_le ad (ad_n ad 2 (gC σ 2) q) := by
  obtain ⟨h1, h2, h3, h4, h5, h6, h7, h8, h9, h10, h11, h12⟩ := h
  have hnew : ad 2 (gC σ 2) = none := by
    cases hc : ad 2 (gC σ 2) with
    | none => rfl
    | some a => exact absurd ((h4 _ _ (Nat.le_refl 2)).mp ⟨a, hc⟩) (Nat.lt_irrefl _)
  have hle := ad_n_le (q := q) hnew
  have hne : ∀ K i, K ≠ 2 → ad_n ad 2 (gC σ 2) q K i = ad K i := fun K i hK => by
    unfold ad_n
    rw [if_neg (fun e => hK e.1)]
  have k2 : ∀ K : Nat, (kT K).1 ≤ 5 → K ≠ 2 := fun K hK e => by rw [e, k2t] at hK; omega
  refine ⟨⟨h1, h2, h3, fun K i hK => ?_, fun K i a ha hk => ?_, fun K i a ha hk => ?_, fun K i K' i' a hk hk' ha ha' => ?_, h8, fun K i K' i' a hk ha => ?_, fun K i a hb => ?_, ⟨?_, h11.2⟩, ?_, ?_⟩, hle⟩
  · show _ ↔ i < (if K = 2 then gC σ 2 + 1 else gC σ K)
    by_cases c : K = 2
    · subst c
      rw [if_pos rfl]
      unfold ad_n
      by_cases c2 : i = gC σ 2
      · subst c2
        exact ⟨fun _ => Nat.lt_succ_self _, fun _ => ⟨q, if_pos ⟨rfl, rfl⟩⟩⟩
      · rw [if_neg (fun e => c2 e.2)]
        have := h4 2 i hK
        exact this.trans ⟨fun z => Nat.lt_succ_of_lt z, fun z => by omega⟩
    · rw [if_neg c, hne K i c]
      exact h4 K i hK
  · rw [hne K i (k2 K (by omega))] at ha
    obtain ⟨q0, e, g1, g2⟩ := h5 K i a ha hk
    exact ⟨q0, e, g1, g2.mono hle (fun _ _ z => z) ⟨rfl, rfl, rfl, rfl⟩⟩
  · rw [hne K i (k2 K (by omega))] at ha
    exact (h6 K i a ha hk).mono hle (fun _ _ z => z) rfl (fun _ _ z _ => z) rfl rfl
  · rw [hne K i (k2 K hk)] at ha
    rw [hne K' i' (k2 K' hk')] at ha'
    exact h7 K i K' i' a hk hk' ha ha'
  · rw [hne K i (k2 K hk)] at ha
    exact h9 K i K' i' a hk ha
  · obtain ⟨g1, a2, g2⟩ := h10 K i a hb
    exact ⟨g1, a2, hle _ _ _ g2⟩
  · exact hle _ _ _ h11.1
  · exact fun t ht => hle _ _ _ (h12.1 t ht)
  · intro t a ha
    rw [hne 1 t (by decide)] at ha
    exact h12.2 t a ha
def nsePs : List String := ["java/lang/RuntimeException", "java/lang/Exception"]
set_option maxRecDepth 100000 in
theorem nse_at : ∀ w ∈ Cond.classLink "FirmTown" 148 nseN :: Cond.initialized nseN :: vx_at0 "FirmTown" 150 nseN nsePs, w ∈ tb ∨ w ∈ nseL := by decide +kernel
set_option maxRecDepth 100000 in
theorem nse_ot : ∀ w ∈ Cond.classLink "FirmTown" 148 nseN :: Cond.initialized nseN :: vx_at0 "FirmTown" 150 nseN nsePs, vx_ot w = true := by decide +kernel
theorem nse_w {args : Array Value} {s : State} (hts : ∀ w ∈ tb, w.before args s = true) (hw : Wx s) : ∀ w ∈ Cond.classLink "FirmTown" 148 nseN :: Cond.initialized nseN :: vx_at0 "FirmTown" 150 nseN nsePs, w.before args s = true := by
  intro w h
  rcases nse_at w h with g | g
  · exact hts w g
  · exact va_Nw.use ((show ∀ w ∈ nseL, w.onTables = true by decide) w g) (hw w g)
def xQ (D : va_G) (G : xG) (A : Nat → Prop) (ad : sA) (σ1 : aM) : String → State → State → Prop := vx_X (fun (u : sS) => sm_le ad u.1) (fun E u t => E = nseN ∧ ∃ σ0, σ1 = am_thr σ0 ∧ HR D G A t σ0 u.1 u.2.1 u.2.2.1 u.2.2.2 t.heap) A
def noQ (A : Nat → Prop) : Array Value → State → Outcome → State → Prop := va_Qi (fun _ (_ : sS) => False) (fun _ _ => True) A
theorem met_bodyX {n d cm : Nat} {As : List aV} {vs : List Value} {σ σ1 : aM} {ad bk : sA} {ws : va_W} {tys : List (ClassId × FieldType)} {H : Heap} (hst : lc.stackTraces = false) (ih : SIM2 lc D G A n) (hcall : am_ex n d cm 0 (am_ent (mml cm) As) [] σ (fun v t => v = none ∧ t = σ1)) (hI : FIV cm 0 (am_ent (mml cm) As) []) (hkm : KMe σ) (hM : okM cm) (h4 : 4 ≤ cm) (hvs : strel ad As vs) (hl : (am_ea As).length ≤ mml cm) (hb : (gB σ).1 ≤ (gB σ1).1 ∧ (gB σ).2 ≤ (gB σ1).2) :
    vx_Met lc (mnm cm) (Cond.code (mnm cm) (mcode cm) (mml cm) (mft cm) :: tb) (cRm d σ σ1) (cPc2 D G A σ ad bk ws tys H vs) (noQ A) (xQ D G A ad σ1) ((gB σ1).1 - (gB σ).1) ((gB σ1).2 - (gB σ).2) A := by
  refine vx_ofW (cc := mcode cm) (maxL := mml cm) (ret := mft cm) hM.2.2.1 rfl ?_
  intro p e s m args below meth c s₁ B hml htab hv
  obtain ⟨rfl, hv, hw⟩ := hv
  have hts := atoms_spec (ws := Cond.code (mnm cm) (mcode cm) (mml cm) (mft cm) :: tb) B.pre
  have hts' : ∀ w ∈ tb, w.before vs.toArray s = true := fun w hw => hts w (List.mem_cons_of_mem _ hw)
  have hown : s.vm.findClass (mnm cm).cls = some m.cls := findClass_of_methodNamed B.named
  have hown' : s.vm.findClass (cN (mcl cm)) = some m.cls := by rw [← hM.2.1]; exact hown
  have hnm := (name_of_methodNamed B.named B.method).1
  obtain ⟨hh, hHR, hxf, htn, hA⟩ := id hv
  refine body2 ih hcall hI hkm hvs hl hb B.exec B.bytes hml hown' hts' B.notSynchronized B.returns hnm (etx_4 h4) hv hw ⟨fun H locs cells slots ls cst ad1 bk ws tys pc _ _ _ _ _ hret => hret.elim, fun _ => ?_⟩
  intro H1 locs cells slots ls ad1 bk1 ws1 tys1 pc k σ0 e1 hH1 hS1 hle hls hc1 hc2 hd hcl hthr
  obtain ⟨rfl, d3, d4, d7⟩ := thr_at hthr hd hcl
  have h12 := thr_cl _ hthr
  have hownF : s.vm.findClass "FirmTown" = some m.cls := by rw [h12] at hown'; exact hown'
  have hall := nse_w hts' hw
  subst hh
  obtain ⟨-, hx2⟩ := hxf
  have hg : gB σ1 = ((gB σ0).1 + 1, (gB σ0).2 + 6) := by rw [e1]; rfl
  refine vx_throw0 (names := nsePs) (A := A) B.exec B.bytes hst hownF (by decide +kernel) (by decide +kernel) (hall _ List.mem_cons_self) (hall _ (List.mem_cons_of_mem _ List.mem_cons_self)) (fun w hw => hall w (List.mem_cons_of_mem _ (List.mem_cons_of_mem _ hw))) nse_ot hx2.2.2.2.2.2.2.1 hx2.2.2.2.2.2.2.2 hS1 (hls.trans hml.symm) hd d3 d4 d7 (fun x hx => (htab x hx).elim) ?_ ?_ ?_ ?_ B.notSynchronized (fun t hvm hsz hk => ?_) hS1.2.2 ?_ ?_
  · show 2 + 3 < d + 16; omega
  · show 0 + (13 * (2 + 1) + 42) ≤ 64 * (d + 16); omega
  · show cells + 1 ≤ (gB σ1).1 - (gB σ).1; rw [hg]; dsimp only; omega
  · show slots + 6 ≤ (gB σ1).2 - (gB σ).2; rw [hg]; dsimp only; omega
  · exact ⟨(ad1, bk1, ws1, tys1), hle, ⟨rfl, σ0, e1, (hH1.grow hk).moved hvm⟩, ⟨Nat.le_trans hS1.1 hsz, fun q hq hA9 => (hk q (Nat.lt_of_lt_of_le hq hS1.1)).trans (hS1.2.1 q hq hA9)⟩⟩
  · rw [hg]; dsimp only; omega
  · rw [hg]; dsimp only; omega
section SIMXK
variable {mid d : Nat} {p : Program} {e : Env} {R : Room} {s : State} {m : MethodId} {args : Array Value} {below : List Frame} {meth : Method} {c : Code} {Z : State → Prop} {ad0 : sA} {b0 : Nat × Nat} {pc : Nat} {l : aL} {st r : List aV} {σ σ1 : aM}
/-- a call that throws: its handler goes on -/
theorem rl_callX {n cm k tg h : Nat} {As : List aV} {i9 : Instr} (hst9 : lc.stackTraces = false) (ih : SIM2 lc D G A n) (hI : FIV cm 0 (am_ent (mml cm) As) []) (hkm : KMe σ) (hwx : Wx s) (hE : ETX mid c) (C : Cx mid (d + 1) G A p R s m args meth c) (hd : decode (mcode mid) pc = .ok (i9, 3)) (hf : cal (mcl mid) k = some (tg, cm)) (hcm : 4 ≤ cm)
    (hkind : (tg = 0 ∧ i9 = .invokevirtual k ∧ ∃ K i B, As = vr (some (K, i)) :: B ∧ st = B.reverse ++ vr (some (K, i)) :: r ∧ B.length = mar cm ∧ (kT K).1 = 0 ∧ (kT K).2 = mcl cm) ∨ ((tg = 1 ∨ tg = 2) ∧ i9 = .invokestatic k ∧ st = As.reverse ++ r ∧ As.length = mar cm) ∨ ((tg = 3 ∨ tg = 4) ∧ i9 = .invokespecial k ∧ ∃ K i B, As = vr (some (K, i)) :: B ∧ st = B.reverse ++ vr (some (K, i)) :: r ∧ B.length = mar cm ∧ (kT K).1 = 0))
    (hl : (am_ea As).length ≤ mml cm) (hr4 : r.length ≤ 4) (hcall : am_ex n d cm 0 (am_ent (mml cm) As) [] σ (fun v t => v = none ∧ t = σ1)) (hb : (gB σ).1 ≤ (gB σ1).1 ∧ (gB σ).2 ≤ (gB σ1).2) (hroom : (gB σ1).1 ≤ R.cells + b0.1 ∧ (gB σ1).2 ≤ R.slots + b0.2) (hh : hnd mid pc = some h)
    (kk : Rl D G A mid p lc e R s m args below meth c Z ad0 b0 h l [vr (some (2, gC σ1 2 - 1))] σ1) : Rl D G A mid p lc e R s m args below meth c Z ad0 b0 pc l st σ := by
  obtain ⟨-, hm14, ⟨k9, hk9⟩, xa, xb, htb, hcov⟩ := hnd_at hh
  have hiv : i9 = .invokevirtual k9 := by
    have := hd.symm.trans hk9
    cases this
    rfl
  intro H locs cells slots ls cst ad bk ws tys lv hH hS hle hl9 hlr hll hst h1 h2
  have hoc := ok_cal hf
  have hM : okM cm := hoc.1 (by rcases hkind with ⟨h, _⟩ | ⟨h | h, _⟩ | ⟨h | h, _⟩ <;> (show tg ≤ 4; omega)) hcm
  obtain ⟨hx, hbc, hml, hown, hts, hlk, hrt, hini, hfr, hlo, hxf, hA, htn⟩ := id C
  have hmm := hM.2.2.2.2.2.1
  have hfits : cells + ((gB σ1).1 - (gB σ).1) ≤ R.cells ∧ slots + ((gB σ1).2 - (gB σ).2) ≤ R.slots := ⟨by omega, by omega⟩
  have hpc : ∀ (vs : List Value) (U : State), U.heap = H → s.WarmedH U.vm → cPc2 D G A σ ad bk ws tys H vs vs.toArray U := fun vs U hU hW => ⟨rfl, ⟨hU, hH.moved hW.alike, hxf.on hW.alike hS, tbn_w hW htn, fun q hq => hA q (Nat.le_trans hS.1 hq)⟩, Wx.warm hW hwx⟩
  have hrm : (cRm d σ σ1).frames + 1 ≤ R.frames ∧ 8 + (mml cm + 11) + (cRm d σ σ1).locals ≤ R.locals := by
    have e1 : (cRm d σ σ1).frames = d + 16 := rfl
    have e2 : (cRm d σ σ1).locals = 64 * (d + 16) := rfl
    rw [e1, e2]
    omega
  have hS5 : CallFix p m c (mcode mid) (mml mid) s args tb (cN (mcl mid)) := ⟨hx, hbc, hml, hown, hts⟩
  have hnn := hM.2.2.2.1
  have hcode := hM.1
  rcases hkind with ⟨rfl, rfl, K, i, B, rfl, rfl, hB, hk1, hk2⟩ | ⟨ht, rfl, rfl, hB⟩ | ⟨ht, rfl, K, i, B, rfl, rfl, hB, -⟩
  · obtain ⟨cb, c2, rfl, hcb, hc2⟩ := hst.app
    obtain ⟨a, c1, rfl, ha, hc1⟩ := hc2.ref
    have hrev := hcb.rev
    rw [List.reverse_reverse] at hrev
    have hvs : strel ad (vr (some (K, i)) :: B) (.ref a :: cb.reverse) := ⟨⟨a, ha, rfl⟩, hrev⟩
    obtain ⟨_, w1, w2, w3⟩ := hoc.2.1 rfl
    have hlen : cb.reverse.length = mar cm := by rw [hrev.len]; exact hB
    obtain ⟨hP, hK, hD, h4, h5, _⟩ := id hH
    obtain ⟨q0, e0, g1, g2⟩ := h5 _ _ _ ha (by omega)
    obtain ⟨fs, rfl, _, _⟩ := g2.1 hk1
    have hclN : ∃ q : vw_C, vwCl[(kT K).2]? = some q ∧ q.1 = (mnm cm).cls := by
      have hN : ∀ K, (kT K).1 = 0 → (kT K).2 < 14 := by
        intro K hK
        rcases Nat.lt_or_ge K 101 with c | c
        · exact (show ∀ K, K < 101 → (kT K).1 = 0 → (kT K).2 < 14 by decide +kernel) K c hK
        · have : kT K = (99, 0) := by
            unfold kT List.getD
            rw [List.getElem?_eq_none (Nat.le_trans (by decide) c)]
            rfl
          rw [this] at hK; cases hK
      have h14 := hN K hk1
      cases hq : vwCl[(kT K).2]? with
      | none => exact absurd (List.getElem?_eq_none_iff.mp hq) (by show ¬ 14 ≤ _; omega)
      | some q =>
        obtain ⟨q', hq', _, _, _, _, _, hcn, _⟩ := okVs hq
        rw [hq] at hq'
        cases hq'
        exact ⟨q, rfl, by rw [hM.2.1, ← hk2]; exact hcn.symm⟩
    obtain ⟨q, hq, hqn⟩ := hclN
    have hrec := va_recv hK hP hq g1
    rw [hqn] at hrec
    have hcw := cwV (R := R) (mar cm) hts (goodIn_app (a := [_, _, _, _]) (fun w hw => by
      simp only [List.mem_cons, List.not_mem_nil, or_false] at hw
      rcases hw with rfl | rfl | rfl | rfl
      · exact goodIn_1 w1 _ (List.mem_singleton.mpr rfl)
      · exact goodIn_1 w2 _ (List.mem_singleton.mpr rfl)
      · exact goodIn_1 w3 _ (List.mem_singleton.mpr rfl)
      · exact goodIn_1 hM.2.2.2.2.1 _ (List.mem_singleton.mpr rfl)) (goodIn_tb hcode) : GoodIn tb (wsV (cN (mcl mid)) k (mnm cm).cls (mnm cm) (Cond.code (mnm cm) (mcode cm) (mml cm) (mft cm) :: tb))) rfl rfl rfl ⟨rfl, hnn⟩ hrm
    have hrun := vx_runV (As := cb.reverse) (b := a) (rest := c1) (H := H) (locs := locs) (cells := cells) (slots := slots) (g := F0 m pc ls (cb ++ .ref a :: c1)) (below := below) (meth := meth) (e := e) hS5 (met_bodyX hst9 ih hcall hI hkm hM hcm hvs hl hb) hcw ⟨cPc2_blind, hrec, fun U hU hW => hpc _ U hU hW⟩ rfl hlen hl9.1 (by show cb ++ .ref a :: c1 = _; rw [List.reverse_reverse]) (lv_room (by have := hc1.weigh; omega)) hd hfits
    unfold noQ xQ at hrun
    refine vx_calli hrun hS (fun _ _ h => h) (fun _ h => h) (fun _ _ h => h) (fun E ce q9 u t H1 locs1 ht hvm hp9 hb9 _ _ hS1 hce hcv hcl => ?_) (fun _ _ _ _ _ _ _ hp9 _ _ _ _ => hp9.elim)
    obtain ⟨rfl, σ0, e0, hB9⟩ := hb9
    rw [ht] at hB9
    have hB9 := hB9.moved hvm.symm
    obtain ⟨hN, hle2⟩ := hB9.thr q9
    have hown14 : s.vm.findClass "FirmTownLaw" = some m.cls := by rw [hm14] at hown; exact hown
    refine vx_catch (own := "FirmTownLaw") (name := nseN) hown14 [] ⟨xa, xb, h, 13⟩ [] ((hE pc h hh).trans htb) (fun z hz => nomatch hz) hcov (show (13 : Nat) ≠ 0 by decide) (hts _ (show Cond.classLink "FirmTownLaw" 13 nseN ∈ tb from tbm 1183 (by decide +kernel))) (va_Nw.use rfl (hwx _ List.mem_cons_self)) hce hcv hcl ?_
    subst e0
    refine kk H1 locs1 _ _ ls [.ref q9] _ u.2.1 u.2.2.1 u.2.2.2 lv hN hS1 ((hle.trans hp9).trans hle2) hl9 (hlr.mono (hp9.trans hle2)) hll ⟨⟨q9, ?_, rfl⟩, trivial⟩ (by omega) (by omega)
    have e5 : gC (am_thr σ0) 2 - 1 = gC σ0 2 := by
      show (if (2 : Nat) = 2 then gC σ0 2 + 1 else gC σ0 2) - 1 = _
      rw [if_pos rfl]; omega
    show ad_n u.1 2 (gC σ0 2) q9 2 (gC (am_thr σ0) 2 - 1) = some q9
    rw [e5]
    unfold ad_n
    rw [if_pos ⟨rfl, rfl⟩]
  · cases hiv
  · cases hiv
end SIMXK
end SIMX
