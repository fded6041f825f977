/-! the calls anew: with what every frame keeps, and with exceptions -/
abbrev nseN : String := "java/util/NoSuchElementException"
def nseL : List Cond := [.castable nseN nseN, .declares ({ cls := "java/lang/RuntimeException", name := "<init>", desc := "()V" } : MethodName), .declares ({ cls := "java/lang/Exception", name := "<init>", desc := "()V" } : MethodName), .declares ({ cls := "java/lang/Throwable", name := "<init>", desc := "()V" } : MethodName)]
def Wx (s : State) : Prop := ∀ w ∈ nseL, va_Nw w s
theorem Wx.same {s U : State} (hv : s.vm = U.vm) (h : Wx s) : Wx U := fun w hw => va_Nw.same ((show ∀ w ∈ nseL, w.onTables = true by decide) w hw) hv (h w hw)
theorem Wx.warm {s U : State} (hW : s.WarmedH U.vm) (h : Wx s) : Wx U := by
  intro w hw
  have hw' := hw
  simp only [nseL, List.mem_cons, List.not_mem_nil, or_false] at hw'
  rcases hw' with rfl | rfl | rfl | rfl
  · exact va_Nw.warmC hW (h _ hw)
  · exact va_Nw.warmD hW (h _ hw)
  · exact va_Nw.warmD hW (h _ hw)
  · exact va_Nw.warmD hW (h _ hw)
def FinX (D : va_G) (G : xG) (A : Nat → Prop) (mid : Nat) (p : Program) (lc : Launch) (e : Env) (R : Room) (s : State) (m : MethodId) (args : Array Value) (below : List Frame) (meth : Method) (c : Code) (Z : State → Prop) (ad0 : sA) (b0 : Nat × Nat) (σ1 : aM) : Prop :=
  ∀ (H : Heap) (locs : List Loc) (cells slots : Nat) (ls : Array Slot) (ad bk : sA) (ws : va_W) (tys : List (ClassId × FieldType)) (pc k : Nat) (σ0 : aM),
    σ1 = am_thr σ0 → HR D G A s σ0 ad bk ws tys H → va_S A s.heap H locs → sm_le ad0 ad → ls.size = mml mid → cells + b0.1 ≤ (gB σ0).1 → slots + b0.2 ≤ (gB σ0).2 → decode (mcode mid) pc = .ok (.new k, 3) → clsP (mcl mid) k = some 98 → mid ∈ thrL → W p lc e R s m args below meth c H locs cells slots Z (F0 m pc ls [])
def Fin2 (D : va_G) (G : xG) (A : Nat → Prop) (mid : Nat) (p : Program) (lc : Launch) (e : Env) (R : Room) (s : State) (m : MethodId) (args : Array Value) (below : List Frame) (meth : Method) (c : Code) (Z : State → Prop) (ad0 : sA) (b0 : Nat × Nat) (v1 : aR) (σ1 : aM) : Prop :=
  Fin9 D G A mid p lc e R s m args below meth c Z ad0 b0 v1 σ1 ∧ (v1 = none → FinX D G A mid p lc e R s m args below meth c Z ad0 b0 σ1)
def ETX (mid : Nat) (c : Code) : Prop := ∀ pc h, hnd mid pc = some h → c.exceptionTable.toList = tableOf (hhL mid)
/-- the run of fuel n is followed -/
def SIM2 (lc : Launch) (D : va_G) (G : xG) (A : Nat → Prop) (n : Nat) : Prop :=
  ∀ (d mid pc : Nat) (l : aL) (st : List aV) (σ : aM) (v1 : aR) (σ1 : aM), am_ex n d mid pc l st σ (fun v t => v = v1 ∧ t = σ1) → FIV mid pc l st → KMe σ →
    ∀ (p : Program) (e : Env) (R : Room) (s : State) (m : MethodId) (args : Array Value) (below : List Frame) (meth : Method) (c : Code) (Z : State → Prop) (ad0 : sA) (b0 : Nat × Nat), Cx mid d G A p R s m args meth c → Wx s → ETX mid c → (gB σ1).1 ≤ R.cells + b0.1 ∧ (gB σ1).2 ≤ R.slots + b0.2 → Fin2 D G A mid p lc e R s m args below meth c Z ad0 b0 v1 σ1 → Rl D G A mid p lc e R s m args below meth c Z ad0 b0 pc l st σ
section SIMC2
variable {D : va_G} {G : xG} {A : Nat → Prop} {lc : Launch}
def cPc2 (D : va_G) (G : xG) (A : Nat → Prop) (σ : aM) (ad bk : sA) (ws : va_W) (tys : List (ClassId × FieldType)) (H : Heap) (vs : List Value) : Array Value → State → Prop :=
  va_Pc vs (fun U => (U.heap = H ∧ HR D G A U σ ad bk ws tys H ∧ xf G A U H ∧ Wn G U ∧ ∀ q, H.size ≤ q → A q) ∧ Wx U)
theorem cPc2_blind {σ : aM} {ad bk : sA} {ws : va_W} {tys : List (ClassId × FieldType)} {H : Heap} {vs : List Value} : FrameBlind (cPc2 D G A σ ad bk ws tys H vs) := by
  rintro a U g mk ⟨h0, ⟨h1, h2, h3, h4, h5⟩, h6⟩
  exact ⟨h0, ⟨h1, h2.moved (Vm.Alike.refl U.vm), h3.on (Vm.Alike.refl U.vm) va_S.rf, tbn_v (s := U) rfl h4, h5⟩, Wx.same (s := U) rfl h6⟩
/-- a callee's body -/
theorem body2 {n d cm : Nat} {As : List aV} {vs : List Value} {σ σ1 : aM} {v1 : aR} {ad bk : sA} {ws : va_W} {tys : List (ClassId × FieldType)} {H : Heap} (ih : SIM2 lc D G A n) (hcall : am_ex n d cm 0 (am_ent (mml cm) As) [] σ (fun v t => v = v1 ∧ t = σ1)) (hI : FIV cm 0 (am_ent (mml cm) As) []) (hkm : KMe σ) (hvs : strel ad As vs) (hl : (am_ea As).length ≤ mml cm) (hb : (gB σ).1 ≤ (gB σ1).1 ∧ (gB σ).2 ≤ (gB σ1).2)
    {p : Program} {e : Env} {s : State} {m : MethodId} {below : List Frame} {meth : Method} {c : Code} {Z : State → Prop} (hx : p.tables.exec = Jvm.exec) (hcode : c.code = mcode cm) (hml : c.maxLocals = mml cm) (hown : s.vm.findClass (cN (mcl cm)) = some m.cls) (hts : ∀ w ∈ tb, w.before vs.toArray s = true) (hk : meth.locks = false) (hr : meth.sig.returnType = mft cm) (hnm : meth.name = (mnm cm).name) (hE : ETX cm c)
    (hv : s.heap = H ∧ HR D G A s σ ad bk ws tys H ∧ xf G A s H ∧ Wn G s ∧ ∀ q, H.size ≤ q → A q) (hw : Wx s) (hfin : Fin2 D G A cm p lc e (cRm d σ σ1) s m vs.toArray below meth c Z ad (gB σ) v1 σ1) :
    W p lc e (cRm d σ σ1) s m vs.toArray below meth c s.heap [] 0 0 Z (entryFrame m vs.toArray (mml cm)) := by
  obtain ⟨hh, hHR, hxf, htn, hA⟩ := hv
  subst hh
  have C : Cx cm d G A p (cRm d σ σ1) s m vs.toArray meth c := ⟨hx, hcode, hml, hown, hts, hk, hr, fun h => by
    rw [hnm]; unfold am_isi at h; simpa using h, Nat.le_refl _, Nat.le_refl _, hxf, hA, htn⟩
  have hR := ih d cm 0 _ [] σ v1 σ1 hcall hI hkm p e (cRm d σ σ1) s m vs.toArray below meth c _ ad (gB σ) C hw hE ⟨by show _ ≤ (gB σ1).1 - (gB σ).1 + (gB σ).1; omega, by show _ ≤ (gB σ1).2 - (gB σ).2 + (gB σ).2; omega⟩ hfin
  have hle := ea_len hvs
  have hent := lv_entry vs (n := mml cm) (by omega)
  rw [lg_entry_eq]
  refine hR s.heap [] 0 0 _ [] ad bk ws tys (lv_args 0 vs) hHR va_S.rf (sm_le.refl ad) hent (fun k v hk => ?_) ?_ trivial (by omega) (by omega)
  · have hk2 : (am_ea As)[k]? = some (some v) := by
      unfold am_ent at hk
      by_cases c : k < (am_ea As).length
      · rw [List.getElem?_append_left c] at hk; exact hk
      · rw [List.getElem?_append_right (by omega)] at hk
        have := List.mem_of_getElem? hk
        rw [List.mem_replicate] at this
        exact absurd this.2 (by simp)
    have := ea_at 0 k v hvs hk2
    rwa [Nat.zero_add] at this
  · unfold am_ent
    simp only [List.length_append, List.length_replicate]
    omega
def okT (cm : Nat) : Prop := match mrt cm with | 0 => mft cm = none | 1 => mft cm = some .int | 2 => mft cm = some .boolean | 3 => mft cm = some .long | _ => ∃ rt, mft cm = some rt ∧ ((∃ n, rt = .object n) ∨ ∃ t, rt = .array t)
theorem fin_ok2 {cm : Nat} {σ σ1 : aM} {v1 : aR} {ad : sA} {p : Program} {e : Env} {R : Room} {s : State} {m : MethodId} {args : Array Value} {below : List Frame} {meth : Method} {c : Code} (hM : okT cm) (hx : p.tables.exec = Jvm.exec) (hb : c.code = mcode cm) (hr : meth.sig.returnType = mft cm) (hk : meth.locks = false) :
    Fin9 D G A cm p lc e R s m args below meth c (MQ below (cQ D G A ad σ1 v1) args s ((gB σ1).1 - (gB σ).1) ((gB σ1).2 - (gB σ).2) A) ad (gB σ) v1 σ1 := by
  intro H locs cells slots ls cst ad1 bk ws tys pc hH hS hle h1 h2 hret
  have hrt := hM
  unfold okT at hrt
  refine W.widen (k := (gB σ1).1 - (gB σ).1) (n := (gB σ1).2 - (gB σ).2) (by omega) (by omega) ?_
  have hf := hS.2.2
  have hq : ∀ t : State, t.heap = H → s.WarmedH t.vm → cB D G A σ1 (ad1, bk, ws, tys) t ∧ va_F A s t := fun t ht hW => ⟨by show HR D G A t σ1 ad1 bk ws tys t.heap; rw [ht]; exact hH.moved hW.alike, hS.F ht⟩
  rcases v1 with _ | _ | x | x | q
  · exact hret.elim
  · obtain ⟨hd, rfl, ht⟩ := hret
    rw [ht] at hrt
    exact W.vret hx hb (hr.trans hrt) (fun t ht hW => ⟨⟨(ad1, bk, ws, tys), rfl, hle, (hq t ht hW).1⟩, (hq t ht hW).2⟩) hf hd hk
  · obtain ⟨hd, rfl, ht⟩ := hret
    rcases ht with ht | ⟨ht, hx01⟩
    · rw [ht] at hrt
      exact W.iret hx hb (hr.trans hrt) (fun t ht hW => ⟨⟨x, (ad1, bk, ws, tys), rfl, ⟨rfl, hle⟩, (hq t ht hW).1⟩, (hq t ht hW).2⟩) hf hd hk
    · rw [ht] at hrt
      exact W.zret hx hb (hr.trans hrt) (by rcases hx01 with rfl | rfl <;> decide) (fun t ht hW => ⟨⟨x, (ad1, bk, ws, tys), rfl, ⟨rfl, hle⟩, (hq t ht hW).1⟩, (hq t ht hW).2⟩) hf hd hk
  · obtain ⟨hd, rfl, ht⟩ := hret
    rw [ht] at hrt
    exact W.lret hx hb (hr.trans hrt) (fun t ht hW => ⟨⟨x, (ad1, bk, ws, tys), rfl, ⟨rfl, hle⟩, (hq t ht hW).1⟩, (hq t ht hW).2⟩) hf hd hk
  · obtain ⟨hd, ⟨w, rfl, hw⟩, ht⟩ := hret
    rw [ht] at hrt
    obtain ⟨rt, hrt, hrk⟩ := hrt
    obtain ⟨r, rfl⟩ : ∃ r : Option Nat, w = va_rf r := by
      cases q with
      | none => exact ⟨none, hw⟩
      | some q => obtain ⟨a, -, h⟩ := hw; exact ⟨some a, h⟩
    exact W.aret hx hb (hr.trans hrt) hrk (va_rf_or r) (fun t ht hW => ⟨⟨r, (ad1, bk, ws, tys), rfl, ⟨hle, hw⟩, (hq t ht hW).1⟩, (hq t ht hW).2⟩) hf hd hk
theorem etx_4 {cm : Nat} {c : Code} (h : 4 ≤ cm) : ETX cm c := fun pc h9 e => absurd (hnd_at e).1 (Nat.not_lt.mpr h)
theorem met_body2 {n d cm : Nat} {As : List aV} {vs : List Value} {σ σ1 : aM} {v1 : aR} {ad bk : sA} {ws : va_W} {tys : List (ClassId × FieldType)} {H : Heap} (ih : SIM2 lc D G A n) (hcall : am_ex n d cm 0 (am_ent (mml cm) As) [] σ (fun v t => v = v1 ∧ t = σ1)) (hv1 : v1 ≠ none) (hI : FIV cm 0 (am_ent (mml cm) As) []) (hkm : KMe σ) (hM : okM cm) (h4 : 4 ≤ cm) (hvs : strel ad As vs) (hl : (am_ea As).length ≤ mml cm) (hb : (gB σ).1 ≤ (gB σ1).1 ∧ (gB σ).2 ≤ (gB σ1).2) :
    Met lc (mnm cm) (Cond.code (mnm cm) (mcode cm) (mml cm) (mft cm) :: tb) (cRm d σ σ1) (cPc2 D G A σ ad bk ws tys H vs) (cQ D G A ad σ1 v1) ((gB σ1).1 - (gB σ).1) ((gB σ1).2 - (gB σ).2) A := by
  refine Met.ofW (cc := mcode cm) (maxL := mml cm) (ret := mft cm) hM.2.2.1 rfl ?_
  intro p e s m args below meth c s₁ B hml hv
  obtain ⟨rfl, hv, hw⟩ := hv
  have hts := atoms_spec (ws := Cond.code (mnm cm) (mcode cm) (mml cm) (mft cm) :: tb) B.pre
  have hown : s.vm.findClass (mnm cm).cls = some m.cls := findClass_of_methodNamed B.named
  have hnm := (name_of_methodNamed B.named B.method).1
  exact body2 ih hcall hI hkm hvs hl hb B.exec B.bytes hml (by rw [← hM.2.1]; exact hown) (fun w hw => hts w (List.mem_cons_of_mem _ hw)) B.notSynchronized B.returns hnm (etx_4 h4) hv hw ⟨fin_ok2 hM.2.2.2.2.2.2 B.exec B.bytes B.returns B.notSynchronized, fun e => absurd e hv1⟩
section SIMK2
variable {mid d : Nat} {p : Program} {e : Env} {R : Room} {s : State} {m : MethodId} {args : Array Value} {below : List Frame} {meth : Method} {c : Code} {Z : State → Prop} {ad0 : sA} {b0 : Nat × Nat} {pc : Nat} {l : aL} {st r : List aV} {σ σ1 : aM}
/-- a call is followed: of whatever way -/
theorem rl_call2 {n cm k tg : Nat} {As : List aV} {v1 : aR} {i9 : Instr} (ih : SIM2 lc D G A n) (hI : FIV cm 0 (am_ent (mml cm) As) []) (hkm : KMe σ) (hwx : Wx s) (C : Cx mid (d + 1) G A p R s m args meth c) (hd : decode (mcode mid) pc = .ok (i9, 3)) (hf : cal (mcl mid) k = some (tg, cm)) (hcm : 4 ≤ cm)
    (hkind : (tg = 0 ∧ i9 = .invokevirtual k ∧ ∃ K i B, As = vr (some (K, i)) :: B ∧ st = B.reverse ++ vr (some (K, i)) :: r ∧ B.length = mar cm ∧ (kT K).1 = 0 ∧ (kT K).2 = mcl cm) ∨ ((tg = 1 ∨ tg = 2) ∧ i9 = .invokestatic k ∧ st = As.reverse ++ r ∧ As.length = mar cm) ∨ ((tg = 3 ∨ tg = 4) ∧ i9 = .invokespecial k ∧ ∃ K i B, As = vr (some (K, i)) :: B ∧ st = B.reverse ++ vr (some (K, i)) :: r ∧ B.length = mar cm ∧ (kT K).1 = 0))
    (hl : (am_ea As).length ≤ mml cm) (hr4 : r.length ≤ 4) (hcall : am_ex n d cm 0 (am_ent (mml cm) As) [] σ (fun v t => v = v1 ∧ t = σ1)) (hb : (gB σ).1 ≤ (gB σ1).1 ∧ (gB σ).2 ≤ (gB σ1).2) (hroom : (gB σ1).1 ≤ R.cells + b0.1 ∧ (gB σ1).2 ≤ R.slots + b0.2)
    (kk : match (motive := aR → Prop) v1 with
      | none => False
      | some none => Rl D G A mid p lc e R s m args below meth c Z ad0 b0 (pc + 3) l r σ1
      | some (some v) => Rl D G A mid p lc e R s m args below meth c Z ad0 b0 (pc + 3) l (v :: r) σ1) : Rl D G A mid p lc e R s m args below meth c Z ad0 b0 pc l st σ := by
  intro H locs cells slots ls cst ad bk ws tys lv hH hS hle hl9 hlr hll hst h1 h2
  have hoc := ok_cal hf
  have hM : okM cm := hoc.1 (by rcases hkind with ⟨h, _⟩ | ⟨h | h, _⟩ | ⟨h | h, _⟩ <;> (show tg ≤ 4; omega)) hcm
  have hv1 : v1 ≠ none := by rintro rfl; exact kk.elim
  obtain ⟨hx, hbc, hml, hown, hts, hlk, hrt, hini, hfr, hlo, hxf, hA, htn⟩ := id C
  have hmm := hM.2.2.2.2.2.1
  have hgo : ∀ (vs : List Value) (c1 : List Value) (a : Array Value), strel ad r c1 → va_Run p lc e R s m args below meth c H locs cells slots ((gB σ1).1 - (gB σ).1) ((gB σ1).2 - (gB σ).2) (F0 m pc ls cst) c1 (cQ D G A ad σ1 v1 a) A → W p lc e R s m args below meth c H locs cells slots Z (F0 m pc ls cst) := by
    intro vs c1 a hc1 hrun
    refine run_go hrun hS (fun w H1 locs1 u hw hH1 hS1 hle1 => ?_)
    rcases v1 with _ | _ | v
    · exact kk.elim
    · have hw : w = [] := hw
      subst hw
      exact kk H1 locs1 _ _ ls c1 u.1 u.2.1 u.2.2.1 u.2.2.2 lv hH1 hS1 (hle.trans hle1) hl9 (hlr.mono hle1) hll (hc1.mono hle1) (by omega) (by omega)
    · obtain ⟨x, rfl, hv⟩ := hw
      exact kk H1 locs1 _ _ ls (x :: c1) u.1 u.2.1 u.2.2.1 u.2.2.2 lv hH1 hS1 (hle.trans hle1) hl9 (hlr.mono hle1) hll ⟨hv, hc1.mono hle1⟩ (by omega) (by omega)
  have hmet : ∀ vs, strel ad As vs → Met lc (mnm cm) (Cond.code (mnm cm) (mcode cm) (mml cm) (mft cm) :: tb) (cRm d σ σ1) (cPc2 D G A σ ad bk ws tys H vs) (cQ D G A ad σ1 v1) ((gB σ1).1 - (gB σ).1) ((gB σ1).2 - (gB σ).2) A := fun vs hvs =>
    met_body2 ih hcall hv1 hI hkm hM hcm hvs hl hb
  have hfits : cells + ((gB σ1).1 - (gB σ).1) ≤ R.cells ∧ slots + ((gB σ1).2 - (gB σ).2) ≤ R.slots := ⟨by omega, by omega⟩
  have hpc : ∀ (vs : List Value) (U : State), U.heap = H → s.WarmedH U.vm → cPc2 D G A σ ad bk ws tys H vs vs.toArray U := fun vs U hU hW => ⟨rfl, ⟨hU, hH.moved hW.alike, hxf.on hW.alike hS, tbn_w hW htn, fun q hq => hA q (Nat.le_trans hS.1 hq)⟩, Wx.warm hW hwx⟩
  have hrm : (cRm d σ σ1).frames + 1 ≤ R.frames ∧ 8 + (mml cm + 11) + (cRm d σ σ1).locals ≤ R.locals := by
    have e1 : (cRm d σ σ1).frames = d + 16 := rfl
    have e2 : (cRm d σ σ1).locals = 64 * (d + 16) := rfl
    rw [e1, e2]
    omega
  have hS5 : CallFix p m c (mcode mid) (mml mid) s args tb (cN (mcl mid)) := ⟨hx, hbc, hml, hown, hts⟩
  have hnn := hM.2.2.2.1
  have hcode := hM.1
  rcases hkind with ⟨rfl, rfl, K, i, B, rfl, rfl, hB, hk1, hk2⟩ | ⟨ht, rfl, rfl, hB⟩ | ⟨ht, rfl, K, i, B, rfl, rfl, hB, -⟩
  · obtain ⟨cb, c2, rfl, hcb, hc2⟩ := hst.app
    obtain ⟨a, c1, rfl, ha, hc1⟩ := hc2.ref
    have hrev := hcb.rev
    rw [List.reverse_reverse] at hrev
    have hvs : strel ad (vr (some (K, i)) :: B) (.ref a :: cb.reverse) := ⟨⟨a, ha, rfl⟩, hrev⟩
    obtain ⟨_, w1, w2, w3⟩ := hoc.2.1 rfl
    have hlen : cb.reverse.length = mar cm := by rw [hrev.len]; exact hB
    obtain ⟨hP, hK, hD, h4, h5, _⟩ := id hH
    obtain ⟨q0, e0, g1, g2⟩ := h5 _ _ _ ha (by omega)
    obtain ⟨fs, rfl, _, _⟩ := g2.1 hk1
    have hclN : ∃ q : vw_C, vwCl[(kT K).2]? = some q ∧ q.1 = (mnm cm).cls := by
      have hN : ∀ K, (kT K).1 = 0 → (kT K).2 < 14 := by
        intro K hK
        rcases Nat.lt_or_ge K 101 with c | c
        · exact (show ∀ K, K < 101 → (kT K).1 = 0 → (kT K).2 < 14 by decide +kernel) K c hK
        · have : kT K = (99, 0) := by
            unfold kT List.getD
            rw [List.getElem?_eq_none (Nat.le_trans (by decide) c)]
            rfl
          rw [this] at hK; cases hK
      have h14 := hN K hk1
      cases hq : vwCl[(kT K).2]? with
      | none => exact absurd (List.getElem?_eq_none_iff.mp hq) (by show ¬ 14 ≤ _; omega)
      | some q =>
        obtain ⟨q', hq', _, _, _, _, _, hcn, _⟩ := okVs hq
        rw [hq] at hq'
        cases hq'
        exact ⟨q, rfl, by rw [hM.2.1, ← hk2]; exact hcn.symm⟩
    obtain ⟨q, hq, hqn⟩ := hclN
    have hrec := va_recv hK hP hq g1
    rw [hqn] at hrec
    have hcw := cwV (R := R) (mar cm) hts (goodIn_app (a := [_, _, _, _]) (fun w hw => by
      simp only [List.mem_cons, List.not_mem_nil, or_false] at hw
      rcases hw with rfl | rfl | rfl | rfl
      · exact goodIn_1 w1 _ (List.mem_singleton.mpr rfl)
      · exact goodIn_1 w2 _ (List.mem_singleton.mpr rfl)
      · exact goodIn_1 w3 _ (List.mem_singleton.mpr rfl)
      · exact goodIn_1 hM.2.2.2.2.1 _ (List.mem_singleton.mpr rfl)) (goodIn_tb hcode) : GoodIn tb (wsV (cN (mcl mid)) k (mnm cm).cls (mnm cm) (Cond.code (mnm cm) (mcode cm) (mml cm) (mft cm) :: tb))) rfl rfl rfl ⟨rfl, hnn⟩ hrm
    exact hgo (.ref a :: cb.reverse) c1 _ hc1 (va_runV (As := cb.reverse) (b := a) hS5 (hmet _ hvs) hcw ⟨cPc2_blind, hrec, fun U hU hW => hpc _ U hU hW⟩ rfl hlen hl9.1 (by show cb ++ .ref a :: c1 = _; rw [List.reverse_reverse]) (lv_room (by have := hc1.weigh; omega)) hd hfits)
  · obtain ⟨cb, c1, rfl, hcb, hc1⟩ := hst.app
    have hrev := hcb.rev
    rw [List.reverse_reverse] at hrev
    have hlen : cb.reverse.length = mar cm := by rw [hrev.len]; exact hB
    rcases ht with rfl | rfl
    · obtain ⟨w1, w2, w3, w4⟩ := hoc.2.2.1 rfl
      have hcw := cwS (R := R) (mar cm) hts (goodIn_app (a := [_, _, _]) (fun w hw => by
        simp only [List.mem_cons, List.not_mem_nil, or_false] at hw
        rcases hw with rfl | rfl | rfl
        · exact goodIn_1 w1 _ (List.mem_singleton.mpr rfl)
        · exact goodIn_1 w2 _ (List.mem_singleton.mpr rfl)
        · exact goodIn_1 w4 _ (List.mem_singleton.mpr rfl)) (goodIn_tb hcode) : GoodIn tb (wsS (cN (mcl mid)) k (mnm cm) (Cond.code (mnm cm) (mcode cm) (mml cm) (mft cm) :: tb))) rfl rfl rfl ⟨w3, hnn⟩ hrm
      exact hgo cb.reverse c1 _ hc1 (va_runS (As := cb.reverse) hS5 (hmet _ hrev) hcw ⟨cPc2_blind, fun U hU hW => hpc _ U hU hW⟩ rfl hlen hl9.1 (by show cb ++ c1 = _; rw [List.reverse_reverse]) (lv_room (by have := hc1.weigh; omega)) hd hfits)
    · obtain ⟨_, w1, w2⟩ := hoc.2.2.2.1 rfl
      exact hgo cb.reverse c1 _ hc1 (va_runSN (As := cb.reverse) hS5 (hmet _ hrev) ⟨va_cnB (R := R) (mar cm) hts (goodIn_tb hcode) rfl rfl rfl (htn.1 _ w1) (hts _ hM.2.2.2.2.1) hnn hrm, hts _ w2, trivial⟩ ⟨cPc2_blind, fun U hU hW => hpc _ U hU hW⟩ rfl hlen hl9.1 (by show cb ++ c1 = _; rw [List.reverse_reverse]) (lv_room (by have := hc1.weigh; omega)) hd hfits)
  · obtain ⟨cb, c2, rfl, hcb, hc2⟩ := hst.app
    obtain ⟨a, c1, rfl, ha, hc1⟩ := hc2.ref
    have hrev := hcb.rev
    rw [List.reverse_reverse] at hrev
    have hvs : strel ad (vr (some (K, i)) :: B) (.ref a :: cb.reverse) := ⟨⟨a, ha, rfl⟩, hrev⟩
    have hlen : cb.reverse.length = mar cm := by rw [hrev.len]; exact hB
    have hft : mft cm = none := by
      have := hM.2.2.2.2.2.2
      rw [cal_i hf ht] at this
      exact this
    rw [hft] at hmet hcode
    rcases ht with rfl | rfl
    · obtain ⟨_, w1, w2, w3⟩ := hoc.2.2.2.2.1 rfl
      exact hgo (.ref a :: cb.reverse) c1 _ hc1 (va_runI (As := cb.reverse) (b := a) hS5 (hmet _ hvs) (cwI (R := R) (mar cm) hts (goodIn_tb hcode) rfl rfl rfl (hts _ hM.2.2.2.2.1) (hts _ w1) (hts _ w2) w3 hnn hrm) ⟨cPc2_blind, fun U hU hW => hpc _ U hU hW⟩ rfl hlen hl9.1 (by show cb ++ .ref a :: c1 = _; rw [List.reverse_reverse]) (lv_room (by have := hc1.weigh; omega)) hd hfits)
    · obtain ⟨_, w1, w2, w3⟩ := hoc.2.2.2.2.2.1 rfl
      exact hgo (.ref a :: cb.reverse) c1 _ hc1 (va_runIN (As := cb.reverse) (b := a) hS5 (hmet _ hvs) ⟨va_cnB (R := R) (mar cm) hts (goodIn_tb hcode) rfl rfl rfl (htn.1 _ w1) (hts _ hM.2.2.2.2.1) hnn hrm, w3, hts _ w2⟩ ⟨cPc2_blind, fun U hU hW => hpc _ U hU hW⟩ rfl hlen hl9.1 (by show cb ++ .ref a :: c1 = _; rw [List.reverse_reverse]) (lv_room (by have := hc1.weigh; omega)) hd hfits)
def okH (c : Nat) : Prop := Cond.codeWith (mnm c) (mcode c) (mml c) (mft c) (hhL c) ∈ tb ∧ (mnm c).cls = cN (mcl c) ∧ plainName (mnm c).cls = true ∧ ((mnm c).cls ≠ "java/lang/invoke/MethodHandle" ∧ (mnm c).cls ≠ "java/lang/invoke/VarHandle" ∧ (parseMethodDescriptor (mnm c).desc).map (fun d => d.parameters.length) = some (mar c)) ∧ mml c ≤ 40 ∧ okT c
set_option maxRecDepth 100000 in
theorem oh1 : okH 1 := ⟨tbm 1182 ⟨rfl, by decide +kernel⟩, rfl, by decide +kernel, by decide +kernel, Nat.le_of_ble_eq_true rfl, rfl⟩
set_option maxRecDepth 100000 in
theorem oh2 : okH 2 := ⟨tbm 1251 ⟨rfl, by decide +kernel⟩, rfl, by decide +kernel, by decide +kernel, Nat.le_of_ble_eq_true rfl, rfl⟩
set_option maxRecDepth 100000 in
theorem oh3 : okH 3 := ⟨tbm 1258 ⟨rfl, by decide +kernel⟩, rfl, by decide +kernel, by decide +kernel, Nat.le_of_ble_eq_true rfl, rfl⟩
theorem cal_low : ∀ e ∈ calL, e.2.2.1 ≤ 4 → e.2.2.2 < 4 → e.2.2.1 = 1 ∧ (e.2.2.2 = 1 ∨ e.2.2.2 = 2 ∨ e.2.2.2 = 3) := by decide +kernel
theorem Met.ofWH2 {y : MethodName} {ws ws' : List Cond} {rm : Room} {Pc : Array Value → State → Prop} {Qc : Array Value → State → Outcome → State → Prop} {mc ms : Nat} {free : Addr → Prop} {cc : ByteArray} {maxL : Nat} {ret : Option FieldType} {hh : List (Nat × Nat × Nat × Nat)}
    (hy : plainName y.cls = true) (hw : ws = Cond.codeWith y cc maxL ret hh :: ws')
    (body : ∀ p e s m args below meth c s₁, BodyLoose p lc y (headSpec ws rm) cc maxL ret e s m args below meth c s₁ → c.maxLocals = maxL → c.exceptionTable.toList = tableOf hh → Pc args s →
      W p lc e (headSpec ws rm).room s m args below meth c s.heap [] 0 0 (MQ below Qc args s mc ms free) (entryFrame m args maxL)) : Met lc y ws rm Pc Qc mc ms free := by
  refine MetFree.of_bodyS (code := cc) (maxLocals := maxL) (ret := ret) hy ?_ ?_
  · intro args s m h hn
    obtain ⟨m9, meth, c, hn9, h1, h2, h3, h4, -, h5, h6, -⟩ := Cond.codeWith_spec (atoms_spec (ws := ws) h _ (by rw [hw]; exact List.mem_cons_self))
    cases hn.symm.trans hn9
    exact ⟨meth, c, h1, h2, h3, h4, h5, h6⟩
  · intro p e s m args below meth c s₁ B hml hP _
    have hh0 : s₁.heap = s.heap := by rw [B.state]; rfl
    obtain ⟨t, a1, o, b1, b2, b3⟩ := body p e s m args below meth c s₁ B hml (vx_table (x := y) B (atoms_spec (ws := ws) B.pre _ (by rw [hw]; exact List.mem_cons_self))) hP s₁ hh0 (Stand.of_body B)
    exact ⟨t, o, a1, b1, b2, ⟨b3.1, b3.2⟩⟩
/-- a call of one of the law's helpers -/
theorem rl_callH {n cm k tg : Nat} {As : List aV} {v1 : aR} {i9 : Instr} (ih : SIM2 lc D G A n) (hI : FIV cm 0 (am_ent (mml cm) As) []) (hkm : KMe σ) (hwx : Wx s) (C : Cx mid (d + 1) G A p R s m args meth c) (hd : decode (mcode mid) pc = .ok (i9, 3)) (hf : cal (mcl mid) k = some (tg, cm)) (hcm : cm < 4)
    (hkind : (tg = 0 ∧ i9 = .invokevirtual k ∧ ∃ K i B, As = vr (some (K, i)) :: B ∧ st = B.reverse ++ vr (some (K, i)) :: r ∧ B.length = mar cm ∧ (kT K).1 = 0 ∧ (kT K).2 = mcl cm) ∨ ((tg = 1 ∨ tg = 2) ∧ i9 = .invokestatic k ∧ st = As.reverse ++ r ∧ As.length = mar cm) ∨ ((tg = 3 ∨ tg = 4) ∧ i9 = .invokespecial k ∧ ∃ K i B, As = vr (some (K, i)) :: B ∧ st = B.reverse ++ vr (some (K, i)) :: r ∧ B.length = mar cm ∧ (kT K).1 = 0))
    (hl : (am_ea As).length ≤ mml cm) (hr4 : r.length ≤ 4) (hcall : am_ex n d cm 0 (am_ent (mml cm) As) [] σ (fun v t => v = v1 ∧ t = σ1)) (hb : (gB σ).1 ≤ (gB σ1).1 ∧ (gB σ).2 ≤ (gB σ1).2) (hroom : (gB σ1).1 ≤ R.cells + b0.1 ∧ (gB σ1).2 ≤ R.slots + b0.2)
    (kk : match (motive := aR → Prop) v1 with
      | none => False
      | some none => Rl D G A mid p lc e R s m args below meth c Z ad0 b0 (pc + 3) l r σ1
      | some (some v) => Rl D G A mid p lc e R s m args below meth c Z ad0 b0 (pc + 3) l (v :: r) σ1) : Rl D G A mid p lc e R s m args below meth c Z ad0 b0 pc l st σ := by
  intro H locs cells slots ls cst ad bk ws tys lv hH hS hle hl9 hlr hll hst h1 h2
  have hoc := ok_cal hf
  have hv1 : v1 ≠ none := by rintro rfl; exact kk.elim
  obtain ⟨htg, hc3⟩ := cal_low _ (lk_s (L := calL) hf) (by rcases hkind with ⟨h, _⟩ | ⟨h | h, _⟩ | ⟨h | h, _⟩ <;> (show tg ≤ 4; omega)) hcm
  have htg : tg = 1 := htg
  have hM : okH cm := by rcases hc3 with h | h | h <;> (have h : cm = _ := h; subst h; first | exact oh1 | exact oh2 | exact oh3)
  subst htg
  rcases hkind with ⟨h, _⟩ | ⟨-, rfl, rfl, hB⟩ | ⟨h | h, _⟩
  · cases h
  · obtain ⟨hx, hbc, hml, hown, hts, hlk, hrt, hini, hfr, hlo, hxf, hA, htn⟩ := id C
    have hmm := hM.2.2.2.2.1
    obtain ⟨cb, c1, rfl, hcb, hc1⟩ := hst.app
    have hrev := hcb.rev
    rw [List.reverse_reverse] at hrev
    have hlen : cb.reverse.length = mar cm := by rw [hrev.len]; exact hB
    have hrm : (cRm d σ σ1).frames + 1 ≤ R.frames ∧ 8 + (mml cm + 11) + (cRm d σ σ1).locals ≤ R.locals := by
      have e1 : (cRm d σ σ1).frames = d + 16 := rfl
      have e2 : (cRm d σ σ1).locals = 64 * (d + 16) := rfl
      rw [e1, e2]
      omega
    have hfits : cells + ((gB σ1).1 - (gB σ).1) ≤ R.cells ∧ slots + ((gB σ1).2 - (gB σ).2) ≤ R.slots := ⟨by omega, by omega⟩
    have hS5 : CallFix p m c (mcode mid) (mml mid) s args tb (cN (mcl mid)) := ⟨hx, hbc, hml, hown, hts⟩
    have hmet : Met lc (mnm cm) (Cond.codeWith (mnm cm) (mcode cm) (mml cm) (mft cm) (hhL cm) :: tb) (cRm d σ σ1) (cPc2 D G A σ ad bk ws tys H cb.reverse) (cQ D G A ad σ1 v1) ((gB σ1).1 - (gB σ).1) ((gB σ1).2 - (gB σ).2) A := by
      refine Met.ofWH2 (cc := mcode cm) (maxL := mml cm) (ret := mft cm) (hh := hhL cm) hM.2.2.1 rfl ?_
      intro p e s m args below meth c s₁ B hml ht hv
      obtain ⟨rfl, hv, hw⟩ := hv
      have hts := atoms_spec (ws := Cond.codeWith (mnm cm) (mcode cm) (mml cm) (mft cm) (hhL cm) :: tb) B.pre
      have hown : s.vm.findClass (mnm cm).cls = some m.cls := findClass_of_methodNamed B.named
      have hnm := (name_of_methodNamed B.named B.method).1
      exact body2 ih hcall hI hkm hrev hl hb B.exec B.bytes hml (by rw [← hM.2.1]; exact hown) (fun w hw => hts w (List.mem_cons_of_mem _ hw)) B.notSynchronized B.returns hnm (fun _ _ _ => ht) hv hw ⟨fin_ok2 hM.2.2.2.2.2 B.exec B.bytes B.returns B.notSynchronized, fun e => absurd e hv1⟩
    obtain ⟨w1, w2, w3, w4⟩ := hoc.2.2.1 rfl
    have hcw : vx_CSW R s args (cN (mcl mid)) k (mnm cm) (mcode cm) (mml cm) (mft cm) (hhL cm) (Cond.codeWith (mnm cm) (mcode cm) (mml cm) (mft cm) (hhL cm) :: tb) (cRm d σ σ1) ((gB σ1).1 - (gB σ).1) ((gB σ1).2 - (gB σ).2) (mar cm) := by
      refine ⟨⟨rfl, rfl, hrm.1, hrm.2, pay_in hts (fun w hw => ?_), List.mem_cons_self⟩, hts _ hM.1, ?_, ⟨hM.2.2.2.1.1, hM.2.2.2.1.2.1⟩, fun sig h => ?_, hts _ w1, hts _ w2⟩
      · have hw : w ∈ tb := by
          rcases List.mem_cons.mp hw with rfl | hw
          · exact hM.1
          · exact hw
        exact ⟨hw, good_of_word (List.mem_filter.mp hw).2⟩
      · have : (mnm cm).cls = cN (mcl mid) := w3
        rw [this]; exact hts _ w4
      · have h2 := hM.2.2.2.1.2.2
        rw [h] at h2
        exact (Option.some.inj h2).symm
    have hrun := vx_runSW (As := cb.reverse) (rest := c1) (H := H) (locs := locs) (cells := cells) (slots := slots) (g := F0 m pc ls (cb ++ c1)) (below := below) (meth := meth) (e := e) hS5 hmet hcw ⟨cPc2_blind, fun U hU hW => ⟨rfl, ⟨hU, hH.moved hW.alike, hxf.on hW.alike hS, tbn_w hW htn, fun q hq => hA q (Nat.le_trans hS.1 hq)⟩, Wx.warm hW hwx⟩⟩ rfl hlen hl9.1 (by show cb ++ c1 = _; rw [List.reverse_reverse]) (lv_room (by have := hc1.weigh; omega)) hd hfits
    refine run_go hrun hS (fun w H1 locs1 u hw hH1 hS1 hle1 => ?_)
    rcases v1 with _ | _ | v
    · exact kk.elim
    · have hw : w = [] := hw
      subst hw
      exact kk H1 locs1 _ _ ls c1 u.1 u.2.1 u.2.2.1 u.2.2.2 lv hH1 hS1 (hle.trans hle1) hl9 (hlr.mono hle1) hll (hc1.mono hle1) (by omega) (by omega)
    · obtain ⟨x, rfl, hv⟩ := hw
      exact kk H1 locs1 _ _ ls (x :: c1) u.1 u.2.1 u.2.2.1 u.2.2.2 lv hH1 hS1 (hle.trans hle1) hl9 (hlr.mono hle1) hll ⟨hv, hc1.mono hle1⟩ (by omega) (by omega)
  · cases h
  · cases h
end SIMK2
end SIMC2
