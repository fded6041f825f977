/-! a method's end; a call -/
theorem HR.moved {D : va_G} {G : xG} {A : Nat → Prop} {s t : State} {σ : aM} {ad bk : sA} {ws : va_W} {tys : List (ClassId × FieldType)} {H : Heap} (hvm : s.vm.Alike t.vm) (h : HR D G A s σ ad bk ws tys H) : HR D G A t σ ad bk ws tys H := by
  obtain ⟨h1, h2, h3⟩ := h
  exact ⟨h1, h2.moved hvm, h3⟩
theorem tbn_f : ∀ w ∈ tbn, ∃ a i x h, w = Cond.methodLinkNest a i x h := by
  intro w hw
  simp only [tbn, List.mem_cons, List.not_mem_nil, or_false] at hw
  rcases hw with rfl | rfl | rfl | rfl | rfl | rfl | rfl <;> exact ⟨_, _, _, _, rfl⟩
theorem tbn_w {G : xG} {s U : State} (hW : s.WarmedH U.vm) (h : Wn G s) : Wn G U := by
  obtain ⟨h1, h2, h3, h4, h5, h6⟩ := h
  refine ⟨fun w hw => ?_, fun c k t e => ?_, fun q hq => va_Nw.warmC hW (h3 q hq), va_Nw.warmC hW h4, va_AO.moved hW.alike h5, va_Dc.moved hW.alike h6⟩
  · obtain ⟨a, i, x, hh, rfl⟩ := tbn_f w hw
    exact va_Nw.warmM hW (h1 _ hw)
  · obtain ⟨tx, h⟩ := h2 c k t e
    exact ⟨tx, vk_R.warm hW h⟩
theorem tbn_v {G : xG} {s U : State} (hv : s.vm = U.vm) (h : Wn G s) : Wn G U := by
  obtain ⟨h1, h2, h3, h4, h5, h6⟩ := h
  have hA : s.vm.Alike U.vm := by rw [← hv]; exact Vm.Alike.refl s.vm
  refine ⟨fun w hw => ?_, fun c k t e => ?_, fun q hq => va_Nw.same rfl hv (h3 q hq), va_Nw.same rfl hv h4, va_AO.moved hA h5, va_Dc.moved hA h6⟩
  · obtain ⟨a, i, x, hh, rfl⟩ := tbn_f w hw
    exact va_Nw.same rfl hv (h1 _ hw)
  · obtain ⟨tx, h⟩ := h2 c k t e
    exact ⟨tx, vk_R.same hv.symm h⟩
/-- a method returns v at pc -/
def RET (mid pc : Nat) (ad : sA) (cst : List Value) : aR → Prop
  | none => False
  | some none => decode (mcode mid) pc = .ok (.return_, 1) ∧ cst = [] ∧ mrt mid = 0
  | some (some (.inl x)) => decode (mcode mid) pc = .ok (.ireturn, 1) ∧ cst = [.int x] ∧ (mrt mid = 1 ∨ (mrt mid = 2 ∧ (x = 0 ∨ x = 1)))
  | some (some (.inr (.inl x))) => decode (mcode mid) pc = .ok (.lreturn, 1) ∧ cst = [.long x] ∧ mrt mid = 3
  | some (some (.inr (.inr q))) => decode (mcode mid) pc = .ok (.areturn, 1) ∧ (∃ w, cst = [w] ∧ vrel ad (vr q) w) ∧ mrt mid = 4
def Fin9 (D : va_G) (G : xG) (A : Nat → Prop) (mid : Nat) (p : Program) (lc : Launch) (e : Env) (R : Room) (s : State) (m : MethodId) (args : Array Value) (below : List Frame) (meth : Method) (c : Code) (Z : State → Prop) (ad0 : sA) (b0 : Nat × Nat) (v1 : aR) (σ1 : aM) : Prop :=
  ∀ (H : Heap) (locs : List Loc) (cells slots : Nat) (ls : Array Slot) (cst : List Value) (ad bk : sA) (ws : va_W) (tys : List (ClassId × FieldType)) (pc : Nat),
    HR D G A s σ1 ad bk ws tys H → va_S A s.heap H locs → sm_le ad0 ad → cells + b0.1 ≤ (gB σ1).1 → slots + b0.2 ≤ (gB σ1).2 → RET mid pc ad cst v1 → W p lc e R s m args below meth c H locs cells slots Z (F0 m pc ls cst)
/-- the run of fuel n is followed -/
def SIMn (lc : Launch) (D : va_G) (G : xG) (A : Nat → Prop) (n : Nat) : Prop :=
  ∀ (d mid pc : Nat) (l : aL) (st : List aV) (σ : aM) (v1 : aR) (σ1 : aM), am_ex n d mid pc l st σ (fun v t => v = v1 ∧ t = σ1) →
    ∀ (p : Program) (e : Env) (R : Room) (s : State) (m : MethodId) (args : Array Value) (below : List Frame) (meth : Method) (c : Code) (Z : State → Prop) (ad0 : sA) (b0 : Nat × Nat), Cx mid d G A p R s m args meth c → (gB σ1).1 ≤ R.cells + b0.1 ∧ (gB σ1).2 ≤ R.slots + b0.2 → Fin9 D G A mid p lc e R s m args below meth c Z ad0 b0 v1 σ1 → Rl D G A mid p lc e R s m args below meth c Z ad0 b0 pc l st σ
theorem strel.app {ad : sA} : ∀ {a b : List aV} {cs : List Value}, strel ad (a ++ b) cs → ∃ c1 c2, cs = c1 ++ c2 ∧ strel ad a c1 ∧ strel ad b c2
  | [], _, cs, h => ⟨[], cs, rfl, trivial, h⟩
  | v :: a, b, cs, h => by
    obtain ⟨w, c2, rfl, h1, h2⟩ := strel.cons (show strel ad (v :: (a ++ b)) cs from h)
    obtain ⟨d1, d2, rfl, h3, h4⟩ := strel.app h2
    exact ⟨w :: d1, d2, rfl, ⟨h1, h3⟩, h4⟩
theorem strel.join {ad : sA} : ∀ {a b : List aV} {c1 c2 : List Value}, strel ad a c1 → strel ad b c2 → strel ad (a ++ b) (c1 ++ c2)
  | [], _, [], _, _, h => h
  | _ :: _, _, _ :: _, _, ⟨h1, h2⟩, h => ⟨h1, h2.join h⟩
  | [], _, _ :: _, _, e, _ => e.elim
  | _ :: _, _, [], _, e, _ => e.elim
theorem strel.rev {ad : sA} : ∀ {a : List aV} {cs : List Value}, strel ad a cs → strel ad a.reverse cs.reverse
  | [], [], _ => trivial
  | v :: a, w :: cs, ⟨h1, h2⟩ => by
    rw [List.reverse_cons, List.reverse_cons]
    exact h2.rev.join ⟨h1, trivial⟩
  | [], _ :: _, e => e.elim
  | _ :: _, [], e => e.elim
theorem pop_s : ∀ (n : Nat) (st As r : List aV), am_pop n st = some (As, r) → st = As.reverse ++ r ∧ As.length = n
  | 0, st, As, r, h => by
    cases h
    exact ⟨rfl, rfl⟩
  | n + 1, [], As, r, h => by cases h
  | n + 1, v :: st, As, r, h => by
    unfold am_pop at h
    cases hp : am_pop n st with
    | none => rw [hp] at h; cases h
    | some q =>
      rw [hp] at h
      cases h
      obtain ⟨h1, h2⟩ := pop_s n st q.1 q.2 hp
      exact ⟨by rw [h1]; simp, by simp [h2]⟩
theorem ea_len {ad : sA} : ∀ {As : List aV} {vs : List Value}, strel ad As vs → (lg_sl vs).length = (am_ea As).length
  | [], [], _ => rfl
  | v :: As, w :: vs, ⟨h1, h2⟩ => by
    have ih := ea_len h2
    rcases v with x | x | _ | q
    · cases h1; simp only [lg_sl, am_ea, List.flatMap_cons, List.length_append] at ih ⊢; rw [ih]; rfl
    · cases h1; simp only [lg_sl, am_ea, List.flatMap_cons, List.length_append] at ih ⊢; rw [ih]; rfl
    · cases h1; simp only [lg_sl, am_ea, List.flatMap_cons, List.length_append] at ih ⊢; rw [ih]; rfl
    · obtain ⟨a, -, rfl⟩ := h1; simp only [lg_sl, am_ea, List.flatMap_cons, List.length_append] at ih ⊢; rw [ih]; rfl
  | [], _ :: _, e => e.elim
  | _ :: _, [], e => e.elim
theorem ea_at {ad : sA} : ∀ {As : List aV} {vs : List Value} (i k : Nat) (v : aV), strel ad As vs → (am_ea As)[k]? = some (some v) → ∃ w, (i + k, w) ∈ lv_args i vs ∧ vrel ad v w
  | [], [], _, _, _, _, h => by simp [am_ea] at h
  | u :: As, w :: vs, i, k, v, ⟨h1, h2⟩, h => by
    have hs : ∀ (y : aV) (w : Value), u = y → vrel ad y w → (∀ x, y ≠ vl x) → am_ea (y :: As) = some y :: am_ea As := by
      intro y w _ _ hy
      rcases y with x | x | q
      · rfl
      · exact absurd rfl (hy x)
      · rfl
    by_cases hu : ∃ x, u = vl x
    · obtain ⟨x, rfl⟩ := hu
      cases h1
      rw [show am_ea (vl x :: As) = some (vl x) :: none :: am_ea As from rfl] at h
      match k with
      | 0 => simp at h; subst h; exact ⟨_, List.mem_cons_self, rfl⟩
      | 1 => simp at h
      | k + 2 =>
        simp only [List.getElem?_cons_succ] at h
        obtain ⟨w2, g1, g2⟩ := ea_at (i + 2) k v h2 h
        refine ⟨w2, List.mem_cons_of_mem _ ?_, g2⟩
        rw [show i + (k + 2) = i + 2 + k by omega]
        exact g1
    · have hu : ∀ x, u ≠ vl x := fun x e => hu ⟨x, e⟩
      rw [hs u w rfl h1 hu] at h
      match k with
      | 0 => simp at h; subst h; exact ⟨_, List.mem_cons_self, h1⟩
      | k + 1 =>
        simp only [List.getElem?_cons_succ] at h
        obtain ⟨w2, g1, g2⟩ := ea_at (i + 1) k v h2 h
        refine ⟨w2, List.mem_cons_of_mem _ ?_, g2⟩
        have hc : ¬ w.category = 2 := fun hc => by
          obtain ⟨x, hx⟩ := (vcat h1).mp hc
          exact hu x hx
        rw [if_neg hc, show i + (k + 1) = i + 1 + k by omega]
        exact g1
  | [], _ :: _, _, _, _, e, _ => e.elim
  | _ :: _, [], _, _, _, e, _ => e.elim
abbrev sS : Type := sA × sA × va_W × List (ClassId × FieldType)
section SIMC
variable {D : va_G} {G : xG} {A : Nat → Prop} {lc : Launch}
/-- a callee's start -/
def cPc (D : va_G) (G : xG) (A : Nat → Prop) (σ : aM) (ad bk : sA) (ws : va_W) (tys : List (ClassId × FieldType)) (H : Heap) (vs : List Value) : Array Value → State → Prop :=
  va_Pc vs (fun U => U.heap = H ∧ HR D G A U σ ad bk ws tys H ∧ xf G A U H ∧ Wn G U ∧ ∀ q, H.size ≤ q → A q)
def cB (D : va_G) (G : xG) (A : Nat → Prop) (σ1 : aM) : sS → State → Prop := fun u t => HR D G A t σ1 u.1 u.2.1 u.2.2.1 u.2.2.2 t.heap
theorem cPc_blind {σ : aM} {ad bk : sA} {ws : va_W} {tys : List (ClassId × FieldType)} {H : Heap} {vs : List Value} : FrameBlind (cPc D G A σ ad bk ws tys H vs) := by
  rintro a U g mk ⟨h0, h1, h2, h3, h4, h5⟩
  exact ⟨h0, h1, h2.moved (Vm.Alike.refl U.vm), h3.on (Vm.Alike.refl U.vm) va_S.rf, tbn_v (s := U) rfl h4, h5⟩
def cRm (d : Nat) (σ σ1 : aM) : Room := { frames := d + 16, cells := (gB σ1).1 - (gB σ).1, slots := (gB σ1).2 - (gB σ).2, locals := 64 * (d + 16) }
/-- what a callee's body needs -/
theorem met_body {n d cm : Nat} {As : List aV} {vs : List Value} {σ σ1 : aM} {v1 : aR} {ad bk : sA} {ws : va_W} {tys : List (ClassId × FieldType)} {H : Heap} (ih : SIMn lc D G A n) (hcall : am_ex n d cm 0 (am_ent (mml cm) As) [] σ (fun v t => v = v1 ∧ t = σ1)) (hM : okM cm) (hvs : strel ad As vs) (hl : (am_ea As).length ≤ mml cm) (hb : (gB σ).1 ≤ (gB σ1).1 ∧ (gB σ).2 ≤ (gB σ1).2)
    {Qc : Array Value → State → Outcome → State → Prop}
    (hfin : ∀ (p : Program) (e : Env) (s : State) (m : MethodId) (args : Array Value) (below : List Frame) (meth : Method) (c : Code), p.tables.exec = Jvm.exec → c.code = mcode cm → meth.sig.returnType = mft cm → meth.locks = false → s.heap = H → Fin9 D G A cm p lc e (cRm d σ σ1) s m args below meth c (MQ below Qc args s ((gB σ1).1 - (gB σ).1) ((gB σ1).2 - (gB σ).2) A) ad (gB σ) v1 σ1) :
    Met lc (mnm cm) (Cond.code (mnm cm) (mcode cm) (mml cm) (mft cm) :: tb) (cRm d σ σ1) (cPc D G A σ ad bk ws tys H vs) Qc ((gB σ1).1 - (gB σ).1) ((gB σ1).2 - (gB σ).2) A := by
  refine Met.ofW (cc := mcode cm) (maxL := mml cm) (ret := mft cm) hM.2.2.1 rfl ?_
  intro p e s m args below meth c s₁ B hml hv
  obtain ⟨rfl, hh, hHR, hxf, htn, hA⟩ := hv
  have hts := atoms_spec (ws := Cond.code (mnm cm) (mcode cm) (mml cm) (mft cm) :: tb) B.pre
  have hown : s.vm.findClass (mnm cm).cls = some m.cls := findClass_of_methodNamed B.named
  have hnm := (name_of_methodNamed B.named B.method).1
  subst hh
  have C : Cx cm d G A p (cRm d σ σ1) s m vs.toArray meth c := ⟨B.exec, B.bytes, hml, by rw [← hM.2.1]; exact hown, fun w hw => hts w (List.mem_cons_of_mem _ hw), B.notSynchronized, B.returns, fun h => by
    rw [hnm]; unfold am_isi at h; simpa using h, Nat.le_refl _, Nat.le_refl _, hxf, hA, htn⟩
  have hR := ih d cm 0 _ [] σ v1 σ1 hcall p e (cRm d σ σ1) s m vs.toArray below meth c _ ad (gB σ) C ⟨by show _ ≤ (gB σ1).1 - (gB σ).1 + (gB σ).1; omega, by show _ ≤ (gB σ1).2 - (gB σ).2 + (gB σ).2; omega⟩ (hfin p e s m vs.toArray below meth c B.exec B.bytes B.returns B.notSynchronized rfl)
  have hle := ea_len hvs
  have hent := lv_entry vs (n := mml cm) (by omega)
  rw [lg_entry_eq]
  refine hR s.heap [] 0 0 _ [] ad bk ws tys (lv_args 0 vs) hHR va_S.rf (sm_le.refl ad) hent (fun k v hk => ?_) ?_ trivial (by omega) (by omega)
  · have hk2 : (am_ea As)[k]? = some (some v) := by
      unfold am_ent at hk
      by_cases c : k < (am_ea As).length
      · rw [List.getElem?_append_left c] at hk; exact hk
      · rw [List.getElem?_append_right (by omega)] at hk
        have := List.mem_of_getElem? hk
        rw [List.mem_replicate] at this
        exact absurd this.2 (by simp)
    have := ea_at 0 k v hvs hk2
    rwa [Nat.zero_add] at this
  · unfold am_ent
    simp only [List.length_append, List.length_replicate]
    omega
def cQ (D : va_G) (G : xG) (A : Nat → Prop) (ad : sA) (σ1 : aM) : aR → Array Value → State → Outcome → State → Prop
  | none => fun _ _ _ _ => False
  | some none => va_Qv (fun (u : sS) => sm_le ad u.1) (cB D G A σ1) A
  | some (some (.inl x)) => va_Qi (fun r (u : sS) => r = x ∧ sm_le ad u.1) (cB D G A σ1) A
  | some (some (.inr (.inl x))) => va_Ql (fun r (u : sS) => r = x ∧ sm_le ad u.1) (cB D G A σ1) A
  | some (some (.inr (.inr q))) => va_Qq (fun (r : Option Nat) (u : sS) => sm_le ad u.1 ∧ vrel u.1 (vr q) (va_rf r)) (cB D G A σ1) A
theorem fin_ok {cm : Nat} {σ σ1 : aM} {v1 : aR} {ad : sA} {p : Program} {e : Env} {R : Room} {s : State} {m : MethodId} {args : Array Value} {below : List Frame} {meth : Method} {c : Code} (hM : okM cm) (hx : p.tables.exec = Jvm.exec) (hb : c.code = mcode cm) (hr : meth.sig.returnType = mft cm) (hk : meth.locks = false) :
    Fin9 D G A cm p lc e R s m args below meth c (MQ below (cQ D G A ad σ1 v1) args s ((gB σ1).1 - (gB σ).1) ((gB σ1).2 - (gB σ).2) A) ad (gB σ) v1 σ1 := by
  intro H locs cells slots ls cst ad1 bk ws tys pc hH hS hle h1 h2 hret
  have hrt := hM.2.2.2.2.2.2
  refine W.widen (k := (gB σ1).1 - (gB σ).1) (n := (gB σ1).2 - (gB σ).2) (by omega) (by omega) ?_
  have hf := hS.2.2
  have hq : ∀ t : State, t.heap = H → s.WarmedH t.vm → cB D G A σ1 (ad1, bk, ws, tys) t ∧ va_F A s t := fun t ht hW => ⟨by show HR D G A t σ1 ad1 bk ws tys t.heap; rw [ht]; exact hH.moved hW.alike, hS.F ht⟩
  rcases v1 with _ | _ | x | x | q
  · exact hret.elim
  · obtain ⟨hd, rfl, ht⟩ := hret
    rw [ht] at hrt
    exact W.vret hx hb (hr.trans hrt) (fun t ht hW => ⟨⟨(ad1, bk, ws, tys), rfl, hle, (hq t ht hW).1⟩, (hq t ht hW).2⟩) hf hd hk
  · obtain ⟨hd, rfl, ht⟩ := hret
    rcases ht with ht | ⟨ht, hx01⟩
    · rw [ht] at hrt
      exact W.iret hx hb (hr.trans hrt) (fun t ht hW => ⟨⟨x, (ad1, bk, ws, tys), rfl, ⟨rfl, hle⟩, (hq t ht hW).1⟩, (hq t ht hW).2⟩) hf hd hk
    · rw [ht] at hrt
      exact W.zret hx hb (hr.trans hrt) (by rcases hx01 with rfl | rfl <;> decide) (fun t ht hW => ⟨⟨x, (ad1, bk, ws, tys), rfl, ⟨rfl, hle⟩, (hq t ht hW).1⟩, (hq t ht hW).2⟩) hf hd hk
  · obtain ⟨hd, rfl, ht⟩ := hret
    rw [ht] at hrt
    exact W.lret hx hb (hr.trans hrt) (fun t ht hW => ⟨⟨x, (ad1, bk, ws, tys), rfl, ⟨rfl, hle⟩, (hq t ht hW).1⟩, (hq t ht hW).2⟩) hf hd hk
  · obtain ⟨hd, ⟨w, rfl, hw⟩, ht⟩ := hret
    rw [ht] at hrt
    obtain ⟨rt, hrt, hrk⟩ := hrt
    obtain ⟨r, rfl⟩ : ∃ r : Option Nat, w = va_rf r := by
      cases q with
      | none => exact ⟨none, hw⟩
      | some q => obtain ⟨a, -, h⟩ := hw; exact ⟨some a, h⟩
    exact W.aret hx hb (hr.trans hrt) hrk (va_rf_or r) (fun t ht hW => ⟨⟨r, (ad1, bk, ws, tys), rfl, ⟨hle, hw⟩, (hq t ht hW).1⟩, (hq t ht hW).2⟩) hf hd hk
/-- what a result lays on the stack -/
def rst (ad : sA) (w : List Value) : aR → Prop
  | none => False
  | some none => w = []
  | some (some v) => ∃ x, w = [x] ∧ vrel ad v x
section SIMR
variable {p : Program} {e : Env} {R : Room} {s : State} {m : MethodId} {args : Array Value} {below : List Frame} {meth : Method} {c : Code} {Z : State → Prop} {pc : Nat} {H : Heap} {locs : List Loc} {cells slots mc ms : Nat} {ls : Array Slot} {st0 rest : List Value} {ad : sA} {σ1 : aM} {a : Array Value}
theorem run_go {v1 : aR} (hr : va_Run p lc e R s m args below meth c H locs cells slots mc ms (F0 m pc ls st0) rest (cQ D G A ad σ1 v1 a) A) (hS : va_S A s.heap H locs)
    (kk : ∀ (w : List Value) (H1 : Heap) (locs1 : List Loc) (u : sS), rst u.1 w v1 → HR D G A s σ1 u.1 u.2.1 u.2.2.1 u.2.2.2 H1 → va_S A s.heap H1 locs1 → sm_le ad u.1 → W p lc e R s m args below meth c H1 locs1 (cells + mc) (slots + ms) Z (F0 m (pc + 3) ls (w ++ rest))) : W p lc e R s m args below meth c H locs cells slots Z (F0 m pc ls st0) := by
  rcases v1 with _ | _ | x | x | q
  · intro T hT X
    obtain ⟨v, st₀, t, T', L, h0, X', hL, e1, e2, hq, st⟩ := hr T hT X
    exact hq.elim
  · refine va_callv (a := a) hr hS (fun _ _ h => h) (fun _ h => h) (fun u t H1 locs1 ht hvm hw hB _ _ hS1 => ?_)
    have hB : HR D G A t σ1 u.1 u.2.1 u.2.2.1 u.2.2.2 t.heap := hB
    rw [ht] at hB
    exact kk [] H1 locs1 u rfl (hB.moved hvm.symm) hS1 hw
  · refine va_calli (a := a) hr hS (fun _ _ h => h) (fun _ h => h) (fun r u t H1 locs1 ht hvm hw hB _ _ hS1 => ?_)
    have hB : HR D G A t σ1 u.1 u.2.1 u.2.2.1 u.2.2.2 t.heap := hB
    rw [ht] at hB
    obtain ⟨rfl, hw⟩ := hw
    exact kk [.int r] H1 locs1 u ⟨_, rfl, rfl⟩ (hB.moved hvm.symm) hS1 hw
  · refine va_calll (a := a) hr hS (fun _ _ h => h) (fun _ h => h) (fun r u t H1 locs1 ht hvm hw hB _ _ hS1 => ?_)
    have hB : HR D G A t σ1 u.1 u.2.1 u.2.2.1 u.2.2.2 t.heap := hB
    rw [ht] at hB
    obtain ⟨rfl, hw⟩ := hw
    exact kk [.long r] H1 locs1 u ⟨_, rfl, rfl⟩ (hB.moved hvm.symm) hS1 hw
  · refine va_callq (a := a) hr hS (fun _ _ h => h) (fun _ h => h) (fun r u t H1 locs1 ht hvm hw hB _ _ hS1 => ?_)
    have hB : HR D G A t σ1 u.1 u.2.1 u.2.2.1 u.2.2.2 t.heap := hB
    rw [ht] at hB
    obtain ⟨hw, hv⟩ := hw
    exact kk [va_rf r] H1 locs1 u ⟨_, rfl, hv⟩ (hB.moved hvm.symm) hS1 hw
end SIMR
theorem cal_i {c k tg t : Nat} (h : cal c k = some (tg, t)) (ht : tg = 3 ∨ tg = 4) : mrt t = 0 := (show ∀ e ∈ calL, (e.2.2.1 = 3 ∨ e.2.2.1 = 4) → mrt e.2.2.2 = 0 by decide +kernel) _ (lk_s (L := calL) h) ht
theorem goodIn_tb {y : MethodName} {b : ByteArray} {n : Nat} {rt : Option FieldType} (h : Cond.code y b n rt ∈ tb) : GoodIn tb (Cond.code y b n rt :: tb) := by
  intro w hw
  have hw : w ∈ tb := by
    rcases List.mem_cons.mp hw with rfl | hw
    · exact h
    · exact hw
  exact ⟨hw, good_of_word (List.mem_filter.mp hw).2⟩
theorem goodIn_1 {w : Cond} (h : w ∈ tb) : GoodIn tb [w] := fun x hx => by
  rw [List.mem_singleton] at hx
  subst hx
  exact ⟨h, good_of_word (List.mem_filter.mp h).2⟩
section SIMK
variable {mid d : Nat} {p : Program} {e : Env} {R : Room} {s : State} {m : MethodId} {args : Array Value} {below : List Frame} {meth : Method} {c : Code} {Z : State → Prop} {ad0 : sA} {b0 : Nat × Nat} {pc : Nat} {l : aL} {st r : List aV} {σ σ1 : aM}
/-- a call is followed: of whatever way -/
theorem rl_call {n cm k tg : Nat} {As : List aV} {v1 : aR} {i9 : Instr} (ih : SIMn lc D G A n) (C : Cx mid (d + 1) G A p R s m args meth c) (hd : decode (mcode mid) pc = .ok (i9, 3)) (hf : cal (mcl mid) k = some (tg, cm)) (hcm : 4 ≤ cm)
    (hkind : (tg = 0 ∧ i9 = .invokevirtual k ∧ ∃ K i B, As = vr (some (K, i)) :: B ∧ st = B.reverse ++ vr (some (K, i)) :: r ∧ B.length = mar cm ∧ (kT K).1 = 0 ∧ (kT K).2 = mcl cm) ∨ ((tg = 1 ∨ tg = 2) ∧ i9 = .invokestatic k ∧ st = As.reverse ++ r ∧ As.length = mar cm) ∨ ((tg = 3 ∨ tg = 4) ∧ i9 = .invokespecial k ∧ ∃ K i B, As = vr (some (K, i)) :: B ∧ st = B.reverse ++ vr (some (K, i)) :: r ∧ B.length = mar cm))
    (hl : (am_ea As).length ≤ mml cm) (hr4 : r.length ≤ 4) (hcall : am_ex n d cm 0 (am_ent (mml cm) As) [] σ (fun v t => v = v1 ∧ t = σ1)) (hb : (gB σ).1 ≤ (gB σ1).1 ∧ (gB σ).2 ≤ (gB σ1).2) (hroom : (gB σ1).1 ≤ R.cells + b0.1 ∧ (gB σ1).2 ≤ R.slots + b0.2)
    (kk : match (motive := aR → Prop) v1 with
      | none => False
      | some none => Rl D G A mid p lc e R s m args below meth c Z ad0 b0 (pc + 3) l r σ1
      | some (some v) => Rl D G A mid p lc e R s m args below meth c Z ad0 b0 (pc + 3) l (v :: r) σ1) : Rl D G A mid p lc e R s m args below meth c Z ad0 b0 pc l st σ := by
  intro H locs cells slots ls cst ad bk ws tys lv hH hS hle hl9 hlr hll hst h1 h2
  have hoc := ok_cal hf
  have hM : okM cm := hoc.1 (by rcases hkind with ⟨h, _⟩ | ⟨h | h, _⟩ | ⟨h | h, _⟩ <;> (show tg ≤ 4; omega)) hcm
  obtain ⟨hx, hbc, hml, hown, hts, hlk, hrt, hini, hfr, hlo, hxf, hA, htn⟩ := id C
  have hmm := hM.2.2.2.2.2.1
  have hgo : ∀ (vs : List Value) (c1 : List Value) (a : Array Value), strel ad r c1 → va_Run p lc e R s m args below meth c H locs cells slots ((gB σ1).1 - (gB σ).1) ((gB σ1).2 - (gB σ).2) (F0 m pc ls cst) c1 (cQ D G A ad σ1 v1 a) A → W p lc e R s m args below meth c H locs cells slots Z (F0 m pc ls cst) := by
    intro vs c1 a hc1 hrun
    refine run_go hrun hS (fun w H1 locs1 u hw hH1 hS1 hle1 => ?_)
    rcases v1 with _ | _ | v
    · exact kk.elim
    · have hw : w = [] := hw
      subst hw
      exact kk H1 locs1 _ _ ls c1 u.1 u.2.1 u.2.2.1 u.2.2.2 lv hH1 hS1 (hle.trans hle1) hl9 (hlr.mono hle1) hll (hc1.mono hle1) (by omega) (by omega)
    · obtain ⟨x, rfl, hv⟩ := hw
      exact kk H1 locs1 _ _ ls (x :: c1) u.1 u.2.1 u.2.2.1 u.2.2.2 lv hH1 hS1 (hle.trans hle1) hl9 (hlr.mono hle1) hll ⟨hv, hc1.mono hle1⟩ (by omega) (by omega)
  have hmet : ∀ vs, strel ad As vs → Met lc (mnm cm) (Cond.code (mnm cm) (mcode cm) (mml cm) (mft cm) :: tb) (cRm d σ σ1) (cPc D G A σ ad bk ws tys H vs) (cQ D G A ad σ1 v1) ((gB σ1).1 - (gB σ).1) ((gB σ1).2 - (gB σ).2) A := fun vs hvs =>
    met_body ih hcall hM hvs hl hb (fun p e s m args below meth c hx hb hr hk _ => fin_ok hM hx hb hr hk)
  have hfits : cells + ((gB σ1).1 - (gB σ).1) ≤ R.cells ∧ slots + ((gB σ1).2 - (gB σ).2) ≤ R.slots := ⟨by omega, by omega⟩
  have hpc : ∀ (vs : List Value) (U : State), U.heap = H → s.WarmedH U.vm → cPc D G A σ ad bk ws tys H vs vs.toArray U := fun vs U hU hW => ⟨rfl, hU, hH.moved hW.alike, hxf.on hW.alike hS, tbn_w hW htn, fun q hq => hA q (Nat.le_trans hS.1 hq)⟩
  have hrm : (cRm d σ σ1).frames + 1 ≤ R.frames ∧ 8 + (mml cm + 11) + (cRm d σ σ1).locals ≤ R.locals := by
    have e1 : (cRm d σ σ1).frames = d + 16 := rfl
    have e2 : (cRm d σ σ1).locals = 64 * (d + 16) := rfl
    rw [e1, e2]
    omega
  have hS5 : CallFix p m c (mcode mid) (mml mid) s args tb (cN (mcl mid)) := ⟨hx, hbc, hml, hown, hts⟩
  have hnn := hM.2.2.2.1
  have hcode := hM.1
  rcases hkind with ⟨rfl, rfl, K, i, B, rfl, rfl, hB, hk1, hk2⟩ | ⟨ht, rfl, rfl, hB⟩ | ⟨ht, rfl, K, i, B, rfl, rfl, hB⟩
  · obtain ⟨cb, c2, rfl, hcb, hc2⟩ := hst.app
    obtain ⟨a, c1, rfl, ha, hc1⟩ := hc2.ref
    have hrev := hcb.rev
    rw [List.reverse_reverse] at hrev
    have hvs : strel ad (vr (some (K, i)) :: B) (.ref a :: cb.reverse) := ⟨⟨a, ha, rfl⟩, hrev⟩
    obtain ⟨_, w1, w2, w3⟩ := hoc.2.1 rfl
    have hlen : cb.reverse.length = mar cm := by rw [hrev.len]; exact hB
    obtain ⟨hP, hK, hD, h4, h5, _⟩ := id hH
    obtain ⟨q0, e0, g1, g2⟩ := h5 _ _ _ ha (by omega)
    obtain ⟨fs, rfl, _, _⟩ := g2.1 hk1
    have hclN : ∃ q : vw_C, vwCl[(kT K).2]? = some q ∧ q.1 = (mnm cm).cls := by
      have hN : ∀ K, (kT K).1 = 0 → (kT K).2 < 14 := by
        intro K hK
        rcases Nat.lt_or_ge K 101 with c | c
        · exact (show ∀ K, K < 101 → (kT K).1 = 0 → (kT K).2 < 14 by decide +kernel) K c hK
        · have : kT K = (99, 0) := by
            unfold kT List.getD
            rw [List.getElem?_eq_none (Nat.le_trans (by decide) c)]
            rfl
          rw [this] at hK; cases hK
      have h14 := hN K hk1
      cases hq : vwCl[(kT K).2]? with
      | none => exact absurd (List.getElem?_eq_none_iff.mp hq) (by show ¬ 14 ≤ _; omega)
      | some q =>
        obtain ⟨q', hq', _, _, _, _, _, hcn, _⟩ := okVs hq
        rw [hq] at hq'
        cases hq'
        exact ⟨q, rfl, by rw [hM.2.1, ← hk2]; exact hcn.symm⟩
    obtain ⟨q, hq, hqn⟩ := hclN
    have hrec := va_recv hK hP hq g1
    rw [hqn] at hrec
    have hcw := cwV (R := R) (mar cm) hts (goodIn_app (a := [_, _, _, _]) (fun w hw => by
      simp only [List.mem_cons, List.not_mem_nil, or_false] at hw
      rcases hw with rfl | rfl | rfl | rfl
      · exact goodIn_1 w1 _ (List.mem_singleton.mpr rfl)
      · exact goodIn_1 w2 _ (List.mem_singleton.mpr rfl)
      · exact goodIn_1 w3 _ (List.mem_singleton.mpr rfl)
      · exact goodIn_1 hM.2.2.2.2.1 _ (List.mem_singleton.mpr rfl)) (goodIn_tb hcode) : GoodIn tb (wsV (cN (mcl mid)) k (mnm cm).cls (mnm cm) (Cond.code (mnm cm) (mcode cm) (mml cm) (mft cm) :: tb))) rfl rfl rfl ⟨rfl, hnn⟩ hrm
    exact hgo (.ref a :: cb.reverse) c1 _ hc1 (va_runV (As := cb.reverse) (b := a) hS5 (hmet _ hvs) hcw ⟨cPc_blind, hrec, fun U hU hW => hpc _ U hU hW⟩ rfl hlen hl9.1 (by show cb ++ .ref a :: c1 = _; rw [List.reverse_reverse]) (lv_room (by have := hc1.weigh; omega)) hd hfits)
  · obtain ⟨cb, c1, rfl, hcb, hc1⟩ := hst.app
    have hrev := hcb.rev
    rw [List.reverse_reverse] at hrev
    have hlen : cb.reverse.length = mar cm := by rw [hrev.len]; exact hB
    rcases ht with rfl | rfl
    · obtain ⟨w1, w2, w3, w4⟩ := hoc.2.2.1 rfl
      have hcw := cwS (R := R) (mar cm) hts (goodIn_app (a := [_, _, _]) (fun w hw => by
        simp only [List.mem_cons, List.not_mem_nil, or_false] at hw
        rcases hw with rfl | rfl | rfl
        · exact goodIn_1 w1 _ (List.mem_singleton.mpr rfl)
        · exact goodIn_1 w2 _ (List.mem_singleton.mpr rfl)
        · exact goodIn_1 w4 _ (List.mem_singleton.mpr rfl)) (goodIn_tb hcode) : GoodIn tb (wsS (cN (mcl mid)) k (mnm cm) (Cond.code (mnm cm) (mcode cm) (mml cm) (mft cm) :: tb))) rfl rfl rfl ⟨w3, hnn⟩ hrm
      exact hgo cb.reverse c1 _ hc1 (va_runS (As := cb.reverse) hS5 (hmet _ hrev) hcw ⟨cPc_blind, fun U hU hW => hpc _ U hU hW⟩ rfl hlen hl9.1 (by show cb ++ c1 = _; rw [List.reverse_reverse]) (lv_room (by have := hc1.weigh; omega)) hd hfits)
    · obtain ⟨_, w1, w2⟩ := hoc.2.2.2.1 rfl
      exact hgo cb.reverse c1 _ hc1 (va_runSN (As := cb.reverse) hS5 (hmet _ hrev) ⟨va_cnB (R := R) (mar cm) hts (goodIn_tb hcode) rfl rfl rfl (htn.1 _ w1) (hts _ hM.2.2.2.2.1) hnn hrm, hts _ w2, trivial⟩ ⟨cPc_blind, fun U hU hW => hpc _ U hU hW⟩ rfl hlen hl9.1 (by show cb ++ c1 = _; rw [List.reverse_reverse]) (lv_room (by have := hc1.weigh; omega)) hd hfits)
  · obtain ⟨cb, c2, rfl, hcb, hc2⟩ := hst.app
    obtain ⟨a, c1, rfl, ha, hc1⟩ := hc2.ref
    have hrev := hcb.rev
    rw [List.reverse_reverse] at hrev
    have hvs : strel ad (vr (some (K, i)) :: B) (.ref a :: cb.reverse) := ⟨⟨a, ha, rfl⟩, hrev⟩
    have hlen : cb.reverse.length = mar cm := by rw [hrev.len]; exact hB
    have hft : mft cm = none := by
      have := hM.2.2.2.2.2.2
      rw [cal_i hf ht] at this
      exact this
    rw [hft] at hmet hcode
    rcases ht with rfl | rfl
    · obtain ⟨_, w1, w2, w3⟩ := hoc.2.2.2.2.1 rfl
      exact hgo (.ref a :: cb.reverse) c1 _ hc1 (va_runI (As := cb.reverse) (b := a) hS5 (hmet _ hvs) (cwI (R := R) (mar cm) hts (goodIn_tb hcode) rfl rfl rfl (hts _ hM.2.2.2.2.1) (hts _ w1) (hts _ w2) w3 hnn hrm) ⟨cPc_blind, fun U hU hW => hpc _ U hU hW⟩ rfl hlen hl9.1 (by show cb ++ .ref a :: c1 = _; rw [List.reverse_reverse]) (lv_room (by have := hc1.weigh; omega)) hd hfits)
    · obtain ⟨_, w1, w2, w3⟩ := hoc.2.2.2.2.2.1 rfl
      exact hgo (.ref a :: cb.reverse) c1 _ hc1 (va_runIN (As := cb.reverse) (b := a) hS5 (hmet _ hvs) ⟨va_cnB (R := R) (mar cm) hts (goodIn_tb hcode) rfl rfl rfl (htn.1 _ w1) (hts _ hM.2.2.2.2.1) hnn hrm, w3, hts _ w2⟩ ⟨cPc_blind, fun U hU hW => hpc _ U hU hW⟩ rfl hlen hl9.1 (by show cb ++ .ref a :: c1 = _; rw [List.reverse_reverse]) (lv_room (by have := hc1.weigh; omega)) hd hfits)
end SIMK
end SIMC
