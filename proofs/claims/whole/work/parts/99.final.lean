/-! from the run of the law to the claim -/
def R_law : String := "FirmTownLaw"
def lw_P (b : Addr) (xs : List Int32) (args : Array Value) (s : State) : Prop := args = #[.ref b] ∧ s.IntsAt b xs ∧ xs.length ≤ 3072 ∧ (Jvm.Cond.and given_1 narrow_1).before args s = true
def lw_Q (_ : Array Value) (s : State) (o : Outcome) (t : State) : Prop := o = .returned (some (.int 1)) ∧ Framed s o t [] 601024 7293034
def lw_Z (below : List Frame) (a : Array Value) (s : State) : State → Prop := fun t => ∃ o, t.status = .running ∧ Ended t below o ∧ lw_Q a s o t
/-- the law's own end, with 1 on the stack, nothing written that was there before, its room as the claim has it -/
theorem lw_ret {p : Program} {l : Launch} {e : Env} {s : State} {m : MethodId} {below : List Frame} {meth : Method} {c : Code} {b : Nat} (hx : p.tables.exec = Jvm.exec) (hb : c.code = code) (hr : meth.sig.returnType = ret) (hlocks : meth.locks = false) {pc : Nat} {H : Heap} {ls : Array Slot} (hdg : decode code pc = .ok (.ireturn, 1)) : W p l e room_1 s m #[Value.ref b] below meth c H [] 601024 7293034 (lw_Z below #[Value.ref b] s) (F0 m pc ls [.int 1]) := by
  intro T hT X
  obtain ⟨fs, hret, hrun, hended, hW, hframe⟩ := X.leave (v := some (.int 1)) (hlocks := hlocks) (fun h => by rw [hr] at h; cases h)
  have hmeth' : T.vm.method? m = some meth := X.method'
  refine ⟨T.setFrames fs, ?_, .returned (some (.int 1)), hrun, hended, rfl, ⟨_, rfl⟩, hW, hframe⟩
  jvm_step X.here [X.here.top, hx, hb, hdg, hmeth', hr, ret, narrow_b1]
  (try refine ⟨rfl, ?_⟩); (try refine ⟨rfl, ?_⟩)
  first | (intro acts; rw [hret _ acts rfl rfl rfl]) | rw [hret _ _ rfl rfl rfl]
  exact Steps.refl _
/-- what holds at the law's entry: the machine, the code, the tables' words (any of lw_tbl by 'hts w (by decide +kernel)'), the script of L ints xs at the cell b, what the Statement gives of the start (any of its parts by flat_of_before) -/
def lw_At (p : Program) (s : State) (m : MethodId) (meth : Method) (c : Code) (b L : Nat) (xs : Nat → Int32) : Prop :=
  p.tables.exec = Jvm.exec ∧ c.code = code ∧ meth.sig.returnType = ret ∧ c.maxLocals = 7 ∧ s.vm.findClass R_law = some m.cls ∧ (∀ w ∈ lw_tbl, w.before #[Value.ref b] s = true) ∧ va_X b L xs s s.heap ∧ b < s.heap.size ∧ meth.locks = false ∧ (Jvm.Cond.and given_1 narrow_1).before #[Value.ref b] s = true
/-- the start: nothing is made; the script; what the lists and references will hold is written ahead (R0) -/
def m0 (L : Nat) (xs : Nat → Int32) (R0 : Nat → Nat → Nat → Option (Nat × Nat)) : aM := (fun K i j => if K = 0 ∧ i = 0 then (if j < L then xs j else 0) else 0, fun _ _ _ => 0, R0, fun K i => if K = 0 ∧ i = 0 then L else 0, fun _ => 0, (0, 0))
def ad00 (b : Addr) : sA := fun K i => if K = 0 ∧ i = 0 then some b else if K = 1 then some 0 else none
theorem ad00_hi {b : Addr} {K : Nat} (h : 2 ≤ K) (i : Nat) : ad00 b K i = none := by
  unfold ad00
  rw [if_neg (by omega), if_neg (by omega)]
theorem whole_open {p : Program} {e : Env} {s : State} {m : MethodId} {below : List Frame} {meth : Method} {c : Code} (lc : Launch) (hflags : lc.flags = flags0) {b L : Nat} {xs : Nat → Int32} (hL : L ≤ 3072) (C0 : lw_At p s m meth c b L xs) (R0 : Nat → Nat → Nat → Option (Nat × Nat)) (hlaw : WP 1200 0 0 [some (vr (some (0, 0))), none, none, none, none, none, none] [] (m0 L xs R0) (fun v _ => v = some (some (vi 1)))) : W p lc e room_1 s m #[Value.ref b] below meth c s.heap [] 0 0 (lw_Z below #[Value.ref b] s) (entryFrame m ([Value.ref b] : List Value).toArray 7) := by
  obtain ⟨hx, hb, hr, hml, hown, hts, hX, hbl, hlocks, hgv⟩ := id C0
  obtain ⟨n, hn⟩ := hlaw
  obtain ⟨r1, s1, hv, h1⟩ := am_one _ _ _ _ _ _ _ _ hn
  subst hv
  have htb : ∀ w ∈ tb, w.before #[Value.ref b] s = true := fun w hw => hts w (List.mem_filter.mp hw).1
  have hkn : ∀ (k : Nat) (q : vw_C), vwCl[k]? = some q → ∃ (cC : ClassId) (iS : Nat → Nat), u_Kn s q.1 q.2.1 q.2.2 cC iS := by
    intro k q hq
    obtain ⟨q', hq', hin, _⟩ := okVs hq
    rw [hq] at hq'
    cases hq'
    exact u_known htb hin (htb _ (ok_inst hq))
  obtain ⟨dC, dI, hD⟩ : ∃ (dC : Nat → ClassId) (dI : Nat → Nat → Nat), ∀ (k : Nat) (q : vw_C), vwCl[k]? = some q → u_Kn s q.1 q.2.1 q.2.2 (dC k) (dI k) := by
    have hall : ∀ k : Nat, ∃ x : ClassId × (Nat → Nat), ∀ q, vwCl[k]? = some q → u_Kn s q.1 q.2.1 q.2.2 x.1 x.2 := fun k => by
      cases hk : vwCl[k]? with
      | none => exact ⟨(0, fun _ => 0), fun q h => by cases h⟩
      | some q =>
        obtain ⟨cC, iS, h9⟩ := hkn k q hk
        exact ⟨(cC, iS), fun q' h => by cases h; exact h9⟩
    obtain ⟨f, hf⟩ := Classical.axiomOfChoice hall
    exact ⟨fun k => (f k).1, fun k => (f k).2, fun k q hq => hf k q hq⟩
  let G : xG := (b, L, xs, fun _ => 0, fun _ => 0, 0)
  have C : Cx 0 1200 G (fun q => s.heap.size ≤ q) p room_1 s m #[Value.ref b] meth c := by
    refine ⟨hx, hb, hml, hown, htb, hlocks, hr, fun h => by simp [am_isi] at h; exact absurd h (by decide +kernel), by show 1200 + 16 ≤ 2048; omega, by show 64 * (1200 + 16) ≤ 84000; omega, ⟨hX, hbl, Nat.not_le.mpr hbl⟩, fun q h => h, fun w hw => ?_⟩
    obtain ⟨a, i, x, hh, rfl⟩ := tbn_f w hw
    exact va_Nw.of rfl (hts _ (tbn_in _ hw))
  have hR := sim (lc := lc) (D := (dC, dI)) (G := G) (A := fun q => s.heap.size ≤ q) n 1200 0 0 _ [] _ _ _ h1 p e room_1 s m #[Value.ref b] below meth c (lw_Z below #[Value.ref b] s) (ad00 b) (0, 0) C (by
    exact ex_room h1 ⟨Nat.zero_le _, Nat.zero_le _⟩) ?_
  · rw [lg_entry_eq]
    refine hR s.heap [] 0 0 _ [] (ad00 b) (fun _ _ => none) [] [] (lv_args 0 [Value.ref b]) ?_ va_S.rf (sm_le.refl _) (lv_entry [Value.ref b] (n := 7) (by show 1 ≤ 7; omega)) ?_ (by show 7 ≤ 7; omega) trivial (Nat.le_refl 0) (Nat.le_refl 0)
    · refine ⟨fun k q h => by simp at h, ⟨hD, fun k q h => by simp at h⟩, ⟨fun i j p q h => by simp at h, fun k q h => by simp at h⟩, ?_, ?_, ?_, ?_, ?_, ?_, ?_, ?_, ?_⟩
      · intro K i hK
        exact ⟨fun ⟨_, h⟩ => (by (rw [ad00_hi hK] at h; cases h)), fun h => absurd h (Nat.not_lt_zero i)⟩
      · intro K i a ha hk
        have := kT_low (K := K) (by omega)
        rw [ad00_hi (by omega)] at ha
        cases ha
      · intro K i a ha hk
        have := kT_low (K := K) (by omega)
        rw [ad00_hi (by omega)] at ha
        cases ha
      · intro K i K' i' a hk hk' ha
        have := kT_low (K := K) (by omega)
        rw [ad00_hi (by omega)] at ha
        cases ha
      · intro K i K' i' a h; cases h
      · intro K i K' i' a _ _ h; cases h
      · intro K i a h; cases h
      · exact ⟨by unfold ad00; rw [if_pos ⟨rfl, rfl⟩], by show (if (0 : Nat) = 0 ∧ (0 : Nat) = 0 then L else 0) = L; rw [if_pos ⟨rfl, rfl⟩], fun j hj => by
          show (if (0 : Nat) = 0 ∧ (0 : Nat) = 0 then (if j < L then xs j else 0) else 0) = xs j
          rw [if_pos ⟨rfl, rfl⟩, if_pos hj]⟩
      · intro t ht
        show ad00 b 1 t = some 0
        unfold ad00
        rw [if_neg (by omega), if_pos rfl]
    · intro k v hk
      match k with
      | 0 =>
        simp at hk
        subst hk
        exact ⟨.ref b, List.mem_cons_self, b, by unfold ad00; rw [if_pos ⟨rfl, rfl⟩], rfl⟩
      | k + 1 =>
        have h9 : ∀ j : Nat, ([none, none, none, none, none, none] : List (Option aV))[j]? ≠ some (some v) := by
          intro j hj
          have := List.mem_of_getElem? hj
          simp at this
        exact absurd hk (by simpa using h9 k)
  · intro H locs cells slots ls cst ad bk ws tys pc hH hS hle h2 h3 hret
    obtain ⟨hd, rfl, _⟩ := hret
    have hgb := ex_room h1 ⟨Nat.zero_le _, Nat.zero_le _⟩
    refine va_forget hS.2.2 (W.widen (k := 601024) (n := 7293034) ?_ ?_ (lw_ret hx hb hr hlocks hd))
    · have : (gB s1).1 ≤ 601024 := by simpa using hgb.1
      omega
    · have : (gB s1).2 ≤ 7293034 := by simpa using hgb.2
      omega
