/-! from the run of the law to the claim -/
def R_law : String := "FirmTownLaw"
def lw_P (b : Addr) (xs : List Int32) (args : Array Value) (s : State) : Prop := args = #[.ref b] ∧ s.IntsAt b xs ∧ xs.length ≤ 3072 ∧ (Jvm.Cond.and given_1 narrow_1).before args s = true
def lw_Q (_ : Array Value) (s : State) (o : Outcome) (t : State) : Prop := o = .returned (some (.int 1)) ∧ Framed s o t [] room_1.cells room_1.slots
def lw_Z (below : List Frame) (a : Array Value) (s : State) : State → Prop := fun t => ∃ o, t.status = .running ∧ Ended t below o ∧ lw_Q a s o t
/-- the law's own end, with 1 on the stack, nothing written that was there before, its room as the claim has it -/
theorem lw_ret {p : Program} {l : Launch} {e : Env} {s : State} {m : MethodId} {below : List Frame} {meth : Method} {c : Code} {b : Nat} (hx : p.tables.exec = Jvm.exec) (hb : c.code = code) (hr : meth.sig.returnType = ret) (hlocks : meth.locks = false) {pc : Nat} {H : Heap} {ls : Array Slot} (hdg : decode code pc = .ok (.ireturn, 1)) : W p l e room_1 s m #[Value.ref b] below meth c H [] room_1.cells room_1.slots (lw_Z below #[Value.ref b] s) (F0 m pc ls [.int 1]) := by
  intro T hT X
  obtain ⟨fs, hret, hrun, hended, hW, hframe⟩ := X.leave (v := some (.int 1)) (hlocks := hlocks) (fun h => by rw [hr] at h; cases h)
  have hmeth' : T.vm.method? m = some meth := X.method'
  refine ⟨T.setFrames fs, ?_, .returned (some (.int 1)), hrun, hended, rfl, ⟨_, rfl⟩, hW, hframe⟩
  jvm_step X.here [X.here.top, hx, hb, hdg, hmeth', hr, ret, narrow_b1]
  (try refine ⟨rfl, ?_⟩); (try refine ⟨rfl, ?_⟩)
  first | (intro acts; rw [hret _ acts rfl rfl rfl]) | rw [hret _ _ rfl rfl rfl]
  exact Steps.refl _
/-- what holds at the law's entry: the machine, the code, the tables' words (any of lw_tbl by 'hts w (by decide +kernel)'), the script of L ints xs at the cell b, what the Statement gives of the start (any of its parts by flat_of_before) -/
def lw_At (p : Program) (s : State) (m : MethodId) (meth : Method) (c : Code) (b L : Nat) (xs : Nat → Int32) : Prop :=
  p.tables.exec = Jvm.exec ∧ c.code = code ∧ meth.sig.returnType = ret ∧ c.maxLocals = 7 ∧ s.vm.findClass R_law = some m.cls ∧ (∀ w ∈ lw_tbl, w.before #[Value.ref b] s = true) ∧ va_X b L xs s s.heap ∧ b < s.heap.size ∧ meth.locks = false ∧ (Jvm.Cond.and given_1 narrow_1).before #[Value.ref b] s = true
/-- the start: nothing is made; the script; what the lists and references will hold is written ahead (R0) -/
def m0 (L : Nat) (xs : Nat → Int32) (R0 : Nat → Nat → Nat → Option (Nat × Nat)) : aM := (fun K i j => if K = 0 ∧ i = 0 then (if j < L then xs j else 0) else 0, fun _ _ _ => 0, R0, fun K i => if K = 0 ∧ i = 0 then L else 0, fun _ => 0, (0, 0))
def ad00 (b : Addr) (g : Nat → Nat) : sA := fun K i => if K = 0 ∧ i = 0 then some b else if K = 1 ∧ i < stxt.length then some (g i) else none
theorem ad00_hi {b : Addr} {g : Nat → Nat} {K : Nat} (h : 2 ≤ K) (i : Nat) : ad00 b g K i = none := by
  unfold ad00
  rw [if_neg (by omega), if_neg (by omega)]
theorem whole_open {p : Program} {e : Env} {s : State} {m : MethodId} {below : List Frame} {meth : Method} {c : Code} (lc : Launch) (hflags : lc.flags = flags0) {b L : Nat} {xs : Nat → Int32} (hL : L ≤ 3072) (C0 : lw_At p s m meth c b L xs) (R0 : Nat → Nat → Nat → Option (Nat × Nat)) (hR0 : ∀ K i j, Kq (R0 K i j)) (hlaw : WP 1200 0 0 [some (vr (some (0, 0))), none, none, none, none, none, none] [] (m0 L xs R0) (fun v s => v = some (some (vi 1)) ∧ enM s)) : W p lc e room_1 s m #[Value.ref b] below meth c s.heap [] 0 0 (lw_Z below #[Value.ref b] s) (entryFrame m ([Value.ref b] : List Value).toArray 7) := by
  obtain ⟨hx, hb, hr, hml, hown, hts, hX, hbl, hlocks, hgv⟩ := id C0
  obtain ⟨n, hn⟩ := hlaw
  obtain ⟨r1, s1, ⟨hv, hen⟩, h1⟩ := am_one _ _ _ _ _ _ _ _ hn
  subst hv
  have htb : ∀ w ∈ tb, w.before #[Value.ref b] s = true := fun w hw => hts w (List.mem_filter.mp hw).1
  have hkn : ∀ (k : Nat) (q : vw_C), vwCl[k]? = some q → ∃ (cC : ClassId) (iS : Nat → Nat), u_Kn s q.1 q.2.1 q.2.2 cC iS := by
    intro k q hq
    obtain ⟨q', hq', hin, _⟩ := okVs hq
    rw [hq] at hq'
    cases hq'
    exact u_known htb hin (htb _ (ok_inst hq))
  obtain ⟨dC, dI, hD⟩ : ∃ (dC : Nat → ClassId) (dI : Nat → Nat → Nat), ∀ (k : Nat) (q : vw_C), vwCl[k]? = some q → u_Kn s q.1 q.2.1 q.2.2 (dC k) (dI k) := by
    have hall : ∀ k : Nat, ∃ x : ClassId × (Nat → Nat), ∀ q, vwCl[k]? = some q → u_Kn s q.1 q.2.1 q.2.2 x.1 x.2 := fun k => by
      cases hk : vwCl[k]? with
      | none => exact ⟨(0, fun _ => 0), fun q h => by cases h⟩
      | some q =>
        obtain ⟨cC, iS, h9⟩ := hkn k q hk
        exact ⟨(cC, iS), fun q' h => by cases h; exact h9⟩
    obtain ⟨f, hf⟩ := Classical.axiomOfChoice hall
    exact ⟨fun k => (f k).1, fun k => (f k).2, fun k q hq => hf k q hq⟩
  obtain ⟨gK, gV, ge, hxf, hWn, hWx⟩ := start_G hts hgv hX hbl
  let G : xG := (b, L, xs, gK, gV, ge)
  have C : Cx 0 1200 G (fun q => s.heap.size ≤ q) p room_1 s m #[Value.ref b] meth c := by
    refine ⟨hx, hb, hml, hown, htb, hlocks, hr, fun h => by simp [am_isi] at h; exact absurd h (by decide +kernel), by show 1200 + 16 ≤ 2048; omega, by show 64 * (1200 + 16) ≤ 84000; omega, hxf, fun q h => h, hWn⟩
  have hst9 : lc.stackTraces = false := by
    unfold Launch.stackTraces
    rw [hflags]
    decide
  have hI : FIV 0 0 [some (vr (some (0, 0))), none, none, none, none, none, none] [] := by
    refine ⟨fun h => absurd (by decide +kernel) h, fun _ => ⟨by decide, [], by decide +kernel, trivial, fun k v hk => ?_⟩⟩
    match k with
    | 0 =>
      simp at hk
      subst hk
      exact (show lcT 0 0 = 0 + 10 by decide +kernel)
    | k + 1 =>
      have h9 : ∀ j : Nat, ([none, none, none, none, none, none] : List (Option aV))[j]? ≠ some (some v) := by
        intro j hj
        have := List.mem_of_getElem? hj
        simp at this
      exact absurd hk (by simpa using h9 k)
  have hR := sim2 (lc := lc) (D := (dC, dI)) (G := G) (A := fun q => s.heap.size ≤ q) hst9 n 1200 0 0 _ [] _ _ _ h1 hI hR0 p e room_1 s m #[Value.ref b] below meth c (lw_Z below #[Value.ref b] s) (ad00 b gK) (0, 0) C hWx (fun pc h9 e9 => absurd (hnd_at e9).1 (by intro _; revert e9; unfold hnd; simp [hndL])) (by
    exact ⟨Nat.le_trans hen.1 (by decide), Nat.le_trans hen.2 (by decide)⟩) ?_
  · rw [lg_entry_eq]
    refine hR s.heap [] 0 0 _ [] (ad00 b gK) (fun _ _ => none) [] [] (lv_args 0 [Value.ref b]) ?_ va_S.rf (sm_le.refl _) (lv_entry [Value.ref b] (n := 7) (by show 1 ≤ 7; omega)) ?_ (by show 7 ≤ 7; omega) trivial (Nat.le_refl 0) (Nat.le_refl 0)
    · refine ⟨fun k q h => by simp at h, ⟨hD, fun k q h => by simp at h⟩, ⟨fun i j p q h => by simp at h, fun k q h => by simp at h⟩, ?_, ?_, ?_, ?_, ?_, ?_, ?_, ?_, ?_⟩
      · intro K i hK
        exact ⟨fun ⟨_, h⟩ => (by (rw [ad00_hi hK] at h; cases h)), fun h => absurd h (Nat.not_lt_zero i)⟩
      · intro K i a ha hk
        have := kT_low (K := K) (by omega)
        rw [ad00_hi (by omega)] at ha
        cases ha
      · intro K i a ha hk
        have := kT_low (K := K) (by omega)
        rw [ad00_hi (by omega)] at ha
        cases ha
      · intro K i K' i' a hk hk' ha
        have := kT_low (K := K) (by omega)
        rw [ad00_hi (by omega)] at ha
        cases ha
      · intro K i K' i' a h; cases h
      · intro K i K' i' a _ _ h; cases h
      · intro K i a h; cases h
      · exact ⟨by unfold ad00; rw [if_pos ⟨rfl, rfl⟩], by show (if (0 : Nat) = 0 ∧ (0 : Nat) = 0 then L else 0) = L; rw [if_pos ⟨rfl, rfl⟩], fun j hj => by
          show (if (0 : Nat) = 0 ∧ (0 : Nat) = 0 then (if j < L then xs j else 0) else 0) = xs j
          rw [if_pos ⟨rfl, rfl⟩, if_pos hj]⟩
      · refine ⟨fun t ht => ?_, fun t a ha => ?_⟩
        · show ad00 b gK 1 t = some (gK t)
          unfold ad00
          rw [if_neg (by omega), if_pos ⟨rfl, ht⟩]
        · unfold ad00 at ha
          rw [if_neg (by omega)] at ha
          by_cases c : t < stxt.length
          · exact c
          · rw [if_neg (fun e => c e.2)] at ha
            cases ha
    · intro k v hk
      match k with
      | 0 =>
        simp at hk
        subst hk
        exact ⟨.ref b, List.mem_cons_self, b, by unfold ad00; rw [if_pos ⟨rfl, rfl⟩], rfl⟩
      | k + 1 =>
        have h9 : ∀ j : Nat, ([none, none, none, none, none, none] : List (Option aV))[j]? ≠ some (some v) := by
          intro j hj
          have := List.mem_of_getElem? hj
          simp at this
        exact absurd hk (by simpa using h9 k)
  · refine ⟨?_, fun e9 => by cases e9⟩
    intro H locs cells slots ls cst ad bk ws tys pc hH hS hle h2 h3 hret
    obtain ⟨hd, rfl, _⟩ := hret
    have hgb := hen
    have hk1 : 60000 ≤ room_1.cells := by decide
    have hk2 : 6700000 ≤ room_1.slots := by decide
    refine va_forget hS.2.2 (W.widen (k := room_1.cells) (n := room_1.slots) ?_ ?_ (lw_ret hx hb hr hlocks hd))
    · have := hgb.1
      omega
    · have := hgb.2
      omega
theorem m0_M0 {L : Nat} {xs : Nat → Int32} : M0 L (m0 L xs R0) := by
  refine ⟨fun K => rfl, fun K i hK => ?_, ?_, fun K i j hK => ?_, fun K i j => rfl, fun K i j => rfl, rfl⟩
  · show (if K = 0 ∧ i = 0 then L else 0) = 0
    rw [if_neg (fun e => hK e.1)]
  · show (if (0 : Nat) = 0 ∧ (0 : Nat) = 0 then L else 0) = L
    rw [if_pos ⟨rfl, rfl⟩]
  · show (if K = 0 ∧ i = 0 then (if j < L then xs j else 0) else 0) = 0
    rw [if_neg (fun e => hK e.1)]
theorem R0_K (K i j : Nat) : Kq (R0 K i j) := fun r e => by
  rcases R0_Kq K i j with h | ⟨k, x, h, hk⟩
  · rw [h] at e; cases e
  · rw [h] at e
    cases e
    refine Or.inl ?_
    unfold z4
    rw [hk]; rfl
theorem whole_start {p : Program} {e : Env} {s : State} {m : MethodId} {below : List Frame} {meth : Method} {c : Code} (l : Launch) (hflags : l.flags = flags0) {b L : Nat} {xs : Nat → Int32} (hL : L ≤ 3072) (C0 : lw_At p s m meth c b L xs) : W p l e room_1 s m #[Value.ref b] below meth c s.heap [] 0 0 (lw_Z below #[Value.ref b] s) (entryFrame m ([Value.ref b] : List Value).toArray 7) :=
  whole_open l hflags hL C0 R0 R0_K (law_start (d := 1138) hL m0_M0)
set_option maxHeartbeats 4000000 in
theorem lw_walk (l : Launch) (hflags : l.flags = flags0) (b : Addr) (xs : List Int32) : MetFree l x (headSpec (Jvm.Cond.code x code maxLocals ret :: tables_1) room_1) (lw_P b xs) (fun _ _ _ _ _ => True) lw_Q := by
  refine MetFree.of_bodyS (code := code) (maxLocals := maxLocals) (ret := ret) (by decide) ?_ ?_
  · intro args s m h hn
    obtain ⟨meth, c, h1, h2, h3, h4, h5, h6, -, -⟩ := Cond.code_spec hn (atoms_spec (ws := Jvm.Cond.code x code maxLocals ret :: tables_1) h _ List.mem_cons_self)
    exact ⟨meth, c, h1, h2, h3, h4, h5, h6⟩
  · intro p e s m args below meth c s₁ B hml0 hP _
    obtain ⟨rfl, hx, hbd, hgv⟩ := hP
    obtain ⟨scr, harrAt, hlist, hof, hsmall⟩ := hx
    obtain ⟨hcb, hkn, -, -⟩ := State.arrayAt?_spec harrAt
    have hown : s.vm.findClass R_law = some m.cls := findClass_of_methodNamed B.named
    have hts0 : ∀ c ∈ (Jvm.Cond.code x code maxLocals ret :: tables_1), c.before #[Value.ref b] s = true := atoms_spec (ws := Jvm.Cond.code x code maxLocals ret :: tables_1) B.pre
    have hts : ∀ w ∈ lw_tbl, w.before #[Value.ref b] s = true := k2_hts_sels lw_privs (fun w hw => hts0 w (List.mem_cons_of_mem _ hw)) lw_privs_ok
    have hml : c.maxLocals = 7 := B.maxLocals_eq (hts0 _ List.mem_cons_self)
    have X₀ : Stand p l e room_1 s m #[Value.ref b] below meth c s₁ [] 0 0 := Stand.of_body B
    have hh0 : s₁.heap = s.heap := by rw [B.state]; rfl
    have hsz : scr.slots.size = xs.length := by rw [← Array.length_toList, hlist, List.length_map]
    have hval : ∀ j : Nat, j < xs.length → scr.slots[j]? = some (.int (xs.getD j 0)) := fun j hj => by
      rw [← Array.getElem?_toList, hlist]
      simp [hj]
    have hbl : b < s.heap.size := (Array.getElem?_eq_some_iff.mp hcb).1
    have hX : va_X b xs.length (fun j => xs.getD j 0) s s.heap := ⟨scr, hcb, hof, hkn, hsz, hval⟩
    have K : W p l e room_1 s m #[Value.ref b] below meth c s₁.heap [] 0 0 (lw_Z below #[Value.ref b] s) (entryFrame m ([Value.ref b] : List Value).toArray 7) := by
      rw [hh0]
      exact whole_start l hflags hbd ⟨B.exec, B.bytes, B.returns, hml, hown, hts, hX, hbl, B.notSynchronized, hgv⟩
    obtain ⟨t, a1, o, b1, b2, b3⟩ := K s₁ rfl X₀
    exact ⟨t, o, a1, b1, b2, b3⟩
theorem lw_pre_spec {args : Array Value} {s : State} (h : (Jvm.Cond.and given_1 narrow_1).before args s = true) (hr : rest_1_c.before args s = true) : ∃ (b : Addr) (xs : List Int32), lw_P b xs args s := by
  have hs := flat_of_before _ h
  have hq := flat_of_before _ hr
  have hc : (Cond.count 1).before args s = true := hs _ (by decide +kernel)
  have harr : (Cond.arrayOf (.arg 0) .int).before args s = true := hs _ (by decide +kernel)
  have hle : (Cond.le (.length (.arg 0)) (.int 3072)).before args s = true := hs _ (by decide +kernel)
  have hlen : (Cond.isInt (.length (.arg 0))).before args s = true := hq _ (by decide +kernel)
  have hall : (Cond.all (.arg 0) (.isInt (.elem (.arg 0) (.index 0)))).before args s = true := hq _ (by decide +kernel)
  obtain ⟨b, xs, hb, hx⟩ := State.ints_of_pre rfl harr hlen hall
  have hsm : xs.length < 2 ^ 31 := hx.choose_spec.2.2.2
  have hev : (Term.length (.arg 0)).eval args s none [] s = some (.int xs.length.toInt32) := hx.length_eval hb
  have hv := Cond.le_ints hev (show (Term.int 3072).eval args s none [] s = some (.int 3072) from rfl)
  have hd : xs.length.toInt32 ≤ 3072 := by
    simpa [Cond.before, Cond.holds, hv] using hle
  have hN : xs.length ≤ 3072 := (Int32.ofNat_le_ofNat hsm (by decide)).mp (show Int32.ofNat xs.length ≤ Int32.ofNat 3072 from hd)
  exact ⟨b, xs, Cond.one_arg hc (show args[0]? = some (.ref b) from hb), hx, hN, h⟩
theorem lw_comes (l : Launch) (hflags : l.flags = flags0) : Comes l x (Jvm.Cond.code x code maxLocals ret :: tables_1) room_1 (fun tb e args s => Calls_1 tb e args s ∧ rest_1 tb e args s ∧ Pre_1 tb e args s)
    (fun _ _ args s o t => lw_Q args s o t) := by
  intro p e ha hc hk s m args below hf hfit hheap happ hpre
  obtain ⟨b, xs, hP⟩ := lw_pre_spec hpre.2.2 hpre.2.1
  obtain ⟨k, o, h1, h2, h3, hQ⟩ := lw_walk l hflags b xs p e ha hc hk s m args below hf ((Spec.applies_iff_loose hf).mp happ).1 hP trivial
  exact ⟨k, o, h1, h2, h3, hQ⟩
theorem lw_frame {s t : State} {o : Outcome} {args : Array Value} (h : Framed s o t [] room_1.cells room_1.slots) :
    Framed s o t (fieldLocs frame_1_writes args s ++ arrayLocs frame_1_arrays args s ++ staticLocs frame_1_statics s) room_1.cells room_1.slots := h
theorem lw_limb (L : Cond) (hL : ∀ (args : Array Value) (s t : State), L.after args s (.returned (some (.int 1))) t = true) :
    ArmFor flags0 classFile x code maxLocals ret World_1 tables_1 room_1 Calls_1 rest_1 Pre_1
      (fun tb e a s o t => postC L tb e a s o t ∧ Framed s o t (fieldLocs frame_1_writes a s ++ arrayLocs frame_1_arrays a s ++ staticLocs frame_1_statics s) room_1.cells room_1.slots) := by
  intro l hflags _ _ p e ha hc hk s m args below hf hfit hheap happ hpre
  obtain ⟨k, o, h1, h2, h3, rfl, hF⟩ := lw_comes l hflags p e ha hc hk s m args below hf hfit hheap happ hpre
  exact ⟨k, _, h1, h2, h3, hL args s _, lw_frame hF⟩
theorem i_vc : Claimed_1_1 ∧ Claimed_1_2 := ⟨lw_limb limb_1_1 (fun args s t => by simp [limb_1_1, Cond.after, Cond.holds, Cond.value]), lw_limb limb_1_2 (fun args s t => Cond.after_iff.mpr (by
  first | (rw [show limb_1_2 = Cond.eq .result (.int 1) from rfl, Cond.eq_ints (x := 1) (y := 1) rfl rfl]; simp; done) | (simp [limb_1_2, Cond.value, Term.eval]; done)))⟩
