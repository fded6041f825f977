/-! what the start of the law is given: texts, statics, words -/
section OPN
theorem eq_v {args : Array Value} {s : State} {a b : Term} {v : Value} (h : (Cond.eq a b).before args s = true) (hb : b.eval args s none [] s = some v) : a.eval args s none [] s = some v := by
  obtain ⟨w, h1, h2⟩ := Cond.eq_one (show (Cond.eq a b).holds args s none s [] = true from h)
  rw [hb] at h2
  cases h2
  exact h1
def NRW : Cond := Jvm.Cond.and given_1 narrow_1
def tTm (t : Nat) : Term := .string "FirmTown$TextReader" (107 + 2 * t)
def tVl (t : Nat) : Term := .field (tTm t) strN "value" "[B"
def txtL (t : Nat) : List Cond := .exactly (tTm t) strN :: .eq (.field (tTm t) strN "coder" "B") (.int 0) :: .arrayOf (tVl t) .byte :: .eq (.length (tVl t)) (.int (Int32.ofNat (stxt.getD t []).length)) :: (List.range (stxt.getD t []).length).map (fun j => .eq (.elem (tVl t) (.int (Int32.ofNat j))) (.int (nI ((stxt.getD t []).getD j 0))))
set_option maxRecDepth 100000 in
theorem txtL_in : ∀ t, t < stxt.length → ∀ w ∈ txtL t, w ∈ flatC NRW := by decide +kernel
theorem txtL_ln : ∀ t, t < stxt.length → (stxt.getD t []).length < 2 ^ 31 := by decide +kernel
def txS : List String := ["rent", "most", "leave", "keep", "rank", "credit", "fine", "strike", "if", "and", "or", "not", "rooms", "size", "heads", "age", "pay", "weeks", "day", "saved", "debt", "arrears"]
set_option maxRecDepth 100000 in
theorem cSL_r : ∀ e ∈ cSL, Cond.stringRef (cN e.1) e.2.1 (txS.getD e.2.2 "") ∈ tables_1 := by decide +kernel
set_option maxRecDepth 100000 in
theorem cSL_e : ∀ e ∈ cSL, e.2.2 < stxt.length ∧ ((cN e.1 = "FirmTown$TextReader" ∧ e.2.1 = 107 + 2 * e.2.2) ∨ Cond.eq (tTm e.2.2) (.string (cN e.1) e.2.1) ∈ flatC NRW) := by decide +kernel
set_option maxRecDepth 100000 in
theorem casL_in : ∀ C ∈ casL, Cond.castable C "java/lang/Object" ∈ tables_1 := by decide +kernel
set_option maxRecDepth 100000 in
theorem nseL_in : ∀ w ∈ nseL, w ∈ tables_1 := by decide +kernel
abbrev alN : String := "java/util/ArrayList"
abbrev dfT : Term := .static alN "DEFAULTCAPACITY_EMPTY_ELEMENTDATA" "[Ljava/lang/Object;"
def sttL : List Cond := [.arrayOf dfT (.object "java/lang/Object"), .eq (.length dfT) (.int 0), .eq (.static strN "COMPACT_STRINGS" "Z") (.int 1), .isRef (.static "jdk/internal/util/Preconditions" "SIOOBE_FORMATTER" "Ljava/util/function/BiFunction;"), .isRef (.static Bundle.tN "UNASSIGNED_STACK" Bundle.steD), .isRef (.static Bundle.tN "SUPPRESSED_SENTINEL" Bundle.listD), .isRef (.mirror "[Ljava/lang/Object;")]
set_option maxRecDepth 100000 in
theorem sttL_in : ∀ w ∈ sttL, w ∈ flatC NRW := by decide +kernel
def twL : List Cond := [.laysStatic alN "DEFAULTCAPACITY_EMPTY_ELEMENTDATA" "[Ljava/lang/Object;", .initialized alN, .laysStatic strN "COMPACT_STRINGS" "Z", .initialized strN, .laysStatic "jdk/internal/util/Preconditions" "SIOOBE_FORMATTER" "Ljava/util/function/BiFunction;", .initialized "jdk/internal/util/Preconditions", .laysStatic Bundle.tN "UNASSIGNED_STACK" Bundle.steD, .initialized Bundle.tN, .laysStatic Bundle.tN "SUPPRESSED_SENTINEL" Bundle.listD, .castable "[I" "java/lang/Cloneable", .arrayOver (.object "java/lang/Object"), .declares ⟨"java/lang/Object", "getClass", "()Ljava/lang/Class;"⟩]
set_option maxRecDepth 100000 in
theorem twL_in : ∀ w ∈ twL, w ∈ tables_1 := by decide +kernel
variable {args : Array Value} {s : State} {A : Nat → Prop}
theorem start_tx (hf : ∀ w ∈ flatC NRW, w.before args s = true) (hA : ∀ a : Nat, a < s.heap.size → ¬ A a) {t : Nat} (ht : t < stxt.length) : ∃ a v : Nat, (tTm t).eval args s none [] s = some (.ref a) ∧ va_O strN a A s s.heap ∧ va_OF strN "coder" "B" (.int 0) a A s s.heap ∧ va_OF strN "value" "[B" (.ref v) a A s s.heap ∧ va_T .byte v (stxt.getD t []).length (fun j => .int (nI ((stxt.getD t []).getD j 0))) A s s.heap := by
  have h : ∀ w ∈ txtL t, w.before args s = true := fun w hw => hf w (txtL_in t ht w hw)
  have hex : (Cond.exactly (tTm t) strN).before args s = true := h _ List.mem_cons_self
  obtain ⟨a, c, cA, kA, q1, -⟩ := Cond.exactly_spec (args := args) (first := s) (o := none) (s := s) (idx := []) (t := tTm t) (cls := strN) hex
  have hcod := eq_v (v := .int 0) (h _ (List.mem_cons_of_mem _ List.mem_cons_self)) rfl
  have hlen := eq_v (v := .int (Int32.ofNat (stxt.getD t []).length)) (h _ (List.mem_cons_of_mem _ (List.mem_cons_of_mem _ (List.mem_cons_of_mem _ List.mem_cons_self)))) rfl
  obtain ⟨v, hv, hT⟩ := va_Tof (f := fun j => .int (nI ((stxt.getD t []).getD j 0))) (txtL_ln t ht) (h _ (List.mem_cons_of_mem _ (List.mem_cons_of_mem _ List.mem_cons_self))) hlen (fun j hj => eq_v (h _ (List.mem_cons_of_mem _ (List.mem_cons_of_mem _ (List.mem_cons_of_mem _ (List.mem_cons_of_mem _ (List.mem_map.mpr ⟨j, List.mem_range.mpr hj, rfl⟩)))))) rfl) hA
  exact ⟨a, v, q1, va_Oof hex q1 hA, vk_OFof q1 hcod hA, vk_OFof q1 hv hA, hT⟩
theorem start_G {b L : Nat} {xs : Nat → Int32} (hts : ∀ w ∈ lw_tbl, w.before args s = true) (hgv : NRW.before args s = true) (hX : va_X b L xs s s.heap) (hbl : b < s.heap.size) : ∃ (K V : Nat → Nat) (e0 : Nat), xf (b, L, xs, K, V, e0) (fun q => s.heap.size ≤ q) s s.heap ∧ Wn (b, L, xs, K, V, e0) s ∧ Wx s := by
  have hf := flat_of_before NRW hgv
  have hA : ∀ a : Nat, a < s.heap.size → ¬ s.heap.size ≤ a := fun a h => Nat.not_le.mpr h
  have ht1 : ∀ w ∈ tables_1, w.before args s = true := fun w hw => hts w (List.mem_append_right _ hw)
  have hs : ∀ w ∈ sttL, w.before args s = true := fun w hw => hf w (sttL_in w hw)
  have hw : ∀ w ∈ twL, w.before args s = true := fun w hw => ht1 w (twL_in w hw)
  have hall : ∀ t : Nat, ∃ x : Nat × Nat, t < stxt.length → (tTm t).eval args s none [] s = some (.ref x.1) ∧ va_O strN x.1 (fun q => s.heap.size ≤ q) s s.heap ∧ va_OF strN "coder" "B" (.int 0) x.1 (fun q => s.heap.size ≤ q) s s.heap ∧ va_OF strN "value" "[B" (.ref x.2) x.1 (fun q => s.heap.size ≤ q) s s.heap ∧ va_T .byte x.2 (stxt.getD t []).length (fun j => .int (nI ((stxt.getD t []).getD j 0))) (fun q => s.heap.size ≤ q) s s.heap := fun t => by
    by_cases ht : t < stxt.length
    · obtain ⟨a, v, h⟩ := start_tx (A := fun q => s.heap.size ≤ q) hf hA ht
      exact ⟨(a, v), fun _ => h⟩
    · exact ⟨(0, 0), fun h => absurd h ht⟩
  obtain ⟨g, hg⟩ := Classical.axiomOfChoice hall
  have s0 : (Cond.arrayOf dfT (.object "java/lang/Object")).before args s = true := hs _ (by simp [sttL])
  have s1 := eq_v (v := .int (Int32.ofNat 0)) (show (Cond.eq (.length dfT) (.int 0)).before args s = true from hs _ (by simp [sttL])) rfl
  obtain ⟨e0, he, hT⟩ := va_Tof (N := 0) (f := fun _ => .null) (A := fun q => s.heap.size ≤ q) (by decide) s0 s1 (fun j hj => absurd hj (Nat.not_lt_zero j)) hA
  refine ⟨fun t => (g t).1, fun t => (g t).2, e0, ⟨⟨hX, hbl, hA b hbl⟩, fun t ht => ?_, va_Zref (hw _ (by simp [twL])) (hw _ (by simp [twL])) he hA, hT, va_Zof (hw _ (by simp [twL])) (hw _ (by simp [twL])) (eq_v (show (Cond.eq (.static strN "COMPACT_STRINGS" "Z") (.int 1)).before args s = true from hs _ (by simp [sttL])) rfl) hA, va_Zqof (hw _ (by simp [twL])) (hw _ (by simp [twL])) (hs _ (by simp [sttL])) hA, va_Mi.of (args := args) (hs _ (by simp [sttL])), vx_Zqof (hw _ (by simp [twL])) (hw _ (by simp [twL])) (hs _ (by simp [sttL])) hA, vx_Zqof (hw _ (by simp [twL])) (hw _ (by simp [twL])) (hs _ (by simp [sttL])) hA⟩, ⟨fun w hw => ?_, fun c k t e => ?_, fun C hC => va_Nw.of rfl (ht1 _ (casL_in C hC)), va_Nw.of rfl (hw _ (by simp [twL])), va_AO.of (A := args) (hw _ (by simp [twL])), va_Dc.of (A := args) (hw _ (by simp [twL]))⟩, fun w hw => va_Nw.of ((show ∀ w ∈ nseL, w.onTables = true by decide) w hw) (ht1 _ (nseL_in w hw))⟩
  · obtain ⟨-, h1, h2, h3, h4⟩ := hg t ht
    exact ⟨h1, h2, h3, h4⟩
  · obtain ⟨a, i, x, hh, rfl⟩ := tbn_f w hw
    exact va_Nw.of rfl (hts _ (tbn_in _ hw))
  · have hm := lk_s (L := cSL) e
    obtain ⟨ht, hc⟩ := cSL_e _ hm
    refine ⟨_, vk_R.of (A := args) (ht1 _ (cSL_r _ hm)) ?_⟩
    have h1 := (hg t ht).1
    rcases hc with ⟨c1, c2⟩ | hc
    · have c1 : cN c = "FirmTown$TextReader" := c1
      have c2 : k = 107 + 2 * t := c2
      show (Term.string (cN c) k).eval args s none [] s = some (.ref (g t).1)
      rw [c1, c2]
      exact h1
    · obtain ⟨w, e1, e2⟩ := Cond.eq_one (show (Cond.eq (tTm t) (.string (cN c) k)).holds args s none s [] = true from hf _ hc)
      rw [h1] at e1
      cases e1
      exact e2
end OPN
