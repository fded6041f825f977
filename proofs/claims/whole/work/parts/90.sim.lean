/-! ===== THE MACHINE OF THE STATEMENT FOLLOWS THE ABSTRACT ONE ===== -/
abbrev sA : Type := Nat → Nat → Option Nat
def sm_le (a b : sA) : Prop := ∀ K i q, a K i = some q → b K i = some q
theorem sm_le.refl (a : sA) : sm_le a a := fun _ _ _ h => h
theorem sm_le.trans {a b c : sA} (h : sm_le a b) (k : sm_le b c) : sm_le a c := fun _ _ _ e => k _ _ _ (h _ _ _ e)
def vrel (ad : sA) : aV → Value → Prop
  | .inl x, v => v = .int x
  | .inr (.inl x), v => v = .long x
  | .inr (.inr none), v => v = .null
  | .inr (.inr (some q)), v => ∃ a, ad q.1 q.2 = some a ∧ v = .ref a
theorem vrel.mono {a b : sA} (h : sm_le a b) : ∀ {v : aV} {w : Value}, vrel a v w → vrel b v w
  | .inl _, _, e => e
  | .inr (.inl _), _, e => e
  | .inr (.inr none), _, e => e
  | .inr (.inr (some _)), _, ⟨x, h1, h2⟩ => ⟨x, h _ _ _ h1, h2⟩
def strel (ad : sA) : List aV → List Value → Prop
  | [], [] => True
  | v :: st, w :: cs => vrel ad v w ∧ strel ad st cs
  | _, _ => False
theorem strel.mono {a b : sA} (h : sm_le a b) : ∀ {st : List aV} {cs : List Value}, strel a st cs → strel b st cs
  | [], [], _ => trivial
  | _ :: _, _ :: _, ⟨e, k⟩ => ⟨e.mono h, k.mono h⟩
  | [], _ :: _, e => e.elim
  | _ :: _, [], e => e.elim
theorem strel.cons {ad : sA} {v : aV} {st : List aV} {cs : List Value} (h : strel ad (v :: st) cs) : ∃ w c2, cs = w :: c2 ∧ vrel ad v w ∧ strel ad st c2 := by
  cases cs with
  | nil => exact h.elim
  | cons w c2 => exact ⟨w, c2, rfl, h.1, h.2⟩
def lrel (ad : sA) (l : aL) (lv : List (Nat × Value)) : Prop := ∀ (k : Nat) (v : aV), l[k]? = some (some v) → ∃ w, (k, w) ∈ lv ∧ vrel ad v w
theorem lrel.mono {a b : sA} {l : aL} {lv : List (Nat × Value)} (h : sm_le a b) (k : lrel a l lv) : lrel b l lv := fun j v e => by
  obtain ⟨w, h1, h2⟩ := k j v e
  exact ⟨w, h1, h2.mono h⟩
def ftg (t : FieldType) : Nat := match t with
  | .long => 1
  | .object _ => 2
  | .array _ => 2
  | _ => 0
/-- what is said of the cells that nobody writes: the script (cell, length, ints), the texts (cells, their bytes' cells), the list's empty row -/
abbrev xG : Type := Nat × Nat × (Nat → Int32) × (Nat → Nat) × (Nat → Nat) × Nat
def erel (ad : sA) (σ : aM) (K i : Nat) (tys : List (ClassId × FieldType)) (e : va_E) : Prop :=
  ((kT K).1 = 0 → ∃ fs : List Value, e = .inr ((kT K).2, fs) ∧ fs.length = am_nf (kT K).2 ∧ ∀ k, k < am_nf (kT K).2 → ∃ w, fs[k]? = some w ∧ vrel ad (am_fv σ K i k (ftg ((vwTy.getD (kT K).2 tyX0) k))) w) ∧
  ((kT K).1 = 1 → ∃ (cA : ClassId) (t0 : Nat), tys[t0]? = some (cA, .int) ∧ e = .inl (cA, gN σ K i, .inl (gI σ K i))) ∧
  ((kT K).1 = 2 → ∃ (cA : ClassId) (t0 : Nat), tys[t0]? = some (cA, .long) ∧ e = .inl (cA, gN σ K i, .inr (.inl (gL σ K i)))) ∧
  ((kT K).1 = 3 → ∃ (cA : ClassId) (t0 : Nat), tys[t0]? = some (cA, .byte) ∧ e = .inl (cA, gN σ K i, .inl (gI σ K i))) ∧
  ((kT K).1 = 4 → ∃ (cA : ClassId) (t0 : Nat), tys[t0]? = some (cA, .boolean) ∧ e = .inl (cA, gN σ K i, .inl (gI σ K i)))
def lirel (ad bk : sA) (σ : aM) (ws : va_W) (tys : List (ClassId × FieldType)) (G : xG) (K i a : Nat) : Prop :=
  ∃ (q0 : Nat) (m : Int32) (b : Value), ws[q0]? = some (a, .inr (0, [.int m, b, .int (nI (gN σ K i))])) ∧
    ((b = .ref G.2.2.2.2.2 ∧ gN σ K i = 0 ∧ bk K i = none) ∨
      ∃ (ba q1 t0 cap : Nat) (cA : ClassId) (f : Nat → Option Nat), b = .ref ba ∧ bk K i = some ba ∧ tys[t0]? = some (cA, .object "java/lang/Object") ∧ ws[q1]? = some (ba, .inl (cA, cap, .inr (.inr (.inr (.inr f))))) ∧ gN σ K i ≤ cap ∧ (10 ≤ cap ∧ cap ≤ 100000) ∧ ∀ j, j < gN σ K i → vrel ad (vr (gR σ K i j)) (va_rf (f j)))
/-- the heap holds the memory -/
def HR (D : va_G) (G : xG) (A : Nat → Prop) (s : State) (σ : aM) (ad bk : sA) (ws : va_W) (tys : List (ClassId × FieldType)) (H : Heap) : Prop :=
  va_P D vwCl ws H ∧ va_K D vwCl tys s ∧ va_D A ws ∧
  (∀ K i, 2 ≤ K → ((∃ a, ad K i = some a) ↔ i < gC σ K)) ∧
  (∀ K i a, ad K i = some a → (kT K).1 ≤ 4 → ∃ (q0 : Nat) (e : va_E), ws[q0]? = some (a, e) ∧ erel ad σ K i tys e) ∧
  (∀ K i a, ad K i = some a → (kT K).1 = 5 → lirel ad bk σ ws tys G K i a) ∧
  (∀ K i K' i' a, (kT K).1 ≤ 5 → (kT K').1 ≤ 5 → ad K i = some a → ad K' i' = some a → K = K' ∧ i = i') ∧
  (∀ K i K' i' a, bk K i = some a → bk K' i' = some a → K = K' ∧ i = i') ∧
  (∀ K i K' i' a, (kT K).1 ≤ 5 → ad K i = some a → bk K' i' ≠ some a) ∧
  (∀ K i a, bk K i = some a → (kT K).1 = 5 ∧ ∃ a2, ad K i = some a2) ∧
  (ad 0 0 = some G.1 ∧ gN σ 0 0 = G.2.1 ∧ ∀ j, j < G.2.1 → gI σ 0 0 j = G.2.2.1 j) ∧
  ((∀ t, t < stxt.length → ad 1 t = some (G.2.2.2.1 t)) ∧ ∀ t a, ad 1 t = some a → t < stxt.length)
abbrev strN : String := "java/lang/String"
/-- a text's cells -/
def sX (G : xG) (A : Nat → Prop) (U : State) (H : Heap) (t : Nat) : Prop :=
  va_O strN (G.2.2.2.1 t) A U H ∧ va_OF strN "coder" "B" (.int 0) (G.2.2.2.1 t) A U H ∧ va_OF strN "value" "[B" (.ref (G.2.2.2.2.1 t)) (G.2.2.2.1 t) A U H ∧ va_T .byte (G.2.2.2.2.1 t) (stxt.getD t []).length (fun j => .int (nI ((stxt.getD t []).getD j 0))) A U H
/-- what nobody writes: the texts, the library's statics, the mirror of Object[] -/
def xf2 (G : xG) (A : Nat → Prop) (U : State) (H : Heap) : Prop :=
  (∀ t, t < stxt.length → sX G A U H t) ∧ va_Z "java/util/ArrayList" "DEFAULTCAPACITY_EMPTY_ELEMENTDATA" "[Ljava/lang/Object;" (.ref G.2.2.2.2.2) A U H ∧ va_T (.object "java/lang/Object") G.2.2.2.2.2 0 (fun _ => .null) A U H ∧ va_Z strN "COMPACT_STRINGS" "Z" (.int 1) A U H ∧ va_Zq "jdk/internal/util/Preconditions" "SIOOBE_FORMATTER" "Ljava/util/function/BiFunction;" A U H ∧ (∃ mi, va_Mi "[Ljava/lang/Object;" mi U) ∧ vx_Zq Bundle.tN "UNASSIGNED_STACK" Bundle.steD A U H ∧ vx_Zq Bundle.tN "SUPPRESSED_SENTINEL" Bundle.listD A U H
theorem xf2.moved {G : xG} {A : Nat → Prop} {u U : State} {H : Heap} (hvm : u.vm.Alike U.vm) (h : xf2 G A u H) : xf2 G A U H := by
  obtain ⟨h1, h2, h3, h4, h5, ⟨mi, h6⟩, h7, h8⟩ := h
  exact ⟨fun t ht => ⟨va_O.moved hvm (h1 t ht).1, va_OF.moved hvm (h1 t ht).2.1, va_OF.moved hvm (h1 t ht).2.2.1, va_T.moved hvm (h1 t ht).2.2.2⟩, va_Z.moved hvm h2, va_T.moved hvm h3, va_Z.moved hvm h4, va_Zq.moved hvm h5, ⟨mi, va_Mi.moved hvm h6⟩, vx_Zq.moved hvm h7, vx_Zq.moved hvm h8⟩
theorem xf2.kept {G : xG} {A : Nat → Prop} {U : State} {H H1 : Heap} (h : xf2 G A U H) (hq : ∀ a : Nat, a < H.size → ¬ A a → H1[a]? = H[a]?) : xf2 G A U H1 := by
  obtain ⟨h1, h2, h3, h4, h5, h6, h7, h8⟩ := h
  exact ⟨fun t ht => ⟨(h1 t ht).1.kept hq, (h1 t ht).2.1.kept hq, (h1 t ht).2.2.1.kept hq, (h1 t ht).2.2.2.kept hq⟩, h2.kept hq, h3.kept hq, h4.kept hq, h5.kept hq, h6, h7.kept hq, h8.kept hq⟩
/-- what nobody writes, in a state -/
def xf (G : xG) (A : Nat → Prop) (U : State) (H : Heap) : Prop :=
  (va_X G.1 G.2.1 G.2.2.1 U H ∧ G.1 < H.size ∧ ¬ A G.1) ∧ xf2 G A U H
theorem xf.on {G : xG} {A : Nat → Prop} {u U : State} {H H1 : Heap} {locs : List Loc} (h : xf G A u H) (hvm : u.vm.Alike U.vm) (hS : va_S A H H1 locs) : xf G A U H1 := by
  obtain ⟨⟨h1, h2, h3⟩, h4⟩ := h
  obtain ⟨scr, g1, g2, g3⟩ := h1.moved hvm
  exact ⟨⟨⟨scr, by rw [hS.2.1 _ h2 h3]; exact g1, g2, g3⟩, Nat.lt_of_lt_of_le h2 hS.1, h3⟩, (xf2.moved hvm h4).kept hS.2.1⟩
/-- the texts' places in the classes' files -/
def gS (G : xG) (s : State) : Prop := ∀ c k t, cStr c k = some t → ∃ tx, vk_R (cN c) k tx (G.2.2.2.1 t) s
/-- words that are not among tb: of nest mates, of casts, of the array class of Object -/
def casL : List String := vwCl.map (fun q => q.1) ++ ["[I", "[J", "[B", "[Z", "java/lang/String"]
def Wn (G : xG) (s : State) : Prop := (∀ w ∈ tbn, va_Nw w s) ∧ gS G s ∧ (∀ C ∈ casL, va_Nw (.castable C "java/lang/Object") s) ∧ va_Nw (.castable "[I" "java/lang/Cloneable") s ∧ va_AO "java/lang/Object" s ∧ va_Dc s
theorem kT_low {K : Nat} (h : (kT K).1 ≤ 5) : 3 ≤ K := by
  rcases Nat.lt_or_ge K 3 with c | c
  · rcases (show K = 0 ∨ K = 1 ∨ K = 2 by omega) with rfl | rfl | rfl <;> exact absurd h (by decide)
  · exact c
/-- a method's invocation: its code, its class, the tables' words, room for d frames and what the library needs -/
def Cx (mid d : Nat) (G : xG) (A : Nat → Prop) (p : Program) (R : Room) (s : State) (m : MethodId) (args : Array Value) (meth : Method) (c : Code) : Prop :=
  p.tables.exec = Jvm.exec ∧ c.code = mcode mid ∧ c.maxLocals = mml mid ∧ s.vm.findClass (cN (mcl mid)) = some m.cls ∧ (∀ w ∈ tb, w.before args s = true) ∧ meth.locks = false ∧ meth.sig.returnType = mft mid ∧ (am_isi mid = true → meth.name = "<init>") ∧ d + 16 ≤ R.frames ∧ 64 * (d + 16) ≤ R.locals ∧ xf G A s s.heap ∧ (∀ q, s.heap.size ≤ q → A q) ∧ Wn G s
/-- W from every state of the machine that the abstract one (pc, l, st, σ) stands for -/
def Rl (D : va_G) (G : xG) (A : Nat → Prop) (mid : Nat) (p : Program) (lc : Launch) (e : Env) (R : Room) (s : State) (m : MethodId) (args : Array Value) (below : List Frame) (meth : Method) (c : Code) (Z : State → Prop) (ad0 : sA) (b0 : Nat × Nat) (pc : Nat) (l : aL) (st : List aV) (σ : aM) : Prop :=
  ∀ (H : Heap) (locs : List Loc) (cells slots : Nat) (ls : Array Slot) (cst : List Value) (ad bk : sA) (ws : va_W) (tys : List (ClassId × FieldType)) (lv : List (Nat × Value)),
    HR D G A s σ ad bk ws tys H → va_S A s.heap H locs → sm_le ad0 ad → lv_has ls (mml mid) lv → lrel ad l lv → l.length ≤ mml mid → strel ad st cst → cells + b0.1 ≤ (gB σ).1 → slots + b0.2 ≤ (gB σ).2 →
    W p lc e R s m args below meth c H locs cells slots Z (F0 m pc ls cst)
/-! combinators: what a result says -/
section SMC
variable {X : Type} {y : X}
theorem gd_s {c : Prop} [Decidable c] {k : Option X} (h : am_gd c k = some y) : c ∧ k = some y := by
  unfold am_gd at h
  by_cases hc : c
  · rw [if_pos hc] at h; exact ⟨hc, h⟩
  · rw [if_neg hc] at h; cases h
theorem i1_s {st : List aV} {f : Int32 → List aV → Option X} (h : am_i1 st f = some y) : ∃ a r, st = vi a :: r ∧ f a r = some y := by
  unfold am_i1 at h; split at h
  · exact ⟨_, _, rfl, h⟩
  · cases h
theorem i2_s {st : List aV} {f : Int32 → Int32 → List aV → Option X} (h : am_i2 st f = some y) : ∃ a b r, st = vi b :: vi a :: r ∧ f a b r = some y := by
  unfold am_i2 at h; split at h
  · exact ⟨_, _, _, rfl, h⟩
  · cases h
theorem l1_s {st : List aV} {f : Int64 → List aV → Option X} (h : am_l1 st f = some y) : ∃ a r, st = vl a :: r ∧ f a r = some y := by
  unfold am_l1 at h; split at h
  · exact ⟨_, _, rfl, h⟩
  · cases h
theorem l2_s {st : List aV} {f : Int64 → Int64 → List aV → Option X} (h : am_l2 st f = some y) : ∃ a b r, st = vl b :: vl a :: r ∧ f a b r = some y := by
  unfold am_l2 at h; split at h
  · exact ⟨_, _, _, rfl, h⟩
  · cases h
theorem li_s {st : List aV} {f : Int64 → Int32 → List aV → Option X} (h : am_li st f = some y) : ∃ a b r, st = vi b :: vl a :: r ∧ f a b r = some y := by
  unfold am_li at h; split at h
  · exact ⟨_, _, _, rfl, h⟩
  · cases h
theorem rq_s {st : List aV} {f : Option (Nat × Nat) → List aV → Option X} (h : am_rq st f = some y) : ∃ a r, st = vr a :: r ∧ f a r = some y := by
  unfold am_rq at h; split at h
  · exact ⟨_, _, rfl, h⟩
  · cases h
theorem ro_s {st : List aV} {f : Nat → Nat → List aV → Option X} (h : am_ro st f = some y) : ∃ K i r, st = vr (some (K, i)) :: r ∧ f K i r = some y := by
  unfold am_ro at h; split at h
  · exact ⟨_, _, _, rfl, h⟩
  · cases h
theorem v1_s {st : List aV} {f : aV → List aV → Option X} (h : am_v1 st f = some y) : ∃ a r, st = a :: r ∧ f a r = some y := by
  unfold am_v1 at h; split at h
  · exact ⟨_, _, rfl, h⟩
  · cases h
theorem li0_s {l : aL} {k : Nat} {f : Int32 → Option X} (h : am_li0 l k f = some y) : ∃ x, l[k]? = some (some (vi x)) ∧ f x = some y := by
  unfold am_li0 at h; split at h
  · next e => exact ⟨_, e, h⟩
  · cases h
theorem ll0_s {l : aL} {k : Nat} {f : Int64 → Option X} (h : am_ll0 l k f = some y) : ∃ x, l[k]? = some (some (vl x)) ∧ f x = some y := by
  unfold am_ll0 at h; split at h
  · next e => exact ⟨_, e, h⟩
  · cases h
theorem lr0_s {l : aL} {k : Nat} {f : Option (Nat × Nat) → Option X} (h : am_lr0 l k f = some y) : ∃ x, l[k]? = some (some (vr x)) ∧ f x = some y := by
  unfold am_lr0 at h; split at h
  · next e => exact ⟨_, e, h⟩
  · cases h
theorem jm_s {pc : Nat} {off : Int} {k : Nat → Option X} (h : am_jm pc off k = some y) : ∃ t : Nat, (pc : Int) + off = (t : Int) ∧ k t = some y := by
  unfold am_jm at h; split at h
  · next e => exact ⟨_, e, h⟩
  · cases h
end SMC
theorem go_s {pc pc' : Nat} {l l' : aL} {st st' : List aV} {σ σ' : aM} (h : am_go pc l st σ = some (.inl (pc', l', st', σ'))) : pc' = pc ∧ l' = l ∧ st' = st ∧ σ' = σ := by
  have h := Sum.inl.inj (Option.some.inj h)
  cases h
  exact ⟨rfl, rfl, rfl, rfl⟩
theorem s1_at : ∀ (l : aL) (i j : Nat) (v u : aV), (am_s1 l i v)[j]? = some (some u) → (j = i ∧ u = v) ∨ (j ≠ i ∧ l[j]? = some (some u) ∧ (j + 1 = i → ∀ x, u ≠ vl x))
  | [], _, _, _, _, h => by simp [am_s1] at h
  | a :: t, 0, 0, v, u, h => by
    simp [am_s1] at h
    exact Or.inl ⟨rfl, h.symm⟩
  | a :: t, 0, j + 1, v, u, h => by
    simp [am_s1] at h
    exact Or.inr ⟨by omega, by simpa using h, by omega⟩
  | a :: t, 1, 0, v, u, h => by
    simp [am_s1] at h
    refine Or.inr ⟨by omega, ?_, fun _ x e => ?_⟩
    · unfold am_kil at h; split at h
      · cases h
      · simpa using h
    · subst e; unfold am_kil at h; split at h
      · cases h
      · next hn => exact hn x h
  | a :: t, 1, j + 1, v, u, h => by
    simp only [am_s1, List.getElem?_cons_succ] at h ⊢
    rcases s1_at t 0 j v u h with ⟨h1, h2⟩ | ⟨h1, h2, h3⟩
    · exact Or.inl ⟨by omega, h2⟩
    · exact Or.inr ⟨by omega, h2, fun e => by omega⟩
  | a :: t, i + 2, 0, v, u, h => by
    simp [am_s1] at h
    exact Or.inr ⟨by omega, by simpa using h, by omega⟩
  | a :: t, i + 2, j + 1, v, u, h => by
    simp only [am_s1, List.getElem?_cons_succ] at h ⊢
    rcases s1_at t (i + 1) j v u h with ⟨h1, h2⟩ | ⟨h1, h2, h3⟩
    · exact Or.inl ⟨by omega, h2⟩
    · exact Or.inr ⟨by omega, h2, fun e => h3 (by omega)⟩
theorem s2_at : ∀ (l : aL) (i j : Nat) (v u : aV), (am_s2 l i v)[j]? = some (some u) → (j = i ∧ u = v) ∨ (j ≠ i ∧ j ≠ i + 1 ∧ l[j]? = some (some u) ∧ (j + 1 = i → ∀ x, u ≠ vl x))
  | [], _, _, _, _, h => by simp [am_s2] at h
  | a :: t, 0, 0, v, u, h => by
    simp [am_s2] at h
    exact Or.inl ⟨rfl, h.symm⟩
  | a :: [], 0, j + 1, v, u, h => by simp [am_s2] at h
  | a :: b :: t, 0, 1, v, u, h => by simp [am_s2] at h
  | a :: b :: t, 0, j + 2, v, u, h => by
    simp [am_s2] at h
    exact Or.inr ⟨by omega, by omega, by simpa using h, by omega⟩
  | a :: t, 1, 0, v, u, h => by
    simp [am_s2] at h
    refine Or.inr ⟨by omega, by omega, ?_, fun _ x e => ?_⟩
    · unfold am_kil at h; split at h
      · cases h
      · simpa using h
    · subst e; unfold am_kil at h; split at h
      · cases h
      · next hn => exact hn x h
  | a :: t, 1, j + 1, v, u, h => by
    simp only [am_s2, List.getElem?_cons_succ] at h ⊢
    rcases s2_at t 0 j v u h with ⟨h1, h2⟩ | ⟨h1, h2, h3, h4⟩
    · exact Or.inl ⟨by omega, h2⟩
    · exact Or.inr ⟨by omega, by omega, h3, fun e => by omega⟩
  | a :: t, i + 2, 0, v, u, h => by
    simp [am_s2] at h
    exact Or.inr ⟨by omega, by omega, by simpa using h, by omega⟩
  | a :: t, i + 2, j + 1, v, u, h => by
    simp only [am_s2, List.getElem?_cons_succ] at h ⊢
    rcases s2_at t (i + 1) j v u h with ⟨h1, h2⟩ | ⟨h1, h2, h3, h4⟩
    · exact Or.inl ⟨by omega, h2⟩
    · exact Or.inr ⟨by omega, by omega, h3, fun e => h4 (by omega)⟩
theorem s1_len : ∀ (l : aL) (i : Nat) (v : aV), (am_s1 l i v).length = l.length
  | [], _, _ => rfl
  | _ :: _, 0, _ => rfl
  | _ :: t, 1, v => congrArg (· + 1) (s1_len t 0 v)
  | _ :: t, i + 2, v => congrArg (· + 1) (s1_len t (i + 1) v)
theorem s2_len : ∀ (l : aL) (i : Nat) (v : aV), (am_s2 l i v).length = l.length
  | [], _, _ => rfl
  | [_], 0, _ => rfl
  | _ :: _ :: _, 0, _ => rfl
  | _ :: t, 1, v => congrArg (· + 1) (s2_len t 0 v)
  | _ :: t, i + 2, v => congrArg (· + 1) (s2_len t (i + 1) v)
theorem vcat {ad : sA} {v : aV} {w : Value} (h : vrel ad v w) : w.category = 2 ↔ ∃ x, v = vl x := by
  rcases v with x | x | _ | q
  · cases h; exact ⟨fun e => (by cases e), fun ⟨_, e⟩ => (by cases e)⟩
  · cases h; exact ⟨fun _ => ⟨x, rfl⟩, fun _ => rfl⟩
  · cases h; exact ⟨fun e => (by cases e), fun ⟨_, e⟩ => (by cases e)⟩
  · obtain ⟨a, -, rfl⟩ := h; exact ⟨fun e => (by cases e), fun ⟨_, e⟩ => (by cases e)⟩
theorem lrel.s1 {ad : sA} {l : aL} {lv : List (Nat × Value)} {i : Nat} {v : aV} {w : Value} (h : lrel ad l lv) (hv : vrel ad v w) : lrel ad (am_s1 l i v) ((i, w) :: lv.filter (fun q => !(q.1 == i) && !(q.1 + 1 == i && q.2.category == 2))) := by
  intro j u hu
  rcases s1_at _ _ _ _ _ hu with ⟨h1, h2⟩ | ⟨h1, h2, h3⟩
  · subst h1; subst h2; exact ⟨w, List.mem_cons_self, hv⟩
  · obtain ⟨w2, g1, g2⟩ := h j u h2
    refine ⟨w2, List.mem_cons_of_mem _ (List.mem_filter.mpr ⟨g1, ?_⟩), g2⟩
    have e1 : (j == i) = false := by simp [h1]
    by_cases e2 : j + 1 = i
    · have e3 : (w2.category == 2) = false := by
        cases hc : (w2.category == 2) with
        | false => rfl
        | true => obtain ⟨x, hx⟩ := (vcat g2).mp (by simpa using hc); exact absurd hx (h3 e2 x)
      simp [e1, e3]
    · have e4 : (j + 1 == i) = false := by simp [e2]
      simp [e1, e4]
theorem lrel.s2 {ad : sA} {l : aL} {lv : List (Nat × Value)} {i : Nat} {v : aV} {w : Value} (h : lrel ad l lv) (hv : vrel ad v w) : lrel ad (am_s2 l i v) ((i, w) :: lv.filter (fun q => !(q.1 == i) && (!(q.1 == i + 1) && !(q.1 + 1 == i && q.2.category == 2)))) := by
  intro j u hu
  rcases s2_at _ _ _ _ _ hu with ⟨h1, h2⟩ | ⟨h1, h0, h2, h3⟩
  · subst h1; subst h2; exact ⟨w, List.mem_cons_self, hv⟩
  · obtain ⟨w2, g1, g2⟩ := h j u h2
    refine ⟨w2, List.mem_cons_of_mem _ (List.mem_filter.mpr ⟨g1, ?_⟩), g2⟩
    have e1 : (j == i) = false := by simp [h1]
    have e0 : (j == i + 1) = false := by simp [h0]
    by_cases e2 : j + 1 = i
    · have e3 : (w2.category == 2) = false := by
        cases hc : (w2.category == 2) with
        | false => rfl
        | true => obtain ⟨x, hx⟩ := (vcat g2).mp (by simpa using hc); exact absurd hx (h3 e2 x)
      simp [e1, e0, e3]
    · have e4 : (j + 1 == i) = false := by simp [e2]
      simp [e1, e0, e4]
