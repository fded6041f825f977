/-! lists: what the library's methods find and leave -/
section SIMPW
variable {D : va_G} {G : xG} {A : Nat → Prop}
abbrev rfA (cA : ClassId) (cap : Nat) (f : Nat → Option Nat) : va_E := .inl (cA, cap, .inr (.inr (.inr (.inr f))))
abbrev lsE (m : Int32) (b : Value) (n : Nat) : va_E := .inr (0, [.int m, b, .int (nI n)])
/-- the world at a call -/
def PW (D : va_G) (G : xG) (A : Nat → Prop) (ws : va_W) (tys : List (ClassId × FieldType)) (H : Heap) (U : State) : Prop := U.heap = H ∧ va_P D vwCl ws H ∧ va_K D vwCl tys U ∧ va_D A ws ∧ xf G A U H ∧ Wn G U ∧ ∀ q, H.size ≤ q → A q
theorem PW_blind {ws : va_W} {tys : List (ClassId × FieldType)} {H : Heap} {vs : List Value} : FrameBlind (va_Pc vs (PW D G A ws tys H)) := by
  rintro a U g mk ⟨h0, h1, h2, h3, h4, h5, h6, h7⟩
  exact ⟨h0, h1, h2, h3.moved (Vm.Alike.refl U.vm), h4, h5.on (Vm.Alike.refl U.vm) va_S.rf, tbn_v (s := U) rfl h6, h7⟩
/-- the world behind it -/
def QW (D : va_G) (A : Nat → Prop) : va_W × List (ClassId × FieldType) → State → Prop := fun u t => va_P D vwCl u.1 t.heap ∧ va_K D vwCl u.2 t ∧ va_D A u.1
def keepW (ws u : va_W) (q0 q1 : Nat) : Prop := ∀ (q : Nat) (x : Nat × va_E), q ≠ q0 → q ≠ q1 → ws[q]? = some x → u[q]? = some x
def keepT (tys u : List (ClassId × FieldType)) : Prop := ∀ (t : Nat) (x : ClassId × FieldType), tys[t]? = some x → u[t]? = some x
theorem keepT.rf {tys : List (ClassId × FieldType)} : keepT tys tys := fun _ _ h => h
theorem keepT.app {tys : List (ClassId × FieldType)} {x : ClassId × FieldType} : keepT tys (tys ++ [x]) := fun t y h => by
  rw [List.getElem?_append_left (List.getElem?_eq_some_iff.mp h).1]; exact h
theorem set_at {α : Type} {l : List α} {q : Nat} {x y : α} (h : l[q]? = some x) : (l.set q y)[q]? = some y := List.getElem?_set_self (List.getElem?_eq_some_iff.mp h).1
theorem set_ne {α : Type} {l : List α} {q j : Nat} {x y : α} (hne : q ≠ j) (h : l[j]? = some x) : (l.set q y)[j]? = some x := (List.getElem?_set_ne hne).trans h
theorem app_at {α : Type} {l : List α} {y : α} : (l ++ [y])[l.length]? = some y := by simp
theorem app_lt {α : Type} {l : List α} {j : Nat} {x y : α} (h : l[j]? = some x) : (l ++ [y])[j]? = some x := by
  rw [List.getElem?_append_left (List.getElem?_eq_some_iff.mp h).1]; exact h
theorem at_lt {α : Type} {l : List α} {j : Nat} {x : α} (h : l[j]? = some x) : j < l.length := (List.getElem?_eq_some_iff.mp h).1
/-- of the same shape -/
def shp : va_E → va_E → Prop
  | .inl a, .inl b => a.1 = b.1
  | .inr a, .inr b => a.1 = b.1
  | _, _ => False
theorem shp.rf : ∀ {e : va_E}, shp e e
  | .inl _ => rfl
  | .inr _ => rfl
theorem shp.tr : ∀ {e f g : va_E}, shp e f → shp f g → shp e g
  | .inl _, .inl _, .inl _, h, k => Eq.trans h k
  | .inr _, .inr _, .inr _, h, k => Eq.trans h k
  | .inl _, .inr _, _, h, _ => h.elim
  | .inr _, .inl _, _, h, _ => h.elim
  | .inl _, .inl _, .inr _, _, k => k.elim
  | .inr _, .inr _, .inl _, _, k => k.elim
def KS (ws u : va_W) : Prop := ∀ (q y : Nat) (e : va_E), ws[q]? = some (y, e) → ∃ e', u[q]? = some (y, e') ∧ shp e e'
theorem KS.rf {ws : va_W} : KS ws ws := fun q y e h => ⟨e, h, shp.rf⟩
theorem KS.tr {a b c : va_W} (h : KS a b) (k : KS b c) : KS a c := fun q y e g => by
  obtain ⟨e1, g1, s1⟩ := h q y e g
  obtain ⟨e2, g2, s2⟩ := k q y e1 g1
  exact ⟨e2, g2, s1.tr s2⟩
theorem KS.set {ws : va_W} {q0 a : Nat} {e e' : va_E} (h : ws[q0]? = some (a, e)) (hs : shp e e') : KS ws (ws.set q0 (a, e')) := fun q y f g => by
  by_cases c : q0 = q
  · subst c
    rw [h] at g
    cases g
    exact ⟨e', set_at h, hs⟩
  · exact ⟨f, set_ne c g, shp.rf⟩
theorem KS.app {ws : va_W} {x : Nat × va_E} : KS ws (ws ++ [x]) := fun q y e g => ⟨e, app_lt g, shp.rf⟩
theorem KS.len {ws u : va_W} (h : KS ws u) {q : Nat} (hq : q < ws.length) : q < u.length := by
  cases e : ws[q]? with
  | none => exact absurd (List.getElem?_eq_none_iff.mp e) (by omega)
  | some x =>
    obtain ⟨y, f⟩ := x
    obtain ⟨e', g, _⟩ := h q y f e
    exact at_lt g
/-- a reference to what may lie in a list: an object, an array, a text -/
def OBJ (G : xG) (ws : va_W) (tys : List (ClassId × FieldType)) (y : Nat) : Prop := (∃ (q ci : Nat) (fs : List Value), ws[q]? = some (y, .inr (ci, fs)) ∧ ci < 14) ∨ (∃ (q : Nat) (cA : ClassId) (x : vp_A) (t0 : Nat) (ty : FieldType), ws[q]? = some (y, .inl (cA, x)) ∧ tys[t0]? = some (cA, ty) ∧ (ty = .int ∨ ty = .long ∨ ty = .byte ∨ ty = .boolean)) ∨ ∃ t, t < stxt.length ∧ y = G.2.2.2.1 t
theorem OBJ.keep {ws u : va_W} {tys tys' : List (ClassId × FieldType)} {y : Nat} (h : OBJ G ws tys y) (k : KS ws u) (kt : keepT tys tys') : OBJ G u tys' y := by
  rcases h with ⟨q, ci, fs, h1, h2⟩ | ⟨q, cA, x, t0, ty, h1, h2, h3⟩ | h
  · obtain ⟨e', g1, g2⟩ := k _ _ _ h1
    rcases e' with e' | ⟨cj, fs'⟩
    · exact g2.elim
    · have g2 : ci = cj := g2
      subst g2
      exact Or.inl ⟨q, ci, fs', g1, h2⟩
  · obtain ⟨e', g1, g2⟩ := k _ _ _ h1
    rcases e' with ⟨cB, x'⟩ | e'
    · have g2 : cA = cB := g2
      subst g2
      exact Or.inr (Or.inl ⟨q, cA, x', t0, ty, g1, kt _ _ h2, h3⟩)
    · exact g2.elim
  · exact Or.inr (Or.inr h)
theorem va_nmL {s : State} {cA : ClassId} {ty : FieldType} {nm : String} (hn : "[" ++ ty.toString = nm) (hty : ty = .int ∨ ty = .long ∨ ty = .byte ∨ ty = .boolean) (h : va_RA s cA ty) : s.vm.findClass nm = some cA := by
  rw [← hn]
  rcases hty with rfl | rfl | rfl | rfl <;> exact h
theorem OBJ.any {s : State} {H : Heap} {ws : va_W} {tys : List (ClassId × FieldType)} {y : Nat} {locs : List Loc} (h : OBJ G ws tys y) (hP : va_P D vwCl ws H) (hK : va_K D vwCl tys s) (hxf : xf G A s s.heap) (hS : va_S A s.heap H locs) (hW : Wn G s) : va_Any "java/lang/Object" s H y := by
  have hcas := hW.2.2.1
  rcases h with ⟨q, ci, fs, h1, h2⟩ | ⟨q, cA, x, t0, ty, h1, h2, h3⟩ | ⟨t, ht, rfl⟩
  · cases hq : vwCl[ci]? with
    | none => exact absurd (List.getElem?_eq_none_iff.mp hq) (by show ¬ 14 ≤ _; omega)
    | some r => exact va_rAny hK hP h1 hq (fun comp c0 e1 e2 => vb_asgC (hcas _ (List.mem_append_left _ (List.mem_map.mpr ⟨r, List.mem_of_getElem? hq, rfl⟩))) comp c0 e1 e2)
  · have hc := hP q _ h1
    have hra := (hK.2 t0 _ h2).2
    obtain ⟨nm, hnm, hf⟩ : ∃ nm, nm ∈ casL ∧ s.vm.findClass nm = some cA := by
      rcases h3 with rfl | rfl | rfl | rfl
      · exact ⟨"[I", List.mem_append_right _ (by decide), va_nmL (ty := .int) (by decide +kernel) (by simp) hra⟩
      · exact ⟨"[J", List.mem_append_right _ (by decide), va_nmL (ty := .long) (by decide +kernel) (by simp) hra⟩
      · exact ⟨"[B", List.mem_append_right _ (by decide), va_nmL (ty := .byte) (by decide +kernel) (by simp) hra⟩
      · exact ⟨"[Z", List.mem_append_right _ (by decide), va_nmL (ty := .boolean) (by decide +kernel) (by simp) hra⟩
    obtain ⟨kA, hkA, -⟩ := Vm.findClass_spec hf
    have hcell : H[y]? = some (vp_cell cA x) := hc
    obtain ⟨n, g⟩ := x
    refine ⟨_, hcell, ?_, ⟨kA, ?_⟩, fun comp hcomp => ?_⟩
    · rcases g with g | g | g | g | g <;> rfl
    · rcases g with g | g | g | g | g <;> exact hkA
    · have := vb_asgC (hcas _ hnm) comp cA hcomp hf
      rcases g with g | g | g | g | g <;> exact this
  · obtain ⟨cell, g1, g2, g3, g4⟩ := (hxf.2.1 t ht).1
    obtain ⟨kC, hkC, -⟩ := Vm.findClass_spec g3
    exact ⟨cell, by rw [hS.2.1 _ (Array.getElem?_eq_some_iff.mp g1).1 g4]; exact g1, g2, ⟨kC, hkC⟩, fun comp hcomp => vb_asgC (hcas _ (List.mem_append_right _ (by decide))) comp _ hcomp g3⟩
/-- the row of a list's references: its own at qb, or the library's empty one -/
def BK (G : xG) (ws : va_W) (tys : List (ClassId × FieldType)) (bb n : Nat) (qb : Option Nat) (f : Nat → Option Nat) : Prop := (bb = G.2.2.2.2.2 ∧ n = 0 ∧ qb = none) ∨ ∃ (q1 t0 cap : Nat) (cA : ClassId), qb = some q1 ∧ tys[t0]? = some (cA, .object "java/lang/Object") ∧ ws[q1]? = some (bb, rfA cA cap f) ∧ n ≤ cap ∧ 10 ≤ cap ∧ cap ≤ 100000
/-- the list at q0: n elements f -/
def LST (G : xG) (ws : va_W) (tys : List (ClassId × FieldType)) (q0 a n : Nat) (qb : Option Nat) (f : Nat → Option Nat) : Prop := ∃ (m : Int32) (bb : Nat), ws[q0]? = some (a, lsE m (.ref bb) n) ∧ BK G ws tys bb n qb f
def ELm (G : xG) (ws : va_W) (tys : List (ClassId × FieldType)) (n : Nat) (f : Nat → Option Nat) : Prop := ∀ j, j < n → ∀ y, f j = some y → OBJ G ws tys y
theorem ELm.keep {ws u : va_W} {tys tys' : List (ClassId × FieldType)} {n : Nat} {f : Nat → Option Nat} (h : ELm G ws tys n f) (k : KS ws u) (kt : keepT tys tys') : ELm G u tys' n f := fun j hj y e => (h j hj y e).keep k kt
/-! the words of ArrayList -/
theorem al_in : ∀ w ∈ u_ws RAL TJx4a65c 3, w ∈ tb := vq0_in
theorem al_at : vwCl[0]? = some (RAL, TJx4a65c, 3) := rfl
theorem al_f9 : Cond.fieldLink RAL 9 RAL "elementData" "[Ljava/lang/Object;" ∈ tb := tbm 53 (by decide +kernel)
theorem al_f48 : Cond.fieldLink RAL 48 RAL "size" "I" ∈ tb := tbm 54 (by decide +kernel)
theorem al_f63 : Cond.fieldLink RAL 63 RAL "modCount" "I" ∈ tb := tbm 56 (by decide +kernel)
theorem al_sm : Cond.sameField RAL "java/util/AbstractList" "modCount" "I" ∈ tb := tbm 57 (by decide +kernel)
theorem KP_len {ws u : va_W} (h : ∀ (q : Nat) (x : Nat × va_E), ws[q]? = some x → u[q]? = some x) {q : Nat} (hq : q < ws.length) : q < u.length := by
  cases e : ws[q]? with
  | none => exact absurd (List.getElem?_eq_none_iff.mp e) (by omega)
  | some x => exact at_lt (h q x e)
/-! two cells of a list's world lie apart -/
theorem ls_ne {ws : va_W} {q0 q1 a ba n cap : Nat} {m : Int32} {b : Value} {cA : ClassId} {f : Nat → Option Nat} (h0 : ws[q0]? = some (a, lsE m b n)) (h1 : ws[q1]? = some (ba, rfA cA cap f)) : q0 ≠ q1 := fun e => by
  subst e
  rw [h0] at h1
  cases h1
theorem BK.mod {ws : va_W} {tys : List (ClassId × FieldType)} {q0 a bb n : Nat} {qb : Option Nat} {f : Nat → Option Nat} {m m' : Int32} {v v' : Value} {n' : Nat} (h0 : ws[q0]? = some (a, lsE m v n')) (h : BK G ws tys bb n qb f) : BK G (ws.set q0 (a, lsE m' v' n')) tys bb n qb f := by
  rcases h with h | ⟨q1, t0, cap, cA, h1, h2, h3, h4⟩
  · exact Or.inl h
  · exact Or.inr ⟨q1, t0, cap, cA, h1, h2, set_ne (ls_ne h0 h3) h3, h4⟩
/-- what growing leaves: a new row behind all others -/
def GRW (ws : va_W) (tys : List (ClassId × FieldType)) (q0 a n : Nat) (m : Int32) (f : Nat → Option Nat) (r : Option Nat) (u : va_W × List (ClassId × FieldType)) : Prop := ∃ (q cap : Nat) (cA : ClassId) (f' : Nat → Option Nat), r = some q ∧ u.1[q0]? = some (a, lsE m (.ref q) n) ∧ u.1[ws.length]? = some (q, rfA cA cap f') ∧ u.2[tys.length]? = some (cA, .object "java/lang/Object") ∧ n + 1 ≤ cap ∧ 10 ≤ cap ∧ cap ≤ 100000 ∧ (∀ j, j < n → f' j = f j) ∧ (∀ (q : Nat) (x : Nat × va_E), q ≠ q0 → ws[q]? = some x → u.1[q]? = some x) ∧ keepT tys u.2 ∧ KS ws u.1
/-- what adding leaves: g is the new content -/
def ADQ (G : xG) (ws : va_W) (tys : List (ClassId × FieldType)) (q0 a n' : Nat) (qb : Option Nat) (g : Nat → Option Nat) (u : va_W × List (ClassId × FieldType)) : Prop := ∃ (q1 : Nat) (f' : Nat → Option Nat), LST G u.1 u.2 q0 a n' (some q1) f' ∧ (∀ j, j < n' → f' j = g j) ∧ keepW ws u.1 q0 q1 ∧ (qb = some q1 ∨ ws.length ≤ q1) ∧ keepT tys u.2
end SIMPW
