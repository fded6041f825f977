/-! the law's own frames keep to the table -/
section TYP
variable {mid pc : Nat} {l : aL} {st : List aV} {σ : aM}
def tyv : aV → Nat → Prop
  | .inl _, t => t = 0
  | .inr (.inl _), t => t = 1
  | .inr (.inr none), _ => False
  | .inr (.inr (some q)), t => t = q.1 + 10
def tyS : List aV → List Nat → Prop
  | [], [] => True
  | v :: st, t :: ts => tyv v t ∧ tyS st ts
  | _, _ => False
def tyL (mid : Nat) (l : aL) : Prop := ∀ (k : Nat) (v : aV), l[k]? = some (some v) → tyv v (lcT mid k)
def TYP (mid pc : Nat) (l : aL) (st : List aV) : Prop := mid < 4 ∧ ∃ ts, stT mid pc = some ts ∧ tyS st ts ∧ tyL mid l
theorem tyS_c {v : aV} {st : List aV} {ts : List Nat} (h : tyS (v :: st) ts) : ∃ t r, ts = t :: r ∧ tyv v t ∧ tyS st r := by
  cases ts with
  | nil => exact h.elim
  | cons t r => exact ⟨t, r, rfl, h.1, h.2⟩
theorem tyS_len : ∀ {st : List aV} {ts : List Nat}, tyS st ts → st.length = ts.length
  | [], [], _ => rfl
  | _ :: _, _ :: _, h => congrArg (· + 1) (tyS_len h.2)
  | [], _ :: _, h => h.elim
  | _ :: _, [], h => h.elim
theorem tyS_app : ∀ {a b : List aV} {ts : List Nat}, tyS (a ++ b) ts → tyS a (ts.take a.length) ∧ tyS b (ts.drop a.length)
  | [], b, ts, h => ⟨by simp [tyS], by simpa using h⟩
  | v :: a, b, ts, h => by
    obtain ⟨t, r, rfl, h1, h2⟩ := tyS_c (show tyS (v :: (a ++ b)) ts from h)
    obtain ⟨h3, h4⟩ := tyS_app h2
    exact ⟨⟨h1, h3⟩, h4⟩
theorem tyS_join : ∀ {a b : List aV} {s t : List Nat}, tyS a s → tyS b t → tyS (a ++ b) (s ++ t)
  | [], _, [], _, _, h => h
  | _ :: _, _, _ :: _, _, h, k => ⟨h.1, tyS_join h.2 k⟩
  | [], _, _ :: _, _, h, _ => h.elim
  | _ :: _, _, [], _, h, _ => h.elim
theorem tyS_rev : ∀ {a : List aV} {s : List Nat}, tyS a s → tyS a.reverse s.reverse
  | [], [], _ => trivial
  | v :: a, t :: s, h => by
    rw [List.reverse_cons, List.reverse_cons]
    exact tyS_join (tyS_rev h.2) ⟨h.1, trivial⟩
  | [], _ :: _, h => h.elim
  | _ :: _, [], h => h.elim
theorem tyS_ints : ∀ {a : List aV} {n : Nat}, tyS a (List.replicate n 0) → KSt a
  | [], _, _ => KSt_n
  | v :: a, n, h => by
    obtain ⟨t, r, e, h1, h2⟩ := tyS_c h
    cases n with
    | zero => cases e
    | succ n =>
      cases e
      refine KSt_c ?_ (tyS_ints h2)
      rcases v with v | v | _ | v
      · exact Kv_i
      · exact Kv_l
      · exact Kv_r Kq_n
      · exact absurd h1 (by show ¬ 0 = v.1 + 10; omega)
theorem tyL_s1 {k : Nat} {v : aV} (hv : tyv v (lcT mid k)) (h : tyL mid l) : tyL mid (am_s1 l k v) := fun j w hw => by
  rcases s1_at _ _ _ _ _ hw with ⟨rfl, e⟩ | ⟨-, e, -⟩
  · rw [e]; exact hv
  · exact h j w e
theorem nxt_s {pc' : Nat} {ts : List Nat} (h : nxt mid pc' ts = true) : stT mid pc' = some ts := of_decide_eq_true h
theorem nxJ_s {o : Int} {t : Nat} {ts : List Nat} (h : nxJ mid pc o ts = true) (e : (pc : Int) + o = (t : Int)) : stT mid t = some ts := by
  unfold nxJ at h
  rw [e] at h
  exact nxt_s h
/-- behind a step -/
def TYX (mid : Nat) : aX → Prop
  | .inl (pc', l', st', _) => TYP mid pc' l' st'
  | _ => True
theorem chk_at {i : Instr} {len : Nat} {ts : List Nat} (hm : mid < 4) (hd : decode (mcode mid) pc = .ok (i, len)) (h : stT mid pc = some ts) : chk mid pc i ts = true := by
  unfold stT at h
  cases hf : ((tyT mid).getD (pc / 32) []).find? (fun e => e.1 == pc) with
  | none => rw [hf] at h; cases h
  | some e =>
    rw [hf] at h
    have h1 := List.find?_some hf
    have h2 := tyC hm _ e (List.mem_of_find?_eq_some hf)
    have h1 : e.1 = pc := by simpa using h1
    have h3 : e.2 = ts := Option.some.inj h
    unfold chkE at h2
    rw [h1, hd] at h2
    rw [← h3]; exact h2
end TYP
