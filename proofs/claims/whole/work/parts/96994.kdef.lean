/-! references to what the heap knows: they alone are about in the class's and the reference's methods -/
section KDEF
variable {σ : aM} {K i j n : Nat} {l : aL} {st : List aV}
def Kq (q : Option (Nat × Nat)) : Prop := ∀ r, q = some r → z4 r.1 = true ∨ r.1 = 1
def Kv (v : aV) : Prop := ∀ q, v = vr q → Kq q
def KSt (st : List aV) : Prop := ∀ v ∈ st, Kv v
def KLo (l : aL) : Prop := ∀ v, some v ∈ l → Kv v
def KMe (σ : aM) : Prop := ∀ K i j, Kq (gR σ K i j)
theorem Kq_n : Kq none := fun _ h => by cases h
theorem Kq_s {q1 : Nat} (h : z4 q1 = true ∨ q1 = 1) : Kq (some (q1, i)) := fun r e => by cases e; exact h
theorem Kv_i {x : Int32} : Kv (vi x) := fun q h => by cases h
theorem Kv_l {x : Int64} : Kv (vl x) := fun q h => by cases h
theorem Kv_r {q : Option (Nat × Nat)} (h : Kq q) : Kv (vr q) := fun q' e => by cases e; exact h
theorem Kv_q {q : Option (Nat × Nat)} (h : Kv (vr q)) : Kq q := h q rfl
theorem KSt_n : KSt [] := fun v h => by cases h
theorem KSt_c {v : aV} {st : List aV} (h : Kv v) (hs : KSt st) : KSt (v :: st) := fun w hw => by
  rcases List.mem_cons.mp hw with e | e
  · rw [e]; exact h
  · exact hs w e
theorem KSt_t {v : aV} {st : List aV} (hs : KSt (v :: st)) : KSt st := fun w hw => hs w (List.mem_cons_of_mem _ hw)
theorem KSt_h {v : aV} {st : List aV} (hs : KSt (v :: st)) : Kv v := hs v List.mem_cons_self
theorem KSt_app {a b : List aV} (h : KSt (a ++ b)) : KSt a ∧ KSt b := ⟨fun v hv => h v (List.mem_append_left _ hv), fun v hv => h v (List.mem_append_right _ hv)⟩
theorem KSt_rev {a : List aV} (h : KSt a.reverse) : KSt a := fun v hv => h v (List.mem_reverse.mpr hv)
theorem KLo_s1 {v : aV} {k : Nat} (hv : Kv v) (h : KLo l) : KLo (am_s1 l k v) := fun w hw => by
  obtain ⟨j, hj⟩ := List.getElem?_of_mem hw
  rcases s1_at _ _ _ _ _ hj with ⟨-, e⟩ | ⟨-, e, -⟩
  · rw [e]; exact hv
  · exact h w (List.mem_of_getElem? e)
theorem KLo_s2 {v : aV} {k : Nat} (hv : Kv v) (h : KLo l) : KLo (am_s2 l k v) := fun w hw => by
  obtain ⟨j, hj⟩ := List.getElem?_of_mem hw
  rcases s2_at _ _ _ _ _ hj with ⟨-, e⟩ | ⟨-, -, e, -⟩
  · rw [e]; exact hv
  · exact h w (List.mem_of_getElem? e)
theorem KLo_get {k : Nat} {v : aV} (h : KLo l) (e : l[k]? = some (some v)) : Kv v := h v (List.mem_of_getElem? e)
theorem KLo_ent {As : List aV} {mx : Nat} (h : KSt As) : KLo (am_ent mx As) := fun v hv => by
  unfold am_ent at hv
  rcases List.mem_append.mp hv with e | e
  · unfold am_ea at e
    obtain ⟨a, ha, hb⟩ := List.mem_flatMap.mp e
    have : v = a := by
      rcases a with a | a | a
      · have : some v ∈ [some (Sum.inl a : aV)] := hb
        rcases List.mem_cons.mp this with q | q
        · cases q; rfl
        · cases q
      · have : some v ∈ [some (Sum.inr (Sum.inl a) : aV), none] := hb
        rcases List.mem_cons.mp this with q | q
        · cases q; rfl
        · rcases List.mem_cons.mp q with q | q
          · cases q
          · cases q
      · have : some v ∈ [some (Sum.inr (Sum.inr a) : aV)] := hb
        rcases List.mem_cons.mp this with q | q
        · cases q; rfl
        · cases q
    rw [this]; exact h a ha
  · have := List.eq_of_mem_replicate e
    cases this
theorem KMe_sR {v : Option (Nat × Nat)} (hv : Kq v) (h : KMe σ) : KMe (sR σ K i j v) := fun a c e => by
  rw [gR_sR]
  by_cases q : a = K ∧ c = i ∧ e = j
  · rw [if_pos q]; exact hv
  · rw [if_neg q]; exact h a c e
theorem KMe_mk {len s : Nat} (h : KMe σ) : KMe (am_mk σ K len s) := fun a c e => by
  rw [gR_am_mk]
  by_cases q : a = K ∧ c = gC σ K
  · rw [if_pos q]; exact Kq_n
  · rw [if_neg q]; exact h a c e
theorem KMe_add {q : Option (Nat × Nat)} (hq : Kq q) (h : KMe σ) : KMe (am_add σ K i q) := KMe_sR hq h
theorem KMe_ins {q : Option (Nat × Nat)} (hq : Kq q) (h : KMe σ) : KMe (am_ins σ K i j q) := fun a c e => by
  show Kq (if a = K ∧ c = i then (if e < j then gR σ K i e else if e = j then q else gR σ K i (e - 1)) else gR σ a c e)
  by_cases c0 : a = K ∧ c = i
  · rw [if_pos c0]
    by_cases c1 : e < j
    · rw [if_pos c1]; exact h K i e
    · rw [if_neg c1]
      by_cases c2 : e = j
      · rw [if_pos c2]; exact hq
      · rw [if_neg c2]; exact h K i (e - 1)
  · rw [if_neg c0]; exact h a c e
theorem KMe_rem (h : KMe σ) : KMe (am_rem σ K i j) := fun a c e => by
  show Kq (if a = K ∧ c = i then (if e < j then gR σ K i e else gR σ K i (e + 1)) else gR σ a c e)
  by_cases c0 : a = K ∧ c = i
  · rw [if_pos c0]
    by_cases c1 : e < j
    · rw [if_pos c1]; exact h K i e
    · rw [if_neg c1]; exact h K i (e + 1)
  · rw [if_neg c0]; exact h a c e
theorem Kv_fv {f t : Nat} (h : KMe σ) : Kv (am_fv σ K i f t) := by
  unfold am_fv
  by_cases t1 : t = 1
  · rw [if_pos t1]; exact Kv_l
  · rw [if_neg t1]
    by_cases t2 : t = 2
    · rw [if_pos t2]; exact Kv_r (h K i f)
    · rw [if_neg t2]; exact Kv_i
theorem z4_5 (h : kT K = (5, 0)) : z4 K = true := by unfold z4; rw [h]; rfl
theorem z4_0 {ci : Nat} (h : kT K = (0, ci)) : z4 K = true := by unfold z4; rw [h]; rfl
theorem z4_a {t : ArrayType} (h : kT K = (1, 0) ∧ t = .int ∨ kT K = (2, 0) ∧ t = .long ∨ kT K = (3, 0) ∧ t = .byte ∨ kT K = (4, 0) ∧ t = .boolean) : z4 K = true := by
  rcases h with ⟨h, -⟩ | ⟨h, -⟩ | ⟨h, -⟩ | ⟨h, -⟩ <;> (unfold z4; rw [h]; rfl)
theorem z4_1 (h : kT K = (1, 0)) : z4 K = true := by unfold z4; rw [h]; rfl
theorem Kq_K (h : z4 K = true) : Kv (vr (some (K, i))) := Kv_r (Kq_s (Or.inl h))
end KDEF
