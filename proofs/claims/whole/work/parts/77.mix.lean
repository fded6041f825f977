/-! memories laid together: the kinds of z out of σ, the others out of ρ; a run that knows kinds of z alone goes the same way over the two -/
def mix (z : Nat → Bool) (b : Bool) (σ ρ : aM) : aM := (fun K i j => if z K = true then gI σ K i j else gI ρ K i j, fun K i j => if z K = true then gL σ K i j else gL ρ K i j, fun K i j => if z K = true then gR σ K i j else gR ρ K i j, fun K i => if z K = true then gN σ K i else gN ρ K i, fun K => if z K = true then gC σ K else gC ρ K, if b = true then gB σ else gB ρ)
theorem aM_ext {σ τ : aM} (h1 : ∀ K i j, gI σ K i j = gI τ K i j) (h2 : ∀ K i j, gL σ K i j = gL τ K i j) (h3 : ∀ K i j, gR σ K i j = gR τ K i j) (h4 : ∀ K i, gN σ K i = gN τ K i) (h5 : ∀ K, gC σ K = gC τ K) (h6 : gB σ = gB τ) : σ = τ :=
  Prod.ext (funext fun K => funext fun i => funext fun j => h1 K i j) (Prod.ext (funext fun K => funext fun i => funext fun j => h2 K i j) (Prod.ext (funext fun K => funext fun i => funext fun j => h3 K i j) (Prod.ext (funext fun K => funext fun i => h4 K i) (Prod.ext (funext fun K => h5 K) h6))))
section MIX
variable {z : Nat → Bool} {b : Bool} {σ ρ τ : aM} {K i j n : Nat}
theorem mix_gI (h : z K = true) : gI (mix z b σ ρ) K i j = gI σ K i j := if_pos h
theorem mix_gL (h : z K = true) : gL (mix z b σ ρ) K i j = gL σ K i j := if_pos h
theorem mix_gR (h : z K = true) : gR (mix z b σ ρ) K i j = gR σ K i j := if_pos h
theorem mix_gN (h : z K = true) : gN (mix z b σ ρ) K i = gN σ K i := if_pos h
theorem mix_gC (h : z K = true) : gC (mix z b σ ρ) K = gC σ K := if_pos h
theorem mix_gB (h : b = true) : gB (mix z b σ ρ) = gB σ := if_pos h
theorem nix_gI (h : z K = false) : gI (mix z b σ ρ) K i j = gI ρ K i j := if_neg (by rw [h]; decide)
theorem nix_gL (h : z K = false) : gL (mix z b σ ρ) K i j = gL ρ K i j := if_neg (by rw [h]; decide)
theorem nix_gR (h : z K = false) : gR (mix z b σ ρ) K i j = gR ρ K i j := if_neg (by rw [h]; decide)
theorem nix_gN (h : z K = false) : gN (mix z b σ ρ) K i = gN ρ K i := if_neg (by rw [h]; decide)
theorem nix_gC (h : z K = false) : gC (mix z b σ ρ) K = gC ρ K := if_neg (by rw [h]; decide)
theorem nix_gB (h : b = false) : gB (mix z b σ ρ) = gB ρ := if_neg (by rw [h]; decide)
theorem mix_id : mix z b σ σ = σ := aM_ext (fun K i j => by show (if z K = true then gI σ K i j else gI σ K i j) = _; rw [ite_self]) (fun K i j => by show (if z K = true then gL σ K i j else gL σ K i j) = _; rw [ite_self]) (fun K i j => by show (if z K = true then gR σ K i j else gR σ K i j) = _; rw [ite_self]) (fun K i => by show (if z K = true then gN σ K i else gN σ K i) = _; rw [ite_self]) (fun K => by show (if z K = true then gC σ K else gC σ K) = _; rw [ite_self]) (by show (if b = true then gB σ else gB σ) = _; rw [ite_self])
theorem mx3 {α : Type} {f g : Nat → Nat → Nat → α} {v : α} (h : z K = true) (a c e : Nat) : (if a = K ∧ c = i ∧ e = j then v else if z a = true then f a c e else g a c e) = if z a = true then (if a = K ∧ c = i ∧ e = j then v else f a c e) else g a c e := by
  by_cases q : a = K ∧ c = i ∧ e = j
  · rw [if_pos q, if_pos (by rw [q.1]; exact h), if_pos q]
  · rw [if_neg q, if_neg q]
theorem mx2 {α : Type} {f g : Nat → Nat → α} {v : α} (h : z K = true) (a c : Nat) : (if a = K ∧ c = i then v else if z a = true then f a c else g a c) = if z a = true then (if a = K ∧ c = i then v else f a c) else g a c := by
  by_cases q : a = K ∧ c = i
  · rw [if_pos q, if_pos (by rw [q.1]; exact h), if_pos q]
  · rw [if_neg q, if_neg q]
theorem mxr {α : Type} {f g : Nat → Nat → Nat → α} {v : Nat → α} (h : z K = true) (a c e : Nat) : (if a = K ∧ c = i then v e else if z a = true then f a c e else g a c e) = if z a = true then (if a = K ∧ c = i then v e else f a c e) else g a c e := by
  by_cases q : a = K ∧ c = i
  · rw [if_pos q, if_pos (by rw [q.1]; exact h), if_pos q]
  · rw [if_neg q, if_neg q]
theorem mix_sI {v : Int32} (h : z K = true) : sI (mix z b σ ρ) K i j v = mix z b (sI σ K i j v) ρ := aM_ext (fun a c e => mx3 (f := gI σ) (g := gI ρ) h a c e) (fun _ _ _ => rfl) (fun _ _ _ => rfl) (fun _ _ => rfl) (fun _ => rfl) rfl
theorem mix_sL {v : Int64} (h : z K = true) : sL (mix z b σ ρ) K i j v = mix z b (sL σ K i j v) ρ := aM_ext (fun _ _ _ => rfl) (fun a c e => mx3 (f := gL σ) (g := gL ρ) h a c e) (fun _ _ _ => rfl) (fun _ _ => rfl) (fun _ => rfl) rfl
theorem mix_sR {v : Option (Nat × Nat)} (h : z K = true) : sR (mix z b σ ρ) K i j v = mix z b (sR σ K i j v) ρ := aM_ext (fun _ _ _ => rfl) (fun _ _ _ => rfl) (fun a c e => mx3 (f := gR σ) (g := gR ρ) h a c e) (fun _ _ => rfl) (fun _ => rfl) rfl
theorem mix_sIr {f : Nat → Int32} (h : z K = true) : sIr (mix z b σ ρ) K i f = mix z b (sIr σ K i f) ρ := aM_ext (fun a c e => mxr (f := gI σ) (g := gI ρ) h a c e) (fun _ _ _ => rfl) (fun _ _ _ => rfl) (fun _ _ => rfl) (fun _ => rfl) rfl
theorem mix_sLr {f : Nat → Int64} (h : z K = true) : sLr (mix z b σ ρ) K i f = mix z b (sLr σ K i f) ρ := aM_ext (fun _ _ _ => rfl) (fun a c e => mxr (f := gL σ) (g := gL ρ) h a c e) (fun _ _ _ => rfl) (fun _ _ => rfl) (fun _ => rfl) rfl
theorem mix_sRr {f : Nat → Option (Nat × Nat)} (h : z K = true) : sRr (mix z b σ ρ) K i f = mix z b (sRr σ K i f) ρ := aM_ext (fun _ _ _ => rfl) (fun _ _ _ => rfl) (fun a c e => mxr (f := gR σ) (g := gR ρ) h a c e) (fun _ _ => rfl) (fun _ => rfl) rfl
theorem mix_sN (h : z K = true) : sN (mix z b σ ρ) K i n = mix z b (sN σ K i n) ρ := aM_ext (fun _ _ _ => rfl) (fun _ _ _ => rfl) (fun _ _ _ => rfl) (fun a c => mx2 (f := gN σ) (g := gN ρ) h a c) (fun _ => rfl) rfl
theorem mix_sC (h : z K = true) : sC (mix z b σ ρ) K = mix z b (sC σ K) ρ := aM_ext (fun _ _ _ => rfl) (fun _ _ _ => rfl) (fun _ _ _ => rfl) (fun _ _ => rfl) (fun a => by
  show (if a = K then gC (mix z b σ ρ) K + 1 else if z a = true then gC σ a else gC ρ a) = if z a = true then (if a = K then gC σ K + 1 else gC σ a) else gC ρ a
  by_cases q : a = K
  · rw [if_pos q, if_pos (by rw [q]; exact h), if_pos q, mix_gC h]
  · rw [if_neg q, if_neg q]) rfl
theorem mix_sB {c s : Nat} (h : b = true) : sB (mix z b σ ρ) c s = mix z b (sB σ c s) ρ := aM_ext (fun _ _ _ => rfl) (fun _ _ _ => rfl) (fun _ _ _ => rfl) (fun _ _ => rfl) (fun _ => rfl) (by
  show ((gB (mix z b σ ρ)).1 + c, (gB (mix z b σ ρ)).2 + s) = if b = true then ((gB σ).1 + c, (gB σ).2 + s) else gB ρ
  rw [if_pos h, mix_gB h])
theorem mix_mk {len s : Nat} (h : z K = true) (hb : b = true) : am_mk (mix z b σ ρ) K len s = mix z b (am_mk σ K len s) ρ := by
  unfold am_mk
  rw [mix_gC h, mix_sIr h, mix_sLr h, mix_sRr h, mix_sN h, mix_sC h, mix_sB hb]
theorem mix_ml (h : z K = true) (hb : b = true) : am_ml (mix z b σ ρ) K = mix z b (am_ml σ K) ρ := by
  unfold am_ml
  rw [mix_gC h, mix_sN h, mix_sC h, mix_sB hb]
theorem mix_add {q : Option (Nat × Nat)} (h : z K = true) (hb : b = true) : am_add (mix z b σ ρ) K i q = mix z b (am_add σ K i q) ρ := by
  unfold am_add
  rw [mix_gN h, mix_sR h, mix_sN h, mix_sB hb]
theorem mix_ins {q : Option (Nat × Nat)} (h : z K = true) (hb : b = true) : am_ins (mix z b σ ρ) K i j q = mix z b (am_ins σ K i j q) ρ := by
  unfold am_ins
  simp only [mix_gR h]
  rw [mix_gN h, mix_sRr h, mix_sN h, mix_sB hb]
theorem mix_rem (h : z K = true) : am_rem (mix z b σ ρ) K i j = mix z b (am_rem σ K i j) ρ := by
  unfold am_rem
  simp only [mix_gR h]
  rw [mix_gN h, mix_sRr h, mix_sN h]
theorem mix_thr (h : z 2 = true) (hb : b = true) : am_thr (mix z b σ ρ) = mix z b (am_thr σ) ρ := by
  unfold am_thr
  rw [mix_sC h, mix_sB hb]
theorem mix_fv {f t : Nat} (h : z K = true) : am_fv (mix z b σ ρ) K i f t = am_fv σ K i f t := by
  unfold am_fv
  rw [mix_gI h, mix_gL h, mix_gR h]
/-- a reference into z, or to a text -/
def zkq (z : Nat → Bool) (q : Option (Nat × Nat)) : Prop := ∀ K i, q = some (K, i) → z K = true ∨ K = 1
def zkv (z : Nat → Bool) (v : aV) : Prop := ∀ q, v = vr q → zkq z q
def zkS (z : Nat → Bool) (st : List aV) : Prop := ∀ v ∈ st, zkv z v
def zkL (z : Nat → Bool) (l : aL) : Prop := ∀ v, some v ∈ l → zkv z v
def zkM (z : Nat → Bool) (σ : aM) : Prop := ∀ K i j, z K = true → zkq z (gR σ K i j)
def zkR (z : Nat → Bool) (r : aR) : Prop := ∀ v, r = some (some v) → zkv z v
theorem zkq_n : zkq z none := fun _ _ h => by cases h
theorem zkq_s {q1 : Nat} (h : z q1 = true ∨ q1 = 1) : zkq z (some (q1, i)) := fun K i e => by cases e; exact h
theorem zkv_i {x : Int32} : zkv z (vi x) := fun q h => by cases h
theorem zkv_l {x : Int64} : zkv z (vl x) := fun q h => by cases h
theorem zkv_r {q : Option (Nat × Nat)} (h : zkq z q) : zkv z (vr q) := fun q' e => by cases e; exact h
theorem zkS_n : zkS z [] := fun v h => by cases h
theorem zkS_c {v : aV} {st : List aV} (h : zkv z v) (hs : zkS z st) : zkS z (v :: st) := fun w hw => by
  rcases List.mem_cons.mp hw with e | e
  · rw [e]; exact h
  · exact hs w e
theorem zkS_t {v : aV} {st : List aV} (hs : zkS z (v :: st)) : zkS z st := fun w hw => hs w (List.mem_cons_of_mem _ hw)
theorem zkS_h {v : aV} {st : List aV} (hs : zkS z (v :: st)) : zkv z v := hs v List.mem_cons_self
theorem zkL_kil {a : Option aV} {w : aV} (h : am_kil a = some w) : a = some w := by
  unfold am_kil at h
  split at h
  · cases h
  · exact h
theorem zkL_s1 {v : aV} (hv : zkv z v) : ∀ {k : Nat} {l : aL}, zkL z l → zkL z (am_s1 l k v) := by
  intro k l
  induction l generalizing k with
  | nil => intro h; exact h
  | cons a t ih =>
    intro h w hw
    have ht : zkL z t := fun u hu => h u (List.mem_cons_of_mem _ hu)
    match k with
    | 0 =>
      rcases List.mem_cons.mp (show some w ∈ some v :: t from hw) with e | e
      · cases e; exact hv
      · exact ht w e
    | 1 =>
      rcases List.mem_cons.mp (show some w ∈ am_kil a :: am_s1 t 0 v from hw) with e | e
      · exact h w (by rw [← zkL_kil e.symm]; exact List.mem_cons_self)
      · exact ih ht w e
    | k + 2 =>
      rcases List.mem_cons.mp (show some w ∈ a :: am_s1 t (k + 1) v from hw) with e | e
      · exact h w (by rw [e]; exact List.mem_cons_self)
      · exact ih ht w e
theorem zkL_s2 {v : aV} (hv : zkv z v) : ∀ {k : Nat} {l : aL}, zkL z l → zkL z (am_s2 l k v) := by
  intro k l
  induction l generalizing k with
  | nil => intro h; exact h
  | cons a t ih =>
    intro h w hw
    have ht : zkL z t := fun u hu => h u (List.mem_cons_of_mem _ hu)
    match k with
    | 0 =>
      cases t with
      | nil =>
        rcases List.mem_cons.mp (show some w ∈ [some v] from hw) with e | e
        · cases e; exact hv
        · cases e
      | cons b u =>
        rcases List.mem_cons.mp (show some w ∈ some v :: none :: u from hw) with e | e
        · cases e; exact hv
        · rcases List.mem_cons.mp e with e | e
          · cases e
          · exact ht w (List.mem_cons_of_mem _ e)
    | 1 =>
      rcases List.mem_cons.mp (show some w ∈ am_kil a :: am_s2 t 0 v from hw) with e | e
      · exact h w (by rw [← zkL_kil e.symm]; exact List.mem_cons_self)
      · exact ih ht w e
    | k + 2 =>
      rcases List.mem_cons.mp (show some w ∈ a :: am_s2 t (k + 1) v from hw) with e | e
      · exact h w (by rw [e]; exact List.mem_cons_self)
      · exact ih ht w e
theorem zkL_get {l : aL} {k : Nat} {v : aV} (h : zkL z l) (e : l[k]? = some (some v)) : zkv z v := h v (List.mem_of_getElem? e)
theorem zkL_ent {As : List aV} {mx : Nat} (h : zkS z As) : zkL z (am_ent mx As) := fun v hv => by
  unfold am_ent at hv
  rcases List.mem_append.mp hv with e | e
  · unfold am_ea at e
    obtain ⟨a, ha, hb⟩ := List.mem_flatMap.mp e
    have : v = a := by
      rcases a with a | a | a
      · have : some v ∈ [some (Sum.inl a : aV)] := hb
        rcases List.mem_cons.mp this with q | q
        · cases q; rfl
        · cases q
      · have : some v ∈ [some (Sum.inr (Sum.inl a) : aV), none] := hb
        rcases List.mem_cons.mp this with q | q
        · cases q; rfl
        · rcases List.mem_cons.mp q with q | q
          · cases q
          · cases q
      · have : some v ∈ [some (Sum.inr (Sum.inr a) : aV)] := hb
        rcases List.mem_cons.mp this with q | q
        · cases q; rfl
        · cases q
    rw [this]; exact h a ha
  · have := List.eq_of_mem_replicate e
    cases this
theorem zk_pop : ∀ {n : Nat} {st As r : List aV}, am_pop n st = some (As, r) → zkS z st → zkS z As ∧ zkS z r := by
  intro n
  induction n with
  | zero => intro st As r h hs; cases h; exact ⟨zkS_n, hs⟩
  | succ n ih =>
    intro st As r h hs
    cases st with
    | nil => cases h
    | cons v st =>
      unfold am_pop at h
      cases e : am_pop n st with
      | none => rw [e] at h; cases h
      | some q =>
        obtain ⟨A, r'⟩ := q
        rw [e] at h
        cases h
        obtain ⟨h1, h2⟩ := ih e (zkS_t hs)
        refine ⟨fun w hw => ?_, h2⟩
        rcases List.mem_append.mp hw with q | q
        · exact h1 w q
        · rcases List.mem_cons.mp q with q | q
          · rw [q]; exact zkS_h hs
          · cases q
theorem zk_sI {v : Int32} (h : zkM z σ) : zkM z (sI σ K i j v) := h
theorem zk_sL {v : Int64} (h : zkM z σ) : zkM z (sL σ K i j v) := h
theorem zk_sIr {f : Nat → Int32} (h : zkM z σ) : zkM z (sIr σ K i f) := h
theorem zk_sLr {f : Nat → Int64} (h : zkM z σ) : zkM z (sLr σ K i f) := h
theorem zk_sN (h : zkM z σ) : zkM z (sN σ K i n) := h
theorem zk_sC (h : zkM z σ) : zkM z (sC σ K) := h
theorem zk_sB {c s : Nat} (h : zkM z σ) : zkM z (sB σ c s) := h
theorem zk_sR {v : Option (Nat × Nat)} (hv : zkq z v) (h : zkM z σ) : zkM z (sR σ K i j v) := fun a c e ha => by
  rw [gR_sR]
  by_cases q : a = K ∧ c = i ∧ e = j
  · rw [if_pos q]; exact hv
  · rw [if_neg q]; exact h a c e ha
theorem zk_sRr {f : Nat → Option (Nat × Nat)} (hf : ∀ c, zkq z (f c)) (h : zkM z σ) : zkM z (sRr σ K i f) := fun a c e ha => by
  rw [gR_sRr]
  by_cases q : a = K ∧ c = i
  · rw [if_pos q]; exact hf e
  · rw [if_neg q]; exact h a c e ha
theorem zk_mk {len s : Nat} (h : zkM z σ) : zkM z (am_mk σ K len s) := zk_sB (zk_sC (zk_sN (zk_sRr (fun _ => zkq_n) (zk_sLr (zk_sIr h)))))
theorem zk_ml (h : zkM z σ) : zkM z (am_ml σ K) := h
theorem zk_add {q : Option (Nat × Nat)} (hq : zkq z q) (h : zkM z σ) : zkM z (am_add σ K i q) := zk_sB (zk_sN (zk_sR hq h))
theorem zk_ins {q : Option (Nat × Nat)} (hK : z K = true) (hq : zkq z q) (h : zkM z σ) : zkM z (am_ins σ K i j q) := zk_sB (zk_sN (zk_sRr (fun c => by
  by_cases c1 : c < j
  · rw [if_pos c1]; exact h K i c hK
  · rw [if_neg c1]
    by_cases c2 : c = j
    · rw [if_pos c2]; exact hq
    · rw [if_neg c2]; exact h K i (c - 1) hK) h))
theorem zk_rem (hK : z K = true) (h : zkM z σ) : zkM z (am_rem σ K i j) := zk_sN (zk_sRr (fun c => by
  by_cases c1 : c < j
  · rw [if_pos c1]; exact h K i c hK
  · rw [if_neg c1]; exact h K i (c + 1) hK) h)
theorem zk_thr (h : zkM z σ) : zkM z (am_thr σ) := h
theorem zk_fv {f t : Nat} (hK : z K = true) (h : zkM z σ) : zkv z (am_fv σ K i f t) := by
  unfold am_fv
  by_cases t1 : t = 1
  · rw [if_pos t1]; exact zkv_l
  · rw [if_neg t1]
    by_cases t2 : t = 2
    · rw [if_pos t2]; exact zkv_r (h K i f hK)
    · rw [if_neg t2]; exact zkv_i
end MIX
/-- the set of methods is closed: it calls itself alone, and makes kinds of z alone -/
def mset (z : Nat → Bool) (b : Bool) (ok : Nat → Bool) : Prop := ∀ mid, ok mid = true → (∀ pc, hnd mid pc = none) ∧ (∀ pc K, kS mid pc = some K → z K = true ∧ b = true) ∧ (mid ∈ thrL → z 2 = true ∧ b = true) ∧ (∀ k tag c, cal (mcl mid) k = some (tag, c) → (tag ≤ 4 → ok c = true) ∧ (tag = 11 ∨ tag = 12 → b = true))
def mixX (z : Nat → Bool) (b : Bool) (ρ : aM) : aX → aX
  | .inl (pc, l, st, σ) => .inl (pc, l, st, mix z b σ ρ)
  | .inr (.inl y) => .inr (.inl y)
  | .inr (.inr (r, σ)) => .inr (.inr (r, mix z b σ ρ))
def zkX (z : Nat → Bool) (ok : Nat → Bool) : aX → Prop
  | .inl (_, l, st, σ) => zkL z l ∧ zkS z st ∧ zkM z σ
  | .inr (.inl (c, la, _, r)) => ok c = true ∧ zkL z la ∧ zkS z r
  | .inr (.inr (r, σ)) => zkR z r ∧ zkM z σ
def Sm (z : Nat → Bool) (b : Bool) (ok : Nat → Bool) (ρ : aM) (x y : Option aX) : Prop := match x with
  | none => y = none
  | some a => zkX z ok a ∧ y = some (mixX z b ρ a)
section SM
variable {z : Nat → Bool} {b : Bool} {ok : Nat → Bool} {σ ρ : aM} {l : aL} {st : List aV}
theorem Sm_n : Sm z b ok ρ none none := rfl
theorem Sm_go {pc : Nat} (hl : zkL z l) (hs : zkS z st) (hm : zkM z σ) : Sm z b ok ρ (am_go pc l st σ) (am_go pc l st (mix z b σ ρ)) := ⟨⟨hl, hs, hm⟩, rfl⟩
theorem Sm_gd {c c' : Prop} [Decidable c] [Decidable c'] {x y : Option aX} (h : c' ↔ c) (k : c → Sm z b ok ρ x y) : Sm z b ok ρ (am_gd c x) (am_gd c' y) := by
  unfold am_gd
  by_cases q : c
  · rw [if_pos q, if_pos (h.mpr q)]; exact k q
  · rw [if_neg q, if_neg (fun e => q (h.mp e))]; exact Sm_n
theorem Sm_gn {c c' : Prop} [Decidable c] [Decidable c'] {x y : Option aX} (h : ¬ c) (h' : ¬ c') : Sm z b ok ρ (am_gd c x) (am_gd c' y) := by
  unfold am_gd
  rw [if_neg h, if_neg h']; exact Sm_n
theorem Sm_i1 {f g : Int32 → List aV → Option aX} (hs : zkS z st) (h : ∀ a r, zkS z r → Sm z b ok ρ (f a r) (g a r)) : Sm z b ok ρ (am_i1 st f) (am_i1 st g) := by
  rcases st with _ | ⟨a | a | a, r⟩
  · exact Sm_n
  · exact h a r (zkS_t hs)
  · exact Sm_n
  · exact Sm_n
theorem Sm_i2 {f g : Int32 → Int32 → List aV → Option aX} (hs : zkS z st) (h : ∀ a c r, zkS z r → Sm z b ok ρ (f a c r) (g a c r)) : Sm z b ok ρ (am_i2 st f) (am_i2 st g) := by
  rcases st with _ | ⟨a | a | a, _ | ⟨c | c | c, r⟩⟩ <;> first | exact Sm_n | exact h c a r (zkS_t (zkS_t hs))
theorem Sm_l1 {f g : Int64 → List aV → Option aX} (hs : zkS z st) (h : ∀ a r, zkS z r → Sm z b ok ρ (f a r) (g a r)) : Sm z b ok ρ (am_l1 st f) (am_l1 st g) := by
  rcases st with _ | ⟨a | a | a, r⟩ <;> first | exact Sm_n | exact h a r (zkS_t hs)
theorem Sm_l2 {f g : Int64 → Int64 → List aV → Option aX} (hs : zkS z st) (h : ∀ a c r, zkS z r → Sm z b ok ρ (f a c r) (g a c r)) : Sm z b ok ρ (am_l2 st f) (am_l2 st g) := by
  rcases st with _ | ⟨a | a | a, _ | ⟨c | c | c, r⟩⟩ <;> first | exact Sm_n | exact h c a r (zkS_t (zkS_t hs))
theorem Sm_li {f g : Int64 → Int32 → List aV → Option aX} (hs : zkS z st) (h : ∀ a c r, zkS z r → Sm z b ok ρ (f a c r) (g a c r)) : Sm z b ok ρ (am_li st f) (am_li st g) := by
  rcases st with _ | ⟨a | a | a, _ | ⟨c | c | c, r⟩⟩ <;> first | exact Sm_n | exact h c a r (zkS_t (zkS_t hs))
theorem Sm_rq {f g : Option (Nat × Nat) → List aV → Option aX} (hs : zkS z st) (h : ∀ q r, zkq z q → zkS z r → Sm z b ok ρ (f q r) (g q r)) : Sm z b ok ρ (am_rq st f) (am_rq st g) := by
  rcases st with _ | ⟨a | a | a, r⟩ <;> first | exact Sm_n | exact h a r (zkS_h hs a rfl) (zkS_t hs)
theorem Sm_ro {f g : Nat → Nat → List aV → Option aX} (hs : zkS z st) (h : ∀ K i r, (z K = true ∨ K = 1) → zkS z r → Sm z b ok ρ (f K i r) (g K i r)) : Sm z b ok ρ (am_ro st f) (am_ro st g) := by
  rcases st with _ | ⟨a | a | _ | ⟨K, i⟩, r⟩ <;> first | exact Sm_n | exact h K i r (zkS_h hs _ rfl K i rfl) (zkS_t hs)
theorem Sm_v1 {f g : aV → List aV → Option aX} (hs : zkS z st) (h : ∀ v r, zkv z v → zkS z r → Sm z b ok ρ (f v r) (g v r)) : Sm z b ok ρ (am_v1 st f) (am_v1 st g) := by
  rcases st with _ | ⟨a, r⟩
  · exact Sm_n
  · exact h a r (zkS_h hs) (zkS_t hs)
theorem Sm_li0 {k : Nat} {f g : Int32 → Option aX} (h : ∀ a, Sm z b ok ρ (f a) (g a)) : Sm z b ok ρ (am_li0 l k f) (am_li0 l k g) := by
  unfold am_li0
  rcases l[k]? with _ | _ | a | a | a <;> first | exact Sm_n | exact h a
theorem Sm_ll0 {k : Nat} {f g : Int64 → Option aX} (h : ∀ a, Sm z b ok ρ (f a) (g a)) : Sm z b ok ρ (am_ll0 l k f) (am_ll0 l k g) := by
  unfold am_ll0
  rcases l[k]? with _ | _ | a | a | a <;> first | exact Sm_n | exact h a
theorem Sm_lr0 {k : Nat} {f g : Option (Nat × Nat) → Option aX} (hl : zkL z l) (h : ∀ q, zkq z q → Sm z b ok ρ (f q) (g q)) : Sm z b ok ρ (am_lr0 l k f) (am_lr0 l k g) := by
  unfold am_lr0
  cases e : l[k]? with
  | none => exact Sm_n
  | some v =>
    rcases v with _ | a | a | a
    · exact Sm_n
    · exact Sm_n
    · exact Sm_n
    · exact h a (zkL_get hl e a rfl)
theorem Sm_jm {pc : Nat} {off : Int} {f g : Nat → Option aX} (h : ∀ t, Sm z b ok ρ (f t) (g t)) : Sm z b ok ρ (am_jm pc off f) (am_jm pc off g) := by
  unfold am_jm
  cases (pc : Int) + off with
  | ofNat t => exact h t
  | negSucc t => exact Sm_n
theorem Sm_br {c : ClassFile.Cond} {x y : Int32} {p1 p2 q1 q2 : Option aX} (h1 : Sm z b ok ρ p1 q1) (h2 : Sm z b ok ρ p2 q2) : Sm z b ok ρ (am_br c x y p1 p2) (am_br c x y q1 q2) := by
  cases c
  · show Sm z b ok ρ (if x = y then p1 else p2) (if x = y then q1 else q2)
    by_cases h : x = y
    · rw [if_pos h, if_pos h]; exact h1
    · rw [if_neg h, if_neg h]; exact h2
  · show Sm z b ok ρ (if x = y then p2 else p1) (if x = y then q2 else q1)
    by_cases h : x = y
    · rw [if_pos h, if_pos h]; exact h2
    · rw [if_neg h, if_neg h]; exact h1
  · show Sm z b ok ρ (if x < y then p1 else p2) (if x < y then q1 else q2)
    by_cases h : x < y
    · rw [if_pos h, if_pos h]; exact h1
    · rw [if_neg h, if_neg h]; exact h2
  · show Sm z b ok ρ (if x < y then p2 else p1) (if x < y then q2 else q1)
    by_cases h : x < y
    · rw [if_pos h, if_pos h]; exact h2
    · rw [if_neg h, if_neg h]; exact h1
  · show Sm z b ok ρ (if y < x then p1 else p2) (if y < x then q1 else q2)
    by_cases h : y < x
    · rw [if_pos h, if_pos h]; exact h1
    · rw [if_neg h, if_neg h]; exact h2
  · show Sm z b ok ρ (if y < x then p2 else p1) (if y < x then q2 else q1)
    by_cases h : y < x
    · rw [if_pos h, if_pos h]; exact h2
    · rw [if_neg h, if_neg h]; exact h1
theorem Sm_sw {x : Int32} {pc : Nat} {d : Int} {f g : Nat → Option aX} (h : ∀ t, Sm z b ok ρ (f t) (g t)) : ∀ (os : List Int) (lo : Int), Sm z b ok ρ (am_sw x pc d f lo os) (am_sw x pc d g lo os) := by
  intro os
  induction os with
  | nil => intro lo; exact Sm_jm h
  | cons o r ih =>
    intro lo
    unfold am_sw
    by_cases q : x = Int32.ofInt lo
    · rw [if_pos q, if_pos q]; exact Sm_jm h
    · rw [if_neg q, if_neg q]; exact ih _
theorem Sm_if {c : Prop} [Decidable c] {p1 p2 q1 q2 : Option aX} (h1 : Sm z b ok ρ p1 q1) (h2 : Sm z b ok ρ p2 q2) : Sm z b ok ρ (if c then p1 else p2) (if c then q1 else q2) := by
  by_cases h : c
  · rw [if_pos h, if_pos h]; exact h1
  · rw [if_neg h, if_neg h]; exact h2
theorem Sm_bud {c s : Nat} {x y : Option aX} (hb : b = true) (h : Sm z b ok ρ x y) : Sm z b ok ρ (am_bud σ c s x) (am_bud (mix z b σ ρ) c s y) := by
  unfold am_bud
  exact Sm_gd (by rw [mix_gB hb]) fun _ => h
theorem kne {t : Nat} {a : Nat} (h : kT 1 = (t, a)) (ht : t ≠ 6) : False := by
  have : (6, 0) = (t, a) := h
  cases this; exact ht rfl
theorem Sm_pf {K i f t : Nat} {v : aV} {pc : Nat} {r : List aV} (hz : z K = true) (hv : zkv z v) (hl : zkL z l) (hr : zkS z r) (hm : zkM z σ) : Sm z b ok ρ (am_pf σ K i f t v (fun σ => am_go pc l r σ)) (am_pf (mix z b σ ρ) K i f t v (fun σ => am_go pc l r σ)) := by
  rcases v with x | x | q
  · exact Sm_gd Iff.rfl fun _ => by rw [mix_sI hz]; exact Sm_go hl hr (zk_sI hm)
  · exact Sm_gd Iff.rfl fun _ => by rw [mix_sL hz]; exact Sm_go hl hr (zk_sL hm)
  · exact Sm_gd Iff.rfl fun _ => by rw [mix_sR hz]; exact Sm_go hl hr (zk_sR (hv q rfl) hm)
theorem Sm_new {mid pc k : Nat} (hs' : mset z b ok) (hk : ok mid = true) (hl : zkL z l) (hs : zkS z st) (hm : zkM z σ) : Sm z b ok ρ (am_new mid pc k l st σ) (am_new mid pc k l st (mix z b σ ρ)) := by
  obtain ⟨m1, m2, m3, m4⟩ := hs' mid hk
  unfold am_new
  cases clsP (mcl mid) k with
  | none => exact Sm_n
  | some ci =>
    dsimp only
    by_cases c : ci = 98
    · rw [if_pos c, if_pos c]
      refine Sm_gd Iff.rfl fun ht => ?_
      obtain ⟨h2, hb⟩ := m3 ht.1
      refine Sm_bud hb ?_
      rw [mix_thr h2 hb]
      exact ⟨⟨fun v h => (by cases h), zk_thr hm⟩, rfl⟩
    · rw [if_neg c, if_neg c]
      cases e : kS mid pc with
      | none => exact Sm_n
      | some K =>
        obtain ⟨hz, hb⟩ := m2 pc K e
        dsimp only
        by_cases c0 : ci = 0
        · rw [if_pos c0, if_pos c0]
          refine Sm_gd Iff.rfl fun _ => Sm_bud hb ?_
          rw [mix_gC hz, mix_ml hz hb]
          exact Sm_go hl (zkS_c (zkv_r (zkq_s (Or.inl hz))) hs) (zk_ml hm)
        · rw [if_neg c0, if_neg c0]
          refine Sm_gd Iff.rfl fun _ => Sm_bud hb ?_
          rw [mix_gC hz, mix_mk hz hb]
          exact Sm_go hl (zkS_c (zkv_r (zkq_s (Or.inl hz))) hs) (zk_mk hm)
theorem Sm_lv {tag pc : Nat} (ht : tag = 11 ∨ tag = 12 → b = true) (hl : zkL z l) (hs : zkS z st) (hm : zkM z σ) : Sm z b ok ρ (am_lv tag pc l st σ) (am_lv tag pc l st (mix z b σ ρ)) := by
  match tag, ht with
  | 0, _ => exact Sm_n
  | 1, _ => exact Sm_n
  | 2, _ => exact Sm_n
  | 3, _ => exact Sm_n
  | 4, _ => exact Sm_n
  | 5, _ => exact Sm_n
  | 6, _ => exact Sm_n
  | 7, _ => exact Sm_n
  | 8, _ => exact Sm_n
  | 9, _ => exact Sm_n
  | 10, _ => exact Sm_n
  | 11, ht =>
    have hb := ht (Or.inl rfl)
    refine Sm_rq hs fun q st hq hs => Sm_ro hs fun K i r hK hr => ?_
    rcases hK with hz | rfl
    · rw [mix_gC hz, mix_gN hz, mix_add hz hb]
      exact Sm_gd Iff.rfl fun _ => Sm_bud hb (Sm_go hl (zkS_c zkv_i hr) (zk_add hq hm))
    · exact Sm_gn (fun h => kne h.1 (by decide)) (fun h => kne h.1 (by decide))
  | 12, ht =>
    have hb := ht (Or.inr rfl)
    refine Sm_rq hs fun q st hq hs => Sm_i1 hs fun j st hs => Sm_ro hs fun K i r hK hr => ?_
    rcases hK with hz | rfl
    · rw [mix_gC hz, mix_gN hz, mix_ins hz hb]
      exact Sm_gd Iff.rfl fun _ => Sm_bud hb (Sm_go hl hr (zk_ins hz hq hm))
    · exact Sm_gn (fun h => kne h.1 (by decide)) (fun h => kne h.1 (by decide))
  | 13, _ =>
    refine Sm_i1 hs fun j st hs => Sm_ro hs fun K i r hK hr => ?_
    rcases hK with hz | rfl
    · rw [mix_gC hz, mix_gN hz, mix_gR hz]
      exact Sm_gd Iff.rfl fun _ => Sm_go hl (zkS_c (zkv_r (hm K i _ hz)) hr) hm
    · exact Sm_gn (fun h => kne h.1 (by decide)) (fun h => kne h.1 (by decide))
  | 14, _ =>
    refine Sm_i1 hs fun j st hs => Sm_ro hs fun K i r hK hr => ?_
    rcases hK with hz | rfl
    · rw [mix_gC hz, mix_gN hz, mix_gR hz, mix_rem hz]
      exact Sm_gd Iff.rfl fun _ => Sm_go hl (zkS_c (zkv_r (hm K i _ hz)) hr) (zk_rem hz hm)
    · exact Sm_gn (fun h => kne h.1 (by decide)) (fun h => kne h.1 (by decide))
  | 15, _ =>
    refine Sm_ro hs fun K i r hK hr => ?_
    rcases hK with hz | rfl
    · rw [mix_gC hz, mix_gN hz]
      exact Sm_gd Iff.rfl fun _ => Sm_go hl (zkS_c zkv_i hr) hm
    · exact Sm_gn (fun h => kne h.1 (by decide)) (fun h => kne h.1 (by decide))
  | 16, _ =>
    refine Sm_ro hs fun K i r hK hr => ?_
    rcases hK with hz | rfl
    · rw [mix_gC hz, mix_sN hz]
      exact Sm_gd Iff.rfl fun _ => Sm_go hl hr (zk_sN hm)
    · exact Sm_gn (fun h => kne h.1 (by decide)) (fun h => kne h.1 (by decide))
  | 17, _ =>
    refine Sm_ro hs fun K i r hK hr => ?_
    rcases hK with hz | rfl
    · rw [mix_gC hz, mix_gN hz]
      exact Sm_gd Iff.rfl fun _ => Sm_go hl (zkS_c zkv_i hr) hm
    · exact Sm_gn (fun h => kne h.1 (by decide)) (fun h => kne h.1 (by decide))
  | 18, _ => exact Sm_n
  | 19, _ => exact Sm_n
  | 20, _ => exact Sm_n
  | 21, _ => exact Sm_ro hs fun K i r hK hr => Sm_gd Iff.rfl fun _ => Sm_go hl (zkS_c zkv_i hr) hm
  | 22, _ => exact Sm_i1 hs fun j st hs => Sm_ro hs fun K i r hK hr => Sm_gd Iff.rfl fun _ => Sm_go hl (zkS_c zkv_i hr) hm
  | _ + 23, _ => exact Sm_n
theorem Sm_ls {tag mid pc : Nat} (hs' : mset z b ok) (hk : ok mid = true) (hl : zkL z l) (hs : zkS z st) (hm : zkM z σ) : Sm z b ok ρ (am_ls tag mid pc l st σ) (am_ls tag mid pc l st (mix z b σ ρ)) := by
  obtain ⟨m1, m2, m3, m4⟩ := hs' mid hk
  unfold am_ls
  split
  · refine Sm_i1 hs fun n st hs => Sm_ro hs fun K i r hK hr => ?_
    cases e : kS mid pc with
    | none => exact Sm_n
    | some K2 =>
      obtain ⟨hz2, hb⟩ := m2 pc K2 e
      dsimp only
      rcases hK with hz | rfl
      · have ef : gI (mix z b σ ρ) K i = gI σ K i := funext fun j => mix_gI hz
        rw [mix_gC hz, mix_gN hz, ef, mix_gC hz2, mix_mk hz2 hb, mix_sIr hz2]
        exact Sm_gd Iff.rfl fun _ => Sm_bud hb (Sm_go hl (zkS_c (zkv_r (zkq_s (Or.inl hz2))) hr) (zk_sIr (zk_mk hm)))
      · exact Sm_gn (fun h => kne h.1 (by decide)) (fun h => kne h.1 (by decide))
  · refine Sm_l1 hs fun v st hs => Sm_ro hs fun K i r hK hr => ?_
    rcases hK with hz | rfl
    · rw [mix_gC hz, mix_gN hz, mix_sLr hz]
      exact Sm_gd Iff.rfl fun _ => Sm_go hl hr (zk_sLr hm)
    · exact Sm_gn (fun h => kne h.1 (by decide)) (fun h => kne h.1 (by decide))
  · exact Sm_i2 hs fun x y r hr => Sm_gd Iff.rfl fun _ => Sm_go hl (zkS_c zkv_i hr) hm
  · exact Sm_l2 hs fun x y r hr => Sm_gd Iff.rfl fun _ => Sm_go hl (zkS_c zkv_l hr) hm
  · exact Sm_i1 hs fun x r hr => Sm_gd Iff.rfl fun _ => Sm_go hl (zkS_c zkv_i hr) hm
  · exact Sm_n
end SM
