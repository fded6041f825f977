theorem cat_r {ad : sA} {q : Option (Nat × Nat)} {w : Value} (h : vrel ad (vr q) w) : w.category = 1 := by
  cases q with
  | none => cases h; rfl
  | some q => obtain ⟨a, -, rfl⟩ := h; rfl
section SIMA
variable {D : va_G} {G : xG} {A : Nat → Prop} {mid d : Nat} {p : Program} {lc : Launch} {e : Env} {R : Room} {s : State} {m : MethodId} {args : Array Value} {below : List Frame} {meth : Method} {c : Code} {Z : State → Prop} {ad0 : sA} {b0 : Nat × Nat} {pc : Nat} {l : aL} {st r : List aV} {σ : aM}
theorem rl_iadd {a b : Int32} (C : Cx mid d G A p R s m args meth c) (hd : decode (mcode mid) pc = .ok (.iadd, 1)) (k : Rl D G A mid p lc e R s m args below meth c Z ad0 b0 (pc + 1) l (vi (a + b) :: r) σ) : Rl D G A mid p lc e R s m args below meth c Z ad0 b0 pc l (vi b :: vi a :: r) σ := by
  intro H locs cells slots ls cst ad bk ws tys lv hH hS hle hl hlr hll hst h1 h2
  obtain ⟨w1, c1, rfl, e1, hs1⟩ := hst.cons
  obtain ⟨w2, c2, rfl, e2, hs2⟩ := hs1.cons
  cases e1; cases e2
  exact lv_iadd C.1 C.2.1 hd (k H locs cells slots ls _ ad bk ws tys lv hH hS hle hl hlr hll ⟨rfl, hs2⟩ h1 h2)
theorem rl_isub {a b : Int32} (C : Cx mid d G A p R s m args meth c) (hd : decode (mcode mid) pc = .ok (.isub, 1)) (k : Rl D G A mid p lc e R s m args below meth c Z ad0 b0 (pc + 1) l (vi (a - b) :: r) σ) : Rl D G A mid p lc e R s m args below meth c Z ad0 b0 pc l (vi b :: vi a :: r) σ := by
  intro H locs cells slots ls cst ad bk ws tys lv hH hS hle hl hlr hll hst h1 h2
  obtain ⟨w1, c1, rfl, e1, hs1⟩ := hst.cons
  obtain ⟨w2, c2, rfl, e2, hs2⟩ := hs1.cons
  cases e1; cases e2
  exact lv_isub C.1 C.2.1 hd (k H locs cells slots ls _ ad bk ws tys lv hH hS hle hl hlr hll ⟨rfl, hs2⟩ h1 h2)
theorem rl_imul {a b : Int32} (C : Cx mid d G A p R s m args meth c) (hd : decode (mcode mid) pc = .ok (.imul, 1)) (k : Rl D G A mid p lc e R s m args below meth c Z ad0 b0 (pc + 1) l (vi (a * b) :: r) σ) : Rl D G A mid p lc e R s m args below meth c Z ad0 b0 pc l (vi b :: vi a :: r) σ := by
  intro H locs cells slots ls cst ad bk ws tys lv hH hS hle hl hlr hll hst h1 h2
  obtain ⟨w1, c1, rfl, e1, hs1⟩ := hst.cons
  obtain ⟨w2, c2, rfl, e2, hs2⟩ := hs1.cons
  cases e1; cases e2
  exact lv_imul C.1 C.2.1 hd (k H locs cells slots ls _ ad bk ws tys lv hH hS hle hl hlr hll ⟨rfl, hs2⟩ h1 h2)
theorem rl_iand {a b : Int32} (C : Cx mid d G A p R s m args meth c) (hd : decode (mcode mid) pc = .ok (.iand, 1)) (k : Rl D G A mid p lc e R s m args below meth c Z ad0 b0 (pc + 1) l (vi (a &&& b) :: r) σ) : Rl D G A mid p lc e R s m args below meth c Z ad0 b0 pc l (vi b :: vi a :: r) σ := by
  intro H locs cells slots ls cst ad bk ws tys lv hH hS hle hl hlr hll hst h1 h2
  obtain ⟨w1, c1, rfl, e1, hs1⟩ := hst.cons
  obtain ⟨w2, c2, rfl, e2, hs2⟩ := hs1.cons
  cases e1; cases e2
  exact lv_iand C.1 C.2.1 hd (k H locs cells slots ls _ ad bk ws tys lv hH hS hle hl hlr hll ⟨rfl, hs2⟩ h1 h2)
theorem rl_ior {a b : Int32} (C : Cx mid d G A p R s m args meth c) (hd : decode (mcode mid) pc = .ok (.ior, 1)) (k : Rl D G A mid p lc e R s m args below meth c Z ad0 b0 (pc + 1) l (vi (a ||| b) :: r) σ) : Rl D G A mid p lc e R s m args below meth c Z ad0 b0 pc l (vi b :: vi a :: r) σ := by
  intro H locs cells slots ls cst ad bk ws tys lv hH hS hle hl hlr hll hst h1 h2
  obtain ⟨w1, c1, rfl, e1, hs1⟩ := hst.cons
  obtain ⟨w2, c2, rfl, e2, hs2⟩ := hs1.cons
  cases e1; cases e2
  exact lv_ior C.1 C.2.1 hd (k H locs cells slots ls _ ad bk ws tys lv hH hS hle hl hlr hll ⟨rfl, hs2⟩ h1 h2)
theorem rl_ixor {a b : Int32} (C : Cx mid d G A p R s m args meth c) (hd : decode (mcode mid) pc = .ok (.ixor, 1)) (k : Rl D G A mid p lc e R s m args below meth c Z ad0 b0 (pc + 1) l (vi (a ^^^ b) :: r) σ) : Rl D G A mid p lc e R s m args below meth c Z ad0 b0 pc l (vi b :: vi a :: r) σ := by
  intro H locs cells slots ls cst ad bk ws tys lv hH hS hle hl hlr hll hst h1 h2
  obtain ⟨w1, c1, rfl, e1, hs1⟩ := hst.cons
  obtain ⟨w2, c2, rfl, e2, hs2⟩ := hs1.cons
  cases e1; cases e2
  exact lv_ixor C.1 C.2.1 hd (k H locs cells slots ls _ ad bk ws tys lv hH hS hle hl hlr hll ⟨rfl, hs2⟩ h1 h2)
theorem rl_ishl {a b : Int32} (C : Cx mid d G A p R s m args meth c) (hd : decode (mcode mid) pc = .ok (.ishl, 1)) (k : Rl D G A mid p lc e R s m args below meth c Z ad0 b0 (pc + 1) l (vi (a <<< (b &&& 31)) :: r) σ) : Rl D G A mid p lc e R s m args below meth c Z ad0 b0 pc l (vi b :: vi a :: r) σ := by
  intro H locs cells slots ls cst ad bk ws tys lv hH hS hle hl hlr hll hst h1 h2
  obtain ⟨w1, c1, rfl, e1, hs1⟩ := hst.cons
  obtain ⟨w2, c2, rfl, e2, hs2⟩ := hs1.cons
  cases e1; cases e2
  exact lv_ishl C.1 C.2.1 hd (k H locs cells slots ls _ ad bk ws tys lv hH hS hle hl hlr hll ⟨rfl, hs2⟩ h1 h2)
theorem rl_ishr {a b : Int32} (C : Cx mid d G A p R s m args meth c) (hd : decode (mcode mid) pc = .ok (.ishr, 1)) (k : Rl D G A mid p lc e R s m args below meth c Z ad0 b0 (pc + 1) l (vi (a >>> (b &&& 31)) :: r) σ) : Rl D G A mid p lc e R s m args below meth c Z ad0 b0 pc l (vi b :: vi a :: r) σ := by
  intro H locs cells slots ls cst ad bk ws tys lv hH hS hle hl hlr hll hst h1 h2
  obtain ⟨w1, c1, rfl, e1, hs1⟩ := hst.cons
  obtain ⟨w2, c2, rfl, e2, hs2⟩ := hs1.cons
  cases e1; cases e2
  exact lv_ishr C.1 C.2.1 hd (k H locs cells slots ls _ ad bk ws tys lv hH hS hle hl hlr hll ⟨rfl, hs2⟩ h1 h2)
theorem rl_iushr {a b : Int32} (C : Cx mid d G A p R s m args meth c) (hd : decode (mcode mid) pc = .ok (.iushr, 1)) (k : Rl D G A mid p lc e R s m args below meth c Z ad0 b0 (pc + 1) l (vi (a.toUInt32 >>> (b.toUInt32 &&& Int32.toUInt32 31)).toInt32 :: r) σ) : Rl D G A mid p lc e R s m args below meth c Z ad0 b0 pc l (vi b :: vi a :: r) σ := by
  intro H locs cells slots ls cst ad bk ws tys lv hH hS hle hl hlr hll hst h1 h2
  obtain ⟨w1, c1, rfl, e1, hs1⟩ := hst.cons
  obtain ⟨w2, c2, rfl, e2, hs2⟩ := hs1.cons
  cases e1; cases e2
  exact lv_iushr C.1 C.2.1 hd rfl (k H locs cells slots ls _ ad bk ws tys lv hH hS hle hl hlr hll ⟨rfl, hs2⟩ h1 h2)
theorem rl_idiv {a b : Int32} (hn : ¬ b = 0) (C : Cx mid d G A p R s m args meth c) (hd : decode (mcode mid) pc = .ok (.idiv, 1)) (k : Rl D G A mid p lc e R s m args below meth c Z ad0 b0 (pc + 1) l (vi (a / b) :: r) σ) : Rl D G A mid p lc e R s m args below meth c Z ad0 b0 pc l (vi b :: vi a :: r) σ := by
  intro H locs cells slots ls cst ad bk ws tys lv hH hS hle hl hlr hll hst h1 h2
  obtain ⟨w1, c1, rfl, e1, hs1⟩ := hst.cons
  obtain ⟨w2, c2, rfl, e2, hs2⟩ := hs1.cons
  cases e1; cases e2
  exact lv_idiv C.1 C.2.1 hd hn (k H locs cells slots ls _ ad bk ws tys lv hH hS hle hl hlr hll ⟨rfl, hs2⟩ h1 h2)
theorem rl_irem {a b : Int32} (hn : ¬ b = 0) (C : Cx mid d G A p R s m args meth c) (hd : decode (mcode mid) pc = .ok (.irem, 1)) (k : Rl D G A mid p lc e R s m args below meth c Z ad0 b0 (pc + 1) l (vi (a - a / b * b) :: r) σ) : Rl D G A mid p lc e R s m args below meth c Z ad0 b0 pc l (vi b :: vi a :: r) σ := by
  intro H locs cells slots ls cst ad bk ws tys lv hH hS hle hl hlr hll hst h1 h2
  obtain ⟨w1, c1, rfl, e1, hs1⟩ := hst.cons
  obtain ⟨w2, c2, rfl, e2, hs2⟩ := hs1.cons
  cases e1; cases e2
  exact lv_irem C.1 C.2.1 hd hn (k H locs cells slots ls _ ad bk ws tys lv hH hS hle hl hlr hll ⟨rfl, hs2⟩ h1 h2)
theorem rl_ladd {a b : Int64} (C : Cx mid d G A p R s m args meth c) (hd : decode (mcode mid) pc = .ok (.ladd, 1)) (k : Rl D G A mid p lc e R s m args below meth c Z ad0 b0 (pc + 1) l (vl (a + b) :: r) σ) : Rl D G A mid p lc e R s m args below meth c Z ad0 b0 pc l (vl b :: vl a :: r) σ := by
  intro H locs cells slots ls cst ad bk ws tys lv hH hS hle hl hlr hll hst h1 h2
  obtain ⟨w1, c1, rfl, e1, hs1⟩ := hst.cons
  obtain ⟨w2, c2, rfl, e2, hs2⟩ := hs1.cons
  cases e1; cases e2
  exact lv_ladd C.1 C.2.1 hd (k H locs cells slots ls _ ad bk ws tys lv hH hS hle hl hlr hll ⟨rfl, hs2⟩ h1 h2)
theorem rl_lsub {a b : Int64} (C : Cx mid d G A p R s m args meth c) (hd : decode (mcode mid) pc = .ok (.lsub, 1)) (k : Rl D G A mid p lc e R s m args below meth c Z ad0 b0 (pc + 1) l (vl (a - b) :: r) σ) : Rl D G A mid p lc e R s m args below meth c Z ad0 b0 pc l (vl b :: vl a :: r) σ := by
  intro H locs cells slots ls cst ad bk ws tys lv hH hS hle hl hlr hll hst h1 h2
  obtain ⟨w1, c1, rfl, e1, hs1⟩ := hst.cons
  obtain ⟨w2, c2, rfl, e2, hs2⟩ := hs1.cons
  cases e1; cases e2
  exact lv_lsub C.1 C.2.1 hd (k H locs cells slots ls _ ad bk ws tys lv hH hS hle hl hlr hll ⟨rfl, hs2⟩ h1 h2)
theorem rl_lmul {a b : Int64} (C : Cx mid d G A p R s m args meth c) (hd : decode (mcode mid) pc = .ok (.lmul, 1)) (k : Rl D G A mid p lc e R s m args below meth c Z ad0 b0 (pc + 1) l (vl (a * b) :: r) σ) : Rl D G A mid p lc e R s m args below meth c Z ad0 b0 pc l (vl b :: vl a :: r) σ := by
  intro H locs cells slots ls cst ad bk ws tys lv hH hS hle hl hlr hll hst h1 h2
  obtain ⟨w1, c1, rfl, e1, hs1⟩ := hst.cons
  obtain ⟨w2, c2, rfl, e2, hs2⟩ := hs1.cons
  cases e1; cases e2
  exact lv_lmul C.1 C.2.1 hd (k H locs cells slots ls _ ad bk ws tys lv hH hS hle hl hlr hll ⟨rfl, hs2⟩ h1 h2)
theorem rl_land {a b : Int64} (C : Cx mid d G A p R s m args meth c) (hd : decode (mcode mid) pc = .ok (.land, 1)) (k : Rl D G A mid p lc e R s m args below meth c Z ad0 b0 (pc + 1) l (vl (a &&& b) :: r) σ) : Rl D G A mid p lc e R s m args below meth c Z ad0 b0 pc l (vl b :: vl a :: r) σ := by
  intro H locs cells slots ls cst ad bk ws tys lv hH hS hle hl hlr hll hst h1 h2
  obtain ⟨w1, c1, rfl, e1, hs1⟩ := hst.cons
  obtain ⟨w2, c2, rfl, e2, hs2⟩ := hs1.cons
  cases e1; cases e2
  exact lv_land C.1 C.2.1 hd (k H locs cells slots ls _ ad bk ws tys lv hH hS hle hl hlr hll ⟨rfl, hs2⟩ h1 h2)
theorem rl_lor {a b : Int64} (C : Cx mid d G A p R s m args meth c) (hd : decode (mcode mid) pc = .ok (.lor, 1)) (k : Rl D G A mid p lc e R s m args below meth c Z ad0 b0 (pc + 1) l (vl (a ||| b) :: r) σ) : Rl D G A mid p lc e R s m args below meth c Z ad0 b0 pc l (vl b :: vl a :: r) σ := by
  intro H locs cells slots ls cst ad bk ws tys lv hH hS hle hl hlr hll hst h1 h2
  obtain ⟨w1, c1, rfl, e1, hs1⟩ := hst.cons
  obtain ⟨w2, c2, rfl, e2, hs2⟩ := hs1.cons
  cases e1; cases e2
  exact lv_lor C.1 C.2.1 hd (k H locs cells slots ls _ ad bk ws tys lv hH hS hle hl hlr hll ⟨rfl, hs2⟩ h1 h2)
theorem rl_ldiv {a b : Int64} (hn : ¬ b = 0) (C : Cx mid d G A p R s m args meth c) (hd : decode (mcode mid) pc = .ok (.ldiv, 1)) (k : Rl D G A mid p lc e R s m args below meth c Z ad0 b0 (pc + 1) l (vl (a / b) :: r) σ) : Rl D G A mid p lc e R s m args below meth c Z ad0 b0 pc l (vl b :: vl a :: r) σ := by
  intro H locs cells slots ls cst ad bk ws tys lv hH hS hle hl hlr hll hst h1 h2
  obtain ⟨w1, c1, rfl, e1, hs1⟩ := hst.cons
  obtain ⟨w2, c2, rfl, e2, hs2⟩ := hs1.cons
  cases e1; cases e2
  exact lv_ldiv C.1 C.2.1 hd hn (k H locs cells slots ls _ ad bk ws tys lv hH hS hle hl hlr hll ⟨rfl, hs2⟩ h1 h2)
theorem rl_lshl {a : Int64} {b : Int32} (C : Cx mid d G A p R s m args meth c) (hd : decode (mcode mid) pc = .ok (.lshl, 1)) (k : Rl D G A mid p lc e R s m args below meth c Z ad0 b0 (pc + 1) l (vl (a <<< (b.toInt64 &&& 63)) :: r) σ) : Rl D G A mid p lc e R s m args below meth c Z ad0 b0 pc l (vi b :: vl a :: r) σ := by
  intro H locs cells slots ls cst ad bk ws tys lv hH hS hle hl hlr hll hst h1 h2
  obtain ⟨w1, c1, rfl, e1, hs1⟩ := hst.cons
  obtain ⟨w2, c2, rfl, e2, hs2⟩ := hs1.cons
  cases e1; cases e2
  exact lv_lshl C.1 C.2.1 hd rfl (k H locs cells slots ls _ ad bk ws tys lv hH hS hle hl hlr hll ⟨rfl, hs2⟩ h1 h2)
theorem rl_lshr {a : Int64} {b : Int32} (C : Cx mid d G A p R s m args meth c) (hd : decode (mcode mid) pc = .ok (.lshr, 1)) (k : Rl D G A mid p lc e R s m args below meth c Z ad0 b0 (pc + 1) l (vl (a >>> (b.toInt64 &&& 63)) :: r) σ) : Rl D G A mid p lc e R s m args below meth c Z ad0 b0 pc l (vi b :: vl a :: r) σ := by
  intro H locs cells slots ls cst ad bk ws tys lv hH hS hle hl hlr hll hst h1 h2
  obtain ⟨w1, c1, rfl, e1, hs1⟩ := hst.cons
  obtain ⟨w2, c2, rfl, e2, hs2⟩ := hs1.cons
  cases e1; cases e2
  exact lv_lshr C.1 C.2.1 hd rfl (k H locs cells slots ls _ ad bk ws tys lv hH hS hle hl hlr hll ⟨rfl, hs2⟩ h1 h2)
theorem rl_lcmp {a b : Int64} (C : Cx mid d G A p R s m args meth c) (hd : decode (mcode mid) pc = .ok (.lcmp, 1)) (k : Rl D G A mid p lc e R s m args below meth c Z ad0 b0 (pc + 1) l (vi (lg_cmp a b) :: r) σ) : Rl D G A mid p lc e R s m args below meth c Z ad0 b0 pc l (vl b :: vl a :: r) σ := by
  intro H locs cells slots ls cst ad bk ws tys lv hH hS hle hl hlr hll hst h1 h2
  obtain ⟨w1, c1, rfl, e1, hs1⟩ := hst.cons
  obtain ⟨w2, c2, rfl, e2, hs2⟩ := hs1.cons
  cases e1; cases e2
  exact W.lcmp C.1 C.2.1 hd (k H locs cells slots ls _ ad bk ws tys lv hH hS hle hl hlr hll ⟨rfl, hs2⟩ h1 h2)
theorem rl_i2l {a : Int32} (C : Cx mid d G A p R s m args meth c) (hd : decode (mcode mid) pc = .ok (.i2l, 1)) (k : Rl D G A mid p lc e R s m args below meth c Z ad0 b0 (pc + 1) l (vl a.toInt64 :: r) σ) : Rl D G A mid p lc e R s m args below meth c Z ad0 b0 pc l (vi a :: r) σ := by
  intro H locs cells slots ls cst ad bk ws tys lv hH hS hle hl hlr hll hst h1 h2
  obtain ⟨w1, c1, rfl, e1, hs1⟩ := hst.cons
  cases e1
  exact lv_i2l C.1 C.2.1 hd rfl (k H locs cells slots ls _ ad bk ws tys lv hH hS hle hl hlr hll ⟨rfl, hs1⟩ h1 h2)
theorem rl_l2i {a : Int64} (C : Cx mid d G A p R s m args meth c) (hd : decode (mcode mid) pc = .ok (.l2i, 1)) (k : Rl D G A mid p lc e R s m args below meth c Z ad0 b0 (pc + 1) l (vi a.toInt32 :: r) σ) : Rl D G A mid p lc e R s m args below meth c Z ad0 b0 pc l (vl a :: r) σ := by
  intro H locs cells slots ls cst ad bk ws tys lv hH hS hle hl hlr hll hst h1 h2
  obtain ⟨w1, c1, rfl, e1, hs1⟩ := hst.cons
  cases e1
  exact lv_l2i C.1 C.2.1 hd rfl (k H locs cells slots ls _ ad bk ws tys lv hH hS hle hl hlr hll ⟨rfl, hs1⟩ h1 h2)
theorem rl_i2b {a : Int32} (C : Cx mid d G A p R s m args meth c) (hd : decode (mcode mid) pc = .ok (.i2b, 1)) (k : Rl D G A mid p lc e R s m args below meth c Z ad0 b0 (pc + 1) l (vi a.toInt8.toInt32 :: r) σ) : Rl D G A mid p lc e R s m args below meth c Z ad0 b0 pc l (vi a :: r) σ := by
  intro H locs cells slots ls cst ad bk ws tys lv hH hS hle hl hlr hll hst h1 h2
  obtain ⟨w1, c1, rfl, e1, hs1⟩ := hst.cons
  cases e1
  exact lv_i2b C.1 C.2.1 hd rfl (k H locs cells slots ls _ ad bk ws tys lv hH hS hle hl hlr hll ⟨rfl, hs1⟩ h1 h2)
theorem rl_iconst {n : Int} (C : Cx mid d G A p R s m args meth c) (hd : decode (mcode mid) pc = .ok (.iconst n, 1)) (k : Rl D G A mid p lc e R s m args below meth c Z ad0 b0 (pc + 1) l (vi (Int32.ofInt n) :: st) σ) : Rl D G A mid p lc e R s m args below meth c Z ad0 b0 pc l st σ := by
  intro H locs cells slots ls cst ad bk ws tys lv hH hS hle hl hlr hll hst h1 h2
  exact lv_iconst C.1 C.2.1 hd rfl (k H locs cells slots ls _ ad bk ws tys lv hH hS hle hl hlr hll ⟨rfl, hst⟩ h1 h2)
theorem rl_bipush {n : Int} (C : Cx mid d G A p R s m args meth c) (hd : decode (mcode mid) pc = .ok (.bipush n, 2)) (k : Rl D G A mid p lc e R s m args below meth c Z ad0 b0 (pc + 2) l (vi (Int8.ofInt n).toInt32 :: st) σ) : Rl D G A mid p lc e R s m args below meth c Z ad0 b0 pc l st σ := by
  intro H locs cells slots ls cst ad bk ws tys lv hH hS hle hl hlr hll hst h1 h2
  exact lv_bipush C.1 C.2.1 hd rfl (k H locs cells slots ls _ ad bk ws tys lv hH hS hle hl hlr hll ⟨rfl, hst⟩ h1 h2)
theorem rl_sipush {n : Int} (C : Cx mid d G A p R s m args meth c) (hd : decode (mcode mid) pc = .ok (.sipush n, 3)) (k : Rl D G A mid p lc e R s m args below meth c Z ad0 b0 (pc + 3) l (vi (Int16.ofInt n).toInt32 :: st) σ) : Rl D G A mid p lc e R s m args below meth c Z ad0 b0 pc l st σ := by
  intro H locs cells slots ls cst ad bk ws tys lv hH hS hle hl hlr hll hst h1 h2
  exact lv_sipush C.1 C.2.1 hd rfl (k H locs cells slots ls _ ad bk ws tys lv hH hS hle hl hlr hll ⟨rfl, hst⟩ h1 h2)
theorem rl_lconst {n : Fin 2} (C : Cx mid d G A p R s m args meth c) (hd : decode (mcode mid) pc = .ok (.lconst n, 1)) (k : Rl D G A mid p lc e R s m args below meth c Z ad0 b0 (pc + 1) l (vl (Int64.ofNat n) :: st) σ) : Rl D G A mid p lc e R s m args below meth c Z ad0 b0 pc l st σ := by
  intro H locs cells slots ls cst ad bk ws tys lv hH hS hle hl hlr hll hst h1 h2
  exact lv_lconst C.1 C.2.1 hd rfl (k H locs cells slots ls _ ad bk ws tys lv hH hS hle hl hlr hll ⟨rfl, hst⟩ h1 h2)
theorem rl_null  (C : Cx mid d G A p R s m args meth c) (hd : decode (mcode mid) pc = .ok (.aconst_null, 1)) (k : Rl D G A mid p lc e R s m args below meth c Z ad0 b0 (pc + 1) l (vr none :: st) σ) : Rl D G A mid p lc e R s m args below meth c Z ad0 b0 pc l st σ := by
  intro H locs cells slots ls cst ad bk ws tys lv hH hS hle hl hlr hll hst h1 h2
  exact lv_null C.1 C.2.1 hd (k H locs cells slots ls _ ad bk ws tys lv hH hS hle hl hlr hll ⟨rfl, hst⟩ h1 h2)
theorem rl_ldcI {i : Nat} {v : Int32} (hc : cInt (mcl mid) i = some v) (C : Cx mid d G A p R s m args meth c) (hd : decode (mcode mid) pc = .ok (.ldc i, 2)) (k : Rl D G A mid p lc e R s m args below meth c Z ad0 b0 (pc + 2) l (vi v :: st) σ) : Rl D G A mid p lc e R s m args below meth c Z ad0 b0 pc l st σ := by
  intro H locs cells slots ls cst ad bk ws tys lv hH hS hle hl hlr hll hst h1 h2
  exact lv_ldc C.1 C.2.1 C.2.2.2.1 (C.2.2.2.2.1 _ (ok_int hc)) hd (k H locs cells slots ls _ ad bk ws tys lv hH hS hle hl hlr hll ⟨rfl, hst⟩ h1 h2)
theorem rl_ldc_wI {i : Nat} {v : Int32} (hc : cInt (mcl mid) i = some v) (C : Cx mid d G A p R s m args meth c) (hd : decode (mcode mid) pc = .ok (.ldc_w i, 3)) (k : Rl D G A mid p lc e R s m args below meth c Z ad0 b0 (pc + 3) l (vi v :: st) σ) : Rl D G A mid p lc e R s m args below meth c Z ad0 b0 pc l st σ := by
  intro H locs cells slots ls cst ad bk ws tys lv hH hS hle hl hlr hll hst h1 h2
  exact lv_ldcw C.1 C.2.1 C.2.2.2.1 (C.2.2.2.2.1 _ (ok_int hc)) hd (k H locs cells slots ls _ ad bk ws tys lv hH hS hle hl hlr hll ⟨rfl, hst⟩ h1 h2)
theorem rl_ldc2 {i : Nat} {v : Int64} (hc : cLong (mcl mid) i = some v) (C : Cx mid d G A p R s m args meth c) (hd : decode (mcode mid) pc = .ok (.ldc2_w i, 3)) (k : Rl D G A mid p lc e R s m args below meth c Z ad0 b0 (pc + 3) l (vl v :: st) σ) : Rl D G A mid p lc e R s m args below meth c Z ad0 b0 pc l st σ := by
  intro H locs cells slots ls cst ad bk ws tys lv hH hS hle hl hlr hll hst h1 h2
  exact lv_ldc2 C.1 C.2.1 C.2.2.2.1 (C.2.2.2.2.1 _ (ok_long hc)) hd (k H locs cells slots ls _ ad bk ws tys lv hH hS hle hl hlr hll ⟨rfl, hst⟩ h1 h2)
theorem rl_iload_n {i : Fin 4} {x : Int32} (hv : l[(i : Nat)]? = some (some (vi x))) (C : Cx mid d G A p R s m args meth c) (hd : decode (mcode mid) pc = .ok (.iload_n i, 1)) (k : Rl D G A mid p lc e R s m args below meth c Z ad0 b0 (pc + 1) l (vi x :: st) σ) : Rl D G A mid p lc e R s m args below meth c Z ad0 b0 pc l st σ := by
  intro H locs cells slots ls cst ad bk ws tys lv hH hS hle hl hlr hll hst h1 h2
  obtain ⟨w, g1, g2⟩ := hlr _ _ hv
  have g3 := hl.2.2 _ g1
  cases g2
  exact lv_iload_n C.1 C.2.1 hd rfl g3 (k H locs cells slots ls _ ad bk ws tys lv hH hS hle hl hlr hll ⟨rfl, hst⟩ h1 h2)
theorem rl_iload {i : Nat} {x : Int32} (hv : l[i]? = some (some (vi x))) (C : Cx mid d G A p R s m args meth c) (hd : decode (mcode mid) pc = .ok (.iload i, 2)) (k : Rl D G A mid p lc e R s m args below meth c Z ad0 b0 (pc + 2) l (vi x :: st) σ) : Rl D G A mid p lc e R s m args below meth c Z ad0 b0 pc l st σ := by
  intro H locs cells slots ls cst ad bk ws tys lv hH hS hle hl hlr hll hst h1 h2
  obtain ⟨w, g1, g2⟩ := hlr _ _ hv
  have g3 := hl.2.2 _ g1
  cases g2
  exact lv_iload C.1 C.2.1 hd g3 (k H locs cells slots ls _ ad bk ws tys lv hH hS hle hl hlr hll ⟨rfl, hst⟩ h1 h2)
theorem rl_lload_n {i : Fin 4} {x : Int64} (hv : l[(i : Nat)]? = some (some (vl x))) (C : Cx mid d G A p R s m args meth c) (hd : decode (mcode mid) pc = .ok (.lload_n i, 1)) (k : Rl D G A mid p lc e R s m args below meth c Z ad0 b0 (pc + 1) l (vl x :: st) σ) : Rl D G A mid p lc e R s m args below meth c Z ad0 b0 pc l st σ := by
  intro H locs cells slots ls cst ad bk ws tys lv hH hS hle hl hlr hll hst h1 h2
  obtain ⟨w, g1, g2⟩ := hlr _ _ hv
  have g3 := hl.2.2 _ g1
  cases g2
  exact lv_lload_n C.1 C.2.1 hd rfl g3 (k H locs cells slots ls _ ad bk ws tys lv hH hS hle hl hlr hll ⟨rfl, hst⟩ h1 h2)
theorem rl_lload {i : Nat} {x : Int64} (hv : l[i]? = some (some (vl x))) (C : Cx mid d G A p R s m args meth c) (hd : decode (mcode mid) pc = .ok (.lload i, 2)) (k : Rl D G A mid p lc e R s m args below meth c Z ad0 b0 (pc + 2) l (vl x :: st) σ) : Rl D G A mid p lc e R s m args below meth c Z ad0 b0 pc l st σ := by
  intro H locs cells slots ls cst ad bk ws tys lv hH hS hle hl hlr hll hst h1 h2
  obtain ⟨w, g1, g2⟩ := hlr _ _ hv
  have g3 := hl.2.2 _ g1
  cases g2
  exact lv_lload C.1 C.2.1 hd g3 (k H locs cells slots ls _ ad bk ws tys lv hH hS hle hl hlr hll ⟨rfl, hst⟩ h1 h2)
theorem rl_aload_n {i : Fin 4} {x : Option (Nat × Nat)} (hv : l[(i : Nat)]? = some (some (vr x))) (C : Cx mid d G A p R s m args meth c) (hd : decode (mcode mid) pc = .ok (.aload_n i, 1)) (k : Rl D G A mid p lc e R s m args below meth c Z ad0 b0 (pc + 1) l (vr x :: st) σ) : Rl D G A mid p lc e R s m args below meth c Z ad0 b0 pc l st σ := by
  intro H locs cells slots ls cst ad bk ws tys lv hH hS hle hl hlr hll hst h1 h2
  obtain ⟨w, g1, g2⟩ := hlr _ _ hv
  have g3 := hl.2.2 _ g1
  cases x with
  | none =>
    cases g2
    exact lv_aload_nN C.1 C.2.1 hd rfl g3 (k H locs cells slots ls _ ad bk ws tys lv hH hS hle hl hlr hll ⟨rfl, hst⟩ h1 h2)
  | some q =>
    obtain ⟨a, g4, rfl⟩ := g2
    exact lv_aload_n C.1 C.2.1 hd rfl g3 (k H locs cells slots ls _ ad bk ws tys lv hH hS hle hl hlr hll ⟨⟨a, g4, rfl⟩, hst⟩ h1 h2)
theorem rl_aload {i : Nat} {x : Option (Nat × Nat)} (hv : l[i]? = some (some (vr x))) (C : Cx mid d G A p R s m args meth c) (hd : decode (mcode mid) pc = .ok (.aload i, 2)) (k : Rl D G A mid p lc e R s m args below meth c Z ad0 b0 (pc + 2) l (vr x :: st) σ) : Rl D G A mid p lc e R s m args below meth c Z ad0 b0 pc l st σ := by
  intro H locs cells slots ls cst ad bk ws tys lv hH hS hle hl hlr hll hst h1 h2
  obtain ⟨w, g1, g2⟩ := hlr _ _ hv
  have g3 := hl.2.2 _ g1
  cases x with
  | none =>
    cases g2
    exact lv_aloadN C.1 C.2.1 hd g3 (k H locs cells slots ls _ ad bk ws tys lv hH hS hle hl hlr hll ⟨rfl, hst⟩ h1 h2)
  | some q =>
    obtain ⟨a, g4, rfl⟩ := g2
    exact lv_aload C.1 C.2.1 hd g3 (k H locs cells slots ls _ ad bk ws tys lv hH hS hle hl hlr hll ⟨⟨a, g4, rfl⟩, hst⟩ h1 h2)
theorem rl_istore_n {i : Fin 4} {x : Int32} (hi : (i : Nat) < l.length) (C : Cx mid d G A p R s m args meth c) (hd : decode (mcode mid) pc = .ok (.istore_n i, 1)) (k : Rl D G A mid p lc e R s m args below meth c Z ad0 b0 (pc + 1) (am_s1 l i (vi x)) r σ) : Rl D G A mid p lc e R s m args below meth c Z ad0 b0 pc l (vi x :: r) σ := by
  intro H locs cells slots ls cst ad bk ws tys lv hH hS hle hl hlr hll hst h1 h2
  obtain ⟨w1, c1, rfl, e1, hs1⟩ := hst.cons
  cases e1
  exact lv_istore_n C.1 C.2.1 hd rfl hl (by omega) rfl (fun ls2 hl2 => k H locs cells slots ls2 _ ad bk ws tys _ hH hS hle hl2 (hlr.s1 (v := vi x) rfl) (by rw [s1_len]; exact hll) hs1 h1 h2)
theorem rl_istore {i : Nat} {x : Int32} (hi : i < l.length) (C : Cx mid d G A p R s m args meth c) (hd : decode (mcode mid) pc = .ok (.istore i, 2)) (k : Rl D G A mid p lc e R s m args below meth c Z ad0 b0 (pc + 2) (am_s1 l i (vi x)) r σ) : Rl D G A mid p lc e R s m args below meth c Z ad0 b0 pc l (vi x :: r) σ := by
  intro H locs cells slots ls cst ad bk ws tys lv hH hS hle hl hlr hll hst h1 h2
  obtain ⟨w1, c1, rfl, e1, hs1⟩ := hst.cons
  cases e1
  exact lv_istore C.1 C.2.1 hd hl (by omega) rfl (fun ls2 hl2 => k H locs cells slots ls2 _ ad bk ws tys _ hH hS hle hl2 (hlr.s1 (v := vi x) rfl) (by rw [s1_len]; exact hll) hs1 h1 h2)
theorem rl_lstore_n {i : Fin 4} {x : Int64} (hi : (i : Nat) + 1 < l.length) (C : Cx mid d G A p R s m args meth c) (hd : decode (mcode mid) pc = .ok (.lstore_n i, 1)) (k : Rl D G A mid p lc e R s m args below meth c Z ad0 b0 (pc + 1) (am_s2 l i (vl x)) r σ) : Rl D G A mid p lc e R s m args below meth c Z ad0 b0 pc l (vl x :: r) σ := by
  intro H locs cells slots ls cst ad bk ws tys lv hH hS hle hl hlr hll hst h1 h2
  obtain ⟨w1, c1, rfl, e1, hs1⟩ := hst.cons
  cases e1
  exact lv_lstore_n C.1 C.2.1 hd rfl hl (by omega) rfl (fun ls2 hl2 => k H locs cells slots ls2 _ ad bk ws tys _ hH hS hle hl2 (hlr.s2 (v := vl x) rfl) (by rw [s2_len]; exact hll) hs1 h1 h2)
theorem rl_lstore {i : Nat} {x : Int64} (hi : i + 1 < l.length) (C : Cx mid d G A p R s m args meth c) (hd : decode (mcode mid) pc = .ok (.lstore i, 2)) (k : Rl D G A mid p lc e R s m args below meth c Z ad0 b0 (pc + 2) (am_s2 l i (vl x)) r σ) : Rl D G A mid p lc e R s m args below meth c Z ad0 b0 pc l (vl x :: r) σ := by
  intro H locs cells slots ls cst ad bk ws tys lv hH hS hle hl hlr hll hst h1 h2
  obtain ⟨w1, c1, rfl, e1, hs1⟩ := hst.cons
  cases e1
  exact lv_lstore C.1 C.2.1 hd hl (by omega) rfl (fun ls2 hl2 => k H locs cells slots ls2 _ ad bk ws tys _ hH hS hle hl2 (hlr.s2 (v := vl x) rfl) (by rw [s2_len]; exact hll) hs1 h1 h2)
theorem rl_astore_n {i : Fin 4} {x : Option (Nat × Nat)} (hi : (i : Nat) < l.length) (C : Cx mid d G A p R s m args meth c) (hd : decode (mcode mid) pc = .ok (.astore_n i, 1)) (k : Rl D G A mid p lc e R s m args below meth c Z ad0 b0 (pc + 1) (am_s1 l i (vr x)) r σ) : Rl D G A mid p lc e R s m args below meth c Z ad0 b0 pc l (vr x :: r) σ := by
  intro H locs cells slots ls cst ad bk ws tys lv hH hS hle hl hlr hll hst h1 h2
  obtain ⟨w1, c1, rfl, e1, hs1⟩ := hst.cons
  cases x with
  | none =>
    cases e1
    exact lv_astore_nN C.1 C.2.1 hd rfl hl (by omega) rfl (fun ls2 hl2 => k H locs cells slots ls2 _ ad bk ws tys _ hH hS hle hl2 (hlr.s1 (v := vr none) rfl) (by rw [s1_len]; exact hll) hs1 h1 h2)
  | some q =>
    obtain ⟨a, g4, rfl⟩ := e1
    exact lv_astore_n C.1 C.2.1 hd rfl hl (by omega) rfl (fun ls2 hl2 => k H locs cells slots ls2 _ ad bk ws tys _ hH hS hle hl2 (hlr.s1 (v := vr (some q)) ⟨a, g4, rfl⟩) (by rw [s1_len]; exact hll) hs1 h1 h2)
theorem rl_astore {i : Nat} {x : Option (Nat × Nat)} (hi : i < l.length) (C : Cx mid d G A p R s m args meth c) (hd : decode (mcode mid) pc = .ok (.astore i, 2)) (k : Rl D G A mid p lc e R s m args below meth c Z ad0 b0 (pc + 2) (am_s1 l i (vr x)) r σ) : Rl D G A mid p lc e R s m args below meth c Z ad0 b0 pc l (vr x :: r) σ := by
  intro H locs cells slots ls cst ad bk ws tys lv hH hS hle hl hlr hll hst h1 h2
  obtain ⟨w1, c1, rfl, e1, hs1⟩ := hst.cons
  cases x with
  | none =>
    cases e1
    exact lv_astoreN C.1 C.2.1 hd hl (by omega) rfl (fun ls2 hl2 => k H locs cells slots ls2 _ ad bk ws tys _ hH hS hle hl2 (hlr.s1 (v := vr none) rfl) (by rw [s1_len]; exact hll) hs1 h1 h2)
  | some q =>
    obtain ⟨a, g4, rfl⟩ := e1
    exact lv_astore C.1 C.2.1 hd hl (by omega) rfl (fun ls2 hl2 => k H locs cells slots ls2 _ ad bk ws tys _ hH hS hle hl2 (hlr.s1 (v := vr (some q)) ⟨a, g4, rfl⟩) (by rw [s1_len]; exact hll) hs1 h1 h2)
theorem rl_iinc {i : Nat} {n : Int} {x : Int32} (hi : i < l.length) (hv : l[i]? = some (some (vi x))) (C : Cx mid d G A p R s m args meth c) (hd : decode (mcode mid) pc = .ok (.iinc i n, 3)) (k : Rl D G A mid p lc e R s m args below meth c Z ad0 b0 (pc + 3) (am_s1 l i (vi (x + Int32.ofInt n))) st σ) : Rl D G A mid p lc e R s m args below meth c Z ad0 b0 pc l st σ := by
  intro H locs cells slots ls cst ad bk ws tys lv hH hS hle hl hlr hll hst h1 h2
  obtain ⟨w, g1, g2⟩ := hlr _ _ hv
  cases g2
  obtain ⟨k0, hk0⟩ := List.getElem?_of_mem g1
  exact lv_iinc C.1 C.2.1 hd hl hk0 rfl (by omega) rfl (fun ls2 hl2 => k H locs cells slots ls2 _ ad bk ws tys _ hH hS hle hl2 (hlr.s1 (v := vi (x + Int32.ofInt n)) rfl) (by rw [s1_len]; exact hll) hst h1 h2)
theorem rl_dupI {x : Int32} (C : Cx mid d G A p R s m args meth c) (hd : decode (mcode mid) pc = .ok (.dup, 1)) (k : Rl D G A mid p lc e R s m args below meth c Z ad0 b0 (pc + 1) l (vi x :: vi x :: r) σ) : Rl D G A mid p lc e R s m args below meth c Z ad0 b0 pc l (vi x :: r) σ := by
  intro H locs cells slots ls cst ad bk ws tys lv hH hS hle hl hlr hll hst h1 h2
  obtain ⟨w1, c1, rfl, e1, hs1⟩ := hst.cons
  cases e1
  exact lv_dup C.1 C.2.1 hd rfl (k H locs cells slots ls _ ad bk ws tys lv hH hS hle hl hlr hll ⟨rfl, rfl, hs1⟩ h1 h2)
theorem rl_dupR {x : Option (Nat × Nat)} (C : Cx mid d G A p R s m args meth c) (hd : decode (mcode mid) pc = .ok (.dup, 1)) (k : Rl D G A mid p lc e R s m args below meth c Z ad0 b0 (pc + 1) l (vr x :: vr x :: r) σ) : Rl D G A mid p lc e R s m args below meth c Z ad0 b0 pc l (vr x :: r) σ := by
  intro H locs cells slots ls cst ad bk ws tys lv hH hS hle hl hlr hll hst h1 h2
  obtain ⟨w1, c1, rfl, e1, hs1⟩ := hst.cons
  exact lv_dup C.1 C.2.1 hd (cat_r e1) (k H locs cells slots ls _ ad bk ws tys lv hH hS hle hl hlr hll ⟨e1, e1, hs1⟩ h1 h2)
theorem rl_popI {x : Int32} (C : Cx mid d G A p R s m args meth c) (hd : decode (mcode mid) pc = .ok (.pop, 1)) (k : Rl D G A mid p lc e R s m args below meth c Z ad0 b0 (pc + 1) l r σ) : Rl D G A mid p lc e R s m args below meth c Z ad0 b0 pc l (vi x :: r) σ := by
  intro H locs cells slots ls cst ad bk ws tys lv hH hS hle hl hlr hll hst h1 h2
  obtain ⟨w1, c1, rfl, e1, hs1⟩ := hst.cons
  cases e1
  exact lv_pop C.1 C.2.1 hd rfl (k H locs cells slots ls _ ad bk ws tys lv hH hS hle hl hlr hll hs1 h1 h2)
theorem rl_popR {x : Option (Nat × Nat)} (C : Cx mid d G A p R s m args meth c) (hd : decode (mcode mid) pc = .ok (.pop, 1)) (k : Rl D G A mid p lc e R s m args below meth c Z ad0 b0 (pc + 1) l r σ) : Rl D G A mid p lc e R s m args below meth c Z ad0 b0 pc l (vr x :: r) σ := by
  intro H locs cells slots ls cst ad bk ws tys lv hH hS hle hl hlr hll hst h1 h2
  obtain ⟨w1, c1, rfl, e1, hs1⟩ := hst.cons
  exact lv_pop C.1 C.2.1 hd (cat_r e1) (k H locs cells slots ls _ ad bk ws tys lv hH hS hle hl hlr hll hs1 h1 h2)
theorem rl_dup2 {x : Int32} {q : Option (Nat × Nat)} (C : Cx mid d G A p R s m args meth c) (hd : decode (mcode mid) pc = .ok (.dup2, 1)) (k : Rl D G A mid p lc e R s m args below meth c Z ad0 b0 (pc + 1) l (vi x :: vr q :: vi x :: vr q :: r) σ) : Rl D G A mid p lc e R s m args below meth c Z ad0 b0 pc l (vi x :: vr q :: r) σ := by
  intro H locs cells slots ls cst ad bk ws tys lv hH hS hle hl hlr hll hst h1 h2
  obtain ⟨w1, c1, rfl, e1, hs1⟩ := hst.cons
  obtain ⟨w2, c2, rfl, e2, hs2⟩ := hs1.cons
  cases e1
  exact lv_dup2_11 C.1 C.2.1 hd rfl (cat_r e2) (k H locs cells slots ls _ ad bk ws tys lv hH hS hle hl hlr hll ⟨rfl, e2, rfl, e2, hs2⟩ h1 h2)
theorem rl_goto {o : Int} {t : Nat} (ht : (pc : Int) + o = (t : Int)) (C : Cx mid d G A p R s m args meth c) (hd : decode (mcode mid) pc = .ok (.goto o, 3)) (k : Rl D G A mid p lc e R s m args below meth c Z ad0 b0 t l st σ) : Rl D G A mid p lc e R s m args below meth c Z ad0 b0 pc l st σ := by
  intro H locs cells slots ls cst ad bk ws tys lv hH hS hle hl hlr hll hst h1 h2
  exact lv_goto C.1 C.2.1 hd ht (k H locs cells slots ls _ ad bk ws tys lv hH hS hle hl hlr hll hst h1 h2)
theorem rl_icmp_eq {a b : Int32} {o : Int} {t : Nat} (ht : (pc : Int) + o = (t : Int)) (C : Cx mid d G A p R s m args meth c) (hd : decode (mcode mid) pc = .ok (.if_icmp .eq o, 3)) (kt : a = b → Rl D G A mid p lc e R s m args below meth c Z ad0 b0 t l r σ) (kf : ¬ (a = b) → Rl D G A mid p lc e R s m args below meth c Z ad0 b0 (pc + 3) l r σ) : Rl D G A mid p lc e R s m args below meth c Z ad0 b0 pc l (vi b :: vi a :: r) σ := by
  intro H locs cells slots ls cst ad bk ws tys lv hH hS hle hl hlr hll hst h1 h2
  obtain ⟨w1, c1, rfl, e1, hs1⟩ := hst.cons
  obtain ⟨w2, c2, rfl, e2, hs2⟩ := hs1.cons
  cases e1; cases e2
  exact lv_icmp_eq C.1 C.2.1 hd ht (fun h => kt h H locs cells slots ls _ ad bk ws tys lv hH hS hle hl hlr hll hs2 h1 h2) (fun h => kf h H locs cells slots ls _ ad bk ws tys lv hH hS hle hl hlr hll hs2 h1 h2)
theorem rl_if_eq {a : Int32} {o : Int} {t : Nat} (ht : (pc : Int) + o = (t : Int)) (C : Cx mid d G A p R s m args meth c) (hd : decode (mcode mid) pc = .ok (.ifCond .eq o, 3)) (kt : a = 0 → Rl D G A mid p lc e R s m args below meth c Z ad0 b0 t l r σ) (kf : ¬ (a = 0) → Rl D G A mid p lc e R s m args below meth c Z ad0 b0 (pc + 3) l r σ) : Rl D G A mid p lc e R s m args below meth c Z ad0 b0 pc l (vi a :: r) σ := by
  intro H locs cells slots ls cst ad bk ws tys lv hH hS hle hl hlr hll hst h1 h2
  obtain ⟨w1, c1, rfl, e1, hs1⟩ := hst.cons
  cases e1
  exact lv_if_eq C.1 C.2.1 hd ht (fun h => kt h H locs cells slots ls _ ad bk ws tys lv hH hS hle hl hlr hll hs1 h1 h2) (fun h => kf h H locs cells slots ls _ ad bk ws tys lv hH hS hle hl hlr hll hs1 h1 h2)
theorem rl_icmp_ne {a b : Int32} {o : Int} {t : Nat} (ht : (pc : Int) + o = (t : Int)) (C : Cx mid d G A p R s m args meth c) (hd : decode (mcode mid) pc = .ok (.if_icmp .ne o, 3)) (kt : ¬ a = b → Rl D G A mid p lc e R s m args below meth c Z ad0 b0 t l r σ) (kf : ¬ (¬ a = b) → Rl D G A mid p lc e R s m args below meth c Z ad0 b0 (pc + 3) l r σ) : Rl D G A mid p lc e R s m args below meth c Z ad0 b0 pc l (vi b :: vi a :: r) σ := by
  intro H locs cells slots ls cst ad bk ws tys lv hH hS hle hl hlr hll hst h1 h2
  obtain ⟨w1, c1, rfl, e1, hs1⟩ := hst.cons
  obtain ⟨w2, c2, rfl, e2, hs2⟩ := hs1.cons
  cases e1; cases e2
  exact lv_icmp_ne C.1 C.2.1 hd ht (fun h => kt h H locs cells slots ls _ ad bk ws tys lv hH hS hle hl hlr hll hs2 h1 h2) (fun h => kf (not_not_intro h) H locs cells slots ls _ ad bk ws tys lv hH hS hle hl hlr hll hs2 h1 h2)
theorem rl_if_ne {a : Int32} {o : Int} {t : Nat} (ht : (pc : Int) + o = (t : Int)) (C : Cx mid d G A p R s m args meth c) (hd : decode (mcode mid) pc = .ok (.ifCond .ne o, 3)) (kt : ¬ a = 0 → Rl D G A mid p lc e R s m args below meth c Z ad0 b0 t l r σ) (kf : ¬ (¬ a = 0) → Rl D G A mid p lc e R s m args below meth c Z ad0 b0 (pc + 3) l r σ) : Rl D G A mid p lc e R s m args below meth c Z ad0 b0 pc l (vi a :: r) σ := by
  intro H locs cells slots ls cst ad bk ws tys lv hH hS hle hl hlr hll hst h1 h2
  obtain ⟨w1, c1, rfl, e1, hs1⟩ := hst.cons
  cases e1
  exact lv_if_ne C.1 C.2.1 hd ht (fun h => kt h H locs cells slots ls _ ad bk ws tys lv hH hS hle hl hlr hll hs1 h1 h2) (fun h => kf (not_not_intro h) H locs cells slots ls _ ad bk ws tys lv hH hS hle hl hlr hll hs1 h1 h2)
theorem rl_icmp_lt {a b : Int32} {o : Int} {t : Nat} (ht : (pc : Int) + o = (t : Int)) (C : Cx mid d G A p R s m args meth c) (hd : decode (mcode mid) pc = .ok (.if_icmp .lt o, 3)) (kt : a < b → Rl D G A mid p lc e R s m args below meth c Z ad0 b0 t l r σ) (kf : ¬ (a < b) → Rl D G A mid p lc e R s m args below meth c Z ad0 b0 (pc + 3) l r σ) : Rl D G A mid p lc e R s m args below meth c Z ad0 b0 pc l (vi b :: vi a :: r) σ := by
  intro H locs cells slots ls cst ad bk ws tys lv hH hS hle hl hlr hll hst h1 h2
  obtain ⟨w1, c1, rfl, e1, hs1⟩ := hst.cons
  obtain ⟨w2, c2, rfl, e2, hs2⟩ := hs1.cons
  cases e1; cases e2
  exact lv_icmp_lt C.1 C.2.1 hd ht (fun h => kt h H locs cells slots ls _ ad bk ws tys lv hH hS hle hl hlr hll hs2 h1 h2) (fun h => kf h H locs cells slots ls _ ad bk ws tys lv hH hS hle hl hlr hll hs2 h1 h2)
theorem rl_if_lt {a : Int32} {o : Int} {t : Nat} (ht : (pc : Int) + o = (t : Int)) (C : Cx mid d G A p R s m args meth c) (hd : decode (mcode mid) pc = .ok (.ifCond .lt o, 3)) (kt : a < 0 → Rl D G A mid p lc e R s m args below meth c Z ad0 b0 t l r σ) (kf : ¬ (a < 0) → Rl D G A mid p lc e R s m args below meth c Z ad0 b0 (pc + 3) l r σ) : Rl D G A mid p lc e R s m args below meth c Z ad0 b0 pc l (vi a :: r) σ := by
  intro H locs cells slots ls cst ad bk ws tys lv hH hS hle hl hlr hll hst h1 h2
  obtain ⟨w1, c1, rfl, e1, hs1⟩ := hst.cons
  cases e1
  exact lv_if_lt C.1 C.2.1 hd ht (fun h => kt h H locs cells slots ls _ ad bk ws tys lv hH hS hle hl hlr hll hs1 h1 h2) (fun h => kf h H locs cells slots ls _ ad bk ws tys lv hH hS hle hl hlr hll hs1 h1 h2)
theorem rl_icmp_ge {a b : Int32} {o : Int} {t : Nat} (ht : (pc : Int) + o = (t : Int)) (C : Cx mid d G A p R s m args meth c) (hd : decode (mcode mid) pc = .ok (.if_icmp .ge o, 3)) (kt : ¬ a < b → Rl D G A mid p lc e R s m args below meth c Z ad0 b0 t l r σ) (kf : ¬ (¬ a < b) → Rl D G A mid p lc e R s m args below meth c Z ad0 b0 (pc + 3) l r σ) : Rl D G A mid p lc e R s m args below meth c Z ad0 b0 pc l (vi b :: vi a :: r) σ := by
  intro H locs cells slots ls cst ad bk ws tys lv hH hS hle hl hlr hll hst h1 h2
  obtain ⟨w1, c1, rfl, e1, hs1⟩ := hst.cons
  obtain ⟨w2, c2, rfl, e2, hs2⟩ := hs1.cons
  cases e1; cases e2
  exact lv_icmp_ge C.1 C.2.1 hd ht (fun h => kt (Int32.not_lt.mpr h) H locs cells slots ls _ ad bk ws tys lv hH hS hle hl hlr hll hs2 h1 h2) (fun h => kf (fun g => h (Int32.not_lt.mp g)) H locs cells slots ls _ ad bk ws tys lv hH hS hle hl hlr hll hs2 h1 h2)
theorem rl_if_ge {a : Int32} {o : Int} {t : Nat} (ht : (pc : Int) + o = (t : Int)) (C : Cx mid d G A p R s m args meth c) (hd : decode (mcode mid) pc = .ok (.ifCond .ge o, 3)) (kt : ¬ a < 0 → Rl D G A mid p lc e R s m args below meth c Z ad0 b0 t l r σ) (kf : ¬ (¬ a < 0) → Rl D G A mid p lc e R s m args below meth c Z ad0 b0 (pc + 3) l r σ) : Rl D G A mid p lc e R s m args below meth c Z ad0 b0 pc l (vi a :: r) σ := by
  intro H locs cells slots ls cst ad bk ws tys lv hH hS hle hl hlr hll hst h1 h2
  obtain ⟨w1, c1, rfl, e1, hs1⟩ := hst.cons
  cases e1
  exact lv_if_ge C.1 C.2.1 hd ht (fun h => kt (Int32.not_lt.mpr h) H locs cells slots ls _ ad bk ws tys lv hH hS hle hl hlr hll hs1 h1 h2) (fun h => kf (fun g => h (Int32.not_lt.mp g)) H locs cells slots ls _ ad bk ws tys lv hH hS hle hl hlr hll hs1 h1 h2)
theorem rl_icmp_gt {a b : Int32} {o : Int} {t : Nat} (ht : (pc : Int) + o = (t : Int)) (C : Cx mid d G A p R s m args meth c) (hd : decode (mcode mid) pc = .ok (.if_icmp .gt o, 3)) (kt : b < a → Rl D G A mid p lc e R s m args below meth c Z ad0 b0 t l r σ) (kf : ¬ (b < a) → Rl D G A mid p lc e R s m args below meth c Z ad0 b0 (pc + 3) l r σ) : Rl D G A mid p lc e R s m args below meth c Z ad0 b0 pc l (vi b :: vi a :: r) σ := by
  intro H locs cells slots ls cst ad bk ws tys lv hH hS hle hl hlr hll hst h1 h2
  obtain ⟨w1, c1, rfl, e1, hs1⟩ := hst.cons
  obtain ⟨w2, c2, rfl, e2, hs2⟩ := hs1.cons
  cases e1; cases e2
  exact lv_icmp_gt C.1 C.2.1 hd ht (fun h => kt h H locs cells slots ls _ ad bk ws tys lv hH hS hle hl hlr hll hs2 h1 h2) (fun h => kf h H locs cells slots ls _ ad bk ws tys lv hH hS hle hl hlr hll hs2 h1 h2)
theorem rl_if_gt {a : Int32} {o : Int} {t : Nat} (ht : (pc : Int) + o = (t : Int)) (C : Cx mid d G A p R s m args meth c) (hd : decode (mcode mid) pc = .ok (.ifCond .gt o, 3)) (kt : 0 < a → Rl D G A mid p lc e R s m args below meth c Z ad0 b0 t l r σ) (kf : ¬ (0 < a) → Rl D G A mid p lc e R s m args below meth c Z ad0 b0 (pc + 3) l r σ) : Rl D G A mid p lc e R s m args below meth c Z ad0 b0 pc l (vi a :: r) σ := by
  intro H locs cells slots ls cst ad bk ws tys lv hH hS hle hl hlr hll hst h1 h2
  obtain ⟨w1, c1, rfl, e1, hs1⟩ := hst.cons
  cases e1
  exact lv_if_gt C.1 C.2.1 hd ht (fun h => kt h H locs cells slots ls _ ad bk ws tys lv hH hS hle hl hlr hll hs1 h1 h2) (fun h => kf h H locs cells slots ls _ ad bk ws tys lv hH hS hle hl hlr hll hs1 h1 h2)
theorem rl_icmp_le {a b : Int32} {o : Int} {t : Nat} (ht : (pc : Int) + o = (t : Int)) (C : Cx mid d G A p R s m args meth c) (hd : decode (mcode mid) pc = .ok (.if_icmp .le o, 3)) (kt : ¬ b < a → Rl D G A mid p lc e R s m args below meth c Z ad0 b0 t l r σ) (kf : ¬ (¬ b < a) → Rl D G A mid p lc e R s m args below meth c Z ad0 b0 (pc + 3) l r σ) : Rl D G A mid p lc e R s m args below meth c Z ad0 b0 pc l (vi b :: vi a :: r) σ := by
  intro H locs cells slots ls cst ad bk ws tys lv hH hS hle hl hlr hll hst h1 h2
  obtain ⟨w1, c1, rfl, e1, hs1⟩ := hst.cons
  obtain ⟨w2, c2, rfl, e2, hs2⟩ := hs1.cons
  cases e1; cases e2
  exact lv_icmp_le C.1 C.2.1 hd ht (fun h => kt (Int32.not_lt.mpr h) H locs cells slots ls _ ad bk ws tys lv hH hS hle hl hlr hll hs2 h1 h2) (fun h => kf (fun g => h (Int32.not_lt.mp g)) H locs cells slots ls _ ad bk ws tys lv hH hS hle hl hlr hll hs2 h1 h2)
theorem rl_if_le {a : Int32} {o : Int} {t : Nat} (ht : (pc : Int) + o = (t : Int)) (C : Cx mid d G A p R s m args meth c) (hd : decode (mcode mid) pc = .ok (.ifCond .le o, 3)) (kt : ¬ 0 < a → Rl D G A mid p lc e R s m args below meth c Z ad0 b0 t l r σ) (kf : ¬ (¬ 0 < a) → Rl D G A mid p lc e R s m args below meth c Z ad0 b0 (pc + 3) l r σ) : Rl D G A mid p lc e R s m args below meth c Z ad0 b0 pc l (vi a :: r) σ := by
  intro H locs cells slots ls cst ad bk ws tys lv hH hS hle hl hlr hll hst h1 h2
  obtain ⟨w1, c1, rfl, e1, hs1⟩ := hst.cons
  cases e1
  exact lv_if_le C.1 C.2.1 hd ht (fun h => kt (Int32.not_lt.mpr h) H locs cells slots ls _ ad bk ws tys lv hH hS hle hl hlr hll hs1 h1 h2) (fun h => kf (fun g => h (Int32.not_lt.mp g)) H locs cells slots ls _ ad bk ws tys lv hH hS hle hl hlr hll hs1 h1 h2)
theorem rl_ifnull {q : Option (Nat × Nat)} {o : Int} {t : Nat} (ht : (pc : Int) + o = (t : Int)) (C : Cx mid d G A p R s m args meth c) (hd : decode (mcode mid) pc = .ok (.ifnull o, 3)) (kt : q = none → Rl D G A mid p lc e R s m args below meth c Z ad0 b0 t l r σ) (kf : ¬ q = none → Rl D G A mid p lc e R s m args below meth c Z ad0 b0 (pc + 3) l r σ) : Rl D G A mid p lc e R s m args below meth c Z ad0 b0 pc l (vr q :: r) σ := by
  intro H locs cells slots ls cst ad bk ws tys lv hH hS hle hl hlr hll hst h1 h2
  obtain ⟨w1, c1, rfl, e1, hs1⟩ := hst.cons
  cases q with
  | none => cases e1; exact lv_ifnullN C.1 C.2.1 hd ht (kt rfl H locs cells slots ls _ ad bk ws tys lv hH hS hle hl hlr hll hs1 h1 h2)
  | some q => obtain ⟨a, -, rfl⟩ := e1; exact lv_ifnull C.1 C.2.1 hd (kf (fun h => by cases h) H locs cells slots ls _ ad bk ws tys lv hH hS hle hl hlr hll hs1 h1 h2)
theorem rl_ifnonnull {q : Option (Nat × Nat)} {o : Int} {t : Nat} (ht : (pc : Int) + o = (t : Int)) (C : Cx mid d G A p R s m args meth c) (hd : decode (mcode mid) pc = .ok (.ifnonnull o, 3)) (kt : q = none → Rl D G A mid p lc e R s m args below meth c Z ad0 b0 (pc + 3) l r σ) (kf : ¬ q = none → Rl D G A mid p lc e R s m args below meth c Z ad0 b0 t l r σ) : Rl D G A mid p lc e R s m args below meth c Z ad0 b0 pc l (vr q :: r) σ := by
  intro H locs cells slots ls cst ad bk ws tys lv hH hS hle hl hlr hll hst h1 h2
  obtain ⟨w1, c1, rfl, e1, hs1⟩ := hst.cons
  cases q with
  | none => cases e1; exact lv_ifnonnullN C.1 C.2.1 hd (kt rfl H locs cells slots ls _ ad bk ws tys lv hH hS hle hl hlr hll hs1 h1 h2)
  | some q => obtain ⟨a, -, rfl⟩ := e1; exact lv_ifnonnull C.1 C.2.1 hd ht (kf (fun h => by cases h) H locs cells slots ls _ ad bk ws tys lv hH hS hle hl hlr hll hs1 h1 h2)
end SIMA
