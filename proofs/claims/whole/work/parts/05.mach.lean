/-! THE ABSTRACT MACHINE: a method's body over a memory of three functions (ints, longs, references: by kind, number, slot), sizes, how many of a kind are made, and what has been made in all. It is a function (am_nx: one instruction); am_ex runs it with fuel. Part 07 shows that the machine of the Statement follows it. -/
abbrev aV : Type := Int32 ⊕ (Int64 ⊕ Option (Nat × Nat))
abbrev vi (x : Int32) : aV := Sum.inl x
abbrev vl (x : Int64) : aV := Sum.inr (Sum.inl x)
abbrev vr (r : Option (Nat × Nat)) : aV := Sum.inr (Sum.inr r)
abbrev aL : Type := List (Option aV)
abbrev aM : Type := (Nat → Nat → Nat → Int32) × (Nat → Nat → Nat → Int64) × (Nat → Nat → Nat → Option (Nat × Nat)) × (Nat → Nat → Nat) × (Nat → Nat) × (Nat × Nat)
/-- how a method ends: thrown; nothing; a value -/
abbrev aR : Type := Option (Option aV)
abbrev aX : Type := (Nat × aL × List aV × aM) ⊕ ((Nat × aL × Nat × List aV) ⊕ (aR × aM))
def gI (σ : aM) (K i j : Nat) : Int32 := σ.1 K i j
def gL (σ : aM) (K i j : Nat) : Int64 := σ.2.1 K i j
def gR (σ : aM) (K i j : Nat) : Option (Nat × Nat) := σ.2.2.1 K i j
def gN (σ : aM) (K i : Nat) : Nat := σ.2.2.2.1 K i
def gC (σ : aM) (K : Nat) : Nat := σ.2.2.2.2.1 K
def gB (σ : aM) : Nat × Nat := σ.2.2.2.2.2
def am_u3 {α : Type} (f : Nat → Nat → Nat → α) (K i j : Nat) (v : α) : Nat → Nat → Nat → α := fun a b c => if a = K ∧ b = i ∧ c = j then v else f a b c
def am_u2 {α : Type} (f : Nat → Nat → α) (K i : Nat) (v : α) : Nat → Nat → α := fun a b => if a = K ∧ b = i then v else f a b
def sI (σ : aM) (K i j : Nat) (v : Int32) : aM := (am_u3 σ.1 K i j v, σ.2)
def sL (σ : aM) (K i j : Nat) (v : Int64) : aM := (σ.1, am_u3 σ.2.1 K i j v, σ.2.2)
def sR (σ : aM) (K i j : Nat) (v : Option (Nat × Nat)) : aM := (σ.1, σ.2.1, am_u3 σ.2.2.1 K i j v, σ.2.2.2)
/-- new contents of a whole cell -/
def sIr (σ : aM) (K i : Nat) (f : Nat → Int32) : aM := (fun a b c => if a = K ∧ b = i then f c else σ.1 a b c, σ.2)
def sLr (σ : aM) (K i : Nat) (f : Nat → Int64) : aM := (σ.1, fun a b c => if a = K ∧ b = i then f c else σ.2.1 a b c, σ.2.2)
def sRr (σ : aM) (K i : Nat) (f : Nat → Option (Nat × Nat)) : aM := (σ.1, σ.2.1, fun a b c => if a = K ∧ b = i then f c else σ.2.2.1 a b c, σ.2.2.2)
def sN (σ : aM) (K i n : Nat) : aM := (σ.1, σ.2.1, σ.2.2.1, am_u2 σ.2.2.2.1 K i n, σ.2.2.2.2)
/-- one more cell of a kind -/
def sC (σ : aM) (K : Nat) : aM := (σ.1, σ.2.1, σ.2.2.1, σ.2.2.2.1, (fun a => if a = K then σ.2.2.2.2.1 K + 1 else σ.2.2.2.2.1 a), σ.2.2.2.2.2)
def sB (σ : aM) (c s : Nat) : aM := (σ.1, σ.2.1, σ.2.2.1, σ.2.2.2.1, σ.2.2.2.2.1, (σ.2.2.2.2.2.1 + c, σ.2.2.2.2.2.2 + s))
/-- a new cell, all 0 -/
def am_mk (σ : aM) (K len slots : Nat) : aM := sB (sC (sN (sRr (sLr (sIr σ K (gC σ K) (fun _ => 0)) K (gC σ K) (fun _ => 0)) K (gC σ K) (fun _ => none)) K (gC σ K) len) K) 1 slots
/-- a new list -/
def am_ml (σ : aM) (K : Nat) : aM := sB (sC (sN σ K (gC σ K) 0) K) 1 3
section AMC
variable {X : Type}
def am_i1 (st : List aV) (f : Int32 → List aV → Option X) : Option X := match st with
  | .inl a :: r => f a r
  | _ => none
def am_i2 (st : List aV) (f : Int32 → Int32 → List aV → Option X) : Option X := match st with
  | .inl b :: .inl a :: r => f a b r
  | _ => none
def am_l1 (st : List aV) (f : Int64 → List aV → Option X) : Option X := match st with
  | .inr (.inl a) :: r => f a r
  | _ => none
def am_l2 (st : List aV) (f : Int64 → Int64 → List aV → Option X) : Option X := match st with
  | .inr (.inl b) :: .inr (.inl a) :: r => f a b r
  | _ => none
def am_li (st : List aV) (f : Int64 → Int32 → List aV → Option X) : Option X := match st with
  | .inl b :: .inr (.inl a) :: r => f a b r
  | _ => none
def am_rq (st : List aV) (f : Option (Nat × Nat) → List aV → Option X) : Option X := match st with
  | .inr (.inr q) :: r => f q r
  | _ => none
def am_ro (st : List aV) (f : Nat → Nat → List aV → Option X) : Option X := match st with
  | .inr (.inr (some (K, i))) :: r => f K i r
  | _ => none
def am_v1 (st : List aV) (f : aV → List aV → Option X) : Option X := match st with
  | v :: r => f v r
  | _ => none
def am_li0 (l : aL) (k : Nat) (f : Int32 → Option X) : Option X := match l[k]? with
  | some (some (.inl x)) => f x
  | _ => none
def am_ll0 (l : aL) (k : Nat) (f : Int64 → Option X) : Option X := match l[k]? with
  | some (some (.inr (.inl x))) => f x
  | _ => none
def am_lr0 (l : aL) (k : Nat) (f : Option (Nat × Nat) → Option X) : Option X := match l[k]? with
  | some (some (.inr (.inr x))) => f x
  | _ => none
def am_gd (c : Prop) [Decidable c] (k : Option X) : Option X := if c then k else none
def am_br (c : ClassFile.Cond) (x y : Int32) (a b : Option X) : Option X := match c with
  | .eq => if x = y then a else b
  | .ne => if x = y then b else a
  | .lt => if x < y then a else b
  | .ge => if x < y then b else a
  | .gt => if y < x then a else b
  | .le => if y < x then b else a
def am_jm (pc : Nat) (off : Int) (k : Nat → Option X) : Option X := match (pc : Int) + off with
  | .ofNat t => k t
  | _ => none
def am_sw (x : Int32) (pc : Nat) (d : Int) (k : Nat → Option X) : Int → List Int → Option X
  | _, [] => am_jm pc d k
  | lo, o :: r => if x = Int32.ofInt lo then am_jm pc o k else am_sw x pc d k (lo + 1) r
end AMC
/-- a place of a row of n -/
abbrev am_in (j : Int32) (n : Nat) : Prop := 0 ≤ j ∧ j.toNatClampNeg < n
def am_kil (a : Option aV) : Option aV := match a with
  | some (.inr (.inl _)) => none
  | a => a
def am_s1 : aL → Nat → aV → aL
  | [], _, _ => []
  | _ :: t, 0, v => some v :: t
  | a :: t, 1, v => am_kil a :: am_s1 t 0 v
  | a :: t, k + 2, v => a :: am_s1 t (k + 1) v
def am_s2 : aL → Nat → aV → aL
  | [], _, _ => []
  | _ :: t, 0, v => some v :: (match t with
    | [] => []
    | _ :: u => none :: u)
  | a :: t, 1, v => am_kil a :: am_s2 t 0 v
  | a :: t, k + 2, v => a :: am_s2 t (k + 1) v
def am_go (pc : Nat) (l : aL) (st : List aV) (σ : aM) : Option aX := some (.inl (pc, l, st, σ))
def am_bud (σ : aM) (c s : Nat) (k : Option aX) : Option aX := am_gd ((gB σ).1 + c ≤ 601024 ∧ (gB σ).2 + s ≤ 7293034) k
def am_ea (As : List aV) : aL := As.flatMap (fun v => match v with
  | .inr (.inl _) => [some v, none]
  | v => [some v])
def am_ent (mx : Nat) (As : List aV) : aL := am_ea As ++ List.replicate (mx - (am_ea As).length) none
def am_pop : Nat → List aV → Option (List aV × List aV)
  | 0, st => some ([], st)
  | n + 1, v :: st => (am_pop n st).map (fun q => (q.1 ++ [v], q.2))
  | _ + 1, [] => none
/-- slots of an object of a class -/
def am_nf (ci : Nat) : Nat := (vwCl.getD ci ("", fun _ => ("", "", "", true), 0)).2.2
def am_fv (σ : aM) (K i f t : Nat) : aV := if t = 1 then vl (gL σ K i f) else if t = 2 then vr (gR σ K i f) else vi (gI σ K i f)
def am_pf (σ : aM) (K i f t : Nat) (v : aV) (k : aM → Option aX) : Option aX := match v with
  | .inl x => am_gd (t = 0 ∨ (t = 3 ∧ (x = 0 ∨ x = 1))) (k (sI σ K i f x))
  | .inr (.inl x) => am_gd (t = 1) (k (sL σ K i f x))
  | .inr (.inr q) => am_gd (t = 2) (k (sR σ K i f q))
def am_isi (mid : Nat) : Bool := (mnm mid).name == "<init>"
def am_bc (x : Int32) : Int32 :=
  let a := x - ((x.toUInt32 >>> ((1 : Int32).toUInt32 &&& Int32.toUInt32 31)).toInt32 &&& 1431655765)
  let b := (a &&& 858993459) + ((a.toUInt32 >>> ((2 : Int32).toUInt32 &&& Int32.toUInt32 31)).toInt32 &&& 858993459)
  let c := (b + (b.toUInt32 >>> ((4 : Int32).toUInt32 &&& Int32.toUInt32 31)).toInt32) &&& 252645135
  let d := c + (c.toUInt32 >>> ((8 : Int32).toUInt32 &&& Int32.toUInt32 31)).toInt32
  (d + (d.toUInt32 >>> ((16 : Int32).toUInt32 &&& Int32.toUInt32 31)).toInt32) &&& 63
def am_add (σ : aM) (K i : Nat) (q : Option (Nat × Nat)) : aM := sB (sN (sR σ K i (gN σ K i) q) K i (gN σ K i + 1)) 1 (gN σ K i + gN σ K i / 2 + 10)
def am_ins (σ : aM) (K i j : Nat) (q : Option (Nat × Nat)) : aM := sB (sN (sRr σ K i (fun c => if c < j then gR σ K i c else if c = j then q else gR σ K i (c - 1))) K i (gN σ K i + 1)) 1 (gN σ K i + gN σ K i / 2 + 10)
def am_rem (σ : aM) (K i j : Nat) : aM := sN (sRr σ K i (fun c => if c < j then gR σ K i c else gR σ K i (c + 1))) K i (gN σ K i - 1)
/-- the library's instance methods -/
def am_lv (tag pc : Nat) (l : aL) (st : List aV) (σ : aM) : Option aX := match tag with
  | 11 => am_rq st fun q st => am_ro st fun K i r => am_gd (kT K = (5, 0) ∧ i < gC σ K ∧ gN σ K i ≤ 40000 ∧ r.length ≤ 4) (am_bud σ 1 (gN σ K i + gN σ K i / 2 + 10) (am_go (pc + 3) l (vi 1 :: r) (am_add σ K i q)))
  | 12 => am_rq st fun q st => am_i1 st fun j st => am_ro st fun K i r => am_gd (kT K = (5, 0) ∧ i < gC σ K ∧ gN σ K i ≤ 40000 ∧ r.length ≤ 4 ∧ am_in j (gN σ K i + 1)) (am_bud σ 1 (gN σ K i + gN σ K i / 2 + 10) (am_go (pc + 3) l r (am_ins σ K i j.toNatClampNeg q)))
  | 13 => am_i1 st fun j st => am_ro st fun K i r => am_gd (kT K = (5, 0) ∧ i < gC σ K ∧ r.length ≤ 4 ∧ am_in j (gN σ K i)) (am_go (pc + 3) l (vr (gR σ K i j.toNatClampNeg) :: r) σ)
  | 14 => am_i1 st fun j st => am_ro st fun K i r => am_gd (kT K = (5, 0) ∧ i < gC σ K ∧ r.length ≤ 4 ∧ am_in j (gN σ K i)) (am_go (pc + 3) l (vr (gR σ K i j.toNatClampNeg) :: r) (am_rem σ K i j.toNatClampNeg))
  | 15 => am_ro st fun K i r => am_gd (kT K = (5, 0) ∧ i < gC σ K ∧ r.length ≤ 4) (am_go (pc + 3) l (vi (nI (gN σ K i)) :: r) σ)
  | 16 => am_ro st fun K i r => am_gd (kT K = (5, 0) ∧ i < gC σ K ∧ r.length ≤ 4) (am_go (pc + 3) l r (sN σ K i 0))
  | 17 => am_ro st fun K i r => am_gd (kT K = (5, 0) ∧ i < gC σ K ∧ r.length ≤ 4) (am_go (pc + 3) l (vi (if gN σ K i = 0 then 1 else 0) :: r) σ)
  | 21 => am_ro st fun K i r => am_gd (K = 1 ∧ i < stxt.length ∧ r.length ≤ 4) (am_go (pc + 3) l (vi (nI (stxt.getD i []).length) :: r) σ)
  | 22 => am_i1 st fun j st => am_ro st fun K i r => am_gd (K = 1 ∧ i < stxt.length ∧ r.length ≤ 4 ∧ am_in j (stxt.getD i []).length) (am_go (pc + 3) l (vi (nI ((stxt.getD i []).getD j.toNatClampNeg 0)) :: r) σ)
  | _ => none
/-- the library's static methods -/
def am_ls (tag mid pc : Nat) (l : aL) (st : List aV) (σ : aM) : Option aX := match tag with
  | 31 => am_i1 st fun n st => am_ro st fun K i r => match kS mid pc with
    | some K2 => am_gd (kT K = (1, 0) ∧ kT K2 = (1, 0) ∧ i < gC σ K ∧ gN σ K i ≤ 100000 ∧ r.length ≤ 4 ∧ am_in n (gN σ K i + 1)) (am_bud σ 1 n.toNatClampNeg (am_go (pc + 3) l (vr (some (K2, gC σ K2)) :: r) (sIr (am_mk σ K2 n.toNatClampNeg n.toNatClampNeg) K2 (gC σ K2) (gI σ K i))))
    | none => none
  | 32 => am_l1 st fun v st => am_ro st fun K i r => am_gd (kT K = (2, 0) ∧ i < gC σ K ∧ gN σ K i ≤ 100000 ∧ r.length ≤ 4) (am_go (pc + 3) l r (sLr σ K i (fun _ => v)))
  | 33 => am_i2 st fun a b r => am_gd (r.length ≤ 4) (am_go (pc + 3) l (vi (if b < a then b else a) :: r) σ)
  | 34 => am_l2 st fun a b r => am_gd (r.length ≤ 4) (am_go (pc + 3) l (vl (if a < b then b else a) :: r) σ)
  | 35 => am_i1 st fun a r => am_gd (r.length ≤ 4) (am_go (pc + 3) l (vi (am_bc a) :: r) σ)
  | _ => none
/-- a thrown exception: one cell of six slots, of kind 2 -/
def am_thr (σ : aM) : aM := sB (sC σ 2) 1 6
/-- behind 'new' of a list stand 'dup' and the call of its constructor -/
def am_nl (mid pc : Nat) : Bool := match decode (mcode mid) (pc + 3) with
  | .ok (.dup, 1) => (match decode (mcode mid) (pc + 4) with
    | .ok (.invokespecial j, 3) => (match cal (mcl mid) j with
      | some (10, _) => true
      | _ => false)
    | _ => false)
  | _ => false
def am_new (mid pc k : Nat) (l : aL) (st : List aV) (σ : aM) : Option aX := match clsP (mcl mid) k with
  | none => none
  | some ci => if ci = 98 then am_gd (mid ∈ thrL ∧ st.length = 0) (am_bud σ 1 6 (some (.inr (.inr (none, am_thr σ))))) else match kS mid pc with
    | none => none
    | some K => if ci = 0 then am_gd (kT K = (5, 0) ∧ st.length ≤ 3 ∧ am_nl mid pc = true) (am_bud σ 1 3 (am_go (pc + 7) l (vr (some (K, gC σ K)) :: st) (am_ml σ K)))
      else am_gd (kT K = (0, ci)) (am_bud σ 1 (am_nf ci) (am_go (pc + 3) l (vr (some (K, gC σ K)) :: st) (am_mk σ K 0 (am_nf ci))))
/-- one instruction -/
def am_nx (mid pc len : Nat) (i : Instr) (l : aL) (st : List aV) (σ : aM) : Option aX := match i with
  | .iconst n => am_gd (len = 1) (am_go (pc + 1) l (vi (Int32.ofInt n) :: st) σ)
  | .bipush n => am_gd (len = 2) (am_go (pc + 2) l (vi (Int8.ofInt n).toInt32 :: st) σ)
  | .sipush n => am_gd (len = 3) (am_go (pc + 3) l (vi (Int16.ofInt n).toInt32 :: st) σ)
  | .lconst n => am_gd (len = 1) (am_go (pc + 1) l (vl (Int64.ofNat n) :: st) σ)
  | .aconst_null => am_gd (len = 1) (am_go (pc + 1) l (vr none :: st) σ)
  | .ldc k => am_gd (len = 2) (match cInt (mcl mid) k with
    | some v => am_go (pc + 2) l (vi v :: st) σ
    | none => match cStr (mcl mid) k with
      | some t => am_go (pc + 2) l (vr (some (1, t)) :: st) σ
      | none => none)
  | .ldc_w k => am_gd (len = 3) (match cInt (mcl mid) k with
    | some v => am_go (pc + 3) l (vi v :: st) σ
    | none => match cStr (mcl mid) k with
      | some t => am_go (pc + 3) l (vr (some (1, t)) :: st) σ
      | none => none)
  | .ldc2_w k => am_gd (len = 3) (match cLong (mcl mid) k with
    | some v => am_go (pc + 3) l (vl v :: st) σ
    | none => none)
  | .iload_n k => am_gd (len = 1) (am_li0 l k fun x => am_go (pc + 1) l (vi x :: st) σ)
  | .iload k => am_gd (len = 2) (am_li0 l k fun x => am_go (pc + 2) l (vi x :: st) σ)
  | .lload_n k => am_gd (len = 1) (am_ll0 l k fun x => am_go (pc + 1) l (vl x :: st) σ)
  | .lload k => am_gd (len = 2) (am_ll0 l k fun x => am_go (pc + 2) l (vl x :: st) σ)
  | .aload_n k => am_gd (len = 1) (am_lr0 l k fun x => am_go (pc + 1) l (vr x :: st) σ)
  | .aload k => am_gd (len = 2) (am_lr0 l k fun x => am_go (pc + 2) l (vr x :: st) σ)
  | .istore_n k => am_gd (len = 1 ∧ (k : Nat) < l.length) (am_i1 st fun x r => am_go (pc + 1) (am_s1 l k (vi x)) r σ)
  | .istore k => am_gd (len = 2 ∧ k < l.length) (am_i1 st fun x r => am_go (pc + 2) (am_s1 l k (vi x)) r σ)
  | .lstore_n k => am_gd (len = 1 ∧ (k : Nat) + 1 < l.length) (am_l1 st fun x r => am_go (pc + 1) (am_s2 l k (vl x)) r σ)
  | .lstore k => am_gd (len = 2 ∧ k + 1 < l.length) (am_l1 st fun x r => am_go (pc + 2) (am_s2 l k (vl x)) r σ)
  | .astore_n k => am_gd (len = 1 ∧ (k : Nat) < l.length) (am_rq st fun x r => am_go (pc + 1) (am_s1 l k (vr x)) r σ)
  | .astore k => am_gd (len = 2 ∧ k < l.length) (am_rq st fun x r => am_go (pc + 2) (am_s1 l k (vr x)) r σ)
  | .iinc k n => am_gd (len = 3 ∧ k < l.length) (am_li0 l k fun x => am_go (pc + 3) (am_s1 l k (vi (x + Int32.ofInt n))) st σ)
  | .iadd => am_gd (len = 1) (am_i2 st fun a b r => am_go (pc + 1) l (vi (a + b) :: r) σ)
  | .isub => am_gd (len = 1) (am_i2 st fun a b r => am_go (pc + 1) l (vi (a - b) :: r) σ)
  | .imul => am_gd (len = 1) (am_i2 st fun a b r => am_go (pc + 1) l (vi (a * b) :: r) σ)
  | .idiv => am_gd (len = 1) (am_i2 st fun a b r => am_gd (¬ b = 0) (am_go (pc + 1) l (vi (a / b) :: r) σ))
  | .irem => am_gd (len = 1) (am_i2 st fun a b r => am_gd (¬ b = 0) (am_go (pc + 1) l (vi (a - a / b * b) :: r) σ))
  | .iand => am_gd (len = 1) (am_i2 st fun a b r => am_go (pc + 1) l (vi (a &&& b) :: r) σ)
  | .ior => am_gd (len = 1) (am_i2 st fun a b r => am_go (pc + 1) l (vi (a ||| b) :: r) σ)
  | .ixor => am_gd (len = 1) (am_i2 st fun a b r => am_go (pc + 1) l (vi (a ^^^ b) :: r) σ)
  | .ishl => am_gd (len = 1) (am_i2 st fun a b r => am_go (pc + 1) l (vi (a <<< (b &&& 31)) :: r) σ)
  | .ishr => am_gd (len = 1) (am_i2 st fun a b r => am_go (pc + 1) l (vi (a >>> (b &&& 31)) :: r) σ)
  | .iushr => am_gd (len = 1) (am_i2 st fun a b r => am_go (pc + 1) l (vi (a.toUInt32 >>> (b.toUInt32 &&& Int32.toUInt32 31)).toInt32 :: r) σ)
  | .ladd => am_gd (len = 1) (am_l2 st fun a b r => am_go (pc + 1) l (vl (a + b) :: r) σ)
  | .lsub => am_gd (len = 1) (am_l2 st fun a b r => am_go (pc + 1) l (vl (a - b) :: r) σ)
  | .lmul => am_gd (len = 1) (am_l2 st fun a b r => am_go (pc + 1) l (vl (a * b) :: r) σ)
  | .ldiv => am_gd (len = 1) (am_l2 st fun a b r => am_gd (¬ b = 0) (am_go (pc + 1) l (vl (a / b) :: r) σ))
  | .land => am_gd (len = 1) (am_l2 st fun a b r => am_go (pc + 1) l (vl (a &&& b) :: r) σ)
  | .lor => am_gd (len = 1) (am_l2 st fun a b r => am_go (pc + 1) l (vl (a ||| b) :: r) σ)
  | .lshl => am_gd (len = 1) (am_li st fun a b r => am_go (pc + 1) l (vl (a <<< (b.toInt64 &&& 63)) :: r) σ)
  | .lshr => am_gd (len = 1) (am_li st fun a b r => am_go (pc + 1) l (vl (a >>> (b.toInt64 &&& 63)) :: r) σ)
  | .lcmp => am_gd (len = 1) (am_l2 st fun a b r => am_go (pc + 1) l (vi (lg_cmp a b) :: r) σ)
  | .i2l => am_gd (len = 1) (am_i1 st fun a r => am_go (pc + 1) l (vl a.toInt64 :: r) σ)
  | .l2i => am_gd (len = 1) (am_l1 st fun a r => am_go (pc + 1) l (vi a.toInt32 :: r) σ)
  | .i2b => am_gd (len = 1) (am_i1 st fun a r => am_go (pc + 1) l (vi a.toInt8.toInt32 :: r) σ)
  | .dup => am_gd (len = 1) (match st with
    | .inl a :: r => am_go (pc + 1) l (vi a :: vi a :: r) σ
    | .inr (.inr a) :: r => am_go (pc + 1) l (vr a :: vr a :: r) σ
    | _ => none)
  | .dup2 => am_gd (len = 1) (match st with
    | .inl a :: .inr (.inr b) :: r => am_go (pc + 1) l (vi a :: vr b :: vi a :: vr b :: r) σ
    | _ => none)
  | .pop => am_gd (len = 1) (match st with
    | .inl _ :: r => am_go (pc + 1) l r σ
    | .inr (.inr _) :: r => am_go (pc + 1) l r σ
    | _ => none)
  | .goto o => am_gd (len = 3) (am_jm pc o fun t => am_go t l st σ)
  | .ifCond c o => am_gd (len = 3) (am_i1 st fun a r => am_jm pc o fun t => am_br c a 0 (am_go t l r σ) (am_go (pc + 3) l r σ))
  | .if_icmp c o => am_gd (len = 3) (am_i2 st fun a b r => am_jm pc o fun t => am_br c a b (am_go t l r σ) (am_go (pc + 3) l r σ))
  | .ifnull o => am_gd (len = 3) (am_rq st fun q r => am_jm pc o fun t => if q = none then am_go t l r σ else am_go (pc + 3) l r σ)
  | .ifnonnull o => am_gd (len = 3) (am_rq st fun q r => am_jm pc o fun t => if q = none then am_go (pc + 3) l r σ else am_go t l r σ)
  | .tableswitch d lo hi offs => am_i1 st fun x r => am_gd ((offs.size : Int) = hi - lo + 1 ∧ -2147483648 ≤ lo ∧ hi < 2147483648 ∧ lo ≤ hi) (am_sw x pc d (fun t => am_go t l r σ) lo offs.toList)
  | .getfield k => am_gd (len = 3) (match fld (mcl mid) k with
    | some (ci, f, t) => am_ro st fun K i r => am_gd (kT K = (0, ci) ∧ i < gC σ K) (am_go (pc + 3) l (am_fv σ K i f t :: r) σ)
    | none => none)
  | .putfield k => am_gd (len = 3) (match fld (mcl mid) k with
    | some (ci, f, t) => am_v1 st fun v st => am_ro st fun K i r => am_gd (kT K = (0, ci) ∧ i < gC σ K ∧ (finS ci f = true → am_isi mid = true ∧ mcl mid = ci)) (am_pf σ K i f t v fun σ => am_go (pc + 3) l r σ)
    | none => none)
  | .iaload => am_gd (len = 1) (am_i1 st fun j st => am_ro st fun K i r => am_gd (((kT K).1 = 1 ∧ i < gC σ K ∨ (K = 0 ∧ i = 0)) ∧ am_in j (gN σ K i)) (am_go (pc + 1) l (vi (gI σ K i j.toNatClampNeg) :: r) σ))
  | .baload => am_gd (len = 1) (am_i1 st fun j st => am_ro st fun K i r => am_gd (((kT K).1 = 3 ∨ (kT K).1 = 4) ∧ i < gC σ K ∧ am_in j (gN σ K i)) (am_go (pc + 1) l (vi (gI σ K i j.toNatClampNeg) :: r) σ))
  | .laload => am_gd (len = 1) (am_i1 st fun j st => am_ro st fun K i r => am_gd ((kT K).1 = 2 ∧ i < gC σ K ∧ am_in j (gN σ K i)) (am_go (pc + 1) l (vl (gL σ K i j.toNatClampNeg) :: r) σ))
  | .iastore => am_gd (len = 1) (am_i2 st fun j x st => am_ro st fun K i r => am_gd ((kT K).1 = 1 ∧ i < gC σ K ∧ am_in j (gN σ K i)) (am_go (pc + 1) l r (sI σ K i j.toNatClampNeg x)))
  | .bastore => am_gd (len = 1) (am_i2 st fun j x st => am_ro st fun K i r => am_gd (((kT K).1 = 3 ∨ ((kT K).1 = 4 ∧ (x = 0 ∨ x = 1))) ∧ i < gC σ K ∧ am_in j (gN σ K i)) (am_go (pc + 1) l r (sI σ K i j.toNatClampNeg (if (kT K).1 = 3 then x.toInt8.toInt32 else x))))
  | .lastore => am_gd (len = 1) (am_l1 st fun x st => am_i1 st fun j st => am_ro st fun K i r => am_gd ((kT K).1 = 2 ∧ i < gC σ K ∧ am_in j (gN σ K i)) (am_go (pc + 1) l r (sL σ K i j.toNatClampNeg x)))
  | .arraylength => am_gd (len = 1) (am_ro st fun K i r => am_gd (((kT K).1 = 1 ∨ (kT K).1 = 2 ∨ (kT K).1 = 3 ∨ (kT K).1 = 4) ∧ i < gC σ K ∨ (K = 0 ∧ i = 0)) (am_go (pc + 1) l (vi (nI (gN σ K i)) :: r) σ))
  | .newarray t => am_gd (len = 2) (am_i1 st fun n r => match kS mid pc with
    | some K => am_gd (¬ n < 0 ∧ n.toNatClampNeg ≤ 8000000 ∧ (kT K = (1, 0) ∧ t = .int ∨ kT K = (2, 0) ∧ t = .long ∨ kT K = (3, 0) ∧ t = .byte ∨ kT K = (4, 0) ∧ t = .boolean)) (am_bud σ 1 n.toNatClampNeg (am_go (pc + 2) l (vr (some (K, gC σ K)) :: r) (am_mk σ K n.toNatClampNeg n.toNatClampNeg)))
    | none => none)
  | .new k => am_gd (len = 3) (am_new mid pc k l st σ)
  | .checkcast k => am_gd (len = 3) (am_rq st fun q r => match q with
    | none => am_go (pc + 3) l (vr none :: r) σ
    | some (K, i) => am_gd ((kT K).1 = 0 ∧ i < gC σ K ∧ clsP (mcl mid) k = some (kT K).2) (am_go (pc + 3) l (vr (some (K, i)) :: r) σ))
  | .invokevirtual k => am_gd (len = 3) (match cal (mcl mid) k with
    | none => none
    | some (tag, c) => if tag = 0 then match am_pop (mar c) st with
        | some (As, .inr (.inr (some (K, i))) :: r) => am_gd ((kT K).1 = 0 ∧ (kT K).2 = mcl c ∧ i < gC σ K ∧ r.length ≤ 4 ∧ (am_ea (vr (some (K, i)) :: As)).length ≤ mml c) (some (.inr (.inl (c, am_ent (mml c) (vr (some (K, i)) :: As), pc + 3, r))))
        | _ => none
      else am_lv tag pc l st σ)
  | .invokestatic k => am_gd (len = 3) (match cal (mcl mid) k with
    | none => none
    | some (tag, c) => if tag = 1 ∨ tag = 2 then match am_pop (mar c) st with
        | some (As, r) => am_gd (r.length ≤ 4 ∧ (am_ea As).length ≤ mml c) (some (.inr (.inl (c, am_ent (mml c) As, pc + 3, r))))
        | none => none
      else am_ls tag mid pc l st σ)
  | .invokespecial k => am_gd (len = 3) (match cal (mcl mid) k with
    | none => none
    | some (tag, c) => if tag = 3 ∨ tag = 4 then match am_pop (mar c) st with
        | some (As, .inr (.inr (some (K, i))) :: r) => am_gd ((kT K).1 = 0 ∧ (kT K).2 = mcl c ∧ i < gC σ K ∧ r.length ≤ 4 ∧ (am_ea (vr (some (K, i)) :: As)).length ≤ mml c) (some (.inr (.inl (c, am_ent (mml c) (vr (some (K, i)) :: As), pc + 3, r))))
        | _ => none
      else if tag = 40 then am_ro st fun _ _ r => am_gd (r.length ≤ 4) (am_go (pc + 3) l r σ) else none)
  | .ireturn => am_gd (len = 1) (match st with
    | [.inl x] => am_gd (mrt mid = 1 ∨ (mrt mid = 2 ∧ (x = 0 ∨ x = 1))) (some (.inr (.inr (some (some (vi x)), σ))))
    | _ => none)
  | .lreturn => am_gd (len = 1) (match st with
    | [.inr (.inl x)] => am_gd (mrt mid = 3) (some (.inr (.inr (some (some (vl x)), σ))))
    | _ => none)
  | .areturn => am_gd (len = 1) (match st with
    | [.inr (.inr x)] => am_gd (mrt mid = 4) (some (.inr (.inr (some (some (vr x)), σ))))
    | _ => none)
  | .return_ => am_gd (len = 1) (match st with
    | [] => am_gd (mrt mid = 0) (some (.inr (.inr (some none, σ))))
    | _ => none)
  | _ => none
/-- the run: fuel, how many frames may still lie on this one, the method, the place, the locals, the stack, the memory; Q: what holds at the end -/
def am_ex : Nat → Nat → Nat → Nat → aL → List aV → aM → (aR → aM → Prop) → Prop
  | 0, _, _, _, _, _, _, _ => False
  | n + 1, d, mid, pc, l, st, σ, Q => match decode (mcode mid) pc with
    | .error _ => False
    | .ok (i, len) => match am_nx mid pc len i l st σ with
      | none => False
      | some (.inl (pc', l', st', σ')) => am_ex n d mid pc' l' st' σ' Q
      | some (.inr (.inl (c, la, pc', r))) => match d with
        | 0 => False
        | d' + 1 => am_ex n d' c 0 la [] σ (fun v σ' => match v with
          | some (some v) => am_ex n (d' + 1) mid pc' l (v :: r) σ' Q
          | some none => am_ex n (d' + 1) mid pc' l r σ' Q
          | none => match hnd mid pc with
            | some h => am_ex n (d' + 1) mid h l [vr (some (2, gC σ' 2 - 1))] σ' Q
            | none => False)
      | some (.inr (.inr (v, σ'))) => Q v σ'
def WP (d mid pc : Nat) (l : aL) (st : List aV) (σ : aM) (Q : aR → aM → Prop) : Prop := ∃ n, am_ex n d mid pc l st σ Q
