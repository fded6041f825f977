/-! bits of an int, their number -/
def toN (x : Int32) : Nat := x.toBitVec.toNat
theorem toN_nI {s : Nat} (h : s < 4294967296) : toN (nI s) = s := by
  unfold toN nI
  show (BitVec.ofNat 32 s).toNat = s
  rw [BitVec.toNat_ofNat, Nat.mod_eq_of_lt (by omega)]
theorem toN_lt (x : Int32) : toN x < 4294967296 := x.toBitVec.isLt
theorem toN_inj {x y : Int32} (h : toN x = toN y) : x = y := Int32.toBitVec_inj.mp (BitVec.eq_of_toNat_eq h)
theorem toN_and {a b : Int32} : toN (a &&& b) = toN a &&& toN b := by
  unfold toN
  rw [Int32.toBitVec_and, BitVec.toNat_and]
theorem toN_add {a b : Int32} (h : toN a + toN b < 4294967296) : toN (a + b) = toN a + toN b := by
  unfold toN at *
  rw [Int32.toBitVec_add, BitVec.toNat_add, Nat.mod_eq_of_lt (by omega)]
theorem toN_sub {a b : Int32} (h : toN b ≤ toN a) : toN (a - b) = toN a - toN b := by
  unfold toN at *
  rw [Int32.toBitVec_sub]
  exact BitVec.toNat_sub_of_le h
theorem toN_sh {a z : Int32} {n : Nat} (hk : (z.toUInt32 &&& Int32.toUInt32 31).toNat % 32 = n) : toN ((a.toUInt32 >>> (z.toUInt32 &&& Int32.toUInt32 31)).toInt32) = toN a / 2 ^ n := by
  show (a.toUInt32 >>> (z.toUInt32 &&& Int32.toUInt32 31)).toNat = a.toUInt32.toNat / 2 ^ n
  rw [UInt32.toNat_shiftRight, hk, Nat.shiftRight_eq_div_pow]
/-- the bits of the low n places, from below -/
def pcN : Nat → Nat → Nat
  | 0, _ => 0
  | n + 1, s => s % 2 + pcN n (s / 2)
theorem pcN_le : ∀ n s, pcN n s ≤ n
  | 0, _ => Nat.le_refl 0
  | n + 1, s => by
    have := pcN_le n (s / 2)
    show s % 2 + pcN n (s / 2) ≤ n + 1
    omega
theorem pcN_add : ∀ a b s, pcN (a + b) s = pcN a s + pcN b (s / 2 ^ a)
  | 0, b, s => by
    rw [Nat.zero_add, Nat.pow_zero, Nat.div_one]
    show _ = 0 + _
    omega
  | a + 1, b, s => by
    rw [show a + 1 + b = (a + b) + 1 by omega]
    show s % 2 + pcN (a + b) (s / 2) = (s % 2 + pcN a (s / 2)) + _
    rw [pcN_add a b (s / 2), Nat.div_div_eq_div_mul, show 2 * 2 ^ a = 2 ^ (a + 1) by rw [Nat.pow_succ]; omega]
    omega
theorem pcN_2 (s : Nat) : pcN 2 s = s % 2 + s / 2 % 2 := by
  show s % 2 + (s / 2 % 2 + 0) = _
  omega
theorem and_two {w a m x y : Nat} (ha : a < 2 ^ w) (hm : m < 2 ^ w) : (a + 2 ^ w * x) &&& (m + 2 ^ w * y) = (a &&& m) + 2 ^ w * (x &&& y) := by
  have hlt : (a &&& m) < 2 ^ w := Nat.lt_of_le_of_lt Nat.and_le_left ha
  have h1 := Nat.and_mod_two_pow (a := a + 2 ^ w * x) (b := m + 2 ^ w * y) (n := w)
  have h2 := Nat.and_div_two_pow (a := a + 2 ^ w * x) (b := m + 2 ^ w * y) (n := w)
  rw [Nat.add_mul_mod_self_left, Nat.add_mul_mod_self_left, Nat.mod_eq_of_lt ha, Nat.mod_eq_of_lt hm] at h1
  have hp := Nat.two_pow_pos w
  rw [Nat.add_mul_div_left _ _ hp, Nat.add_mul_div_left _ _ hp, Nat.div_eq_of_lt ha, Nat.div_eq_of_lt hm, Nat.zero_add, Nat.zero_add] at h2
  have h3 := Nat.mod_add_div ((a + 2 ^ w * x) &&& (m + 2 ^ w * y)) (2 ^ w)
  rw [h1, h2] at h3
  exact h3.symm
def mk1 : Nat → Nat
  | 0 => 0
  | n + 1 => 1 + 4 * mk1 n
def mk2 : Nat → Nat
  | 0 => 0
  | n + 1 => 3 + 16 * mk2 n
def mk3 : Nat → Nat
  | 0 => 0
  | n + 1 => 15 + 256 * mk3 n
def sw1 : Nat → Nat → Nat
  | 0, _ => 0
  | n + 1, s => pcN 2 s + 4 * sw1 n (s / 4)
def sw2 : Nat → Nat → Nat
  | 0, _ => 0
  | n + 1, s => pcN 4 s + 16 * sw2 n (s / 16)
def sw3 : Nat → Nat → Nat
  | 0, _ => 0
  | n + 1, s => pcN 8 s + 256 * sw3 n (s / 256)
theorem sw1_is : ∀ n s, s < 4 ^ n → s - (s / 2 &&& mk1 n) = sw1 n s
  | 0, s, h => by
    have : s = 0 := by omega
    subst this
    rfl
  | n + 1, s, h => by
    rw [Nat.pow_succ] at h
    have ih := sw1_is n (s / 4) (by omega)
    show s - (s / 2 &&& (1 + 4 * mk1 n)) = pcN 2 s + 4 * sw1 n (s / 4)
    have e : s / 2 = s / 2 % 4 + 2 ^ 2 * (s / 4 / 2) := by omega
    have h1 : (s / 2 % 4) &&& 1 = s / 2 % 2 := by
      rw [Nat.and_one_is_mod]; omega
    have h2 : s / 4 / 2 &&& mk1 n ≤ s / 4 / 2 := Nat.and_le_left
    rw [← ih, pcN_2, show (4 : Nat) = 2 ^ 2 from rfl, show (s / 2 &&& (1 + 2 ^ 2 * mk1 n)) = (s / 2 % 4 &&& 1) + 2 ^ 2 * (s / 4 / 2 &&& mk1 n) by
      conv => lhs; rw [e]
      exact and_two (by omega) (by decide), h1]
    show s - (s / 2 % 2 + 4 * (s / 4 / 2 &&& mk1 n)) = s % 2 + s / 2 % 2 + 4 * (s / 4 - (s / 4 / 2 &&& mk1 n))
    omega
theorem sw2_is : ∀ n s, (sw1 (2 * n) s &&& mk2 n) + (sw1 (2 * n) s / 4 &&& mk2 n) = sw2 n s
  | 0, s => by
    rw [Nat.mul_zero]
    show ((0 : Nat) &&& 0) + (0 / 4 &&& 0) = 0
    simp
  | n + 1, s => by
    have ih := sw2_is n (s / 16)
    have p0 := pcN_le 2 s
    have p1 := pcN_le 2 (s / 4)
    have e : sw1 (2 * (n + 1)) s = (pcN 2 s + 4 * pcN 2 (s / 4)) + 2 ^ 4 * sw1 (2 * n) (s / 16) := by
      rw [show 2 * (n + 1) = 2 * n + 1 + 1 by omega]
      show pcN 2 s + 4 * (pcN 2 (s / 4) + 4 * sw1 (2 * n) (s / 4 / 4)) = _
      rw [Nat.div_div_eq_div_mul]
      show pcN 2 s + 4 * (pcN 2 (s / 4) + 4 * sw1 (2 * n) (s / 16)) = (pcN 2 s + 4 * pcN 2 (s / 4)) + 16 * sw1 (2 * n) (s / 16)
      omega
    have e2 : sw1 (2 * (n + 1)) s / 4 = (pcN 2 (s / 4) + 4 * (sw1 (2 * n) (s / 16) % 4)) + 2 ^ 4 * (sw1 (2 * n) (s / 16) / 4) := by
      rw [e]
      show ((pcN 2 s + 4 * pcN 2 (s / 4)) + 16 * sw1 (2 * n) (s / 16)) / 4 = (pcN 2 (s / 4) + 4 * (sw1 (2 * n) (s / 16) % 4)) + 16 * (sw1 (2 * n) (s / 16) / 4)
      omega
    have e4 : pcN 4 s = pcN 2 s + pcN 2 (s / 4) := pcN_add 2 2 s
    have m : mk2 (n + 1) = 3 + 2 ^ 4 * mk2 n := rfl
    have a3 : ∀ x y, x < 4 → (x + 4 * y) &&& 3 = x := fun x y hx => by
      have := Nat.and_two_pow_sub_one_eq_mod (x + 4 * y) 2
      rw [show 2 ^ 2 - 1 = 3 from rfl] at this
      rw [this]
      show (x + 4 * y) % 4 = x
      omega
    rw [e2, e, m, and_two (by omega) (by decide), and_two (by omega) (by decide), a3 _ _ (by omega), a3 _ _ (by omega)]
    show _ = pcN 4 s + 16 * sw2 n (s / 16)
    rw [← ih, e4]
    show pcN 2 s + 16 * _ + (pcN 2 (s / 4) + 16 * _) = _
    omega
theorem sw2_lo (n s : Nat) : sw2 n s % 16 ≤ 4 := by
  cases n with
  | zero => exact Nat.zero_le _
  | succ n =>
    have p0 := pcN_le 4 s
    show (pcN 4 s + 16 * sw2 n (s / 16)) % 16 ≤ 4
    omega
theorem sw3_is : ∀ n s, (sw2 (2 * n) s + sw2 (2 * n) s / 16) &&& mk3 n = sw3 n s
  | 0, s => by
    rw [Nat.mul_zero]
    show ((0 : Nat) + 0 / 16) &&& 0 = 0
    simp
  | n + 1, s => by
    have ih := sw3_is n (s / 256)
    have p0 := pcN_le 4 s
    have p1 := pcN_le 4 (s / 16)
    have hx := sw2_lo (2 * n) (s / 256)
    have e : sw2 (2 * (n + 1)) s = pcN 4 s + 16 * pcN 4 (s / 16) + 256 * sw2 (2 * n) (s / 256) := by
      rw [show 2 * (n + 1) = 2 * n + 1 + 1 by omega]
      show pcN 4 s + 16 * (pcN 4 (s / 16) + 16 * sw2 (2 * n) (s / 16 / 16)) = _
      rw [Nat.div_div_eq_div_mul]
      show pcN 4 s + 16 * (pcN 4 (s / 16) + 16 * sw2 (2 * n) (s / 256)) = _
      omega
    have e4 : pcN 8 s = pcN 4 s + pcN 4 (s / 16) := pcN_add 4 4 s
    have m : mk3 (n + 1) = 15 + 2 ^ 8 * mk3 n := rfl
    have e5 : sw2 (2 * (n + 1)) s + sw2 (2 * (n + 1)) s / 16 = (pcN 4 s + pcN 4 (s / 16) + 16 * (pcN 4 (s / 16) + sw2 (2 * n) (s / 256) % 16)) + 2 ^ 8 * (sw2 (2 * n) (s / 256) + sw2 (2 * n) (s / 256) / 16) := by
      rw [e]
      show _ = (pcN 4 s + pcN 4 (s / 16) + 16 * (pcN 4 (s / 16) + sw2 (2 * n) (s / 256) % 16)) + 256 * (sw2 (2 * n) (s / 256) + sw2 (2 * n) (s / 256) / 16)
      omega
    have a3 : ∀ x y, x < 16 → (x + 16 * y) &&& 15 = x := fun x y hx => by
      have := Nat.and_two_pow_sub_one_eq_mod (x + 16 * y) 4
      rw [show 2 ^ 4 - 1 = 15 from rfl] at this
      rw [this]
      show (x + 16 * y) % 16 = x
      omega
    rw [e5, m, and_two (by omega) (by decide), a3 _ _ (by omega), ih]
    show _ = pcN 8 s + 256 * sw3 n (s / 256)
    rw [e4]
theorem sw3_4 (s : Nat) : (sw3 4 s + sw3 4 s / 256 + (sw3 4 s + sw3 4 s / 256) / 65536) % 64 = pcN 32 s ∧ sw3 4 s < 252645136 := by
  have p0 := pcN_le 8 s
  have p1 := pcN_le 8 (s / 256)
  have p2 := pcN_le 8 (s / 256 / 256)
  have p3 := pcN_le 8 (s / 256 / 256 / 256)
  have e : sw3 4 s = pcN 8 s + 256 * (pcN 8 (s / 256) + 256 * (pcN 8 (s / 256 / 256) + 256 * (pcN 8 (s / 256 / 256 / 256) + 256 * 0))) := rfl
  have e1 : pcN 32 s = pcN 8 s + (pcN 8 (s / 256) + (pcN 8 (s / 256 / 256) + pcN 8 (s / 256 / 256 / 256))) := by
    rw [show 32 = 8 + (8 + (8 + 8)) from rfl, pcN_add, pcN_add, pcN_add]
  rw [e, e1]
  generalize pcN 8 s = a at *
  generalize pcN 8 (s / 256) = b at *
  generalize pcN 8 (s / 256 / 256) = c at *
  generalize pcN 8 (s / 256 / 256 / 256) = d at *
  have f1 : (a + 256 * (b + 256 * (c + 256 * (d + 256 * 0)))) / 256 = b + 256 * c + 65536 * d := by omega
  have f2 : (a + 256 * (b + 256 * (c + 256 * (d + 256 * 0))) + (b + 256 * c + 65536 * d)) / 65536 = c + d + 256 * d := by omega
  rw [f1, f2]
  omega
theorem am_bc_is (x : Int32) : am_bc x = nI (pcN 32 (toN x)) := by
  have hx := toN_lt x
  have h1 := sw1_is 16 (toN x) (by show _ < 4294967296; exact hx)
  have h2 := sw2_is 8 (toN x)
  have h3 := sw3_is 4 (toN x)
  obtain ⟨h4, h5⟩ := sw3_4 (toN x)
  rw [show (2 * 8 : Nat) = 16 from rfl] at h2
  rw [show (2 * 4 : Nat) = 8 from rfl] at h3
  have m1 : toN 1431655765 = mk1 16 := by decide
  have m2 : toN 858993459 = mk2 8 := by decide
  have m3 : toN 252645135 = mk3 4 := by decide
  have b1 : (toN x / 2 &&& mk1 16) ≤ toN x / 2 := Nat.and_le_left
  have b2 : ∀ y, (y &&& mk2 8) ≤ mk2 8 := fun y => Nat.and_le_right
  have b3 : mk2 8 = 858993459 := by decide
  have s1 := fun (a : Int32) => toN_sh (a := a) (z := 1) (n := 1) (by decide)
  have s2 := fun (a : Int32) => toN_sh (a := a) (z := 2) (n := 2) (by decide)
  have s4 := fun (a : Int32) => toN_sh (a := a) (z := 4) (n := 4) (by decide)
  have s8 := fun (a : Int32) => toN_sh (a := a) (z := 8) (n := 8) (by decide)
  have s16 := fun (a : Int32) => toN_sh (a := a) (z := 16) (n := 16) (by decide)
  have ea : toN (x - ((x.toUInt32 >>> ((1 : Int32).toUInt32 &&& Int32.toUInt32 31)).toInt32 &&& 1431655765)) = sw1 16 (toN x) := by
    rw [toN_sub (by rw [toN_and, s1, m1]; show (toN x / 2 &&& mk1 16) ≤ toN x; omega), toN_and, s1, m1]
    exact h1
  have eb : ∀ a : Int32, toN a = sw1 16 (toN x) → toN ((a &&& 858993459) + ((a.toUInt32 >>> ((2 : Int32).toUInt32 &&& Int32.toUInt32 31)).toInt32 &&& 858993459)) = sw2 8 (toN x) := by
    intro a e
    have c1 := b2 (toN a)
    have c2 := b2 (toN a / 2 ^ 2)
    rw [toN_add (by rw [toN_and, toN_and, s2, m2]; omega), toN_and, toN_and, s2, m2, e]
    exact h2
  have b4 : sw2 8 (toN x) ≤ 1717986918 := by
    rw [← h2]
    have c1 := b2 (sw1 16 (toN x))
    have c2 := b2 (sw1 16 (toN x) / 4)
    omega
  have ec : ∀ b : Int32, toN b = sw2 8 (toN x) → toN ((b + (b.toUInt32 >>> ((4 : Int32).toUInt32 &&& Int32.toUInt32 31)).toInt32) &&& 252645135) = sw3 4 (toN x) := by
    intro b e
    rw [toN_and, toN_add (by rw [s4, e]; show sw2 8 (toN x) + sw2 8 (toN x) / 16 < _; omega), s4, m3, e]
    exact h3
  have ed : ∀ c : Int32, toN c = sw3 4 (toN x) → toN (c + (c.toUInt32 >>> ((8 : Int32).toUInt32 &&& Int32.toUInt32 31)).toInt32) = sw3 4 (toN x) + sw3 4 (toN x) / 256 := by
    intro c e
    rw [toN_add (by rw [s8, e]; show sw3 4 (toN x) + sw3 4 (toN x) / 256 < _; omega), s8, e]
  have ef : ∀ d : Int32, toN d = sw3 4 (toN x) + sw3 4 (toN x) / 256 → toN ((d + (d.toUInt32 >>> ((16 : Int32).toUInt32 &&& Int32.toUInt32 31)).toInt32) &&& 63) = pcN 32 (toN x) := by
    intro d e
    rw [toN_and, toN_add (by rw [s16, e]; show _ + _ / 65536 < _; omega), s16, e, show toN 63 = 2 ^ 6 - 1 by decide, Nat.and_two_pow_sub_one_eq_mod]
    exact h4
  apply toN_inj
  have hp := pcN_le 32 (toN x)
  rw [toN_nI (by omega)]
  unfold am_bc
  exact ef _ (ed _ (ec _ (eb _ ea)))
/-- the bits below H, in their order -/
def blF (s H : Nat) : List Nat := (List.range H).filter (fun i => s.testBit i)
theorem bl_s {s i : Nat} : blF s (i + 1) = if s.testBit i = true then blF s i ++ [i] else blF s i := by
  unfold blF
  rw [List.range_succ, List.filter_append]
  by_cases c : s.testBit i = true
  · rw [if_pos c]
    simp [c]
  · rw [if_neg c]
    simp [c]
theorem bl_len : ∀ (H s : Nat), (blF s H).length = pcN H s
  | 0, _ => rfl
  | H + 1, s => by
    rw [bl_s, pcN_add H 1 s, ← bl_len H s]
    have e : pcN 1 (s / 2 ^ H) = s / 2 ^ H % 2 := by
      show s / 2 ^ H % 2 + 0 = _
      omega
    rw [e]
    have hb := Nat.testBit_eq_decide_div_mod_eq (x := s) (i := H)
    by_cases c : s.testBit H = true
    · rw [if_pos c, List.length_append]
      rw [c] at hb
      have := of_decide_eq_true hb.symm
      rw [this]; rfl
    · rw [if_neg c]
      have c' : s.testBit H = false := by simpa using c
      rw [c'] at hb
      have := of_decide_eq_false hb.symm
      omega
theorem bl_mono {s i j : Nat} (h : i ≤ j) : (blF s i).length ≤ (blF s j).length := by
  induction j with
  | zero =>
    have : i = 0 := by omega
    subst this
    exact Nat.le_refl _
  | succ j ih =>
    by_cases c : i = j + 1
    · subst c; exact Nat.le_refl _
    · refine Nat.le_trans (ih (by omega)) ?_
      rw [bl_s]
      split
      · rw [List.length_append]; omega
      · exact Nat.le_refl _
theorem bl_mem {s H i : Nat} : i ∈ blF s H ↔ i < H ∧ s.testBit i = true := by
  unfold blF
  rw [List.mem_filter, List.mem_range]
/-- no bit from H on -/
theorem bl_up {s H : Nat} (h : ∀ i, H ≤ i → i < 32 → s.testBit i = false) (hH : H ≤ 32) : blF s 32 = blF s H := by
  have : ∀ k, H + k ≤ 32 → blF s (H + k) = blF s H := by
    intro k
    induction k with
    | zero => intro _; rfl
    | succ k ih =>
      intro hk
      rw [show H + (k + 1) = H + k + 1 by omega, bl_s, h (H + k) (by omega) (by omega), ih (by omega)]
      simp
  have e := this (32 - H) (by omega)
  rw [show H + (32 - H) = 32 by omega] at e
  exact e
/-- a bit as the class reads it, as the reference reads it -/
theorem shz : ∀ i, i < 32 → ((nI i).toUInt32 &&& Int32.toUInt32 31).toNat % 32 = i := by decide +kernel
theorem bit_u {x : Int32} {i : Nat} (h : i < 32) : (((x.toUInt32 >>> ((nI i).toUInt32 &&& Int32.toUInt32 31)).toInt32) &&& 1 = 1) ↔ (toN x).testBit i = true := by
  rw [Nat.testBit_eq_decide_div_mod_eq, decide_eq_true_iff]
  have e : toN ((x.toUInt32 >>> ((nI i).toUInt32 &&& Int32.toUInt32 31)).toInt32 &&& 1) = toN x / 2 ^ i % 2 := by
    rw [toN_and, toN_sh (shz i h), show toN 1 = 1 by decide, Nat.and_one_is_mod]
  constructor
  · intro q
    rw [q] at e
    rw [← e]; decide
  · intro q
    apply toN_inj
    rw [e, q]; decide
theorem shs : ∀ i, i < 32 → ((nI i &&& 31).toBitVec.smod 32#32).toNat = i := by decide +kernel
theorem toN_ss {x : Int32} {i : Nat} (h : i < 32) : toN (x >>> (nI i &&& 31) &&& 1) = toN x / 2 ^ i % 2 := by
  have e : (x >>> (nI i &&& 31) &&& 1).toBitVec = x.toBitVec.sshiftRight i &&& 1#32 := by
    rw [Int32.toBitVec_and, Int32.toBitVec_shiftRight]
    show x.toBitVec.sshiftRight' ((nI i &&& 31).toBitVec.smod 32#32) &&& 1#32 = _
    rw [BitVec.sshiftRight', shs i h]
  have hb : (x.toBitVec.sshiftRight i &&& 1#32) = if x.toBitVec.getLsbD i = true then 1#32 else 0#32 := by
    apply BitVec.eq_of_getLsbD_eq
    intro j hj
    rw [BitVec.getLsbD_and, BitVec.getLsbD_sshiftRight]
    by_cases j0 : j = 0
    · subst j0
      cases hg : x.toBitVec.getLsbD i <;> simp [hg, h]
    · have : (1#32).getLsbD j = false := by
        rw [BitVec.getLsbD_one]
        simp [j0]
      rw [this, Bool.and_false]
      cases hg : x.toBitVec.getLsbD i <;> simp [this]
  unfold toN
  rw [e, hb]
  have hg : x.toBitVec.getLsbD i = x.toBitVec.toNat.testBit i := rfl
  rw [hg, Nat.testBit_eq_decide_div_mod_eq]
  by_cases c : x.toBitVec.toNat / 2 ^ i % 2 = 1
  · rw [if_pos (decide_eq_true c), c]; rfl
  · rw [if_neg (by simp [c])]
    show 0 = _
    omega
theorem bit_s {x : Int32} {i : Nat} (h : i < 32) : (x >>> (nI i &&& 31) &&& 1 = 1) ↔ (toN x).testBit i = true := by
  rw [Nat.testBit_eq_decide_div_mod_eq, decide_eq_true_iff, ← toN_ss h]
  constructor
  · intro q; rw [q]; decide
  · intro q
    apply toN_inj
    rw [q]; decide
theorem bit_s0 {x : Int32} {i : Nat} (h : i < 32) : (x >>> (nI i &&& 31) &&& 1 = 0) ↔ ¬ (toN x).testBit i = true := by
  rw [Nat.testBit_eq_decide_div_mod_eq, decide_eq_true_iff, ← toN_ss h]
  have := toN_ss (x := x) h
  constructor
  · intro q; rw [q]; decide
  · intro q
    apply toN_inj
    rw [show toN 0 = 0 by decide]
    omega
