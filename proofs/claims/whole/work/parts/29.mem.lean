/-! reading the memory, by the place: another kind, another slot, the same -/
section MEM2
variable {σ : aM} {K i j n s a b c : Nat}
theorem mI_sI_k {v : Int32} (h : a ≠ K) : gI (sI σ K i j v) a b c = gI σ a b c := if_neg (fun q => h q.1)
theorem mI_sI_j {v : Int32} (h : c ≠ j) : gI (sI σ K i j v) a b c = gI σ a b c := if_neg (fun q => h q.2.2)
theorem mI_sI_b {v : Int32} (h : b ≠ i) : gI (sI σ K i j v) a b c = gI σ a b c := if_neg (fun q => h q.2.1)
theorem mI_sI_s {v : Int32} : gI (sI σ K i j v) K i j = v := if_pos ⟨rfl, rfl, rfl⟩
theorem mI_sI_i {v : Int32} : gI (sI σ K i j v) K b j = if b = i then v else gI σ K b j := by show (if K = K ∧ b = i ∧ j = j then v else _) = _; exact (Classical.em (b = i)).elim (fun h => by simp [h]) (fun h => by simp [h]; rfl)
theorem mI_sI_c {v : Int32} : gI (sI σ K i j v) K i c = if c = j then v else gI σ K i c := by show (if K = K ∧ i = i ∧ c = j then v else _) = _; exact (Classical.em (c = j)).elim (fun h => by simp [h]) (fun h => by simp [h]; rfl)
theorem mL_sL_k {v : Int64} (h : a ≠ K) : gL (sL σ K i j v) a b c = gL σ a b c := if_neg (fun q => h q.1)
theorem mL_sL_j {v : Int64} (h : c ≠ j) : gL (sL σ K i j v) a b c = gL σ a b c := if_neg (fun q => h q.2.2)
theorem mL_sL_b {v : Int64} (h : b ≠ i) : gL (sL σ K i j v) a b c = gL σ a b c := if_neg (fun q => h q.2.1)
theorem mL_sL_s {v : Int64} : gL (sL σ K i j v) K i j = v := if_pos ⟨rfl, rfl, rfl⟩
theorem mL_sL_i {v : Int64} : gL (sL σ K i j v) K b j = if b = i then v else gL σ K b j := by show (if K = K ∧ b = i ∧ j = j then v else _) = _; exact (Classical.em (b = i)).elim (fun h => by simp [h]) (fun h => by simp [h]; rfl)
theorem mL_sL_c {v : Int64} : gL (sL σ K i j v) K i c = if c = j then v else gL σ K i c := by show (if K = K ∧ i = i ∧ c = j then v else _) = _; exact (Classical.em (c = j)).elim (fun h => by simp [h]) (fun h => by simp [h]; rfl)
theorem mR_sR_k {v : Option (Nat × Nat)} (h : a ≠ K) : gR (sR σ K i j v) a b c = gR σ a b c := if_neg (fun q => h q.1)
theorem mR_sR_j {v : Option (Nat × Nat)} (h : c ≠ j) : gR (sR σ K i j v) a b c = gR σ a b c := if_neg (fun q => h q.2.2)
theorem mR_sR_b {v : Option (Nat × Nat)} (h : b ≠ i) : gR (sR σ K i j v) a b c = gR σ a b c := if_neg (fun q => h q.2.1)
theorem mR_sR_s {v : Option (Nat × Nat)} : gR (sR σ K i j v) K i j = v := if_pos ⟨rfl, rfl, rfl⟩
theorem mR_sR_i {v : Option (Nat × Nat)} : gR (sR σ K i j v) K b j = if b = i then v else gR σ K b j := by show (if K = K ∧ b = i ∧ j = j then v else _) = _; exact (Classical.em (b = i)).elim (fun h => by simp [h]) (fun h => by simp [h]; rfl)
theorem mR_sR_c {v : Option (Nat × Nat)} : gR (sR σ K i j v) K i c = if c = j then v else gR σ K i c := by show (if K = K ∧ i = i ∧ c = j then v else _) = _; exact (Classical.em (c = j)).elim (fun h => by simp [h]) (fun h => by simp [h]; rfl)
theorem mI_sIr_k {v : Nat → Int32} (h : a ≠ K) : gI (sIr σ K i v) a b c = gI σ a b c := if_neg (fun q => h q.1)
theorem mI_sIr_s {v : Nat → Int32} : gI (sIr σ K i v) K i c = v c := if_pos ⟨rfl, rfl⟩
theorem mI_sIr_i {v : Nat → Int32} : gI (sIr σ K i v) K b c = if b = i then v c else gI σ K b c := by show (if K = K ∧ b = i then v c else _) = _; exact (Classical.em (b = i)).elim (fun h => by simp [h]) (fun h => by simp [h]; rfl)
theorem mL_sLr_k {v : Nat → Int64} (h : a ≠ K) : gL (sLr σ K i v) a b c = gL σ a b c := if_neg (fun q => h q.1)
theorem mL_sLr_s {v : Nat → Int64} : gL (sLr σ K i v) K i c = v c := if_pos ⟨rfl, rfl⟩
theorem mL_sLr_i {v : Nat → Int64} : gL (sLr σ K i v) K b c = if b = i then v c else gL σ K b c := by show (if K = K ∧ b = i then v c else _) = _; exact (Classical.em (b = i)).elim (fun h => by simp [h]) (fun h => by simp [h]; rfl)
theorem mR_sRr_k {v : Nat → Option (Nat × Nat)} (h : a ≠ K) : gR (sRr σ K i v) a b c = gR σ a b c := if_neg (fun q => h q.1)
theorem mR_sRr_s {v : Nat → Option (Nat × Nat)} : gR (sRr σ K i v) K i c = v c := if_pos ⟨rfl, rfl⟩
theorem mR_sRr_i {v : Nat → Option (Nat × Nat)} : gR (sRr σ K i v) K b c = if b = i then v c else gR σ K b c := by show (if K = K ∧ b = i then v c else _) = _; exact (Classical.em (b = i)).elim (fun h => by simp [h]) (fun h => by simp [h]; rfl)
theorem mN_sN_k (h : a ≠ K) : gN (sN σ K i n) a b = gN σ a b := if_neg (fun q => h q.1)
theorem mN_sN_i : gN (sN σ K i n) K b = if b = i then n else gN σ K b := by show (if K = K ∧ b = i then n else _) = _; exact (Classical.em (b = i)).elim (fun h => by simp [h]) (fun h => by simp [h]; rfl)
theorem mN_am_add_k {q : Option (Nat × Nat)} (h : a ≠ K) : gN (am_add σ K i q) a b = gN σ a b := if_neg (fun q => h q.1)
theorem mN_am_add_s {q : Option (Nat × Nat)} : gN (am_add σ K i q) K i = gN σ K i + 1 := if_pos ⟨rfl, rfl⟩
theorem mR_am_add_k {q : Option (Nat × Nat)} (h : a ≠ K) : gR (am_add σ K i q) a b c = gR σ a b c := if_neg (fun q => h q.1)
theorem mN_am_ins_k {q : Option (Nat × Nat)} (h : a ≠ K) : gN (am_ins σ K i j q) a b = gN σ a b := if_neg (fun q => h q.1)
theorem mN_am_ins_s {q : Option (Nat × Nat)} : gN (am_ins σ K i j q) K i = gN σ K i + 1 := if_pos ⟨rfl, rfl⟩
theorem mR_am_ins_k {q : Option (Nat × Nat)} (h : a ≠ K) : gR (am_ins σ K i j q) a b c = gR σ a b c := if_neg (fun q => h q.1)
theorem mN_am_rem_k  (h : a ≠ K) : gN (am_rem σ K i j) a b = gN σ a b := if_neg (fun q => h q.1)
theorem mN_am_rem_s  : gN (am_rem σ K i j) K i = gN σ K i - 1 := if_pos ⟨rfl, rfl⟩
theorem mR_am_rem_k  (h : a ≠ K) : gR (am_rem σ K i j) a b c = gR σ a b c := if_neg (fun q => h q.1)
theorem mR_am_add_s {q : Option (Nat × Nat)} : gR (am_add σ K i q) K i c = if c = gN σ K i then q else gR σ K i c := by show (if K = K ∧ i = i ∧ c = gN σ K i then q else _) = _; exact (Classical.em (c = gN σ K i)).elim (fun h => by simp [h]) (fun h => by simp [h]; rfl)
theorem mR_am_ins_s {q : Option (Nat × Nat)} : gR (am_ins σ K i j q) K i c = if c < j then gR σ K i c else if c = j then q else gR σ K i (c - 1) := if_pos ⟨rfl, rfl⟩
theorem mR_am_rem_s  : gR (am_rem σ K i j) K i c = if c < j then gR σ K i c else gR σ K i (c + 1) := if_pos ⟨rfl, rfl⟩
theorem mI_am_mk_k (h : a ≠ K) : gI (am_mk σ K n s) a b c = gI σ a b c := if_neg (fun q => h q.1)
theorem mI_am_mk_s  : gI (am_mk σ K n s) K (gC σ K) c = 0 := if_pos ⟨rfl, rfl⟩
theorem mI_am_mk_i : gI (am_mk σ K n s) K b c = if b = gC σ K then 0 else gI σ K b c := by show (if K = K ∧ b = gC σ K then _ else _) = _; exact (Classical.em (b = gC σ K)).elim (fun h => by simp [h]) (fun h => by simp [h]; rfl)
theorem mL_am_mk_k (h : a ≠ K) : gL (am_mk σ K n s) a b c = gL σ a b c := if_neg (fun q => h q.1)
theorem mL_am_mk_s  : gL (am_mk σ K n s) K (gC σ K) c = 0 := if_pos ⟨rfl, rfl⟩
theorem mL_am_mk_i : gL (am_mk σ K n s) K b c = if b = gC σ K then 0 else gL σ K b c := by show (if K = K ∧ b = gC σ K then _ else _) = _; exact (Classical.em (b = gC σ K)).elim (fun h => by simp [h]) (fun h => by simp [h]; rfl)
theorem mR_am_mk_k (h : a ≠ K) : gR (am_mk σ K n s) a b c = gR σ a b c := if_neg (fun q => h q.1)
theorem mR_am_mk_s  : gR (am_mk σ K n s) K (gC σ K) c = none := if_pos ⟨rfl, rfl⟩
theorem mR_am_mk_i : gR (am_mk σ K n s) K b c = if b = gC σ K then none else gR σ K b c := by show (if K = K ∧ b = gC σ K then _ else _) = _; exact (Classical.em (b = gC σ K)).elim (fun h => by simp [h]) (fun h => by simp [h]; rfl)
theorem mN_am_mk_k (h : a ≠ K) : gN (am_mk σ K n s) a b = gN σ a b := if_neg (fun q => h q.1)
theorem mN_am_mk_i : gN (am_mk σ K n s) K b = if b = gC σ K then n else gN σ K b := by show (if K = K ∧ b = gC σ K then _ else _) = _; exact (Classical.em (b = gC σ K)).elim (fun h => by simp [h]) (fun h => by simp [h]; rfl)
theorem mC_am_mk_k (h : a ≠ K) : gC (am_mk σ K n s) a = gC σ a := if_neg h
theorem mC_am_mk_s  : gC (am_mk σ K n s) K = gC σ K + 1 := if_pos rfl
theorem mN_am_ml_k (h : a ≠ K) : gN (am_ml σ K) a b = gN σ a b := if_neg (fun q => h q.1)
theorem mN_am_ml_i : gN (am_ml σ K) K b = if b = gC σ K then 0 else gN σ K b := by show (if K = K ∧ b = gC σ K then _ else _) = _; exact (Classical.em (b = gC σ K)).elim (fun h => by simp [h]) (fun h => by simp [h]; rfl)
theorem mC_am_ml_k (h : a ≠ K) : gC (am_ml σ K) a = gC σ a := if_neg h
theorem mC_am_ml_s  : gC (am_ml σ K) K = gC σ K + 1 := if_pos rfl
theorem mC_sC_k (h : a ≠ K) : gC (sC σ K) a = gC σ a := if_neg h
theorem mC_am_thr_k (h : a ≠ 2) : gC (am_thr σ) a = gC σ a := if_neg h
end MEM2
theorem ie_0_1 : ((0 : Int32) = 1) = False := by decide
theorem ie_0_2 : ((0 : Int32) = 2) = False := by decide
theorem ie_0_3 : ((0 : Int32) = 3) = False := by decide
theorem ie_0_4 : ((0 : Int32) = 4) = False := by decide
theorem ie_0_5 : ((0 : Int32) = 5) = False := by decide
theorem ie_0_6 : ((0 : Int32) = 6) = False := by decide
theorem ie_0_7 : ((0 : Int32) = 7) = False := by decide
theorem ie_0_8 : ((0 : Int32) = 8) = False := by decide
theorem ie_0_9 : ((0 : Int32) = 9) = False := by decide
theorem ie_0_10 : ((0 : Int32) = 10) = False := by decide
theorem ie_0_11 : ((0 : Int32) = 11) = False := by decide
theorem ie_0_12 : ((0 : Int32) = 12) = False := by decide
theorem ie_0_13 : ((0 : Int32) = 13) = False := by decide
theorem ie_1_0 : ((1 : Int32) = 0) = False := by decide
theorem ie_1_2 : ((1 : Int32) = 2) = False := by decide
theorem ie_1_3 : ((1 : Int32) = 3) = False := by decide
theorem ie_1_4 : ((1 : Int32) = 4) = False := by decide
theorem ie_1_5 : ((1 : Int32) = 5) = False := by decide
theorem ie_1_6 : ((1 : Int32) = 6) = False := by decide
theorem ie_1_7 : ((1 : Int32) = 7) = False := by decide
theorem ie_1_8 : ((1 : Int32) = 8) = False := by decide
theorem ie_1_9 : ((1 : Int32) = 9) = False := by decide
theorem ie_1_10 : ((1 : Int32) = 10) = False := by decide
theorem ie_1_11 : ((1 : Int32) = 11) = False := by decide
theorem ie_1_12 : ((1 : Int32) = 12) = False := by decide
theorem ie_1_13 : ((1 : Int32) = 13) = False := by decide
theorem ie_2_0 : ((2 : Int32) = 0) = False := by decide
theorem ie_2_1 : ((2 : Int32) = 1) = False := by decide
theorem ie_2_3 : ((2 : Int32) = 3) = False := by decide
theorem ie_2_4 : ((2 : Int32) = 4) = False := by decide
theorem ie_2_5 : ((2 : Int32) = 5) = False := by decide
theorem ie_2_6 : ((2 : Int32) = 6) = False := by decide
theorem ie_2_7 : ((2 : Int32) = 7) = False := by decide
theorem ie_2_8 : ((2 : Int32) = 8) = False := by decide
theorem ie_2_9 : ((2 : Int32) = 9) = False := by decide
theorem ie_2_10 : ((2 : Int32) = 10) = False := by decide
theorem ie_2_11 : ((2 : Int32) = 11) = False := by decide
theorem ie_2_12 : ((2 : Int32) = 12) = False := by decide
theorem ie_2_13 : ((2 : Int32) = 13) = False := by decide
theorem ie_3_0 : ((3 : Int32) = 0) = False := by decide
theorem ie_3_1 : ((3 : Int32) = 1) = False := by decide
theorem ie_3_2 : ((3 : Int32) = 2) = False := by decide
theorem ie_3_4 : ((3 : Int32) = 4) = False := by decide
theorem ie_3_5 : ((3 : Int32) = 5) = False := by decide
theorem ie_3_6 : ((3 : Int32) = 6) = False := by decide
theorem ie_3_7 : ((3 : Int32) = 7) = False := by decide
theorem ie_3_8 : ((3 : Int32) = 8) = False := by decide
theorem ie_3_9 : ((3 : Int32) = 9) = False := by decide
theorem ie_3_10 : ((3 : Int32) = 10) = False := by decide
theorem ie_3_11 : ((3 : Int32) = 11) = False := by decide
theorem ie_3_12 : ((3 : Int32) = 12) = False := by decide
theorem ie_3_13 : ((3 : Int32) = 13) = False := by decide
theorem ie_4_0 : ((4 : Int32) = 0) = False := by decide
theorem ie_4_1 : ((4 : Int32) = 1) = False := by decide
theorem ie_4_2 : ((4 : Int32) = 2) = False := by decide
theorem ie_4_3 : ((4 : Int32) = 3) = False := by decide
theorem ie_4_5 : ((4 : Int32) = 5) = False := by decide
theorem ie_4_6 : ((4 : Int32) = 6) = False := by decide
theorem ie_4_7 : ((4 : Int32) = 7) = False := by decide
theorem ie_4_8 : ((4 : Int32) = 8) = False := by decide
theorem ie_4_9 : ((4 : Int32) = 9) = False := by decide
theorem ie_4_10 : ((4 : Int32) = 10) = False := by decide
theorem ie_4_11 : ((4 : Int32) = 11) = False := by decide
theorem ie_4_12 : ((4 : Int32) = 12) = False := by decide
theorem ie_4_13 : ((4 : Int32) = 13) = False := by decide
theorem ie_5_0 : ((5 : Int32) = 0) = False := by decide
theorem ie_5_1 : ((5 : Int32) = 1) = False := by decide
theorem ie_5_2 : ((5 : Int32) = 2) = False := by decide
theorem ie_5_3 : ((5 : Int32) = 3) = False := by decide
theorem ie_5_4 : ((5 : Int32) = 4) = False := by decide
theorem ie_5_6 : ((5 : Int32) = 6) = False := by decide
theorem ie_5_7 : ((5 : Int32) = 7) = False := by decide
theorem ie_5_8 : ((5 : Int32) = 8) = False := by decide
theorem ie_5_9 : ((5 : Int32) = 9) = False := by decide
theorem ie_5_10 : ((5 : Int32) = 10) = False := by decide
theorem ie_5_11 : ((5 : Int32) = 11) = False := by decide
theorem ie_5_12 : ((5 : Int32) = 12) = False := by decide
theorem ie_5_13 : ((5 : Int32) = 13) = False := by decide
theorem ie_6_0 : ((6 : Int32) = 0) = False := by decide
theorem ie_6_1 : ((6 : Int32) = 1) = False := by decide
theorem ie_6_2 : ((6 : Int32) = 2) = False := by decide
theorem ie_6_3 : ((6 : Int32) = 3) = False := by decide
theorem ie_6_4 : ((6 : Int32) = 4) = False := by decide
theorem ie_6_5 : ((6 : Int32) = 5) = False := by decide
theorem ie_6_7 : ((6 : Int32) = 7) = False := by decide
theorem ie_6_8 : ((6 : Int32) = 8) = False := by decide
theorem ie_6_9 : ((6 : Int32) = 9) = False := by decide
theorem ie_6_10 : ((6 : Int32) = 10) = False := by decide
theorem ie_6_11 : ((6 : Int32) = 11) = False := by decide
theorem ie_6_12 : ((6 : Int32) = 12) = False := by decide
theorem ie_6_13 : ((6 : Int32) = 13) = False := by decide
theorem ie_7_0 : ((7 : Int32) = 0) = False := by decide
theorem ie_7_1 : ((7 : Int32) = 1) = False := by decide
theorem ie_7_2 : ((7 : Int32) = 2) = False := by decide
theorem ie_7_3 : ((7 : Int32) = 3) = False := by decide
theorem ie_7_4 : ((7 : Int32) = 4) = False := by decide
theorem ie_7_5 : ((7 : Int32) = 5) = False := by decide
theorem ie_7_6 : ((7 : Int32) = 6) = False := by decide
theorem ie_7_8 : ((7 : Int32) = 8) = False := by decide
theorem ie_7_9 : ((7 : Int32) = 9) = False := by decide
theorem ie_7_10 : ((7 : Int32) = 10) = False := by decide
theorem ie_7_11 : ((7 : Int32) = 11) = False := by decide
theorem ie_7_12 : ((7 : Int32) = 12) = False := by decide
theorem ie_7_13 : ((7 : Int32) = 13) = False := by decide
theorem ie_8_0 : ((8 : Int32) = 0) = False := by decide
theorem ie_8_1 : ((8 : Int32) = 1) = False := by decide
theorem ie_8_2 : ((8 : Int32) = 2) = False := by decide
theorem ie_8_3 : ((8 : Int32) = 3) = False := by decide
theorem ie_8_4 : ((8 : Int32) = 4) = False := by decide
theorem ie_8_5 : ((8 : Int32) = 5) = False := by decide
theorem ie_8_6 : ((8 : Int32) = 6) = False := by decide
theorem ie_8_7 : ((8 : Int32) = 7) = False := by decide
theorem ie_8_9 : ((8 : Int32) = 9) = False := by decide
theorem ie_8_10 : ((8 : Int32) = 10) = False := by decide
theorem ie_8_11 : ((8 : Int32) = 11) = False := by decide
theorem ie_8_12 : ((8 : Int32) = 12) = False := by decide
theorem ie_8_13 : ((8 : Int32) = 13) = False := by decide
theorem ie_9_0 : ((9 : Int32) = 0) = False := by decide
theorem ie_9_1 : ((9 : Int32) = 1) = False := by decide
theorem ie_9_2 : ((9 : Int32) = 2) = False := by decide
theorem ie_9_3 : ((9 : Int32) = 3) = False := by decide
theorem ie_9_4 : ((9 : Int32) = 4) = False := by decide
theorem ie_9_5 : ((9 : Int32) = 5) = False := by decide
theorem ie_9_6 : ((9 : Int32) = 6) = False := by decide
theorem ie_9_7 : ((9 : Int32) = 7) = False := by decide
theorem ie_9_8 : ((9 : Int32) = 8) = False := by decide
theorem ie_9_10 : ((9 : Int32) = 10) = False := by decide
theorem ie_9_11 : ((9 : Int32) = 11) = False := by decide
theorem ie_9_12 : ((9 : Int32) = 12) = False := by decide
theorem ie_9_13 : ((9 : Int32) = 13) = False := by decide
theorem ie_10_0 : ((10 : Int32) = 0) = False := by decide
theorem ie_10_1 : ((10 : Int32) = 1) = False := by decide
theorem ie_10_2 : ((10 : Int32) = 2) = False := by decide
theorem ie_10_3 : ((10 : Int32) = 3) = False := by decide
theorem ie_10_4 : ((10 : Int32) = 4) = False := by decide
theorem ie_10_5 : ((10 : Int32) = 5) = False := by decide
theorem ie_10_6 : ((10 : Int32) = 6) = False := by decide
theorem ie_10_7 : ((10 : Int32) = 7) = False := by decide
theorem ie_10_8 : ((10 : Int32) = 8) = False := by decide
theorem ie_10_9 : ((10 : Int32) = 9) = False := by decide
theorem ie_10_11 : ((10 : Int32) = 11) = False := by decide
theorem ie_10_12 : ((10 : Int32) = 12) = False := by decide
theorem ie_10_13 : ((10 : Int32) = 13) = False := by decide
theorem ie_11_0 : ((11 : Int32) = 0) = False := by decide
theorem ie_11_1 : ((11 : Int32) = 1) = False := by decide
theorem ie_11_2 : ((11 : Int32) = 2) = False := by decide
theorem ie_11_3 : ((11 : Int32) = 3) = False := by decide
theorem ie_11_4 : ((11 : Int32) = 4) = False := by decide
theorem ie_11_5 : ((11 : Int32) = 5) = False := by decide
theorem ie_11_6 : ((11 : Int32) = 6) = False := by decide
theorem ie_11_7 : ((11 : Int32) = 7) = False := by decide
theorem ie_11_8 : ((11 : Int32) = 8) = False := by decide
theorem ie_11_9 : ((11 : Int32) = 9) = False := by decide
theorem ie_11_10 : ((11 : Int32) = 10) = False := by decide
theorem ie_11_12 : ((11 : Int32) = 12) = False := by decide
theorem ie_11_13 : ((11 : Int32) = 13) = False := by decide
theorem ie_12_0 : ((12 : Int32) = 0) = False := by decide
theorem ie_12_1 : ((12 : Int32) = 1) = False := by decide
theorem ie_12_2 : ((12 : Int32) = 2) = False := by decide
theorem ie_12_3 : ((12 : Int32) = 3) = False := by decide
theorem ie_12_4 : ((12 : Int32) = 4) = False := by decide
theorem ie_12_5 : ((12 : Int32) = 5) = False := by decide
theorem ie_12_6 : ((12 : Int32) = 6) = False := by decide
theorem ie_12_7 : ((12 : Int32) = 7) = False := by decide
theorem ie_12_8 : ((12 : Int32) = 8) = False := by decide
theorem ie_12_9 : ((12 : Int32) = 9) = False := by decide
theorem ie_12_10 : ((12 : Int32) = 10) = False := by decide
theorem ie_12_11 : ((12 : Int32) = 11) = False := by decide
theorem ie_12_13 : ((12 : Int32) = 13) = False := by decide
theorem ie_13_0 : ((13 : Int32) = 0) = False := by decide
theorem ie_13_1 : ((13 : Int32) = 1) = False := by decide
theorem ie_13_2 : ((13 : Int32) = 2) = False := by decide
theorem ie_13_3 : ((13 : Int32) = 3) = False := by decide
theorem ie_13_4 : ((13 : Int32) = 4) = False := by decide
theorem ie_13_5 : ((13 : Int32) = 5) = False := by decide
theorem ie_13_6 : ((13 : Int32) = 6) = False := by decide
theorem ie_13_7 : ((13 : Int32) = 7) = False := by decide
theorem ie_13_8 : ((13 : Int32) = 8) = False := by decide
theorem ie_13_9 : ((13 : Int32) = 9) = False := by decide
theorem ie_13_10 : ((13 : Int32) = 10) = False := by decide
theorem ie_13_11 : ((13 : Int32) = 11) = False := by decide
theorem ie_13_12 : ((13 : Int32) = 12) = False := by decide
theorem il_0 : am_in 0 10 ↔ True := by decide
theorem lc_0 : ((0 : Int32)).toNatClampNeg = 0 := by decide
theorem il_1 : am_in 1 10 ↔ True := by decide
theorem lc_1 : ((1 : Int32)).toNatClampNeg = 1 := by decide
theorem il_2 : am_in 2 10 ↔ True := by decide
theorem lc_2 : ((2 : Int32)).toNatClampNeg = 2 := by decide
theorem il_3 : am_in 3 10 ↔ True := by decide
theorem lc_3 : ((3 : Int32)).toNatClampNeg = 3 := by decide
theorem il_4 : am_in 4 10 ↔ True := by decide
theorem lc_4 : ((4 : Int32)).toNatClampNeg = 4 := by decide
theorem il_5 : am_in 5 10 ↔ True := by decide
theorem lc_5 : ((5 : Int32)).toNatClampNeg = 5 := by decide
theorem il_6 : am_in 6 10 ↔ True := by decide
theorem lc_6 : ((6 : Int32)).toNatClampNeg = 6 := by decide
theorem il_7 : am_in 7 10 ↔ True := by decide
theorem lc_7 : ((7 : Int32)).toNatClampNeg = 7 := by decide
theorem il_8 : am_in 8 10 ↔ True := by decide
theorem lc_8 : ((8 : Int32)).toNatClampNeg = 8 := by decide
theorem il_9 : am_in 9 10 ↔ True := by decide
theorem lc_9 : ((9 : Int32)).toNatClampNeg = 9 := by decide
