/-! reading the memory, by the place: another kind, another slot, the same -/
section MEM2
variable {σ : aM} {K i j n s a b c : Nat}
theorem mI_sI_k {v : Int32} (h : a ≠ K) : gI (sI σ K i j v) a b c = gI σ a b c := if_neg (fun q => h q.1)
theorem mI_sI_j {v : Int32} (h : c ≠ j) : gI (sI σ K i j v) a b c = gI σ a b c := if_neg (fun q => h q.2.2)
theorem mI_sI_b {v : Int32} (h : b ≠ i) : gI (sI σ K i j v) a b c = gI σ a b c := if_neg (fun q => h q.2.1)
theorem mI_sI_s {v : Int32} : gI (sI σ K i j v) K i j = v := if_pos ⟨rfl, rfl, rfl⟩
theorem mI_sI_i {v : Int32} : gI (sI σ K i j v) K b j = if b = i then v else gI σ K b j := by show (if K = K ∧ b = i ∧ j = j then v else _) = _; exact (Classical.em (b = i)).elim (fun h => by simp [h]) (fun h => by simp [h]; rfl)
theorem mI_sI_c {v : Int32} : gI (sI σ K i j v) K i c = if c = j then v else gI σ K i c := by show (if K = K ∧ i = i ∧ c = j then v else _) = _; exact (Classical.em (c = j)).elim (fun h => by simp [h]) (fun h => by simp [h]; rfl)
theorem mL_sL_k {v : Int64} (h : a ≠ K) : gL (sL σ K i j v) a b c = gL σ a b c := if_neg (fun q => h q.1)
theorem mL_sL_j {v : Int64} (h : c ≠ j) : gL (sL σ K i j v) a b c = gL σ a b c := if_neg (fun q => h q.2.2)
theorem mL_sL_b {v : Int64} (h : b ≠ i) : gL (sL σ K i j v) a b c = gL σ a b c := if_neg (fun q => h q.2.1)
theorem mL_sL_s {v : Int64} : gL (sL σ K i j v) K i j = v := if_pos ⟨rfl, rfl, rfl⟩
theorem mL_sL_i {v : Int64} : gL (sL σ K i j v) K b j = if b = i then v else gL σ K b j := by show (if K = K ∧ b = i ∧ j = j then v else _) = _; exact (Classical.em (b = i)).elim (fun h => by simp [h]) (fun h => by simp [h]; rfl)
theorem mL_sL_c {v : Int64} : gL (sL σ K i j v) K i c = if c = j then v else gL σ K i c := by show (if K = K ∧ i = i ∧ c = j then v else _) = _; exact (Classical.em (c = j)).elim (fun h => by simp [h]) (fun h => by simp [h]; rfl)
theorem mR_sR_k {v : Option (Nat × Nat)} (h : a ≠ K) : gR (sR σ K i j v) a b c = gR σ a b c := if_neg (fun q => h q.1)
theorem mR_sR_j {v : Option (Nat × Nat)} (h : c ≠ j) : gR (sR σ K i j v) a b c = gR σ a b c := if_neg (fun q => h q.2.2)
theorem mR_sR_b {v : Option (Nat × Nat)} (h : b ≠ i) : gR (sR σ K i j v) a b c = gR σ a b c := if_neg (fun q => h q.2.1)
theorem mR_sR_s {v : Option (Nat × Nat)} : gR (sR σ K i j v) K i j = v := if_pos ⟨rfl, rfl, rfl⟩
theorem mR_sR_i {v : Option (Nat × Nat)} : gR (sR σ K i j v) K b j = if b = i then v else gR σ K b j := by show (if K = K ∧ b = i ∧ j = j then v else _) = _; exact (Classical.em (b = i)).elim (fun h => by simp [h]) (fun h => by simp [h]; rfl)
theorem mR_sR_c {v : Option (Nat × Nat)} : gR (sR σ K i j v) K i c = if c = j then v else gR σ K i c := by show (if K = K ∧ i = i ∧ c = j then v else _) = _; exact (Classical.em (c = j)).elim (fun h => by simp [h]) (fun h => by simp [h]; rfl)
theorem mI_sIr_k {v : Nat → Int32} (h : a ≠ K) : gI (sIr σ K i v) a b c = gI σ a b c := if_neg (fun q => h q.1)
theorem mI_sIr_s {v : Nat → Int32} : gI (sIr σ K i v) K i c = v c := if_pos ⟨rfl, rfl⟩
theorem mI_sIr_i {v : Nat → Int32} : gI (sIr σ K i v) K b c = if b = i then v c else gI σ K b c := by show (if K = K ∧ b = i then v c else _) = _; exact (Classical.em (b = i)).elim (fun h => by simp [h]) (fun h => by simp [h]; rfl)
theorem mL_sLr_k {v : Nat → Int64} (h : a ≠ K) : gL (sLr σ K i v) a b c = gL σ a b c := if_neg (fun q => h q.1)
theorem mL_sLr_s {v : Nat → Int64} : gL (sLr σ K i v) K i c = v c := if_pos ⟨rfl, rfl⟩
theorem mL_sLr_i {v : Nat → Int64} : gL (sLr σ K i v) K b c = if b = i then v c else gL σ K b c := by show (if K = K ∧ b = i then v c else _) = _; exact (Classical.em (b = i)).elim (fun h => by simp [h]) (fun h => by simp [h]; rfl)
theorem mR_sRr_k {v : Nat → Option (Nat × Nat)} (h : a ≠ K) : gR (sRr σ K i v) a b c = gR σ a b c := if_neg (fun q => h q.1)
theorem mR_sRr_s {v : Nat → Option (Nat × Nat)} : gR (sRr σ K i v) K i c = v c := if_pos ⟨rfl, rfl⟩
theorem mR_sRr_i {v : Nat → Option (Nat × Nat)} : gR (sRr σ K i v) K b c = if b = i then v c else gR σ K b c := by show (if K = K ∧ b = i then v c else _) = _; exact (Classical.em (b = i)).elim (fun h => by simp [h]) (fun h => by simp [h]; rfl)
theorem mN_sN_k (h : a ≠ K) : gN (sN σ K i n) a b = gN σ a b := if_neg (fun q => h q.1)
theorem mN_sN_i : gN (sN σ K i n) K b = if b = i then n else gN σ K b := by show (if K = K ∧ b = i then n else _) = _; exact (Classical.em (b = i)).elim (fun h => by simp [h]) (fun h => by simp [h]; rfl)
theorem mN_am_add_k {q : Option (Nat × Nat)} (h : a ≠ K) : gN (am_add σ K i q) a b = gN σ a b := if_neg (fun q => h q.1)
theorem mN_am_add_s {q : Option (Nat × Nat)} : gN (am_add σ K i q) K i = gN σ K i + 1 := if_pos ⟨rfl, rfl⟩
theorem mR_am_add_k {q : Option (Nat × Nat)} (h : a ≠ K) : gR (am_add σ K i q) a b c = gR σ a b c := if_neg (fun q => h q.1)
theorem mN_am_ins_k {q : Option (Nat × Nat)} (h : a ≠ K) : gN (am_ins σ K i j q) a b = gN σ a b := if_neg (fun q => h q.1)
theorem mN_am_ins_s {q : Option (Nat × Nat)} : gN (am_ins σ K i j q) K i = gN σ K i + 1 := if_pos ⟨rfl, rfl⟩
theorem mR_am_ins_k {q : Option (Nat × Nat)} (h : a ≠ K) : gR (am_ins σ K i j q) a b c = gR σ a b c := if_neg (fun q => h q.1)
theorem mN_am_rem_k  (h : a ≠ K) : gN (am_rem σ K i j) a b = gN σ a b := if_neg (fun q => h q.1)
theorem mN_am_rem_s  : gN (am_rem σ K i j) K i = gN σ K i - 1 := if_pos ⟨rfl, rfl⟩
theorem mR_am_rem_k  (h : a ≠ K) : gR (am_rem σ K i j) a b c = gR σ a b c := if_neg (fun q => h q.1)
theorem mR_am_add_s {q : Option (Nat × Nat)} : gR (am_add σ K i q) K i c = if c = gN σ K i then q else gR σ K i c := by show (if K = K ∧ i = i ∧ c = gN σ K i then q else _) = _; exact (Classical.em (c = gN σ K i)).elim (fun h => by simp [h]) (fun h => by simp [h]; rfl)
theorem mR_am_ins_s {q : Option (Nat × Nat)} : gR (am_ins σ K i j q) K i c = if c < j then gR σ K i c else if c = j then q else gR σ K i (c - 1) := if_pos ⟨rfl, rfl⟩
theorem mR_am_rem_s  : gR (am_rem σ K i j) K i c = if c < j then gR σ K i c else gR σ K i (c + 1) := if_pos ⟨rfl, rfl⟩
theorem mI_am_mk_k (h : a ≠ K) : gI (am_mk σ K n s) a b c = gI σ a b c := if_neg (fun q => h q.1)
theorem mI_am_mk_s  : gI (am_mk σ K n s) K (gC σ K) c = 0 := if_pos ⟨rfl, rfl⟩
theorem mI_am_mk_i : gI (am_mk σ K n s) K b c = if b = gC σ K then 0 else gI σ K b c := by show (if K = K ∧ b = gC σ K then _ else _) = _; exact (Classical.em (b = gC σ K)).elim (fun h => by simp [h]) (fun h => by simp [h]; rfl)
theorem mL_am_mk_k (h : a ≠ K) : gL (am_mk σ K n s) a b c = gL σ a b c := if_neg (fun q => h q.1)
theorem mL_am_mk_s  : gL (am_mk σ K n s) K (gC σ K) c = 0 := if_pos ⟨rfl, rfl⟩
theorem mL_am_mk_i : gL (am_mk σ K n s) K b c = if b = gC σ K then 0 else gL σ K b c := by show (if K = K ∧ b = gC σ K then _ else _) = _; exact (Classical.em (b = gC σ K)).elim (fun h => by simp [h]) (fun h => by simp [h]; rfl)
theorem mR_am_mk_k (h : a ≠ K) : gR (am_mk σ K n s) a b c = gR σ a b c := if_neg (fun q => h q.1)
theorem mR_am_mk_s  : gR (am_mk σ K n s) K (gC σ K) c = none := if_pos ⟨rfl, rfl⟩
theorem mR_am_mk_i : gR (am_mk σ K n s) K b c = if b = gC σ K then none else gR σ K b c := by show (if K = K ∧ b = gC σ K then _ else _) = _; exact (Classical.em (b = gC σ K)).elim (fun h => by simp [h]) (fun h => by simp [h]; rfl)
theorem mN_am_mk_k (h : a ≠ K) : gN (am_mk σ K n s) a b = gN σ a b := if_neg (fun q => h q.1)
theorem mN_am_mk_i : gN (am_mk σ K n s) K b = if b = gC σ K then n else gN σ K b := by show (if K = K ∧ b = gC σ K then _ else _) = _; exact (Classical.em (b = gC σ K)).elim (fun h => by simp [h]) (fun h => by simp [h]; rfl)
theorem mC_am_mk_k (h : a ≠ K) : gC (am_mk σ K n s) a = gC σ a := if_neg h
theorem mC_am_mk_s  : gC (am_mk σ K n s) K = gC σ K + 1 := if_pos rfl
theorem mN_am_ml_k (h : a ≠ K) : gN (am_ml σ K) a b = gN σ a b := if_neg (fun q => h q.1)
theorem mN_am_ml_i : gN (am_ml σ K) K b = if b = gC σ K then 0 else gN σ K b := by show (if K = K ∧ b = gC σ K then _ else _) = _; exact (Classical.em (b = gC σ K)).elim (fun h => by simp [h]) (fun h => by simp [h]; rfl)
theorem mC_am_ml_k (h : a ≠ K) : gC (am_ml σ K) a = gC σ a := if_neg h
theorem mC_am_ml_s  : gC (am_ml σ K) K = gC σ K + 1 := if_pos rfl
theorem mC_sC_k (h : a ≠ K) : gC (sC σ K) a = gC σ a := if_neg h
theorem mC_am_thr_k (h : a ≠ 2) : gC (am_thr σ) a = gC σ a := if_neg h
end MEM2
