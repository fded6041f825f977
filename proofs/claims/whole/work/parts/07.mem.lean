section MEM
variable {σ : aM} {K i j n a b c c9 s9 : Nat} {v : Int32} {w : Int64} {q : Option (Nat × Nat)} {f : Nat → Int32} {g : Nat → Int64} {h : Nat → Option (Nat × Nat)}
theorem gI_sI : gI (sI σ K i j v) a b c = if a = K ∧ b = i ∧ c = j then v else gI σ a b c := rfl
theorem gL_sI : gL (sI σ K i j v) a b c = gL σ a b c := rfl
theorem gR_sI : gR (sI σ K i j v) a b c = gR σ a b c := rfl
theorem gN_sI : gN (sI σ K i j v) a b = gN σ a b := rfl
theorem gC_sI : gC (sI σ K i j v) a = gC σ a := rfl
theorem gB_sI : gB (sI σ K i j v) = gB σ  := rfl
theorem gI_sL : gI (sL σ K i j w) a b c = gI σ a b c := rfl
theorem gL_sL : gL (sL σ K i j w) a b c = if a = K ∧ b = i ∧ c = j then w else gL σ a b c := rfl
theorem gR_sL : gR (sL σ K i j w) a b c = gR σ a b c := rfl
theorem gN_sL : gN (sL σ K i j w) a b = gN σ a b := rfl
theorem gC_sL : gC (sL σ K i j w) a = gC σ a := rfl
theorem gB_sL : gB (sL σ K i j w) = gB σ  := rfl
theorem gI_sR : gI (sR σ K i j q) a b c = gI σ a b c := rfl
theorem gL_sR : gL (sR σ K i j q) a b c = gL σ a b c := rfl
theorem gR_sR : gR (sR σ K i j q) a b c = if a = K ∧ b = i ∧ c = j then q else gR σ a b c := rfl
theorem gN_sR : gN (sR σ K i j q) a b = gN σ a b := rfl
theorem gC_sR : gC (sR σ K i j q) a = gC σ a := rfl
theorem gB_sR : gB (sR σ K i j q) = gB σ  := rfl
theorem gI_sIr : gI (sIr σ K i f) a b c = if a = K ∧ b = i then f c else gI σ a b c := rfl
theorem gL_sIr : gL (sIr σ K i f) a b c = gL σ a b c := rfl
theorem gR_sIr : gR (sIr σ K i f) a b c = gR σ a b c := rfl
theorem gN_sIr : gN (sIr σ K i f) a b = gN σ a b := rfl
theorem gC_sIr : gC (sIr σ K i f) a = gC σ a := rfl
theorem gB_sIr : gB (sIr σ K i f) = gB σ  := rfl
theorem gI_sLr : gI (sLr σ K i g) a b c = gI σ a b c := rfl
theorem gL_sLr : gL (sLr σ K i g) a b c = if a = K ∧ b = i then g c else gL σ a b c := rfl
theorem gR_sLr : gR (sLr σ K i g) a b c = gR σ a b c := rfl
theorem gN_sLr : gN (sLr σ K i g) a b = gN σ a b := rfl
theorem gC_sLr : gC (sLr σ K i g) a = gC σ a := rfl
theorem gB_sLr : gB (sLr σ K i g) = gB σ  := rfl
theorem gI_sRr : gI (sRr σ K i h) a b c = gI σ a b c := rfl
theorem gL_sRr : gL (sRr σ K i h) a b c = gL σ a b c := rfl
theorem gR_sRr : gR (sRr σ K i h) a b c = if a = K ∧ b = i then h c else gR σ a b c := rfl
theorem gN_sRr : gN (sRr σ K i h) a b = gN σ a b := rfl
theorem gC_sRr : gC (sRr σ K i h) a = gC σ a := rfl
theorem gB_sRr : gB (sRr σ K i h) = gB σ  := rfl
theorem gI_sN : gI (sN σ K i n) a b c = gI σ a b c := rfl
theorem gL_sN : gL (sN σ K i n) a b c = gL σ a b c := rfl
theorem gR_sN : gR (sN σ K i n) a b c = gR σ a b c := rfl
theorem gN_sN : gN (sN σ K i n) a b = if a = K ∧ b = i then n else gN σ a b := rfl
theorem gC_sN : gC (sN σ K i n) a = gC σ a := rfl
theorem gB_sN : gB (sN σ K i n) = gB σ  := rfl
theorem gI_sC : gI (sC σ K) a b c = gI σ a b c := rfl
theorem gL_sC : gL (sC σ K) a b c = gL σ a b c := rfl
theorem gR_sC : gR (sC σ K) a b c = gR σ a b c := rfl
theorem gN_sC : gN (sC σ K) a b = gN σ a b := rfl
theorem gC_sC : gC (sC σ K) a = if a = K then gC σ K + 1 else gC σ a := rfl
theorem gB_sC : gB (sC σ K) = gB σ  := rfl
theorem gI_sB : gI (sB σ c9 s9) a b c = gI σ a b c := rfl
theorem gL_sB : gL (sB σ c9 s9) a b c = gL σ a b c := rfl
theorem gR_sB : gR (sB σ c9 s9) a b c = gR σ a b c := rfl
theorem gN_sB : gN (sB σ c9 s9) a b = gN σ a b := rfl
theorem gC_sB : gC (sB σ c9 s9) a = gC σ a := rfl
theorem gB_sB : gB (sB σ c9 s9) = ((gB σ).1 + c9, (gB σ).2 + s9) := rfl
theorem gI_am_mk : gI (am_mk σ K n c9) a b c = if a = K ∧ b = gC σ K then 0 else gI σ a b c := rfl
theorem gL_am_mk : gL (am_mk σ K n c9) a b c = if a = K ∧ b = gC σ K then 0 else gL σ a b c := rfl
theorem gR_am_mk : gR (am_mk σ K n c9) a b c = if a = K ∧ b = gC σ K then none else gR σ a b c := rfl
theorem gN_am_mk : gN (am_mk σ K n c9) a b = if a = K ∧ b = gC σ K then n else gN σ a b := rfl
theorem gC_am_mk : gC (am_mk σ K n c9) a = if a = K then gC σ K + 1 else gC σ a := rfl
theorem gB_am_mk : gB (am_mk σ K n c9) = ((gB σ).1 + 1, (gB σ).2 + c9) := rfl
theorem gI_am_ml : gI (am_ml σ K) a b c = gI σ a b c := rfl
theorem gL_am_ml : gL (am_ml σ K) a b c = gL σ a b c := rfl
theorem gR_am_ml : gR (am_ml σ K) a b c = gR σ a b c := rfl
theorem gN_am_ml : gN (am_ml σ K) a b = if a = K ∧ b = gC σ K then 0 else gN σ a b := rfl
theorem gC_am_ml : gC (am_ml σ K) a = if a = K then gC σ K + 1 else gC σ a := rfl
theorem gB_am_ml : gB (am_ml σ K) = ((gB σ).1 + 1, (gB σ).2 + 3) := rfl
theorem gI_am_add : gI (am_add σ K i q) a b c = gI σ a b c := rfl
theorem gL_am_add : gL (am_add σ K i q) a b c = gL σ a b c := rfl
theorem gR_am_add : gR (am_add σ K i q) a b c = if a = K ∧ b = i ∧ c = gN σ K i then q else gR σ a b c := rfl
theorem gN_am_add : gN (am_add σ K i q) a b = if a = K ∧ b = i then gN σ K i + 1 else gN σ a b := rfl
theorem gC_am_add : gC (am_add σ K i q) a = gC σ a := rfl
theorem gB_am_add : gB (am_add σ K i q) = ((gB σ).1 + 1, (gB σ).2 + (gN σ K i + gN σ K i / 2 + 10)) := rfl
theorem gI_am_ins : gI (am_ins σ K i j q) a b c = gI σ a b c := rfl
theorem gL_am_ins : gL (am_ins σ K i j q) a b c = gL σ a b c := rfl
theorem gR_am_ins : gR (am_ins σ K i j q) a b c = if a = K ∧ b = i then (if c < j then gR σ K i c else if c = j then q else gR σ K i (c - 1)) else gR σ a b c := rfl
theorem gN_am_ins : gN (am_ins σ K i j q) a b = if a = K ∧ b = i then gN σ K i + 1 else gN σ a b := rfl
theorem gC_am_ins : gC (am_ins σ K i j q) a = gC σ a := rfl
theorem gB_am_ins : gB (am_ins σ K i j q) = ((gB σ).1 + 1, (gB σ).2 + (gN σ K i + gN σ K i / 2 + 10)) := rfl
theorem gI_am_rem : gI (am_rem σ K i j) a b c = gI σ a b c := rfl
theorem gL_am_rem : gL (am_rem σ K i j) a b c = gL σ a b c := rfl
theorem gR_am_rem : gR (am_rem σ K i j) a b c = if a = K ∧ b = i then (if c < j then gR σ K i c else gR σ K i (c + 1)) else gR σ a b c := rfl
theorem gN_am_rem : gN (am_rem σ K i j) a b = if a = K ∧ b = i then gN σ K i - 1 else gN σ a b := rfl
theorem gC_am_rem : gC (am_rem σ K i j) a = gC σ a := rfl
theorem gB_am_rem : gB (am_rem σ K i j) = gB σ := rfl
theorem gI_am_thr : gI (am_thr σ) a b c = gI σ a b c := rfl
theorem gL_am_thr : gL (am_thr σ) a b c = gL σ a b c := rfl
theorem gR_am_thr : gR (am_thr σ) a b c = gR σ a b c := rfl
theorem gN_am_thr : gN (am_thr σ) a b = gN σ a b := rfl
theorem gC_am_thr : gC (am_thr σ) a = if a = 2 then gC σ 2 + 1 else gC σ a := rfl
theorem gB_am_thr : gB (am_thr σ) = ((gB σ).1 + 1, (gB σ).2 + 6) := rfl
end MEM
