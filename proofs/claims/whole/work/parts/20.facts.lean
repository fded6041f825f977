/-- the tables' words that a callee may take -/
def tb : List Cond := lw_tbl.filter goodWord
def vwTy : List (Nat → FieldType) := [tyJx4a65c, tyX0, tyX1, tyX2, tyX3, tyX4, tyX5, tyX6, tyX7, tyX8, tyX9, tyX10, tyX11, tyX12]
/-! what the tables of part 04 say of the Statement's own: each row by its place -/
theorem tbm {w : Cond} (i : Nat) (h : tables_1[i]? = some w ∧ goodWord w = true) : w ∈ tb := List.mem_filter.mpr ⟨List.mem_append_right _ (List.mem_of_getElem? h.1), h.2⟩
theorem tbs {y : MethodName} {n : Nat} (j : Nat) (h : lw_privs[j]? = some (y, n) ∧ goodWord (.selects y.cls y y) = true) : Cond.selects y.cls y y ∈ tb := List.mem_filter.mpr ⟨List.mem_append_left _ (List.mem_map.mpr ⟨(y, n), List.mem_of_getElem? h.1, rfl⟩), h.2⟩
theorem tbr {ws : List Cond} (ps : List Nat) (h : ws = ps.filterMap (fun i => tables_1[i]?)) (g : ws.all goodWord = true) : ∀ w ∈ ws, w ∈ tb := by
  intro w hw
  have h1 := List.all_eq_true.mp g w hw
  rw [h] at hw
  obtain ⟨i, -, hi⟩ := List.mem_filterMap.mp hw
  exact tbm i ⟨hi, h1⟩
theorem lk_s {α : Type} {L : List (Nat × Nat × α)} {a b : Nat} {v : α} (h : (L.find? (fun e => e.1 == a && e.2.1 == b)).map (fun e => e.2.2) = some v) : (a, b, v) ∈ L := by
  cases hf : L.find? (fun e => e.1 == a && e.2.1 == b) with
  | none => rw [hf] at h; cases h
  | some e =>
    rw [hf] at h
    have h1 := List.find?_some hf
    have h2 := List.mem_of_find?_eq_some hf
    simp only [Bool.and_eq_true, beq_iff_eq] at h1
    have h3 : e.2.2 = v := Option.some.inj h
    obtain ⟨e1, e2, e3⟩ := e
    simp only at h1 h3
    rw [← h1.1, ← h1.2, ← h3]
    exact h2
/-- of the kind t -/
def tyk : Nat → FieldType → Bool
  | 0, .int => true
  | 3, .boolean => true
  | 1, .long => true
  | 2, .object _ => true
  | 2, .array _ => true
  | _, _ => false
def okF (e : Nat × Nat × Nat × Nat × Nat) : Prop := ∃ q : vw_C, vwCl[e.2.2.1]? = some q ∧ e.2.2.2.1 < q.2.2 ∧ Cond.fieldLink (cN e.1) e.2.1 (q.2.1 e.2.2.2.1).1 (q.2.1 e.2.2.2.1).2.1 (q.2.1 e.2.2.2.1).2.2.1 ∈ tb ∧ tyk e.2.2.2.2 ((vwTy.getD e.2.2.1 tyX0) e.2.2.2.1) = true
theorem of0 : okF (10, 9, 10, 0, 2) := ⟨_, rfl, by decide, tbm 71 (by decide +kernel), by decide +kernel⟩
theorem of1 : okF (10, 15, 10, 1, 0) := ⟨_, rfl, by decide, tbm 72 (by decide +kernel), by decide +kernel⟩
theorem of2 : okF (12, 118, 10, 1, 0) := ⟨_, rfl, by decide, tbm 73 (by decide +kernel), by decide +kernel⟩
theorem of3 : okF (10, 19, 10, 2, 0) := ⟨_, rfl, by decide, tbm 74 (by decide +kernel), by decide +kernel⟩
theorem of4 : okF (12, 134, 10, 2, 0) := ⟨_, rfl, by decide, tbm 75 (by decide +kernel), by decide +kernel⟩
theorem of5 : okF (10, 22, 10, 3, 0) := ⟨_, rfl, by decide, tbm 76 (by decide +kernel), by decide +kernel⟩
theorem of6 : okF (12, 142, 10, 3, 0) := ⟨_, rfl, by decide, tbm 77 (by decide +kernel), by decide +kernel⟩
theorem of7 : okF (10, 25, 10, 4, 2) := ⟨_, rfl, by decide, tbm 78 (by decide +kernel), by decide +kernel⟩
theorem of8 : okF (10, 28, 10, 5, 0) := ⟨_, rfl, by decide, tbm 79 (by decide +kernel), by decide +kernel⟩
theorem of9 : okF (10, 31, 10, 6, 2) := ⟨_, rfl, by decide, tbm 80 (by decide +kernel), by decide +kernel⟩
theorem of10 : okF (10, 34, 10, 7, 2) := ⟨_, rfl, by decide, tbm 81 (by decide +kernel), by decide +kernel⟩
theorem of11 : okF (10, 37, 10, 8, 2) := ⟨_, rfl, by decide, tbm 82 (by decide +kernel), by decide +kernel⟩
theorem of12 : okF (10, 40, 10, 9, 0) := ⟨_, rfl, by decide, tbm 83 (by decide +kernel), by decide +kernel⟩
theorem of13 : okF (10, 43, 10, 10, 0) := ⟨_, rfl, by decide, tbm 84 (by decide +kernel), by decide +kernel⟩
theorem of14 : okF (10, 46, 10, 11, 0) := ⟨_, rfl, by decide, tbm 85 (by decide +kernel), by decide +kernel⟩
theorem of15 : okF (10, 49, 10, 12, 0) := ⟨_, rfl, by decide, tbm 86 (by decide +kernel), by decide +kernel⟩
theorem of16 : okF (10, 52, 10, 13, 0) := ⟨_, rfl, by decide, tbm 87 (by decide +kernel), by decide +kernel⟩
theorem of17 : okF (4, 12, 4, 0, 2) := ⟨_, rfl, by decide, tbm 126 (by decide +kernel), by decide +kernel⟩
theorem of18 : okF (12, 124, 4, 0, 2) := ⟨_, rfl, by decide, tbm 127 (by decide +kernel), by decide +kernel⟩
theorem of19 : okF (4, 18, 4, 1, 2) := ⟨_, rfl, by decide, tbm 128 (by decide +kernel), by decide +kernel⟩
theorem of20 : okF (4, 21, 4, 2, 2) := ⟨_, rfl, by decide, tbm 129 (by decide +kernel), by decide +kernel⟩
theorem of21 : okF (4, 25, 4, 3, 0) := ⟨_, rfl, by decide, tbm 130 (by decide +kernel), by decide +kernel⟩
theorem of22 : okF (12, 433, 4, 3, 0) := ⟨_, rfl, by decide, tbm 131 (by decide +kernel), by decide +kernel⟩
theorem of23 : okF (4, 31, 4, 4, 2) := ⟨_, rfl, by decide, tbm 132 (by decide +kernel), by decide +kernel⟩
theorem of24 : okF (4, 34, 4, 5, 2) := ⟨_, rfl, by decide, tbm 133 (by decide +kernel), by decide +kernel⟩
theorem of25 : okF (4, 37, 4, 6, 2) := ⟨_, rfl, by decide, tbm 134 (by decide +kernel), by decide +kernel⟩
theorem of26 : okF (4, 41, 4, 7, 2) := ⟨_, rfl, by decide, tbm 135 (by decide +kernel), by decide +kernel⟩
theorem of27 : okF (4, 45, 4, 8, 0) := ⟨_, rfl, by decide, tbm 136 (by decide +kernel), by decide +kernel⟩
theorem of28 : okF (2, 7, 2, 0, 0) := ⟨_, rfl, by decide, tbm 163 (by decide +kernel), by decide +kernel⟩
theorem of29 : okF (12, 260, 2, 0, 0) := ⟨_, rfl, by decide, tbm 164 (by decide +kernel), by decide +kernel⟩
theorem of30 : okF (2, 13, 2, 1, 0) := ⟨_, rfl, by decide, tbm 165 (by decide +kernel), by decide +kernel⟩
theorem of31 : okF (12, 263, 2, 1, 0) := ⟨_, rfl, by decide, tbm 166 (by decide +kernel), by decide +kernel⟩
theorem of32 : okF (2, 16, 2, 2, 0) := ⟨_, rfl, by decide, tbm 167 (by decide +kernel), by decide +kernel⟩
theorem of33 : okF (12, 266, 2, 2, 0) := ⟨_, rfl, by decide, tbm 168 (by decide +kernel), by decide +kernel⟩
theorem of34 : okF (12, 12, 12, 0, 2) := ⟨_, rfl, by decide, tbm 238 (by decide +kernel), by decide +kernel⟩
theorem of35 : okF (12, 16, 12, 1, 2) := ⟨_, rfl, by decide, tbm 239 (by decide +kernel), by decide +kernel⟩
theorem of36 : okF (12, 19, 12, 2, 2) := ⟨_, rfl, by decide, tbm 240 (by decide +kernel), by decide +kernel⟩
theorem of37 : okF (12, 22, 12, 3, 2) := ⟨_, rfl, by decide, tbm 241 (by decide +kernel), by decide +kernel⟩
theorem of38 : okF (12, 25, 12, 4, 2) := ⟨_, rfl, by decide, tbm 242 (by decide +kernel), by decide +kernel⟩
theorem of39 : okF (12, 28, 12, 5, 2) := ⟨_, rfl, by decide, tbm 243 (by decide +kernel), by decide +kernel⟩
theorem of40 : okF (12, 31, 12, 6, 2) := ⟨_, rfl, by decide, tbm 244 (by decide +kernel), by decide +kernel⟩
theorem of41 : okF (12, 34, 12, 7, 2) := ⟨_, rfl, by decide, tbm 245 (by decide +kernel), by decide +kernel⟩
theorem of42 : okF (12, 40, 12, 8, 2) := ⟨_, rfl, by decide, tbm 246 (by decide +kernel), by decide +kernel⟩
theorem of43 : okF (12, 47, 12, 9, 2) := ⟨_, rfl, by decide, tbm 247 (by decide +kernel), by decide +kernel⟩
theorem of44 : okF (12, 51, 12, 10, 2) := ⟨_, rfl, by decide, tbm 248 (by decide +kernel), by decide +kernel⟩
theorem of45 : okF (12, 54, 12, 11, 2) := ⟨_, rfl, by decide, tbm 249 (by decide +kernel), by decide +kernel⟩
theorem of46 : okF (12, 58, 12, 12, 0) := ⟨_, rfl, by decide, tbm 250 (by decide +kernel), by decide +kernel⟩
theorem of47 : okF (12, 62, 12, 13, 0) := ⟨_, rfl, by decide, tbm 251 (by decide +kernel), by decide +kernel⟩
theorem of48 : okF (12, 65, 12, 14, 0) := ⟨_, rfl, by decide, tbm 252 (by decide +kernel), by decide +kernel⟩
theorem of49 : okF (5, 64, 5, 0, 0) := ⟨_, rfl, by decide, tbm 301 (by decide +kernel), by decide +kernel⟩
theorem of50 : okF (12, 88, 5, 0, 0) := ⟨_, rfl, by decide, tbm 302 (by decide +kernel), by decide +kernel⟩
theorem of51 : okF (5, 67, 5, 1, 0) := ⟨_, rfl, by decide, tbm 303 (by decide +kernel), by decide +kernel⟩
theorem of52 : okF (3, 32, 5, 1, 0) := ⟨_, rfl, by decide, tbm 304 (by decide +kernel), by decide +kernel⟩
theorem of53 : okF (4, 128, 5, 1, 0) := ⟨_, rfl, by decide, tbm 305 (by decide +kernel), by decide +kernel⟩
theorem of54 : okF (12, 230, 5, 1, 0) := ⟨_, rfl, by decide, tbm 306 (by decide +kernel), by decide +kernel⟩
theorem of55 : okF (5, 70, 5, 2, 0) := ⟨_, rfl, by decide, tbm 307 (by decide +kernel), by decide +kernel⟩
theorem of56 : okF (4, 131, 5, 2, 0) := ⟨_, rfl, by decide, tbm 308 (by decide +kernel), by decide +kernel⟩
theorem of57 : okF (12, 421, 5, 2, 0) := ⟨_, rfl, by decide, tbm 309 (by decide +kernel), by decide +kernel⟩
theorem of58 : okF (5, 9, 5, 3, 0) := ⟨_, rfl, by decide, tbm 310 (by decide +kernel), by decide +kernel⟩
theorem of59 : okF (12, 227, 5, 3, 0) := ⟨_, rfl, by decide, tbm 311 (by decide +kernel), by decide +kernel⟩
theorem of60 : okF (5, 15, 5, 4, 0) := ⟨_, rfl, by decide, tbm 312 (by decide +kernel), by decide +kernel⟩
theorem of61 : okF (4, 105, 5, 4, 0) := ⟨_, rfl, by decide, tbm 313 (by decide +kernel), by decide +kernel⟩
theorem of62 : okF (12, 252, 5, 4, 0) := ⟨_, rfl, by decide, tbm 314 (by decide +kernel), by decide +kernel⟩
theorem of63 : okF (5, 18, 5, 5, 0) := ⟨_, rfl, by decide, tbm 315 (by decide +kernel), by decide +kernel⟩
theorem of64 : okF (4, 108, 5, 5, 0) := ⟨_, rfl, by decide, tbm 316 (by decide +kernel), by decide +kernel⟩
theorem of65 : okF (12, 249, 5, 5, 0) := ⟨_, rfl, by decide, tbm 317 (by decide +kernel), by decide +kernel⟩
theorem of66 : okF (5, 21, 5, 6, 0) := ⟨_, rfl, by decide, tbm 318 (by decide +kernel), by decide +kernel⟩
theorem of67 : okF (12, 246, 5, 6, 0) := ⟨_, rfl, by decide, tbm 319 (by decide +kernel), by decide +kernel⟩
theorem of68 : okF (5, 24, 5, 7, 0) := ⟨_, rfl, by decide, tbm 320 (by decide +kernel), by decide +kernel⟩
theorem of69 : okF (4, 111, 5, 7, 0) := ⟨_, rfl, by decide, tbm 321 (by decide +kernel), by decide +kernel⟩
theorem of70 : okF (12, 217, 5, 7, 0) := ⟨_, rfl, by decide, tbm 322 (by decide +kernel), by decide +kernel⟩
theorem of71 : okF (5, 27, 5, 8, 0) := ⟨_, rfl, by decide, tbm 323 (by decide +kernel), by decide +kernel⟩
theorem of72 : okF (12, 107, 5, 8, 0) := ⟨_, rfl, by decide, tbm 324 (by decide +kernel), by decide +kernel⟩
theorem of73 : okF (5, 30, 5, 9, 0) := ⟨_, rfl, by decide, tbm 325 (by decide +kernel), by decide +kernel⟩
theorem of74 : okF (12, 273, 5, 9, 0) := ⟨_, rfl, by decide, tbm 326 (by decide +kernel), by decide +kernel⟩
theorem of75 : okF (5, 33, 5, 10, 0) := ⟨_, rfl, by decide, tbm 327 (by decide +kernel), by decide +kernel⟩
theorem of76 : okF (4, 95, 5, 10, 0) := ⟨_, rfl, by decide, tbm 328 (by decide +kernel), by decide +kernel⟩
theorem of77 : okF (12, 220, 5, 10, 0) := ⟨_, rfl, by decide, tbm 329 (by decide +kernel), by decide +kernel⟩
theorem of78 : okF (5, 36, 5, 11, 0) := ⟨_, rfl, by decide, tbm 330 (by decide +kernel), by decide +kernel⟩
theorem of79 : okF (4, 102, 5, 11, 0) := ⟨_, rfl, by decide, tbm 331 (by decide +kernel), by decide +kernel⟩
theorem of80 : okF (12, 424, 5, 11, 0) := ⟨_, rfl, by decide, tbm 332 (by decide +kernel), by decide +kernel⟩
theorem of81 : okF (5, 39, 5, 12, 2) := ⟨_, rfl, by decide, tbm 333 (by decide +kernel), by decide +kernel⟩
theorem of82 : okF (4, 89, 5, 12, 2) := ⟨_, rfl, by decide, tbm 334 (by decide +kernel), by decide +kernel⟩
theorem of83 : okF (12, 242, 5, 12, 2) := ⟨_, rfl, by decide, tbm 335 (by decide +kernel), by decide +kernel⟩
theorem of84 : okF (5, 43, 5, 13, 0) := ⟨_, rfl, by decide, tbm 336 (by decide +kernel), by decide +kernel⟩
theorem of85 : okF (12, 184, 5, 13, 0) := ⟨_, rfl, by decide, tbm 337 (by decide +kernel), by decide +kernel⟩
theorem of86 : okF (5, 46, 5, 14, 0) := ⟨_, rfl, by decide, tbm 338 (by decide +kernel), by decide +kernel⟩
theorem of87 : okF (12, 289, 5, 14, 0) := ⟨_, rfl, by decide, tbm 339 (by decide +kernel), by decide +kernel⟩
theorem of88 : okF (5, 49, 5, 15, 0) := ⟨_, rfl, by decide, tbm 340 (by decide +kernel), by decide +kernel⟩
theorem of89 : okF (12, 292, 5, 15, 0) := ⟨_, rfl, by decide, tbm 341 (by decide +kernel), by decide +kernel⟩
theorem of90 : okF (5, 52, 5, 16, 0) := ⟨_, rfl, by decide, tbm 342 (by decide +kernel), by decide +kernel⟩
theorem of91 : okF (12, 286, 5, 16, 0) := ⟨_, rfl, by decide, tbm 343 (by decide +kernel), by decide +kernel⟩
theorem of92 : okF (5, 55, 5, 17, 2) := ⟨_, rfl, by decide, tbm 344 (by decide +kernel), by decide +kernel⟩
theorem of93 : okF (12, 295, 5, 17, 2) := ⟨_, rfl, by decide, tbm 345 (by decide +kernel), by decide +kernel⟩
theorem of94 : okF (5, 58, 5, 18, 0) := ⟨_, rfl, by decide, tbm 346 (by decide +kernel), by decide +kernel⟩
theorem of95 : okF (12, 201, 5, 18, 0) := ⟨_, rfl, by decide, tbm 347 (by decide +kernel), by decide +kernel⟩
theorem of96 : okF (5, 61, 5, 19, 0) := ⟨_, rfl, by decide, tbm 348 (by decide +kernel), by decide +kernel⟩
theorem of97 : okF (12, 321, 5, 19, 0) := ⟨_, rfl, by decide, tbm 349 (by decide +kernel), by decide +kernel⟩
theorem of98 : okF (3, 23, 3, 0, 0) := ⟨_, rfl, by decide, tbm 401 (by decide +kernel), by decide +kernel⟩
theorem of99 : okF (12, 94, 3, 0, 0) := ⟨_, rfl, by decide, tbm 402 (by decide +kernel), by decide +kernel⟩
theorem of100 : okF (3, 26, 3, 1, 0) := ⟨_, rfl, by decide, tbm 403 (by decide +kernel), by decide +kernel⟩
theorem of101 : okF (4, 120, 3, 1, 0) := ⟨_, rfl, by decide, tbm 404 (by decide +kernel), by decide +kernel⟩
theorem of102 : okF (12, 427, 3, 1, 0) := ⟨_, rfl, by decide, tbm 405 (by decide +kernel), by decide +kernel⟩
theorem of103 : okF (3, 29, 3, 2, 0) := ⟨_, rfl, by decide, tbm 406 (by decide +kernel), by decide +kernel⟩
theorem of104 : okF (4, 125, 3, 2, 0) := ⟨_, rfl, by decide, tbm 407 (by decide +kernel), by decide +kernel⟩
theorem of105 : okF (12, 430, 3, 2, 0) := ⟨_, rfl, by decide, tbm 408 (by decide +kernel), by decide +kernel⟩
theorem of106 : okF (3, 9, 3, 3, 0) := ⟨_, rfl, by decide, tbm 409 (by decide +kernel), by decide +kernel⟩
theorem of107 : okF (5, 73, 3, 3, 0) := ⟨_, rfl, by decide, tbm 410 (by decide +kernel), by decide +kernel⟩
theorem of108 : okF (12, 298, 3, 3, 0) := ⟨_, rfl, by decide, tbm 411 (by decide +kernel), by decide +kernel⟩
theorem of109 : okF (3, 15, 3, 4, 2) := ⟨_, rfl, by decide, tbm 412 (by decide +kernel), by decide +kernel⟩
theorem of110 : okF (5, 78, 3, 4, 2) := ⟨_, rfl, by decide, tbm 413 (by decide +kernel), by decide +kernel⟩
theorem of111 : okF (12, 418, 3, 4, 2) := ⟨_, rfl, by decide, tbm 414 (by decide +kernel), by decide +kernel⟩
theorem of112 : okF (3, 19, 3, 5, 2) := ⟨_, rfl, by decide, tbm 415 (by decide +kernel), by decide +kernel⟩
theorem of113 : okF (9, 24, 9, 0, 0) := ⟨_, rfl, by decide, tbm 499 (by decide +kernel), by decide +kernel⟩
theorem of114 : okF (12, 141, 9, 0, 0) := ⟨_, rfl, by decide, tbm 500 (by decide +kernel), by decide +kernel⟩
theorem of115 : okF (4, 167, 9, 0, 0) := ⟨_, rfl, by decide, tbm 501 (by decide +kernel), by decide +kernel⟩
theorem of116 : okF (9, 27, 9, 1, 0) := ⟨_, rfl, by decide, tbm 502 (by decide +kernel), by decide +kernel⟩
theorem of117 : okF (4, 75, 9, 1, 0) := ⟨_, rfl, by decide, tbm 503 (by decide +kernel), by decide +kernel⟩
theorem of118 : okF (9, 30, 9, 2, 0) := ⟨_, rfl, by decide, tbm 504 (by decide +kernel), by decide +kernel⟩
theorem of119 : okF (9, 10, 9, 3, 2) := ⟨_, rfl, by decide, tbm 505 (by decide +kernel), by decide +kernel⟩
theorem of120 : okF (4, 48, 9, 3, 2) := ⟨_, rfl, by decide, tbm 506 (by decide +kernel), by decide +kernel⟩
theorem of121 : okF (10, 164, 9, 3, 2) := ⟨_, rfl, by decide, tbm 507 (by decide +kernel), by decide +kernel⟩
theorem of122 : okF (9, 16, 9, 4, 2) := ⟨_, rfl, by decide, tbm 508 (by decide +kernel), by decide +kernel⟩
theorem of123 : okF (10, 75, 9, 4, 2) := ⟨_, rfl, by decide, tbm 509 (by decide +kernel), by decide +kernel⟩
theorem of124 : okF (4, 182, 9, 4, 2) := ⟨_, rfl, by decide, tbm 510 (by decide +kernel), by decide +kernel⟩
theorem of125 : okF (9, 20, 9, 5, 0) := ⟨_, rfl, by decide, tbm 511 (by decide +kernel), by decide +kernel⟩
theorem of126 : okF (7, 24, 7, 0, 0) := ⟨_, rfl, by decide, tbm 641 (by decide +kernel), by decide +kernel⟩
theorem of127 : okF (4, 170, 7, 0, 0) := ⟨_, rfl, by decide, tbm 642 (by decide +kernel), by decide +kernel⟩
theorem of128 : okF (7, 27, 7, 1, 0) := ⟨_, rfl, by decide, tbm 643 (by decide +kernel), by decide +kernel⟩
theorem of129 : okF (4, 61, 7, 1, 0) := ⟨_, rfl, by decide, tbm 644 (by decide +kernel), by decide +kernel⟩
theorem of130 : okF (10, 200, 7, 1, 0) := ⟨_, rfl, by decide, tbm 645 (by decide +kernel), by decide +kernel⟩
theorem of131 : okF (7, 30, 7, 2, 1) := ⟨_, rfl, by decide, tbm 646 (by decide +kernel), by decide +kernel⟩
theorem of132 : okF (4, 64, 7, 2, 1) := ⟨_, rfl, by decide, tbm 647 (by decide +kernel), by decide +kernel⟩
theorem of133 : okF (7, 9, 7, 3, 0) := ⟨_, rfl, by decide, tbm 648 (by decide +kernel), by decide +kernel⟩
theorem of134 : okF (4, 72, 7, 3, 0) := ⟨_, rfl, by decide, tbm 649 (by decide +kernel), by decide +kernel⟩
theorem of135 : okF (7, 15, 7, 4, 0) := ⟨_, rfl, by decide, tbm 650 (by decide +kernel), by decide +kernel⟩
theorem of136 : okF (4, 160, 7, 4, 0) := ⟨_, rfl, by decide, tbm 651 (by decide +kernel), by decide +kernel⟩
theorem of137 : okF (10, 197, 7, 4, 0) := ⟨_, rfl, by decide, tbm 652 (by decide +kernel), by decide +kernel⟩
theorem of138 : okF (7, 18, 7, 5, 0) := ⟨_, rfl, by decide, tbm 653 (by decide +kernel), by decide +kernel⟩
theorem of139 : okF (4, 150, 7, 5, 0) := ⟨_, rfl, by decide, tbm 654 (by decide +kernel), by decide +kernel⟩
theorem of140 : okF (10, 210, 7, 5, 0) := ⟨_, rfl, by decide, tbm 655 (by decide +kernel), by decide +kernel⟩
theorem of141 : okF (7, 21, 7, 6, 0) := ⟨_, rfl, by decide, tbm 656 (by decide +kernel), by decide +kernel⟩
theorem of142 : okF (4, 153, 7, 6, 0) := ⟨_, rfl, by decide, tbm 657 (by decide +kernel), by decide +kernel⟩
theorem of143 : okF (10, 191, 7, 6, 0) := ⟨_, rfl, by decide, tbm 658 (by decide +kernel), by decide +kernel⟩
theorem of144 : okF (8, 7, 8, 0, 2) := ⟨_, rfl, by decide, tbm 861 (by decide +kernel), by decide +kernel⟩
theorem of145 : okF (12, 207, 8, 0, 2) := ⟨_, rfl, by decide, tbm 862 (by decide +kernel), by decide +kernel⟩
theorem of146 : okF (8, 13, 8, 1, 0) := ⟨_, rfl, by decide, tbm 863 (by decide +kernel), by decide +kernel⟩
theorem of147 : okF (12, 204, 8, 1, 0) := ⟨_, rfl, by decide, tbm 864 (by decide +kernel), by decide +kernel⟩
theorem of148 : okF (8, 17, 8, 2, 0) := ⟨_, rfl, by decide, tbm 865 (by decide +kernel), by decide +kernel⟩
theorem of149 : okF (12, 211, 8, 2, 0) := ⟨_, rfl, by decide, tbm 866 (by decide +kernel), by decide +kernel⟩
theorem of150 : okF (11, 9, 11, 0, 0) := ⟨_, rfl, by decide, tbm 900 (by decide +kernel), by decide +kernel⟩
theorem of151 : okF (12, 255, 11, 0, 0) := ⟨_, rfl, by decide, tbm 901 (by decide +kernel), by decide +kernel⟩
theorem of152 : okF (11, 15, 11, 1, 2) := ⟨_, rfl, by decide, tbm 902 (by decide +kernel), by decide +kernel⟩
theorem of153 : okF (6, 13, 6, 0, 2) := ⟨_, rfl, by decide, tbm 1012 (by decide +kernel), by decide +kernel⟩
theorem of154 : okF (12, 331, 6, 0, 2) := ⟨_, rfl, by decide, tbm 1013 (by decide +kernel), by decide +kernel⟩
theorem of155 : okF (6, 17, 6, 1, 0) := ⟨_, rfl, by decide, tbm 1014 (by decide +kernel), by decide +kernel⟩
theorem of156 : okF (12, 335, 6, 1, 0) := ⟨_, rfl, by decide, tbm 1015 (by decide +kernel), by decide +kernel⟩
theorem of157 : okF (6, 21, 6, 2, 0) := ⟨_, rfl, by decide, tbm 1016 (by decide +kernel), by decide +kernel⟩
theorem of158 : okF (12, 332, 6, 2, 0) := ⟨_, rfl, by decide, tbm 1017 (by decide +kernel), by decide +kernel⟩
theorem of159 : okF (6, 7, 6, 3, 3) := ⟨_, rfl, by decide, tbm 1018 (by decide +kernel), by decide +kernel⟩
theorem of160 : okF (12, 327, 6, 3, 3) := ⟨_, rfl, by decide, tbm 1019 (by decide +kernel), by decide +kernel⟩
theorem of161 : okF (1, 13, 1, 0, 0) := ⟨_, rfl, by decide, tbm 1047 (by decide +kernel), by decide +kernel⟩
theorem of162 : okF (12, 352, 1, 0, 0) := ⟨_, rfl, by decide, tbm 1048 (by decide +kernel), by decide +kernel⟩
theorem of163 : okF (1, 17, 1, 1, 0) := ⟨_, rfl, by decide, tbm 1049 (by decide +kernel), by decide +kernel⟩
theorem of164 : okF (12, 354, 1, 1, 0) := ⟨_, rfl, by decide, tbm 1050 (by decide +kernel), by decide +kernel⟩
theorem of165 : okF (1, 20, 1, 2, 0) := ⟨_, rfl, by decide, tbm 1051 (by decide +kernel), by decide +kernel⟩
theorem of166 : okF (12, 344, 1, 2, 0) := ⟨_, rfl, by decide, tbm 1052 (by decide +kernel), by decide +kernel⟩
theorem of167 : okF (1, 7, 1, 3, 3) := ⟨_, rfl, by decide, tbm 1053 (by decide +kernel), by decide +kernel⟩
theorem of168 : okF (12, 341, 1, 3, 3) := ⟨_, rfl, by decide, tbm 1054 (by decide +kernel), by decide +kernel⟩
theorem of169 : okF (13, 201, 13, 0, 0) := ⟨_, rfl, by decide, tbm 1270 (by decide +kernel), by decide +kernel⟩
theorem of170 : okF (13, 218, 13, 1, 0) := ⟨_, rfl, by decide, tbm 1271 (by decide +kernel), by decide +kernel⟩
theorem of171 : okF (13, 208, 13, 2, 0) := ⟨_, rfl, by decide, tbm 1272 (by decide +kernel), by decide +kernel⟩
theorem of172 : okF (13, 7, 13, 3, 2) := ⟨_, rfl, by decide, tbm 1273 (by decide +kernel), by decide +kernel⟩
theorem of173 : okF (13, 13, 13, 4, 2) := ⟨_, rfl, by decide, tbm 1274 (by decide +kernel), by decide +kernel⟩
theorem of174 : okF (13, 16, 13, 5, 2) := ⟨_, rfl, by decide, tbm 1275 (by decide +kernel), by decide +kernel⟩
theorem of175 : okF (13, 19, 13, 6, 2) := ⟨_, rfl, by decide, tbm 1276 (by decide +kernel), by decide +kernel⟩
theorem of176 : okF (13, 22, 13, 7, 2) := ⟨_, rfl, by decide, tbm 1277 (by decide +kernel), by decide +kernel⟩
theorem of177 : okF (13, 25, 13, 8, 2) := ⟨_, rfl, by decide, tbm 1278 (by decide +kernel), by decide +kernel⟩
theorem of178 : okF (13, 28, 13, 9, 2) := ⟨_, rfl, by decide, tbm 1279 (by decide +kernel), by decide +kernel⟩
theorem of179 : okF (13, 31, 13, 10, 2) := ⟨_, rfl, by decide, tbm 1280 (by decide +kernel), by decide +kernel⟩
theorem of180 : okF (13, 34, 13, 11, 2) := ⟨_, rfl, by decide, tbm 1281 (by decide +kernel), by decide +kernel⟩
theorem of181 : okF (13, 37, 13, 12, 2) := ⟨_, rfl, by decide, tbm 1282 (by decide +kernel), by decide +kernel⟩
theorem of182 : okF (13, 40, 13, 13, 2) := ⟨_, rfl, by decide, tbm 1283 (by decide +kernel), by decide +kernel⟩
theorem of183 : okF (13, 43, 13, 14, 2) := ⟨_, rfl, by decide, tbm 1284 (by decide +kernel), by decide +kernel⟩
theorem of184 : okF (13, 46, 13, 15, 2) := ⟨_, rfl, by decide, tbm 1285 (by decide +kernel), by decide +kernel⟩
theorem of185 : okF (13, 49, 13, 16, 2) := ⟨_, rfl, by decide, tbm 1286 (by decide +kernel), by decide +kernel⟩
theorem of186 : okF (13, 52, 13, 17, 2) := ⟨_, rfl, by decide, tbm 1287 (by decide +kernel), by decide +kernel⟩
theorem of187 : okF (13, 55, 13, 18, 2) := ⟨_, rfl, by decide, tbm 1288 (by decide +kernel), by decide +kernel⟩
theorem of188 : okF (13, 58, 13, 19, 2) := ⟨_, rfl, by decide, tbm 1289 (by decide +kernel), by decide +kernel⟩
theorem of189 : okF (13, 211, 13, 20, 0) := ⟨_, rfl, by decide, tbm 1290 (by decide +kernel), by decide +kernel⟩
theorem of190 : okF (13, 61, 13, 21, 2) := ⟨_, rfl, by decide, tbm 1291 (by decide +kernel), by decide +kernel⟩
theorem of191 : okF (13, 64, 13, 22, 2) := ⟨_, rfl, by decide, tbm 1292 (by decide +kernel), by decide +kernel⟩
theorem of192 : okF (13, 67, 13, 23, 2) := ⟨_, rfl, by decide, tbm 1293 (by decide +kernel), by decide +kernel⟩
theorem of193 : okF (13, 70, 13, 24, 2) := ⟨_, rfl, by decide, tbm 1294 (by decide +kernel), by decide +kernel⟩
theorem of194 : okF (13, 73, 13, 25, 0) := ⟨_, rfl, by decide, tbm 1295 (by decide +kernel), by decide +kernel⟩
theorem of195 : okF (13, 454, 13, 26, 0) := ⟨_, rfl, by decide, tbm 1296 (by decide +kernel), by decide +kernel⟩
theorem of196 : okF (13, 305, 13, 27, 0) := ⟨_, rfl, by decide, tbm 1297 (by decide +kernel), by decide +kernel⟩
theorem of197 : okF (13, 77, 13, 28, 2) := ⟨_, rfl, by decide, tbm 1298 (by decide +kernel), by decide +kernel⟩
theorem of198 : okF (13, 80, 13, 29, 2) := ⟨_, rfl, by decide, tbm 1299 (by decide +kernel), by decide +kernel⟩
theorem of199 : okF (13, 83, 13, 30, 2) := ⟨_, rfl, by decide, tbm 1300 (by decide +kernel), by decide +kernel⟩
theorem of200 : okF (13, 86, 13, 31, 2) := ⟨_, rfl, by decide, tbm 1301 (by decide +kernel), by decide +kernel⟩
theorem of201 : okF (13, 89, 13, 32, 2) := ⟨_, rfl, by decide, tbm 1302 (by decide +kernel), by decide +kernel⟩
theorem of202 : okF (13, 92, 13, 33, 2) := ⟨_, rfl, by decide, tbm 1303 (by decide +kernel), by decide +kernel⟩
theorem of203 : okF (13, 95, 13, 34, 2) := ⟨_, rfl, by decide, tbm 1304 (by decide +kernel), by decide +kernel⟩
theorem of204 : okF (13, 99, 13, 35, 2) := ⟨_, rfl, by decide, tbm 1305 (by decide +kernel), by decide +kernel⟩
theorem of205 : okF (13, 102, 13, 36, 2) := ⟨_, rfl, by decide, tbm 1306 (by decide +kernel), by decide +kernel⟩
theorem of206 : okF (13, 105, 13, 37, 2) := ⟨_, rfl, by decide, tbm 1307 (by decide +kernel), by decide +kernel⟩
theorem of207 : okF (13, 108, 13, 38, 2) := ⟨_, rfl, by decide, tbm 1308 (by decide +kernel), by decide +kernel⟩
theorem of208 : okF (13, 111, 13, 39, 2) := ⟨_, rfl, by decide, tbm 1309 (by decide +kernel), by decide +kernel⟩
theorem of209 : okF (13, 114, 13, 40, 2) := ⟨_, rfl, by decide, tbm 1310 (by decide +kernel), by decide +kernel⟩
theorem of210 : okF (13, 308, 13, 41, 0) := ⟨_, rfl, by decide, tbm 1311 (by decide +kernel), by decide +kernel⟩
theorem of211 : okF (13, 380, 13, 42, 0) := ⟨_, rfl, by decide, tbm 1312 (by decide +kernel), by decide +kernel⟩
theorem of212 : okF (13, 117, 13, 43, 2) := ⟨_, rfl, by decide, tbm 1313 (by decide +kernel), by decide +kernel⟩
theorem of213 : okF (13, 120, 13, 44, 2) := ⟨_, rfl, by decide, tbm 1314 (by decide +kernel), by decide +kernel⟩
theorem of214 : okF (13, 221, 13, 45, 0) := ⟨_, rfl, by decide, tbm 1315 (by decide +kernel), by decide +kernel⟩
theorem of215 : okF (13, 124, 13, 46, 0) := ⟨_, rfl, by decide, tbm 1316 (by decide +kernel), by decide +kernel⟩
theorem of216 : okF (13, 254, 13, 47, 0) := ⟨_, rfl, by decide, tbm 1317 (by decide +kernel), by decide +kernel⟩
theorem of217 : okF (13, 227, 13, 48, 0) := ⟨_, rfl, by decide, tbm 1318 (by decide +kernel), by decide +kernel⟩
theorem of218 : okF (13, 224, 13, 49, 0) := ⟨_, rfl, by decide, tbm 1319 (by decide +kernel), by decide +kernel⟩
theorem of219 : okF (13, 234, 13, 50, 0) := ⟨_, rfl, by decide, tbm 1320 (by decide +kernel), by decide +kernel⟩
theorem of220 : okF (13, 237, 13, 51, 1) := ⟨_, rfl, by decide, tbm 1321 (by decide +kernel), by decide +kernel⟩
theorem of221 : okF (13, 311, 13, 52, 0) := ⟨_, rfl, by decide, tbm 1322 (by decide +kernel), by decide +kernel⟩
theorem of222 : okF (13, 241, 13, 53, 0) := ⟨_, rfl, by decide, tbm 1323 (by decide +kernel), by decide +kernel⟩
theorem of223 : okF (13, 127, 13, 54, 2) := ⟨_, rfl, by decide, tbm 1324 (by decide +kernel), by decide +kernel⟩
theorem of224 : okF (13, 130, 13, 55, 2) := ⟨_, rfl, by decide, tbm 1325 (by decide +kernel), by decide +kernel⟩
theorem of225 : okF (13, 133, 13, 56, 2) := ⟨_, rfl, by decide, tbm 1326 (by decide +kernel), by decide +kernel⟩
theorem of226 : okF (13, 400, 13, 57, 0) := ⟨_, rfl, by decide, tbm 1327 (by decide +kernel), by decide +kernel⟩
theorem of227 : okF (13, 435, 13, 58, 0) := ⟨_, rfl, by decide, tbm 1328 (by decide +kernel), by decide +kernel⟩
theorem of228 : okF (13, 136, 13, 59, 2) := ⟨_, rfl, by decide, tbm 1329 (by decide +kernel), by decide +kernel⟩
theorem of229 : okF (13, 139, 13, 60, 2) := ⟨_, rfl, by decide, tbm 1330 (by decide +kernel), by decide +kernel⟩
theorem of230 : okF (13, 142, 13, 61, 2) := ⟨_, rfl, by decide, tbm 1331 (by decide +kernel), by decide +kernel⟩
theorem of231 : okF (13, 146, 13, 62, 2) := ⟨_, rfl, by decide, tbm 1332 (by decide +kernel), by decide +kernel⟩
theorem of232 : okF (13, 441, 13, 63, 0) := ⟨_, rfl, by decide, tbm 1333 (by decide +kernel), by decide +kernel⟩
theorem of233 : okF (13, 438, 13, 64, 0) := ⟨_, rfl, by decide, tbm 1334 (by decide +kernel), by decide +kernel⟩
theorem of234 : okF (13, 149, 13, 65, 2) := ⟨_, rfl, by decide, tbm 1335 (by decide +kernel), by decide +kernel⟩
theorem of235 : okF (13, 152, 13, 66, 2) := ⟨_, rfl, by decide, tbm 1336 (by decide +kernel), by decide +kernel⟩
theorem of236 : okF (13, 155, 13, 67, 2) := ⟨_, rfl, by decide, tbm 1337 (by decide +kernel), by decide +kernel⟩
theorem of237 : okF (13, 463, 13, 68, 0) := ⟨_, rfl, by decide, tbm 1338 (by decide +kernel), by decide +kernel⟩
theorem of238 : okF (13, 158, 13, 69, 2) := ⟨_, rfl, by decide, tbm 1339 (by decide +kernel), by decide +kernel⟩
theorem of239 : okF (13, 161, 13, 70, 2) := ⟨_, rfl, by decide, tbm 1340 (by decide +kernel), by decide +kernel⟩
theorem of240 : okF (13, 478, 13, 71, 0) := ⟨_, rfl, by decide, tbm 1341 (by decide +kernel), by decide +kernel⟩
theorem of241 : okF (13, 164, 13, 72, 2) := ⟨_, rfl, by decide, tbm 1342 (by decide +kernel), by decide +kernel⟩
theorem of242 : okF (13, 167, 13, 73, 2) := ⟨_, rfl, by decide, tbm 1343 (by decide +kernel), by decide +kernel⟩
theorem of243 : okF (13, 170, 13, 74, 2) := ⟨_, rfl, by decide, tbm 1344 (by decide +kernel), by decide +kernel⟩
theorem of244 : okF (13, 173, 13, 75, 2) := ⟨_, rfl, by decide, tbm 1345 (by decide +kernel), by decide +kernel⟩
theorem of245 : okF (13, 481, 13, 76, 0) := ⟨_, rfl, by decide, tbm 1346 (by decide +kernel), by decide +kernel⟩
theorem of246 : okF (13, 177, 13, 77, 2) := ⟨_, rfl, by decide, tbm 1347 (by decide +kernel), by decide +kernel⟩
theorem of247 : okF (13, 180, 13, 78, 2) := ⟨_, rfl, by decide, tbm 1348 (by decide +kernel), by decide +kernel⟩
theorem of248 : okF (13, 183, 13, 79, 2) := ⟨_, rfl, by decide, tbm 1349 (by decide +kernel), by decide +kernel⟩
theorem of249 : okF (13, 186, 13, 80, 2) := ⟨_, rfl, by decide, tbm 1350 (by decide +kernel), by decide +kernel⟩
theorem of250 : okF (13, 189, 13, 81, 2) := ⟨_, rfl, by decide, tbm 1351 (by decide +kernel), by decide +kernel⟩
theorem of251 : okF (13, 192, 13, 82, 2) := ⟨_, rfl, by decide, tbm 1352 (by decide +kernel), by decide +kernel⟩
theorem of252 : okF (13, 195, 13, 83, 2) := ⟨_, rfl, by decide, tbm 1353 (by decide +kernel), by decide +kernel⟩
theorem of253 : okF (13, 198, 13, 84, 2) := ⟨_, rfl, by decide, tbm 1354 (by decide +kernel), by decide +kernel⟩
theorem of254 : okF (13, 503, 13, 85, 0) := ⟨_, rfl, by decide, tbm 1355 (by decide +kernel), by decide +kernel⟩
set_option maxRecDepth 100000 in
theorem okFs : ∀ e ∈ fldL, okF e := List.forall_mem_cons.mpr ⟨of0, List.forall_mem_cons.mpr ⟨of1, List.forall_mem_cons.mpr ⟨of2, List.forall_mem_cons.mpr ⟨of3, List.forall_mem_cons.mpr ⟨of4, List.forall_mem_cons.mpr ⟨of5, List.forall_mem_cons.mpr ⟨of6, List.forall_mem_cons.mpr ⟨of7, List.forall_mem_cons.mpr ⟨of8, List.forall_mem_cons.mpr ⟨of9, List.forall_mem_cons.mpr ⟨of10, List.forall_mem_cons.mpr ⟨of11, List.forall_mem_cons.mpr ⟨of12, List.forall_mem_cons.mpr ⟨of13, List.forall_mem_cons.mpr ⟨of14, List.forall_mem_cons.mpr ⟨of15, List.forall_mem_cons.mpr ⟨of16, List.forall_mem_cons.mpr ⟨of17, List.forall_mem_cons.mpr ⟨of18, List.forall_mem_cons.mpr ⟨of19, List.forall_mem_cons.mpr ⟨of20, List.forall_mem_cons.mpr ⟨of21, List.forall_mem_cons.mpr ⟨of22, List.forall_mem_cons.mpr ⟨of23, List.forall_mem_cons.mpr ⟨of24, List.forall_mem_cons.mpr ⟨of25, List.forall_mem_cons.mpr ⟨of26, List.forall_mem_cons.mpr ⟨of27, List.forall_mem_cons.mpr ⟨of28, List.forall_mem_cons.mpr ⟨of29, List.forall_mem_cons.mpr ⟨of30, List.forall_mem_cons.mpr ⟨of31, List.forall_mem_cons.mpr ⟨of32, List.forall_mem_cons.mpr ⟨of33, List.forall_mem_cons.mpr ⟨of34, List.forall_mem_cons.mpr ⟨of35, List.forall_mem_cons.mpr ⟨of36, List.forall_mem_cons.mpr ⟨of37, List.forall_mem_cons.mpr ⟨of38, List.forall_mem_cons.mpr ⟨of39, List.forall_mem_cons.mpr ⟨of40, List.forall_mem_cons.mpr ⟨of41, List.forall_mem_cons.mpr ⟨of42, List.forall_mem_cons.mpr ⟨of43, List.forall_mem_cons.mpr ⟨of44, List.forall_mem_cons.mpr ⟨of45, List.forall_mem_cons.mpr ⟨of46, List.forall_mem_cons.mpr ⟨of47, List.forall_mem_cons.mpr ⟨of48, List.forall_mem_cons.mpr ⟨of49, List.forall_mem_cons.mpr ⟨of50, List.forall_mem_cons.mpr ⟨of51, List.forall_mem_cons.mpr ⟨of52, List.forall_mem_cons.mpr ⟨of53, List.forall_mem_cons.mpr ⟨of54, List.forall_mem_cons.mpr ⟨of55, List.forall_mem_cons.mpr ⟨of56, List.forall_mem_cons.mpr ⟨of57, List.forall_mem_cons.mpr ⟨of58, List.forall_mem_cons.mpr ⟨of59, List.forall_mem_cons.mpr ⟨of60, List.forall_mem_cons.mpr ⟨of61, List.forall_mem_cons.mpr ⟨of62, List.forall_mem_cons.mpr ⟨of63, List.forall_mem_cons.mpr ⟨of64, List.forall_mem_cons.mpr ⟨of65, List.forall_mem_cons.mpr ⟨of66, List.forall_mem_cons.mpr ⟨of67, List.forall_mem_cons.mpr ⟨of68, List.forall_mem_cons.mpr ⟨of69, List.forall_mem_cons.mpr ⟨of70, List.forall_mem_cons.mpr ⟨of71, List.forall_mem_cons.mpr ⟨of72, List.forall_mem_cons.mpr ⟨of73, List.forall_mem_cons.mpr ⟨of74, List.forall_mem_cons.mpr ⟨of75, List.forall_mem_cons.mpr ⟨of76, List.forall_mem_cons.mpr ⟨of77, List.forall_mem_cons.mpr ⟨of78, List.forall_mem_cons.mpr ⟨of79, List.forall_mem_cons.mpr ⟨of80, List.forall_mem_cons.mpr ⟨of81, List.forall_mem_cons.mpr ⟨of82, List.forall_mem_cons.mpr ⟨of83, List.forall_mem_cons.mpr ⟨of84, List.forall_mem_cons.mpr ⟨of85, List.forall_mem_cons.mpr ⟨of86, List.forall_mem_cons.mpr ⟨of87, List.forall_mem_cons.mpr ⟨of88, List.forall_mem_cons.mpr ⟨of89, List.forall_mem_cons.mpr ⟨of90, List.forall_mem_cons.mpr ⟨of91, List.forall_mem_cons.mpr ⟨of92, List.forall_mem_cons.mpr ⟨of93, List.forall_mem_cons.mpr ⟨of94, List.forall_mem_cons.mpr ⟨of95, List.forall_mem_cons.mpr ⟨of96, List.forall_mem_cons.mpr ⟨of97, List.forall_mem_cons.mpr ⟨of98, List.forall_mem_cons.mpr ⟨of99, List.forall_mem_cons.mpr ⟨of100, List.forall_mem_cons.mpr ⟨of101, List.forall_mem_cons.mpr ⟨of102, List.forall_mem_cons.mpr ⟨of103, List.forall_mem_cons.mpr ⟨of104, List.forall_mem_cons.mpr ⟨of105, List.forall_mem_cons.mpr ⟨of106, List.forall_mem_cons.mpr ⟨of107, List.forall_mem_cons.mpr ⟨of108, List.forall_mem_cons.mpr ⟨of109, List.forall_mem_cons.mpr ⟨of110, List.forall_mem_cons.mpr ⟨of111, List.forall_mem_cons.mpr ⟨of112, List.forall_mem_cons.mpr ⟨of113, List.forall_mem_cons.mpr ⟨of114, List.forall_mem_cons.mpr ⟨of115, List.forall_mem_cons.mpr ⟨of116, List.forall_mem_cons.mpr ⟨of117, List.forall_mem_cons.mpr ⟨of118, List.forall_mem_cons.mpr ⟨of119, List.forall_mem_cons.mpr ⟨of120, List.forall_mem_cons.mpr ⟨of121, List.forall_mem_cons.mpr ⟨of122, List.forall_mem_cons.mpr ⟨of123, List.forall_mem_cons.mpr ⟨of124, List.forall_mem_cons.mpr ⟨of125, List.forall_mem_cons.mpr ⟨of126, List.forall_mem_cons.mpr ⟨of127, List.forall_mem_cons.mpr ⟨of128, List.forall_mem_cons.mpr ⟨of129, List.forall_mem_cons.mpr ⟨of130, List.forall_mem_cons.mpr ⟨of131, List.forall_mem_cons.mpr ⟨of132, List.forall_mem_cons.mpr ⟨of133, List.forall_mem_cons.mpr ⟨of134, List.forall_mem_cons.mpr ⟨of135, List.forall_mem_cons.mpr ⟨of136, List.forall_mem_cons.mpr ⟨of137, List.forall_mem_cons.mpr ⟨of138, List.forall_mem_cons.mpr ⟨of139, List.forall_mem_cons.mpr ⟨of140, List.forall_mem_cons.mpr ⟨of141, List.forall_mem_cons.mpr ⟨of142, List.forall_mem_cons.mpr ⟨of143, List.forall_mem_cons.mpr ⟨of144, List.forall_mem_cons.mpr ⟨of145, List.forall_mem_cons.mpr ⟨of146, List.forall_mem_cons.mpr ⟨of147, List.forall_mem_cons.mpr ⟨of148, List.forall_mem_cons.mpr ⟨of149, List.forall_mem_cons.mpr ⟨of150, List.forall_mem_cons.mpr ⟨of151, List.forall_mem_cons.mpr ⟨of152, List.forall_mem_cons.mpr ⟨of153, List.forall_mem_cons.mpr ⟨of154, List.forall_mem_cons.mpr ⟨of155, List.forall_mem_cons.mpr ⟨of156, List.forall_mem_cons.mpr ⟨of157, List.forall_mem_cons.mpr ⟨of158, List.forall_mem_cons.mpr ⟨of159, List.forall_mem_cons.mpr ⟨of160, List.forall_mem_cons.mpr ⟨of161, List.forall_mem_cons.mpr ⟨of162, List.forall_mem_cons.mpr ⟨of163, List.forall_mem_cons.mpr ⟨of164, List.forall_mem_cons.mpr ⟨of165, List.forall_mem_cons.mpr ⟨of166, List.forall_mem_cons.mpr ⟨of167, List.forall_mem_cons.mpr ⟨of168, List.forall_mem_cons.mpr ⟨of169, List.forall_mem_cons.mpr ⟨of170, List.forall_mem_cons.mpr ⟨of171, List.forall_mem_cons.mpr ⟨of172, List.forall_mem_cons.mpr ⟨of173, List.forall_mem_cons.mpr ⟨of174, List.forall_mem_cons.mpr ⟨of175, List.forall_mem_cons.mpr ⟨of176, List.forall_mem_cons.mpr ⟨of177, List.forall_mem_cons.mpr ⟨of178, List.forall_mem_cons.mpr ⟨of179, List.forall_mem_cons.mpr ⟨of180, List.forall_mem_cons.mpr ⟨of181, List.forall_mem_cons.mpr ⟨of182, List.forall_mem_cons.mpr ⟨of183, List.forall_mem_cons.mpr ⟨of184, List.forall_mem_cons.mpr ⟨of185, List.forall_mem_cons.mpr ⟨of186, List.forall_mem_cons.mpr ⟨of187, List.forall_mem_cons.mpr ⟨of188, List.forall_mem_cons.mpr ⟨of189, List.forall_mem_cons.mpr ⟨of190, List.forall_mem_cons.mpr ⟨of191, List.forall_mem_cons.mpr ⟨of192, List.forall_mem_cons.mpr ⟨of193, List.forall_mem_cons.mpr ⟨of194, List.forall_mem_cons.mpr ⟨of195, List.forall_mem_cons.mpr ⟨of196, List.forall_mem_cons.mpr ⟨of197, List.forall_mem_cons.mpr ⟨of198, List.forall_mem_cons.mpr ⟨of199, List.forall_mem_cons.mpr ⟨of200, List.forall_mem_cons.mpr ⟨of201, List.forall_mem_cons.mpr ⟨of202, List.forall_mem_cons.mpr ⟨of203, List.forall_mem_cons.mpr ⟨of204, List.forall_mem_cons.mpr ⟨of205, List.forall_mem_cons.mpr ⟨of206, List.forall_mem_cons.mpr ⟨of207, List.forall_mem_cons.mpr ⟨of208, List.forall_mem_cons.mpr ⟨of209, List.forall_mem_cons.mpr ⟨of210, List.forall_mem_cons.mpr ⟨of211, List.forall_mem_cons.mpr ⟨of212, List.forall_mem_cons.mpr ⟨of213, List.forall_mem_cons.mpr ⟨of214, List.forall_mem_cons.mpr ⟨of215, List.forall_mem_cons.mpr ⟨of216, List.forall_mem_cons.mpr ⟨of217, List.forall_mem_cons.mpr ⟨of218, List.forall_mem_cons.mpr ⟨of219, List.forall_mem_cons.mpr ⟨of220, List.forall_mem_cons.mpr ⟨of221, List.forall_mem_cons.mpr ⟨of222, List.forall_mem_cons.mpr ⟨of223, List.forall_mem_cons.mpr ⟨of224, List.forall_mem_cons.mpr ⟨of225, List.forall_mem_cons.mpr ⟨of226, List.forall_mem_cons.mpr ⟨of227, List.forall_mem_cons.mpr ⟨of228, List.forall_mem_cons.mpr ⟨of229, List.forall_mem_cons.mpr ⟨of230, List.forall_mem_cons.mpr ⟨of231, List.forall_mem_cons.mpr ⟨of232, List.forall_mem_cons.mpr ⟨of233, List.forall_mem_cons.mpr ⟨of234, List.forall_mem_cons.mpr ⟨of235, List.forall_mem_cons.mpr ⟨of236, List.forall_mem_cons.mpr ⟨of237, List.forall_mem_cons.mpr ⟨of238, List.forall_mem_cons.mpr ⟨of239, List.forall_mem_cons.mpr ⟨of240, List.forall_mem_cons.mpr ⟨of241, List.forall_mem_cons.mpr ⟨of242, List.forall_mem_cons.mpr ⟨of243, List.forall_mem_cons.mpr ⟨of244, List.forall_mem_cons.mpr ⟨of245, List.forall_mem_cons.mpr ⟨of246, List.forall_mem_cons.mpr ⟨of247, List.forall_mem_cons.mpr ⟨of248, List.forall_mem_cons.mpr ⟨of249, List.forall_mem_cons.mpr ⟨of250, List.forall_mem_cons.mpr ⟨of251, List.forall_mem_cons.mpr ⟨of252, List.forall_mem_cons.mpr ⟨of253, List.forall_mem_cons.mpr ⟨of254, fun _ h => absurd h List.not_mem_nil⟩⟩⟩⟩⟩⟩⟩⟩⟩⟩⟩⟩⟩⟩⟩⟩⟩⟩⟩⟩⟩⟩⟩⟩⟩⟩⟩⟩⟩⟩⟩⟩⟩⟩⟩⟩⟩⟩⟩⟩⟩⟩⟩⟩⟩⟩⟩⟩⟩⟩⟩⟩⟩⟩⟩⟩⟩⟩⟩⟩⟩⟩⟩⟩⟩⟩⟩⟩⟩⟩⟩⟩⟩⟩⟩⟩⟩⟩⟩⟩⟩⟩⟩⟩⟩⟩⟩⟩⟩⟩⟩⟩⟩⟩⟩⟩⟩⟩⟩⟩⟩⟩⟩⟩⟩⟩⟩⟩⟩⟩⟩⟩⟩⟩⟩⟩⟩⟩⟩⟩⟩⟩⟩⟩⟩⟩⟩⟩⟩⟩⟩⟩⟩⟩⟩⟩⟩⟩⟩⟩⟩⟩⟩⟩⟩⟩⟩⟩⟩⟩⟩⟩⟩⟩⟩⟩⟩⟩⟩⟩⟩⟩⟩⟩⟩⟩⟩⟩⟩⟩⟩⟩⟩⟩⟩⟩⟩⟩⟩⟩⟩⟩⟩⟩⟩⟩⟩⟩⟩⟩⟩⟩⟩⟩⟩⟩⟩⟩⟩⟩⟩⟩⟩⟩⟩⟩⟩⟩⟩⟩⟩⟩⟩⟩⟩⟩⟩⟩⟩⟩⟩⟩⟩⟩⟩⟩⟩⟩⟩⟩⟩⟩⟩⟩⟩⟩⟩⟩⟩⟩⟩⟩⟩⟩⟩⟩⟩⟩⟩⟩⟩⟩⟩⟩⟩
theorem ok_fld {c k ci f t : Nat} (h : fld c k = some (ci, f, t)) : okF (c, k, ci, f, t) := okFs _ (lk_s (L := fldL) h)
def okI (e : Nat × Nat × Int32) : Prop := Cond.constant (cN e.1) e.2.1 e.2.2 ∈ tb
set_option maxRecDepth 100000 in
theorem okIs : ∀ e ∈ cIL, okI e := List.forall_mem_cons.mpr ⟨tbm 820 (by decide +kernel), List.forall_mem_cons.mpr ⟨tbm 1084 (by decide +kernel), List.forall_mem_cons.mpr ⟨tbm 1119 (by decide +kernel), List.forall_mem_cons.mpr ⟨tbm 1269 (by decide +kernel), List.forall_mem_cons.mpr ⟨tbm 1749 (by decide +kernel), List.forall_mem_cons.mpr ⟨tbm 1904 (by decide +kernel), fun _ h => absurd h List.not_mem_nil⟩⟩⟩⟩⟩⟩
theorem ok_int {c k : Nat} {v : Int32} (h : cInt c k = some v) : Cond.constant (cN c) k v ∈ tb := okIs _ (lk_s (L := cIL) h)
def okL (e : Nat × Nat × Int64) : Prop := Cond.constantLong (cN e.1) e.2.1 e.2.2 ∈ tb
set_option maxRecDepth 100000 in
theorem okLs : ∀ e ∈ cLL, okL e := List.forall_mem_cons.mpr ⟨tbm 814 (by decide +kernel), List.forall_mem_cons.mpr ⟨tbm 815 (by decide +kernel), List.forall_mem_cons.mpr ⟨tbm 819 (by decide +kernel), List.forall_mem_cons.mpr ⟨tbm 1101 (by decide +kernel), List.forall_mem_cons.mpr ⟨tbm 1737 (by decide +kernel), List.forall_mem_cons.mpr ⟨tbm 1738 (by decide +kernel), List.forall_mem_cons.mpr ⟨tbm 1886 (by decide +kernel), List.forall_mem_cons.mpr ⟨tbm 1895 (by decide +kernel), fun _ h => absurd h List.not_mem_nil⟩⟩⟩⟩⟩⟩⟩⟩
theorem ok_long {c k : Nat} {v : Int64} (h : cLong c k = some v) : Cond.constantLong (cN c) k v ∈ tb := okLs _ (lk_s (L := cLL) h)
def okCl (e : Nat × Nat × Nat) : Prop := (e.2.2 = 98 ∧ Cond.classLink (cN e.1) e.2.1 "java/util/NoSuchElementException" ∈ tb) ∨ ∃ q : vw_C, vwCl[e.2.2]? = some q ∧ Cond.classLink (cN e.1) e.2.1 q.1 ∈ tb ∧ Cond.instantiable q.1 q.2.2 ∈ tb ∧ Cond.initialized q.1 ∈ tb
set_option maxRecDepth 100000 in
theorem okCls : ∀ e ∈ clsL, okCl e := List.forall_mem_cons.mpr ⟨Or.inr ⟨_, rfl, tbm 31 (by decide +kernel), tbm 32 (by decide +kernel), tbm 1 (by decide +kernel)⟩, List.forall_mem_cons.mpr ⟨Or.inr ⟨_, rfl, tbm 39 (by decide +kernel), tbm 40 (by decide +kernel), tbm 4 (by decide +kernel)⟩, List.forall_mem_cons.mpr ⟨Or.inr ⟨_, rfl, tbm 65 (by decide +kernel), tbm 66 (by decide +kernel), tbm 5 (by decide +kernel)⟩, List.forall_mem_cons.mpr ⟨Or.inr ⟨_, rfl, tbm 118 (by decide +kernel), tbm 119 (by decide +kernel), tbm 6 (by decide +kernel)⟩, List.forall_mem_cons.mpr ⟨Or.inr ⟨_, rfl, tbm 124 (by decide +kernel), tbm 40 (by decide +kernel), tbm 4 (by decide +kernel)⟩, List.forall_mem_cons.mpr ⟨Or.inr ⟨_, rfl, tbm 157 (by decide +kernel), tbm 158 (by decide +kernel), tbm 7 (by decide +kernel)⟩, List.forall_mem_cons.mpr ⟨Or.inr ⟨_, rfl, tbm 295 (by decide +kernel), tbm 296 (by decide +kernel), tbm 13 (by decide +kernel)⟩, List.forall_mem_cons.mpr ⟨Or.inr ⟨_, rfl, tbm 395 (by decide +kernel), tbm 396 (by decide +kernel), tbm 14 (by decide +kernel)⟩, List.forall_mem_cons.mpr ⟨Or.inr ⟨_, rfl, tbm 491 (by decide +kernel), tbm 492 (by decide +kernel), tbm 17 (by decide +kernel)⟩, List.forall_mem_cons.mpr ⟨Or.inr ⟨_, rfl, tbm 497 (by decide +kernel), tbm 40 (by decide +kernel), tbm 4 (by decide +kernel)⟩, List.forall_mem_cons.mpr ⟨Or.inr ⟨_, rfl, tbm 631 (by decide +kernel), tbm 632 (by decide +kernel), tbm 21 (by decide +kernel)⟩, List.forall_mem_cons.mpr ⟨Or.inr ⟨_, rfl, tbm 752 (by decide +kernel), tbm 632 (by decide +kernel), tbm 21 (by decide +kernel)⟩, List.forall_mem_cons.mpr ⟨Or.inr ⟨_, rfl, tbm 757 (by decide +kernel), tbm 492 (by decide +kernel), tbm 17 (by decide +kernel)⟩, List.forall_mem_cons.mpr ⟨Or.inr ⟨_, rfl, tbm 855 (by decide +kernel), tbm 856 (by decide +kernel), tbm 26 (by decide +kernel)⟩, List.forall_mem_cons.mpr ⟨Or.inr ⟨_, rfl, tbm 894 (by decide +kernel), tbm 895 (by decide +kernel), tbm 27 (by decide +kernel)⟩, List.forall_mem_cons.mpr ⟨Or.inr ⟨_, rfl, tbm 1006 (by decide +kernel), tbm 1007 (by decide +kernel), tbm 28 (by decide +kernel)⟩, List.forall_mem_cons.mpr ⟨Or.inr ⟨_, rfl, tbm 1041 (by decide +kernel), tbm 1042 (by decide +kernel), tbm 29 (by decide +kernel)⟩, List.forall_mem_cons.mpr ⟨Or.inl ⟨rfl, tbm 1183 (by decide +kernel)⟩, List.forall_mem_cons.mpr ⟨Or.inl ⟨rfl, tbm 1188 (by decide +kernel)⟩, List.forall_mem_cons.mpr ⟨Or.inr ⟨_, rfl, tbm 1263 (by decide +kernel), tbm 1264 (by decide +kernel), tbm 12 (by decide +kernel)⟩, fun _ h => absurd h List.not_mem_nil⟩⟩⟩⟩⟩⟩⟩⟩⟩⟩⟩⟩⟩⟩⟩⟩⟩⟩⟩⟩
theorem ok_cls {c k ci : Nat} (h : clsP c k = some ci) : okCl (c, k, ci) := okCls _ (lk_s (L := clsL) h)
def okV (ci : Nat) : Prop := ∃ q : vw_C, vwCl[ci]? = some q ∧ (∀ w ∈ u_ws q.1 q.2.1 q.2.2, w ∈ tb) ∧ (∀ k, k < q.2.2 → parseFieldDescriptor (q.2.1 k).2.2.1 = some ((vwTy.getD ci tyX0) k)) ∧ (∀ a, a < q.2.2 → ∀ b, b < q.2.2 → a ≠ b → (q.2.1 a).2.1 ≠ (q.2.1 b).2.1) ∧ am_nf ci = q.2.2 ∧ (∀ k, finS ci k = (q.2.1 k).2.2.2) ∧ cN ci = q.1 ∧ (∀ k, k < q.2.2 → (q.2.1 k).1 = q.1 ∨ ci = 0)
set_option maxRecDepth 100000 in
theorem ov0 : okV 0 := ⟨(RJx4a65c, TJx4a65c, 3), rfl, tbr [62, 58, 60] (by decide +kernel) (by decide +kernel), tyJx4a65c_ok, nmJx4a65c, rfl, fun _ => rfl, rfl, fun _ _ => Or.inr rfl⟩
set_option maxRecDepth 100000 in
theorem ov1 : okV 1 := ⟨(RX0, TX0, 4), rfl, tbr [1055, 1057, 1059, 1061] (by decide +kernel) (by decide +kernel), tyX0_ok, nmX0, rfl, fun _ => rfl, rfl, by decide +kernel⟩
set_option maxRecDepth 100000 in
theorem ov2 : okV 2 := ⟨(RX1, TX1, 3), rfl, tbr [169, 171, 173] (by decide +kernel) (by decide +kernel), tyX1_ok, nmX1, rfl, fun _ => rfl, rfl, by decide +kernel⟩
set_option maxRecDepth 100000 in
theorem ov3 : okV 3 := ⟨(RX2, TX2, 6), rfl, tbr [416, 418, 420, 422, 424, 426] (by decide +kernel) (by decide +kernel), tyX2_ok, nmX2, rfl, fun _ => rfl, rfl, by decide +kernel⟩
set_option maxRecDepth 100000 in
theorem ov4 : okV 4 := ⟨(RX3, TX3, 9), rfl, tbr [137, 139, 141, 143, 145, 147, 149, 151, 153] (by decide +kernel) (by decide +kernel), tyX3_ok, nmX3, rfl, fun _ => rfl, rfl, by decide +kernel⟩
set_option maxRecDepth 100000 in
theorem ov5 : okV 5 := ⟨(RX4, TX4, 20), rfl, tbr [350, 352, 354, 356, 358, 360, 362, 364, 366, 368, 370, 372, 374, 376, 378, 380, 382, 384, 386, 388] (by decide +kernel) (by decide +kernel), tyX4_ok, nmX4, rfl, fun _ => rfl, rfl, by decide +kernel⟩
set_option maxRecDepth 100000 in
theorem ov6 : okV 6 := ⟨(RX5, TX5, 4), rfl, tbr [1020, 1022, 1024, 1026] (by decide +kernel) (by decide +kernel), tyX5_ok, nmX5, rfl, fun _ => rfl, rfl, by decide +kernel⟩
set_option maxRecDepth 100000 in
theorem ov7 : okV 7 := ⟨(RX6, TX6, 7), rfl, tbr [659, 661, 663, 665, 667, 669, 671] (by decide +kernel) (by decide +kernel), tyX6_ok, nmX6, rfl, fun _ => rfl, rfl, by decide +kernel⟩
set_option maxRecDepth 100000 in
theorem ov8 : okV 8 := ⟨(RX7, TX7, 3), rfl, tbr [867, 869, 871] (by decide +kernel) (by decide +kernel), tyX7_ok, nmX7, rfl, fun _ => rfl, rfl, by decide +kernel⟩
set_option maxRecDepth 100000 in
theorem ov9 : okV 9 := ⟨(RX8, TX8, 6), rfl, tbr [512, 514, 516, 518, 520, 522] (by decide +kernel) (by decide +kernel), tyX8_ok, nmX8, rfl, fun _ => rfl, rfl, by decide +kernel⟩
set_option maxRecDepth 100000 in
theorem ov10 : okV 10 := ⟨(RX9, TX9, 14), rfl, tbr [88, 90, 92, 94, 96, 98, 100, 102, 104, 106, 108, 110, 112, 114] (by decide +kernel) (by decide +kernel), tyX9_ok, nmX9, rfl, fun _ => rfl, rfl, by decide +kernel⟩
set_option maxRecDepth 100000 in
theorem ov11 : okV 11 := ⟨(RX10, TX10, 2), rfl, tbr [903, 905] (by decide +kernel) (by decide +kernel), tyX10_ok, nmX10, rfl, fun _ => rfl, rfl, by decide +kernel⟩
set_option maxRecDepth 100000 in
theorem ov12 : okV 12 := ⟨(RX11, TX11, 15), rfl, tbr [253, 255, 257, 259, 261, 263, 265, 267, 269, 271, 273, 275, 277, 279, 281] (by decide +kernel) (by decide +kernel), tyX11_ok, nmX11, rfl, fun _ => rfl, rfl, by decide +kernel⟩
set_option maxRecDepth 100000 in
theorem ov13 : okV 13 := ⟨(RX12, TX12, 86), rfl, tbr [1356, 1358, 1360, 1362, 1364, 1366, 1368, 1370, 1372, 1374, 1376, 1378, 1380, 1382, 1384, 1386, 1388, 1390, 1392, 1394, 1396, 1398, 1400, 1402, 1404, 1406, 1408, 1410, 1412, 1414, 1416, 1418, 1420, 1422, 1424, 1426, 1428, 1430, 1432, 1434, 1436, 1438, 1440, 1442, 1444, 1446, 1448, 1450, 1452, 1454, 1456, 1458, 1460, 1462, 1464, 1466, 1468, 1470, 1472, 1474, 1476, 1478, 1480, 1482, 1484, 1486, 1488, 1490, 1492, 1494, 1496, 1498, 1500, 1502, 1504, 1506, 1508, 1510, 1512, 1514, 1516, 1518, 1520, 1522, 1524, 1526] (by decide +kernel) (by decide +kernel), tyX12_ok, nmX12, rfl, fun _ => rfl, rfl, by decide +kernel⟩
theorem okVs {ci : Nat} {q : vw_C} (h : vwCl[ci]? = some q) : okV ci := by
  have hl : ci < 14 := (List.getElem?_eq_some_iff.mp h).1
  rcases (show ci = 0 ∨ ci = 1 ∨ ci = 2 ∨ ci = 3 ∨ ci = 4 ∨ ci = 5 ∨ ci = 6 ∨ ci = 7 ∨ ci = 8 ∨ ci = 9 ∨ ci = 10 ∨ ci = 11 ∨ ci = 12 ∨ ci = 13 by omega) with rfl | rfl | rfl | rfl | rfl | rfl | rfl | rfl | rfl | rfl | rfl | rfl | rfl | rfl
  · exact ov0
  · exact ov1
  · exact ov2
  · exact ov3
  · exact ov4
  · exact ov5
  · exact ov6
  · exact ov7
  · exact ov8
  · exact ov9
  · exact ov10
  · exact ov11
  · exact ov12
  · exact ov13
def okM (c : Nat) : Prop := Cond.code (mnm c) (mcode c) (mml c) (mft c) ∈ tb ∧ (mnm c).cls = cN (mcl c) ∧ plainName (mnm c).cls = true ∧ ((mnm c).cls ≠ "java/lang/invoke/MethodHandle" ∧ (mnm c).cls ≠ "java/lang/invoke/VarHandle" ∧ (parseMethodDescriptor (mnm c).desc).map (fun d => d.parameters.length) = some (mar c)) ∧ Cond.initialized (mnm c).cls ∈ tb ∧ mml c ≤ 40 ∧ (match mrt c with | 0 => mft c = none | 1 => mft c = some .int | 2 => mft c = some .boolean | 3 => mft c = some .long | _ => ∃ rt, mft c = some rt ∧ ((∃ n, rt = .object n) ∨ ∃ t, rt = .array t))
set_option maxRecDepth 100000 in
theorem om4 : okM 4 := ⟨tbm 1045 ⟨rfl, by decide +kernel⟩, rfl, by decide +kernel, by decide +kernel, tbm 29 (by decide +kernel), Nat.le_of_ble_eq_true rfl, rfl⟩
set_option maxRecDepth 100000 in
theorem om5 : okM 5 := ⟨tbm 161 ⟨rfl, by decide +kernel⟩, rfl, by decide +kernel, by decide +kernel, tbm 7 (by decide +kernel), Nat.le_of_ble_eq_true rfl, rfl⟩
set_option maxRecDepth 100000 in
theorem om6 : okM 6 := ⟨tbm 399 ⟨rfl, by decide +kernel⟩, rfl, by decide +kernel, by decide +kernel, tbm 14 (by decide +kernel), Nat.le_of_ble_eq_true rfl, rfl⟩
set_option maxRecDepth 100000 in
theorem om7 : okM 7 := ⟨tbm 993 ⟨rfl, by decide +kernel⟩, rfl, by decide +kernel, by decide +kernel, tbm 14 (by decide +kernel), Nat.le_of_ble_eq_true rfl, rfl⟩
set_option maxRecDepth 100000 in
theorem om8 : okM 8 := ⟨tbm 1153 ⟨rfl, by decide +kernel⟩, rfl, by decide +kernel, by decide +kernel, tbm 14 (by decide +kernel), Nat.le_of_ble_eq_true rfl, rfl⟩
set_option maxRecDepth 100000 in
theorem om9 : okM 9 := ⟨tbm 1123 ⟨rfl, by decide +kernel⟩, rfl, by decide +kernel, by decide +kernel, tbm 14 (by decide +kernel), Nat.le_of_ble_eq_true rfl, rfl⟩
set_option maxRecDepth 100000 in
theorem om10 : okM 10 := ⟨tbm 122 ⟨rfl, by decide +kernel⟩, rfl, by decide +kernel, by decide +kernel, tbm 6 (by decide +kernel), Nat.le_of_ble_eq_true rfl, rfl⟩
set_option maxRecDepth 100000 in
theorem om11 : okM 11 := ⟨tbm 749 ⟨rfl, by decide +kernel⟩, rfl, by decide +kernel, by decide +kernel, tbm 6 (by decide +kernel), Nat.le_of_ble_eq_true rfl, rfl⟩
set_option maxRecDepth 100000 in
theorem om12 : okM 12 := ⟨tbm 756 ⟨rfl, by decide +kernel⟩, rfl, by decide +kernel, by decide +kernel, tbm 6 (by decide +kernel), Nat.le_of_ble_eq_true rfl, rfl⟩
set_option maxRecDepth 100000 in
theorem om13 : okM 13 := ⟨tbm 849 ⟨rfl, by decide +kernel⟩, rfl, by decide +kernel, by decide +kernel, tbm 6 (by decide +kernel), Nat.le_of_ble_eq_true rfl, rfl⟩
set_option maxRecDepth 100000 in
theorem om14 : okM 14 := ⟨tbm 783 ⟨rfl, by decide +kernel⟩, rfl, by decide +kernel, by decide +kernel, tbm 6 (by decide +kernel), Nat.le_of_ble_eq_true rfl, rfl⟩
set_option maxRecDepth 100000 in
theorem om15 : okM 15 := ⟨tbm 787 ⟨rfl, by decide +kernel⟩, rfl, by decide +kernel, by decide +kernel, tbm 6 (by decide +kernel), Nat.le_of_ble_eq_true rfl, rfl⟩
set_option maxRecDepth 100000 in
theorem om16 : okM 16 := ⟨tbm 794 ⟨rfl, by decide +kernel⟩, rfl, by decide +kernel, by decide +kernel, tbm 6 (by decide +kernel), Nat.le_of_ble_eq_true rfl, rfl⟩
set_option maxRecDepth 100000 in
theorem om17 : okM 17 := ⟨tbm 1114 ⟨rfl, by decide +kernel⟩, rfl, by decide +kernel, by decide +kernel, tbm 6 (by decide +kernel), Nat.le_of_ble_eq_true rfl, rfl⟩
set_option maxRecDepth 100000 in
theorem om18 : okM 18 := ⟨tbm 798 ⟨rfl, by decide +kernel⟩, rfl, by decide +kernel, by decide +kernel, tbm 6 (by decide +kernel), Nat.le_of_ble_eq_true rfl, rfl⟩
set_option maxRecDepth 100000 in
theorem om19 : okM 19 := ⟨tbm 806 ⟨rfl, by decide +kernel⟩, rfl, by decide +kernel, by decide +kernel, tbm 6 (by decide +kernel), Nat.le_of_ble_eq_true rfl, rfl⟩
set_option maxRecDepth 100000 in
theorem om20 : okM 20 := ⟨tbm 828 ⟨rfl, by decide +kernel⟩, rfl, by decide +kernel, by decide +kernel, tbm 6 (by decide +kernel), Nat.le_of_ble_eq_true rfl, rfl⟩
set_option maxRecDepth 100000 in
theorem om21 : okM 21 := ⟨tbm 836 ⟨rfl, by decide +kernel⟩, rfl, by decide +kernel, by decide +kernel, tbm 6 (by decide +kernel), Nat.le_of_ble_eq_true rfl, rfl⟩
set_option maxRecDepth 100000 in
theorem om22 : okM 22 := ⟨tbm 841 ⟨rfl, by decide +kernel⟩, rfl, by decide +kernel, by decide +kernel, tbm 6 (by decide +kernel), Nat.le_of_ble_eq_true rfl, rfl⟩
set_option maxRecDepth 100000 in
theorem om23 : okM 23 := ⟨tbm 818 ⟨rfl, by decide +kernel⟩, rfl, by decide +kernel, by decide +kernel, tbm 6 (by decide +kernel), Nat.le_of_ble_eq_true rfl, rfl⟩
set_option maxRecDepth 100000 in
theorem om24 : okM 24 := ⟨tbm 810 ⟨rfl, by decide +kernel⟩, rfl, by decide +kernel, by decide +kernel, tbm 6 (by decide +kernel), Nat.le_of_ble_eq_true rfl, rfl⟩
set_option maxRecDepth 100000 in
theorem om25 : okM 25 := ⟨tbm 813 ⟨rfl, by decide +kernel⟩, rfl, by decide +kernel, by decide +kernel, tbm 6 (by decide +kernel), Nat.le_of_ble_eq_true rfl, rfl⟩
set_option maxRecDepth 100000 in
theorem om26 : okM 26 := ⟨tbm 299 ⟨rfl, by decide +kernel⟩, rfl, by decide +kernel, by decide +kernel, tbm 13 (by decide +kernel), Nat.le_of_ble_eq_true rfl, rfl⟩
set_option maxRecDepth 100000 in
theorem om27 : okM 27 := ⟨tbm 454 ⟨rfl, by decide +kernel⟩, rfl, by decide +kernel, by decide +kernel, tbm 13 (by decide +kernel), Nat.le_of_ble_eq_true rfl, rfl⟩
set_option maxRecDepth 100000 in
theorem om28 : okM 28 := ⟨tbm 915 ⟨rfl, by decide +kernel⟩, rfl, by decide +kernel, by decide +kernel, tbm 13 (by decide +kernel), Nat.le_of_ble_eq_true rfl, rfl⟩
set_option maxRecDepth 100000 in
theorem om29 : okM 29 := ⟨tbm 458 ⟨rfl, by decide +kernel⟩, rfl, by decide +kernel, by decide +kernel, tbm 13 (by decide +kernel), Nat.le_of_ble_eq_true rfl, rfl⟩
set_option maxRecDepth 100000 in
theorem om30 : okM 30 := ⟨tbm 953 ⟨rfl, by decide +kernel⟩, rfl, by decide +kernel, by decide +kernel, tbm 13 (by decide +kernel), Nat.le_of_ble_eq_true rfl, rfl⟩
set_option maxRecDepth 100000 in
theorem om31 : okM 31 := ⟨tbm 973 ⟨rfl, by decide +kernel⟩, rfl, by decide +kernel, by decide +kernel, tbm 13 (by decide +kernel), Nat.le_of_ble_eq_true rfl, rfl⟩
set_option maxRecDepth 100000 in
theorem om32 : okM 32 := ⟨tbm 885 ⟨rfl, by decide +kernel⟩, rfl, by decide +kernel, by decide +kernel, tbm 13 (by decide +kernel), Nat.le_of_ble_eq_true rfl, rfl⟩
set_option maxRecDepth 100000 in
theorem om33 : okM 33 := ⟨tbm 1010 ⟨rfl, by decide +kernel⟩, rfl, by decide +kernel, by decide +kernel, tbm 28 (by decide +kernel), Nat.le_of_ble_eq_true rfl, rfl⟩
set_option maxRecDepth 100000 in
theorem om34 : okM 34 := ⟨tbm 639 ⟨rfl, by decide +kernel⟩, rfl, by decide +kernel, by decide +kernel, tbm 21 (by decide +kernel), Nat.le_of_ble_eq_true rfl, rfl⟩
set_option maxRecDepth 100000 in
theorem om35 : okM 35 := ⟨tbm 859 ⟨rfl, by decide +kernel⟩, rfl, by decide +kernel, by decide +kernel, tbm 26 (by decide +kernel), Nat.le_of_ble_eq_true rfl, rfl⟩
set_option maxRecDepth 100000 in
theorem om36 : okM 36 := ⟨tbm 495 ⟨rfl, by decide +kernel⟩, rfl, by decide +kernel, by decide +kernel, tbm 17 (by decide +kernel), Nat.le_of_ble_eq_true rfl, rfl⟩
set_option maxRecDepth 100000 in
theorem om37 : okM 37 := ⟨tbm 802 ⟨rfl, by decide +kernel⟩, rfl, by decide +kernel, by decide +kernel, tbm 17 (by decide +kernel), Nat.le_of_ble_eq_true rfl, rfl⟩
set_option maxRecDepth 100000 in
theorem om38 : okM 38 := ⟨tbm 683 ⟨rfl, by decide +kernel⟩, rfl, by decide +kernel, by decide +kernel, tbm 17 (by decide +kernel), Nat.le_of_ble_eq_true rfl, rfl⟩
set_option maxRecDepth 100000 in
theorem om39 : okM 39 := ⟨tbm 824 ⟨rfl, by decide +kernel⟩, rfl, by decide +kernel, by decide +kernel, tbm 17 (by decide +kernel), Nat.le_of_ble_eq_true rfl, rfl⟩
set_option maxRecDepth 100000 in
theorem om40 : okM 40 := ⟨tbm 69 ⟨rfl, by decide +kernel⟩, rfl, by decide +kernel, by decide +kernel, tbm 5 (by decide +kernel), Nat.le_of_ble_eq_true rfl, rfl⟩
set_option maxRecDepth 100000 in
theorem om41 : okM 41 := ⟨tbm 474 ⟨rfl, by decide +kernel⟩, rfl, by decide +kernel, by decide +kernel, tbm 5 (by decide +kernel), Nat.le_of_ble_eq_true rfl, rfl⟩
set_option maxRecDepth 100000 in
theorem om42 : okM 42 := ⟨tbm 478 ⟨rfl, by decide +kernel⟩, rfl, by decide +kernel, by decide +kernel, tbm 5 (by decide +kernel), Nat.le_of_ble_eq_true rfl, rfl⟩
set_option maxRecDepth 100000 in
theorem om43 : okM 43 := ⟨tbm 528 ⟨rfl, by decide +kernel⟩, rfl, by decide +kernel, by decide +kernel, tbm 5 (by decide +kernel), Nat.le_of_ble_eq_true rfl, rfl⟩
set_option maxRecDepth 100000 in
theorem om44 : okM 44 := ⟨tbm 532 ⟨rfl, by decide +kernel⟩, rfl, by decide +kernel, by decide +kernel, tbm 5 (by decide +kernel), Nat.le_of_ble_eq_true rfl, rfl⟩
set_option maxRecDepth 100000 in
theorem om45 : okM 45 := ⟨tbm 535 ⟨rfl, by decide +kernel⟩, rfl, by decide +kernel, by decide +kernel, tbm 5 (by decide +kernel), Nat.le_of_ble_eq_true rfl, rfl⟩
set_option maxRecDepth 100000 in
theorem om46 : okM 46 := ⟨tbm 539 ⟨rfl, by decide +kernel⟩, rfl, by decide +kernel, by decide +kernel, tbm 5 (by decide +kernel), Nat.le_of_ble_eq_true rfl, rfl⟩
set_option maxRecDepth 100000 in
theorem om47 : okM 47 := ⟨tbm 543 ⟨rfl, by decide +kernel⟩, rfl, by decide +kernel, by decide +kernel, tbm 5 (by decide +kernel), Nat.le_of_ble_eq_true rfl, rfl⟩
set_option maxRecDepth 100000 in
theorem om48 : okM 48 := ⟨tbm 572 ⟨rfl, by decide +kernel⟩, rfl, by decide +kernel, by decide +kernel, tbm 5 (by decide +kernel), Nat.le_of_ble_eq_true rfl, rfl⟩
set_option maxRecDepth 100000 in
theorem om49 : okM 49 := ⟨tbm 546 ⟨rfl, by decide +kernel⟩, rfl, by decide +kernel, by decide +kernel, tbm 5 (by decide +kernel), Nat.le_of_ble_eq_true rfl, ⟨_, rfl, Or.inl ⟨_, rfl⟩⟩⟩
set_option maxRecDepth 100000 in
theorem om50 : okM 50 := ⟨tbm 622 ⟨rfl, by decide +kernel⟩, rfl, by decide +kernel, by decide +kernel, tbm 5 (by decide +kernel), Nat.le_of_ble_eq_true rfl, rfl⟩
set_option maxRecDepth 100000 in
theorem om51 : okM 51 := ⟨tbm 715 ⟨rfl, by decide +kernel⟩, rfl, by decide +kernel, by decide +kernel, tbm 5 (by decide +kernel), Nat.le_of_ble_eq_true rfl, rfl⟩
set_option maxRecDepth 100000 in
theorem om52 : okM 52 := ⟨tbm 630 ⟨rfl, by decide +kernel⟩, rfl, by decide +kernel, by decide +kernel, tbm 5 (by decide +kernel), Nat.le_of_ble_eq_true rfl, rfl⟩
set_option maxRecDepth 100000 in
theorem om53 : okM 53 := ⟨tbm 687 ⟨rfl, by decide +kernel⟩, rfl, by decide +kernel, by decide +kernel, tbm 5 (by decide +kernel), Nat.le_of_ble_eq_true rfl, rfl⟩
set_option maxRecDepth 100000 in
theorem om54 : okM 54 := ⟨tbm 699 ⟨rfl, by decide +kernel⟩, rfl, by decide +kernel, by decide +kernel, tbm 5 (by decide +kernel), Nat.le_of_ble_eq_true rfl, rfl⟩
set_option maxRecDepth 100000 in
theorem om55 : okM 55 := ⟨tbm 626 ⟨rfl, by decide +kernel⟩, rfl, by decide +kernel, by decide +kernel, tbm 5 (by decide +kernel), Nat.le_of_ble_eq_true rfl, rfl⟩
set_option maxRecDepth 100000 in
theorem om56 : okM 56 := ⟨tbm 636 ⟨rfl, by decide +kernel⟩, rfl, by decide +kernel, by decide +kernel, tbm 5 (by decide +kernel), Nat.le_of_ble_eq_true rfl, rfl⟩
set_option maxRecDepth 100000 in
theorem om57 : okM 57 := ⟨tbm 679 ⟨rfl, by decide +kernel⟩, rfl, by decide +kernel, by decide +kernel, tbm 5 (by decide +kernel), Nat.le_of_ble_eq_true rfl, rfl⟩
set_option maxRecDepth 100000 in
theorem om58 : okM 58 := ⟨tbm 691 ⟨rfl, by decide +kernel⟩, rfl, by decide +kernel, by decide +kernel, tbm 5 (by decide +kernel), Nat.le_of_ble_eq_true rfl, rfl⟩
set_option maxRecDepth 100000 in
theorem om59 : okM 59 := ⟨tbm 695 ⟨rfl, by decide +kernel⟩, rfl, by decide +kernel, by decide +kernel, tbm 5 (by decide +kernel), Nat.le_of_ble_eq_true rfl, rfl⟩
set_option maxRecDepth 100000 in
theorem om60 : okM 60 := ⟨tbm 719 ⟨rfl, by decide +kernel⟩, rfl, by decide +kernel, by decide +kernel, tbm 5 (by decide +kernel), Nat.le_of_ble_eq_true rfl, rfl⟩
set_option maxRecDepth 100000 in
theorem om61 : okM 61 := ⟨tbm 723 ⟨rfl, by decide +kernel⟩, rfl, by decide +kernel, by decide +kernel, tbm 5 (by decide +kernel), Nat.le_of_ble_eq_true rfl, rfl⟩
set_option maxRecDepth 100000 in
theorem om62 : okM 62 := ⟨tbm 727 ⟨rfl, by decide +kernel⟩, rfl, by decide +kernel, by decide +kernel, tbm 5 (by decide +kernel), Nat.le_of_ble_eq_true rfl, rfl⟩
set_option maxRecDepth 100000 in
theorem om63 : okM 63 := ⟨tbm 731 ⟨rfl, by decide +kernel⟩, rfl, by decide +kernel, by decide +kernel, tbm 5 (by decide +kernel), Nat.le_of_ble_eq_true rfl, rfl⟩
set_option maxRecDepth 100000 in
theorem om64 : okM 64 := ⟨tbm 735 ⟨rfl, by decide +kernel⟩, rfl, by decide +kernel, by decide +kernel, tbm 5 (by decide +kernel), Nat.le_of_ble_eq_true rfl, rfl⟩
set_option maxRecDepth 100000 in
theorem om65 : okM 65 := ⟨tbm 703 ⟨rfl, by decide +kernel⟩, rfl, by decide +kernel, by decide +kernel, tbm 5 (by decide +kernel), Nat.le_of_ble_eq_true rfl, rfl⟩
set_option maxRecDepth 100000 in
theorem om66 : okM 66 := ⟨tbm 707 ⟨rfl, by decide +kernel⟩, rfl, by decide +kernel, by decide +kernel, tbm 5 (by decide +kernel), Nat.le_of_ble_eq_true rfl, rfl⟩
set_option maxRecDepth 100000 in
theorem om67 : okM 67 := ⟨tbm 711 ⟨rfl, by decide +kernel⟩, rfl, by decide +kernel, by decide +kernel, tbm 5 (by decide +kernel), Nat.le_of_ble_eq_true rfl, rfl⟩
set_option maxRecDepth 100000 in
theorem om68 : okM 68 := ⟨tbm 898 ⟨rfl, by decide +kernel⟩, rfl, by decide +kernel, by decide +kernel, tbm 27 (by decide +kernel), Nat.le_of_ble_eq_true rfl, rfl⟩
set_option maxRecDepth 100000 in
theorem om69 : okM 69 := ⟨tbm 924 ⟨rfl, by decide +kernel⟩, rfl, by decide +kernel, by decide +kernel, tbm 27 (by decide +kernel), Nat.le_of_ble_eq_true rfl, rfl⟩
set_option maxRecDepth 100000 in
theorem om70 : okM 70 := ⟨tbm 1109 ⟨rfl, by decide +kernel⟩, rfl, by decide +kernel, by decide +kernel, tbm 27 (by decide +kernel), Nat.le_of_ble_eq_true rfl, rfl⟩
set_option maxRecDepth 100000 in
theorem om71 : okM 71 := ⟨tbm 35 ⟨rfl, by decide +kernel⟩, rfl, by decide +kernel, by decide +kernel, tbm 1 (by decide +kernel), Nat.le_of_ble_eq_true rfl, rfl⟩
set_option maxRecDepth 100000 in
theorem om72 : okM 72 := ⟨tbm 287 ⟨rfl, by decide +kernel⟩, rfl, by decide +kernel, by decide +kernel, tbm 1 (by decide +kernel), Nat.le_of_ble_eq_true rfl, rfl⟩
set_option maxRecDepth 100000 in
theorem om73 : okM 73 := ⟨tbm 394 ⟨rfl, by decide +kernel⟩, rfl, by decide +kernel, by decide +kernel, tbm 1 (by decide +kernel), Nat.le_of_ble_eq_true rfl, rfl⟩
set_option maxRecDepth 100000 in
theorem om74 : okM 74 := ⟨tbm 432 ⟨rfl, by decide +kernel⟩, rfl, by decide +kernel, by decide +kernel, tbm 1 (by decide +kernel), Nat.le_of_ble_eq_true rfl, rfl⟩
set_option maxRecDepth 100000 in
theorem om75 : okM 75 := ⟨tbm 462 ⟨rfl, by decide +kernel⟩, rfl, by decide +kernel, by decide +kernel, tbm 1 (by decide +kernel), Nat.le_of_ble_eq_true rfl, rfl⟩
set_option maxRecDepth 100000 in
theorem om76 : okM 76 := ⟨tbm 466 ⟨rfl, by decide +kernel⟩, rfl, by decide +kernel, by decide +kernel, tbm 1 (by decide +kernel), Nat.le_of_ble_eq_true rfl, rfl⟩
set_option maxRecDepth 100000 in
theorem om77 : okM 77 := ⟨tbm 470 ⟨rfl, by decide +kernel⟩, rfl, by decide +kernel, by decide +kernel, tbm 1 (by decide +kernel), Nat.le_of_ble_eq_true rfl, rfl⟩
set_option maxRecDepth 100000 in
theorem om78 : okM 78 := ⟨tbm 483 ⟨rfl, by decide +kernel⟩, rfl, by decide +kernel, by decide +kernel, tbm 1 (by decide +kernel), Nat.le_of_ble_eq_true rfl, rfl⟩
set_option maxRecDepth 100000 in
theorem om79 : okM 79 := ⟨tbm 487 ⟨rfl, by decide +kernel⟩, rfl, by decide +kernel, by decide +kernel, tbm 1 (by decide +kernel), Nat.le_of_ble_eq_true rfl, rfl⟩
set_option maxRecDepth 100000 in
theorem om80 : okM 80 := ⟨tbm 771 ⟨rfl, by decide +kernel⟩, rfl, by decide +kernel, by decide +kernel, tbm 1 (by decide +kernel), Nat.le_of_ble_eq_true rfl, rfl⟩
set_option maxRecDepth 100000 in
theorem om81 : okM 81 := ⟨tbm 1187 ⟨rfl, by decide +kernel⟩, rfl, by decide +kernel, by decide +kernel, tbm 1 (by decide +kernel), Nat.le_of_ble_eq_true rfl, rfl⟩
set_option maxRecDepth 100000 in
theorem om82 : okM 82 := ⟨tbm 775 ⟨rfl, by decide +kernel⟩, rfl, by decide +kernel, by decide +kernel, tbm 1 (by decide +kernel), Nat.le_of_ble_eq_true rfl, rfl⟩
set_option maxRecDepth 100000 in
theorem om83 : okM 83 := ⟨tbm 832 ⟨rfl, by decide +kernel⟩, rfl, by decide +kernel, by decide +kernel, tbm 1 (by decide +kernel), Nat.le_of_ble_eq_true rfl, rfl⟩
set_option maxRecDepth 100000 in
theorem om84 : okM 84 := ⟨tbm 845 ⟨rfl, by decide +kernel⟩, rfl, by decide +kernel, by decide +kernel, tbm 1 (by decide +kernel), Nat.le_of_ble_eq_true rfl, rfl⟩
set_option maxRecDepth 100000 in
theorem om85 : okM 85 := ⟨tbm 779 ⟨rfl, by decide +kernel⟩, rfl, by decide +kernel, by decide +kernel, tbm 1 (by decide +kernel), Nat.le_of_ble_eq_true rfl, rfl⟩
set_option maxRecDepth 100000 in
theorem om86 : okM 86 := ⟨tbm 937 ⟨rfl, by decide +kernel⟩, rfl, by decide +kernel, by decide +kernel, tbm 1 (by decide +kernel), Nat.le_of_ble_eq_true rfl, rfl⟩
set_option maxRecDepth 100000 in
theorem om87 : okM 87 := ⟨tbm 854 ⟨rfl, by decide +kernel⟩, rfl, by decide +kernel, by decide +kernel, tbm 1 (by decide +kernel), Nat.le_of_ble_eq_true rfl, rfl⟩
set_option maxRecDepth 100000 in
theorem om88 : okM 88 := ⟨tbm 877 ⟨rfl, by decide +kernel⟩, rfl, by decide +kernel, by decide +kernel, tbm 1 (by decide +kernel), Nat.le_of_ble_eq_true rfl, rfl⟩
set_option maxRecDepth 100000 in
theorem om89 : okM 89 := ⟨tbm 881 ⟨rfl, by decide +kernel⟩, rfl, by decide +kernel, by decide +kernel, tbm 1 (by decide +kernel), Nat.le_of_ble_eq_true rfl, rfl⟩
set_option maxRecDepth 100000 in
theorem om90 : okM 90 := ⟨tbm 889 ⟨rfl, by decide +kernel⟩, rfl, by decide +kernel, by decide +kernel, tbm 1 (by decide +kernel), Nat.le_of_ble_eq_true rfl, rfl⟩
set_option maxRecDepth 100000 in
theorem om91 : okM 91 := ⟨tbm 893 ⟨rfl, by decide +kernel⟩, rfl, by decide +kernel, by decide +kernel, tbm 1 (by decide +kernel), Nat.le_of_ble_eq_true rfl, rfl⟩
set_option maxRecDepth 100000 in
theorem om92 : okM 92 := ⟨tbm 911 ⟨rfl, by decide +kernel⟩, rfl, by decide +kernel, by decide +kernel, tbm 1 (by decide +kernel), Nat.le_of_ble_eq_true rfl, rfl⟩
set_option maxRecDepth 100000 in
theorem om93 : okM 93 := ⟨tbm 919 ⟨rfl, by decide +kernel⟩, rfl, by decide +kernel, by decide +kernel, tbm 1 (by decide +kernel), Nat.le_of_ble_eq_true rfl, rfl⟩
set_option maxRecDepth 100000 in
theorem om94 : okM 94 := ⟨tbm 1255 ⟨rfl, by decide +kernel⟩, rfl, by decide +kernel, by decide +kernel, tbm 1 (by decide +kernel), Nat.le_of_ble_eq_true rfl, rfl⟩
set_option maxRecDepth 100000 in
theorem om95 : okM 95 := ⟨tbm 929 ⟨rfl, by decide +kernel⟩, rfl, by decide +kernel, by decide +kernel, tbm 1 (by decide +kernel), Nat.le_of_ble_eq_true rfl, rfl⟩
set_option maxRecDepth 100000 in
theorem om96 : okM 96 := ⟨tbm 933 ⟨rfl, by decide +kernel⟩, rfl, by decide +kernel, by decide +kernel, tbm 1 (by decide +kernel), Nat.le_of_ble_eq_true rfl, rfl⟩
set_option maxRecDepth 100000 in
theorem om97 : okM 97 := ⟨tbm 941 ⟨rfl, by decide +kernel⟩, rfl, by decide +kernel, by decide +kernel, tbm 1 (by decide +kernel), Nat.le_of_ble_eq_true rfl, rfl⟩
set_option maxRecDepth 100000 in
theorem om98 : okM 98 := ⟨tbm 945 ⟨rfl, by decide +kernel⟩, rfl, by decide +kernel, by decide +kernel, tbm 1 (by decide +kernel), Nat.le_of_ble_eq_true rfl, rfl⟩
set_option maxRecDepth 100000 in
theorem om99 : okM 99 := ⟨tbm 949 ⟨rfl, by decide +kernel⟩, rfl, by decide +kernel, by decide +kernel, tbm 1 (by decide +kernel), Nat.le_of_ble_eq_true rfl, rfl⟩
set_option maxRecDepth 100000 in
theorem om100 : okM 100 := ⟨tbm 969 ⟨rfl, by decide +kernel⟩, rfl, by decide +kernel, by decide +kernel, tbm 1 (by decide +kernel), Nat.le_of_ble_eq_true rfl, rfl⟩
set_option maxRecDepth 100000 in
theorem om101 : okM 101 := ⟨tbm 977 ⟨rfl, by decide +kernel⟩, rfl, by decide +kernel, by decide +kernel, tbm 1 (by decide +kernel), Nat.le_of_ble_eq_true rfl, rfl⟩
set_option maxRecDepth 100000 in
theorem om102 : okM 102 := ⟨tbm 981 ⟨rfl, by decide +kernel⟩, rfl, by decide +kernel, by decide +kernel, tbm 1 (by decide +kernel), Nat.le_of_ble_eq_true rfl, rfl⟩
set_option maxRecDepth 100000 in
theorem om103 : okM 103 := ⟨tbm 989 ⟨rfl, by decide +kernel⟩, rfl, by decide +kernel, by decide +kernel, tbm 1 (by decide +kernel), Nat.le_of_ble_eq_true rfl, rfl⟩
set_option maxRecDepth 100000 in
theorem om104 : okM 104 := ⟨tbm 997 ⟨rfl, by decide +kernel⟩, rfl, by decide +kernel, by decide +kernel, tbm 1 (by decide +kernel), Nat.le_of_ble_eq_true rfl, rfl⟩
set_option maxRecDepth 100000 in
theorem om105 : okM 105 := ⟨tbm 957 ⟨rfl, by decide +kernel⟩, rfl, by decide +kernel, by decide +kernel, tbm 1 (by decide +kernel), Nat.le_of_ble_eq_true rfl, rfl⟩
set_option maxRecDepth 100000 in
theorem om106 : okM 106 := ⟨tbm 1001 ⟨rfl, by decide +kernel⟩, rfl, by decide +kernel, by decide +kernel, tbm 1 (by decide +kernel), Nat.le_of_ble_eq_true rfl, rfl⟩
set_option maxRecDepth 100000 in
theorem om107 : okM 107 := ⟨tbm 1005 ⟨rfl, by decide +kernel⟩, rfl, by decide +kernel, by decide +kernel, tbm 1 (by decide +kernel), Nat.le_of_ble_eq_true rfl, rfl⟩
set_option maxRecDepth 100000 in
theorem om108 : okM 108 := ⟨tbm 1032 ⟨rfl, by decide +kernel⟩, rfl, by decide +kernel, by decide +kernel, tbm 1 (by decide +kernel), Nat.le_of_ble_eq_true rfl, rfl⟩
set_option maxRecDepth 100000 in
theorem om109 : okM 109 := ⟨tbm 1036 ⟨rfl, by decide +kernel⟩, rfl, by decide +kernel, by decide +kernel, tbm 1 (by decide +kernel), Nat.le_of_ble_eq_true rfl, rfl⟩
set_option maxRecDepth 100000 in
theorem om110 : okM 110 := ⟨tbm 1040 ⟨rfl, by decide +kernel⟩, rfl, by decide +kernel, by decide +kernel, tbm 1 (by decide +kernel), Nat.le_of_ble_eq_true rfl, rfl⟩
set_option maxRecDepth 100000 in
theorem om111 : okM 111 := ⟨tbm 1067 ⟨rfl, by decide +kernel⟩, rfl, by decide +kernel, by decide +kernel, tbm 1 (by decide +kernel), Nat.le_of_ble_eq_true rfl, rfl⟩
set_option maxRecDepth 100000 in
theorem om112 : okM 112 := ⟨tbm 1071 ⟨rfl, by decide +kernel⟩, rfl, by decide +kernel, by decide +kernel, tbm 1 (by decide +kernel), Nat.le_of_ble_eq_true rfl, rfl⟩
set_option maxRecDepth 100000 in
theorem om113 : okM 113 := ⟨tbm 1079 ⟨rfl, by decide +kernel⟩, rfl, by decide +kernel, by decide +kernel, tbm 1 (by decide +kernel), Nat.le_of_ble_eq_true rfl, rfl⟩
set_option maxRecDepth 100000 in
theorem om114 : okM 114 := ⟨tbm 1075 ⟨rfl, by decide +kernel⟩, rfl, by decide +kernel, by decide +kernel, tbm 1 (by decide +kernel), Nat.le_of_ble_eq_true rfl, rfl⟩
set_option maxRecDepth 100000 in
theorem om115 : okM 115 := ⟨tbm 1083 ⟨rfl, by decide +kernel⟩, rfl, by decide +kernel, by decide +kernel, tbm 1 (by decide +kernel), Nat.le_of_ble_eq_true rfl, rfl⟩
set_option maxRecDepth 100000 in
theorem om116 : okM 116 := ⟨tbm 1096 ⟨rfl, by decide +kernel⟩, rfl, by decide +kernel, by decide +kernel, tbm 1 (by decide +kernel), Nat.le_of_ble_eq_true rfl, rfl⟩
set_option maxRecDepth 100000 in
theorem om117 : okM 117 := ⟨tbm 1088 ⟨rfl, by decide +kernel⟩, rfl, by decide +kernel, by decide +kernel, tbm 1 (by decide +kernel), Nat.le_of_ble_eq_true rfl, rfl⟩
set_option maxRecDepth 100000 in
theorem om118 : okM 118 := ⟨tbm 1092 ⟨rfl, by decide +kernel⟩, rfl, by decide +kernel, by decide +kernel, tbm 1 (by decide +kernel), Nat.le_of_ble_eq_true rfl, rfl⟩
set_option maxRecDepth 100000 in
theorem om119 : okM 119 := ⟨tbm 1100 ⟨rfl, by decide +kernel⟩, rfl, by decide +kernel, by decide +kernel, tbm 1 (by decide +kernel), Nat.le_of_ble_eq_true rfl, rfl⟩
set_option maxRecDepth 100000 in
theorem om120 : okM 120 := ⟨tbm 1105 ⟨rfl, by decide +kernel⟩, rfl, by decide +kernel, by decide +kernel, tbm 1 (by decide +kernel), Nat.le_of_ble_eq_true rfl, rfl⟩
set_option maxRecDepth 100000 in
theorem om121 : okM 121 := ⟨tbm 1118 ⟨rfl, by decide +kernel⟩, rfl, by decide +kernel, by decide +kernel, tbm 1 (by decide +kernel), Nat.le_of_ble_eq_true rfl, rfl⟩
set_option maxRecDepth 100000 in
theorem om122 : okM 122 := ⟨tbm 1128 ⟨rfl, by decide +kernel⟩, rfl, by decide +kernel, by decide +kernel, tbm 1 (by decide +kernel), Nat.le_of_ble_eq_true rfl, rfl⟩
set_option maxRecDepth 100000 in
theorem om123 : okM 123 := ⟨tbm 1167 ⟨rfl, by decide +kernel⟩, rfl, by decide +kernel, by decide +kernel, tbm 1 (by decide +kernel), Nat.le_of_ble_eq_true rfl, rfl⟩
set_option maxRecDepth 100000 in
theorem om124 : okM 124 := ⟨tbm 1132 ⟨rfl, by decide +kernel⟩, rfl, by decide +kernel, by decide +kernel, tbm 1 (by decide +kernel), Nat.le_of_ble_eq_true rfl, rfl⟩
set_option maxRecDepth 100000 in
theorem om125 : okM 125 := ⟨tbm 1144 ⟨rfl, by decide +kernel⟩, rfl, by decide +kernel, by decide +kernel, tbm 1 (by decide +kernel), Nat.le_of_ble_eq_true rfl, rfl⟩
set_option maxRecDepth 100000 in
theorem om126 : okM 126 := ⟨tbm 1149 ⟨rfl, by decide +kernel⟩, rfl, by decide +kernel, by decide +kernel, tbm 1 (by decide +kernel), Nat.le_of_ble_eq_true rfl, rfl⟩
set_option maxRecDepth 100000 in
theorem om127 : okM 127 := ⟨tbm 1157 ⟨rfl, by decide +kernel⟩, rfl, by decide +kernel, by decide +kernel, tbm 1 (by decide +kernel), Nat.le_of_ble_eq_true rfl, rfl⟩
set_option maxRecDepth 100000 in
theorem om128 : okM 128 := ⟨tbm 1160 ⟨rfl, by decide +kernel⟩, rfl, by decide +kernel, by decide +kernel, tbm 1 (by decide +kernel), Nat.le_of_ble_eq_true rfl, rfl⟩
set_option maxRecDepth 100000 in
theorem om129 : okM 129 := ⟨tbm 1171 ⟨rfl, by decide +kernel⟩, rfl, by decide +kernel, by decide +kernel, tbm 1 (by decide +kernel), Nat.le_of_ble_eq_true rfl, rfl⟩
set_option maxRecDepth 100000 in
theorem om130 : okM 130 := ⟨tbm 1262 ⟨rfl, by decide +kernel⟩, rfl, by decide +kernel, by decide +kernel, tbm 1 (by decide +kernel), Nat.le_of_ble_eq_true rfl, rfl⟩
set_option maxRecDepth 100000 in
theorem om131 : okM 131 := ⟨tbm 1175 ⟨rfl, by decide +kernel⟩, rfl, by decide +kernel, by decide +kernel, tbm 1 (by decide +kernel), Nat.le_of_ble_eq_true rfl, rfl⟩
set_option maxRecDepth 100000 in
theorem om132 : okM 132 := ⟨tbm 1179 ⟨rfl, by decide +kernel⟩, rfl, by decide +kernel, by decide +kernel, tbm 1 (by decide +kernel), Nat.le_of_ble_eq_true rfl, rfl⟩
set_option maxRecDepth 100000 in
theorem om133 : okM 133 := ⟨tbm 436 ⟨rfl, by decide +kernel⟩, rfl, by decide +kernel, by decide +kernel, tbm 1 (by decide +kernel), Nat.le_of_ble_eq_true rfl, ⟨_, rfl, Or.inl ⟨_, rfl⟩⟩⟩
set_option maxRecDepth 100000 in
theorem om134 : okM 134 := ⟨tbm 985 ⟨rfl, by decide +kernel⟩, rfl, by decide +kernel, by decide +kernel, tbm 1 (by decide +kernel), Nat.le_of_ble_eq_true rfl, ⟨_, rfl, Or.inl ⟨_, rfl⟩⟩⟩
set_option maxRecDepth 100000 in
theorem om135 : okM 135 := ⟨tbm 490 ⟨rfl, by decide +kernel⟩, rfl, by decide +kernel, by decide +kernel, tbm 1 (by decide +kernel), Nat.le_of_ble_eq_true rfl, rfl⟩
set_option maxRecDepth 100000 in
theorem om136 : okM 136 := ⟨tbm 290 ⟨rfl, by decide +kernel⟩, rfl, by decide +kernel, by decide +kernel, tbm 1 (by decide +kernel), Nat.le_of_ble_eq_true rfl, rfl⟩
set_option maxRecDepth 100000 in
theorem om137 : okM 137 := ⟨tbm 1267 ⟨rfl, by decide +kernel⟩, rfl, by decide +kernel, by decide +kernel, tbm 12 (by decide +kernel), Nat.le_of_ble_eq_true rfl, rfl⟩
set_option maxRecDepth 100000 in
theorem om138 : okM 138 := ⟨tbm 1533 ⟨rfl, by decide +kernel⟩, rfl, by decide +kernel, by decide +kernel, tbm 12 (by decide +kernel), Nat.le_of_ble_eq_true rfl, rfl⟩
set_option maxRecDepth 100000 in
theorem om139 : okM 139 := ⟨tbm 1753 ⟨rfl, by decide +kernel⟩, rfl, by decide +kernel, by decide +kernel, tbm 12 (by decide +kernel), Nat.le_of_ble_eq_true rfl, rfl⟩
set_option maxRecDepth 100000 in
theorem om140 : okM 140 := ⟨tbm 1540 ⟨rfl, by decide +kernel⟩, rfl, by decide +kernel, by decide +kernel, tbm 12 (by decide +kernel), Nat.le_of_ble_eq_true rfl, rfl⟩
set_option maxRecDepth 100000 in
theorem om141 : okM 141 := ⟨tbm 1575 ⟨rfl, by decide +kernel⟩, rfl, by decide +kernel, by decide +kernel, tbm 12 (by decide +kernel), Nat.le_of_ble_eq_true rfl, rfl⟩
set_option maxRecDepth 100000 in
theorem om142 : okM 142 := ⟨tbm 1552 ⟨rfl, by decide +kernel⟩, rfl, by decide +kernel, by decide +kernel, tbm 12 (by decide +kernel), Nat.le_of_ble_eq_true rfl, rfl⟩
set_option maxRecDepth 100000 in
theorem om143 : okM 143 := ⟨tbm 1845 ⟨rfl, by decide +kernel⟩, rfl, by decide +kernel, by decide +kernel, tbm 12 (by decide +kernel), Nat.le_of_ble_eq_true rfl, rfl⟩
set_option maxRecDepth 100000 in
theorem om144 : okM 144 := ⟨tbm 1537 ⟨rfl, by decide +kernel⟩, rfl, by decide +kernel, by decide +kernel, tbm 12 (by decide +kernel), Nat.le_of_ble_eq_true rfl, rfl⟩
set_option maxRecDepth 100000 in
theorem om145 : okM 145 := ⟨tbm 1544 ⟨rfl, by decide +kernel⟩, rfl, by decide +kernel, by decide +kernel, tbm 12 (by decide +kernel), Nat.le_of_ble_eq_true rfl, rfl⟩
set_option maxRecDepth 100000 in
theorem om146 : okM 146 := ⟨tbm 1548 ⟨rfl, by decide +kernel⟩, rfl, by decide +kernel, by decide +kernel, tbm 12 (by decide +kernel), Nat.le_of_ble_eq_true rfl, rfl⟩
set_option maxRecDepth 100000 in
theorem om147 : okM 147 := ⟨tbm 1556 ⟨rfl, by decide +kernel⟩, rfl, by decide +kernel, by decide +kernel, tbm 12 (by decide +kernel), Nat.le_of_ble_eq_true rfl, rfl⟩
set_option maxRecDepth 100000 in
theorem om148 : okM 148 := ⟨tbm 1560 ⟨rfl, by decide +kernel⟩, rfl, by decide +kernel, by decide +kernel, tbm 12 (by decide +kernel), Nat.le_of_ble_eq_true rfl, rfl⟩
set_option maxRecDepth 100000 in
theorem om149 : okM 149 := ⟨tbm 1564 ⟨rfl, by decide +kernel⟩, rfl, by decide +kernel, by decide +kernel, tbm 12 (by decide +kernel), Nat.le_of_ble_eq_true rfl, rfl⟩
set_option maxRecDepth 100000 in
theorem om150 : okM 150 := ⟨tbm 1568 ⟨rfl, by decide +kernel⟩, rfl, by decide +kernel, by decide +kernel, tbm 12 (by decide +kernel), Nat.le_of_ble_eq_true rfl, rfl⟩
set_option maxRecDepth 100000 in
theorem om151 : okM 151 := ⟨tbm 1583 ⟨rfl, by decide +kernel⟩, rfl, by decide +kernel, by decide +kernel, tbm 12 (by decide +kernel), Nat.le_of_ble_eq_true rfl, rfl⟩
set_option maxRecDepth 100000 in
theorem om152 : okM 152 := ⟨tbm 1579 ⟨rfl, by decide +kernel⟩, rfl, by decide +kernel, by decide +kernel, tbm 12 (by decide +kernel), Nat.le_of_ble_eq_true rfl, rfl⟩
set_option maxRecDepth 100000 in
theorem om153 : okM 153 := ⟨tbm 1606 ⟨rfl, by decide +kernel⟩, rfl, by decide +kernel, by decide +kernel, tbm 12 (by decide +kernel), Nat.le_of_ble_eq_true rfl, rfl⟩
set_option maxRecDepth 100000 in
theorem om154 : okM 154 := ⟨tbm 1653 ⟨rfl, by decide +kernel⟩, rfl, by decide +kernel, by decide +kernel, tbm 12 (by decide +kernel), Nat.le_of_ble_eq_true rfl, rfl⟩
set_option maxRecDepth 100000 in
theorem om155 : okM 155 := ⟨tbm 1612 ⟨rfl, by decide +kernel⟩, rfl, by decide +kernel, by decide +kernel, tbm 12 (by decide +kernel), Nat.le_of_ble_eq_true rfl, rfl⟩
set_option maxRecDepth 100000 in
theorem om156 : okM 156 := ⟨tbm 1674 ⟨rfl, by decide +kernel⟩, rfl, by decide +kernel, by decide +kernel, tbm 12 (by decide +kernel), Nat.le_of_ble_eq_true rfl, rfl⟩
set_option maxRecDepth 100000 in
theorem om157 : okM 157 := ⟨tbm 1665 ⟨rfl, by decide +kernel⟩, rfl, by decide +kernel, by decide +kernel, tbm 12 (by decide +kernel), Nat.le_of_ble_eq_true rfl, rfl⟩
set_option maxRecDepth 100000 in
theorem om158 : okM 158 := ⟨tbm 1669 ⟨rfl, by decide +kernel⟩, rfl, by decide +kernel, by decide +kernel, tbm 12 (by decide +kernel), Nat.le_of_ble_eq_true rfl, rfl⟩
set_option maxRecDepth 100000 in
theorem om159 : okM 159 := ⟨tbm 1594 ⟨rfl, by decide +kernel⟩, rfl, by decide +kernel, by decide +kernel, tbm 12 (by decide +kernel), Nat.le_of_ble_eq_true rfl, ⟨_, rfl, Or.inl ⟨_, rfl⟩⟩⟩
set_option maxRecDepth 100000 in
theorem om160 : okM 160 := ⟨tbm 1639 ⟨rfl, by decide +kernel⟩, rfl, by decide +kernel, by decide +kernel, tbm 12 (by decide +kernel), Nat.le_of_ble_eq_true rfl, ⟨_, rfl, Or.inl ⟨_, rfl⟩⟩⟩
set_option maxRecDepth 100000 in
theorem om161 : okM 161 := ⟨tbm 1591 ⟨rfl, by decide +kernel⟩, rfl, by decide +kernel, by decide +kernel, tbm 12 (by decide +kernel), Nat.le_of_ble_eq_true rfl, rfl⟩
set_option maxRecDepth 100000 in
theorem om162 : okM 162 := ⟨tbm 1636 ⟨rfl, by decide +kernel⟩, rfl, by decide +kernel, by decide +kernel, tbm 12 (by decide +kernel), Nat.le_of_ble_eq_true rfl, rfl⟩
set_option maxRecDepth 100000 in
theorem om163 : okM 163 := ⟨tbm 1632 ⟨rfl, by decide +kernel⟩, rfl, by decide +kernel, by decide +kernel, tbm 12 (by decide +kernel), Nat.le_of_ble_eq_true rfl, rfl⟩
set_option maxRecDepth 100000 in
theorem om164 : okM 164 := ⟨tbm 1657 ⟨rfl, by decide +kernel⟩, rfl, by decide +kernel, by decide +kernel, tbm 12 (by decide +kernel), Nat.le_of_ble_eq_true rfl, rfl⟩
set_option maxRecDepth 100000 in
theorem om165 : okM 165 := ⟨tbm 1661 ⟨rfl, by decide +kernel⟩, rfl, by decide +kernel, by decide +kernel, tbm 12 (by decide +kernel), Nat.le_of_ble_eq_true rfl, rfl⟩
set_option maxRecDepth 100000 in
theorem om166 : okM 166 := ⟨tbm 1628 ⟨rfl, by decide +kernel⟩, rfl, by decide +kernel, by decide +kernel, tbm 12 (by decide +kernel), Nat.le_of_ble_eq_true rfl, rfl⟩
set_option maxRecDepth 100000 in
theorem om167 : okM 167 := ⟨tbm 1624 ⟨rfl, by decide +kernel⟩, rfl, by decide +kernel, by decide +kernel, tbm 12 (by decide +kernel), Nat.le_of_ble_eq_true rfl, rfl⟩
set_option maxRecDepth 100000 in
theorem om168 : okM 168 := ⟨tbm 1620 ⟨rfl, by decide +kernel⟩, rfl, by decide +kernel, by decide +kernel, tbm 12 (by decide +kernel), Nat.le_of_ble_eq_true rfl, rfl⟩
set_option maxRecDepth 100000 in
theorem om169 : okM 169 := ⟨tbm 1686 ⟨rfl, by decide +kernel⟩, rfl, by decide +kernel, by decide +kernel, tbm 12 (by decide +kernel), Nat.le_of_ble_eq_true rfl, rfl⟩
set_option maxRecDepth 100000 in
theorem om170 : okM 170 := ⟨tbm 1682 ⟨rfl, by decide +kernel⟩, rfl, by decide +kernel, by decide +kernel, tbm 12 (by decide +kernel), Nat.le_of_ble_eq_true rfl, rfl⟩
set_option maxRecDepth 100000 in
theorem om171 : okM 171 := ⟨tbm 1678 ⟨rfl, by decide +kernel⟩, rfl, by decide +kernel, by decide +kernel, tbm 12 (by decide +kernel), Nat.le_of_ble_eq_true rfl, rfl⟩
set_option maxRecDepth 100000 in
theorem om172 : okM 172 := ⟨tbm 1587 ⟨rfl, by decide +kernel⟩, rfl, by decide +kernel, by decide +kernel, tbm 12 (by decide +kernel), Nat.le_of_ble_eq_true rfl, rfl⟩
set_option maxRecDepth 100000 in
theorem om173 : okM 173 := ⟨tbm 1616 ⟨rfl, by decide +kernel⟩, rfl, by decide +kernel, by decide +kernel, tbm 12 (by decide +kernel), Nat.le_of_ble_eq_true rfl, rfl⟩
set_option maxRecDepth 100000 in
theorem om174 : okM 174 := ⟨tbm 1572 ⟨rfl, by decide +kernel⟩, rfl, by decide +kernel, by decide +kernel, tbm 12 (by decide +kernel), Nat.le_of_ble_eq_true rfl, rfl⟩
set_option maxRecDepth 100000 in
theorem om175 : okM 175 := ⟨tbm 1693 ⟨rfl, by decide +kernel⟩, rfl, by decide +kernel, by decide +kernel, tbm 12 (by decide +kernel), Nat.le_of_ble_eq_true rfl, rfl⟩
set_option maxRecDepth 100000 in
theorem om176 : okM 176 := ⟨tbm 1697 ⟨rfl, by decide +kernel⟩, rfl, by decide +kernel, by decide +kernel, tbm 12 (by decide +kernel), Nat.le_of_ble_eq_true rfl, rfl⟩
set_option maxRecDepth 100000 in
theorem om177 : okM 177 := ⟨tbm 1736 ⟨rfl, by decide +kernel⟩, rfl, by decide +kernel, by decide +kernel, tbm 12 (by decide +kernel), Nat.le_of_ble_eq_true rfl, rfl⟩
set_option maxRecDepth 100000 in
theorem om178 : okM 178 := ⟨tbm 1733 ⟨rfl, by decide +kernel⟩, rfl, by decide +kernel, by decide +kernel, tbm 12 (by decide +kernel), Nat.le_of_ble_eq_true rfl, rfl⟩
set_option maxRecDepth 100000 in
theorem om179 : okM 179 := ⟨tbm 1741 ⟨rfl, by decide +kernel⟩, rfl, by decide +kernel, by decide +kernel, tbm 12 (by decide +kernel), Nat.le_of_ble_eq_true rfl, rfl⟩
set_option maxRecDepth 100000 in
theorem om180 : okM 180 := ⟨tbm 1721 ⟨rfl, by decide +kernel⟩, rfl, by decide +kernel, by decide +kernel, tbm 12 (by decide +kernel), Nat.le_of_ble_eq_true rfl, rfl⟩
set_option maxRecDepth 100000 in
theorem om181 : okM 181 := ⟨tbm 1729 ⟨rfl, by decide +kernel⟩, rfl, by decide +kernel, by decide +kernel, tbm 12 (by decide +kernel), Nat.le_of_ble_eq_true rfl, rfl⟩
set_option maxRecDepth 100000 in
theorem om182 : okM 182 := ⟨tbm 1748 ⟨rfl, by decide +kernel⟩, rfl, by decide +kernel, by decide +kernel, tbm 12 (by decide +kernel), Nat.le_of_ble_eq_true rfl, rfl⟩
set_option maxRecDepth 100000 in
theorem om183 : okM 183 := ⟨tbm 1717 ⟨rfl, by decide +kernel⟩, rfl, by decide +kernel, by decide +kernel, tbm 12 (by decide +kernel), Nat.le_of_ble_eq_true rfl, rfl⟩
set_option maxRecDepth 100000 in
theorem om184 : okM 184 := ⟨tbm 1725 ⟨rfl, by decide +kernel⟩, rfl, by decide +kernel, by decide +kernel, tbm 12 (by decide +kernel), Nat.le_of_ble_eq_true rfl, rfl⟩
set_option maxRecDepth 100000 in
theorem om185 : okM 185 := ⟨tbm 1713 ⟨rfl, by decide +kernel⟩, rfl, by decide +kernel, by decide +kernel, tbm 12 (by decide +kernel), Nat.le_of_ble_eq_true rfl, rfl⟩
set_option maxRecDepth 100000 in
theorem om186 : okM 186 := ⟨tbm 1744 ⟨rfl, by decide +kernel⟩, rfl, by decide +kernel, by decide +kernel, tbm 12 (by decide +kernel), Nat.le_of_ble_eq_true rfl, rfl⟩
set_option maxRecDepth 100000 in
theorem om187 : okM 187 := ⟨tbm 1709 ⟨rfl, by decide +kernel⟩, rfl, by decide +kernel, by decide +kernel, tbm 12 (by decide +kernel), Nat.le_of_ble_eq_true rfl, rfl⟩
set_option maxRecDepth 100000 in
theorem om188 : okM 188 := ⟨tbm 1785 ⟨rfl, by decide +kernel⟩, rfl, by decide +kernel, by decide +kernel, tbm 12 (by decide +kernel), Nat.le_of_ble_eq_true rfl, rfl⟩
set_option maxRecDepth 100000 in
theorem om189 : okM 189 := ⟨tbm 1705 ⟨rfl, by decide +kernel⟩, rfl, by decide +kernel, by decide +kernel, tbm 12 (by decide +kernel), Nat.le_of_ble_eq_true rfl, rfl⟩
set_option maxRecDepth 100000 in
theorem om190 : okM 190 := ⟨tbm 1701 ⟨rfl, by decide +kernel⟩, rfl, by decide +kernel, by decide +kernel, tbm 12 (by decide +kernel), Nat.le_of_ble_eq_true rfl, rfl⟩
set_option maxRecDepth 100000 in
theorem om191 : okM 191 := ⟨tbm 1757 ⟨rfl, by decide +kernel⟩, rfl, by decide +kernel, by decide +kernel, tbm 12 (by decide +kernel), Nat.le_of_ble_eq_true rfl, rfl⟩
set_option maxRecDepth 100000 in
theorem om192 : okM 192 := ⟨tbm 1761 ⟨rfl, by decide +kernel⟩, rfl, by decide +kernel, by decide +kernel, tbm 12 (by decide +kernel), Nat.le_of_ble_eq_true rfl, rfl⟩
set_option maxRecDepth 100000 in
theorem om193 : okM 193 := ⟨tbm 1765 ⟨rfl, by decide +kernel⟩, rfl, by decide +kernel, by decide +kernel, tbm 12 (by decide +kernel), Nat.le_of_ble_eq_true rfl, rfl⟩
set_option maxRecDepth 100000 in
theorem om194 : okM 194 := ⟨tbm 1769 ⟨rfl, by decide +kernel⟩, rfl, by decide +kernel, by decide +kernel, tbm 12 (by decide +kernel), Nat.le_of_ble_eq_true rfl, rfl⟩
set_option maxRecDepth 100000 in
theorem om195 : okM 195 := ⟨tbm 1789 ⟨rfl, by decide +kernel⟩, rfl, by decide +kernel, by decide +kernel, tbm 12 (by decide +kernel), Nat.le_of_ble_eq_true rfl, rfl⟩
set_option maxRecDepth 100000 in
theorem om196 : okM 196 := ⟨tbm 1793 ⟨rfl, by decide +kernel⟩, rfl, by decide +kernel, by decide +kernel, tbm 12 (by decide +kernel), Nat.le_of_ble_eq_true rfl, rfl⟩
set_option maxRecDepth 100000 in
theorem om197 : okM 197 := ⟨tbm 1781 ⟨rfl, by decide +kernel⟩, rfl, by decide +kernel, by decide +kernel, tbm 12 (by decide +kernel), Nat.le_of_ble_eq_true rfl, rfl⟩
set_option maxRecDepth 100000 in
theorem om198 : okM 198 := ⟨tbm 1777 ⟨rfl, by decide +kernel⟩, rfl, by decide +kernel, by decide +kernel, tbm 12 (by decide +kernel), Nat.le_of_ble_eq_true rfl, rfl⟩
set_option maxRecDepth 100000 in
theorem om199 : okM 199 := ⟨tbm 1773 ⟨rfl, by decide +kernel⟩, rfl, by decide +kernel, by decide +kernel, tbm 12 (by decide +kernel), Nat.le_of_ble_eq_true rfl, rfl⟩
set_option maxRecDepth 100000 in
theorem om200 : okM 200 := ⟨tbm 1797 ⟨rfl, by decide +kernel⟩, rfl, by decide +kernel, by decide +kernel, tbm 12 (by decide +kernel), Nat.le_of_ble_eq_true rfl, rfl⟩
set_option maxRecDepth 100000 in
theorem om201 : okM 201 := ⟨tbm 1801 ⟨rfl, by decide +kernel⟩, rfl, by decide +kernel, by decide +kernel, tbm 12 (by decide +kernel), Nat.le_of_ble_eq_true rfl, rfl⟩
set_option maxRecDepth 100000 in
theorem om202 : okM 202 := ⟨tbm 1805 ⟨rfl, by decide +kernel⟩, rfl, by decide +kernel, by decide +kernel, tbm 12 (by decide +kernel), Nat.le_of_ble_eq_true rfl, rfl⟩
set_option maxRecDepth 100000 in
theorem om203 : okM 203 := ⟨tbm 1809 ⟨rfl, by decide +kernel⟩, rfl, by decide +kernel, by decide +kernel, tbm 12 (by decide +kernel), Nat.le_of_ble_eq_true rfl, rfl⟩
set_option maxRecDepth 100000 in
theorem om204 : okM 204 := ⟨tbm 1813 ⟨rfl, by decide +kernel⟩, rfl, by decide +kernel, by decide +kernel, tbm 12 (by decide +kernel), Nat.le_of_ble_eq_true rfl, rfl⟩
set_option maxRecDepth 100000 in
theorem om205 : okM 205 := ⟨tbm 1825 ⟨rfl, by decide +kernel⟩, rfl, by decide +kernel, by decide +kernel, tbm 12 (by decide +kernel), Nat.le_of_ble_eq_true rfl, rfl⟩
set_option maxRecDepth 100000 in
theorem om206 : okM 206 := ⟨tbm 1821 ⟨rfl, by decide +kernel⟩, rfl, by decide +kernel, by decide +kernel, tbm 12 (by decide +kernel), Nat.le_of_ble_eq_true rfl, rfl⟩
set_option maxRecDepth 100000 in
theorem om207 : okM 207 := ⟨tbm 1817 ⟨rfl, by decide +kernel⟩, rfl, by decide +kernel, by decide +kernel, tbm 12 (by decide +kernel), Nat.le_of_ble_eq_true rfl, rfl⟩
set_option maxRecDepth 100000 in
theorem om208 : okM 208 := ⟨tbm 1829 ⟨rfl, by decide +kernel⟩, rfl, by decide +kernel, by decide +kernel, tbm 12 (by decide +kernel), Nat.le_of_ble_eq_true rfl, rfl⟩
set_option maxRecDepth 100000 in
theorem om209 : okM 209 := ⟨tbm 1833 ⟨rfl, by decide +kernel⟩, rfl, by decide +kernel, by decide +kernel, tbm 12 (by decide +kernel), Nat.le_of_ble_eq_true rfl, rfl⟩
set_option maxRecDepth 100000 in
theorem om210 : okM 210 := ⟨tbm 1837 ⟨rfl, by decide +kernel⟩, rfl, by decide +kernel, by decide +kernel, tbm 12 (by decide +kernel), Nat.le_of_ble_eq_true rfl, rfl⟩
set_option maxRecDepth 100000 in
theorem om211 : okM 211 := ⟨tbm 1841 ⟨rfl, by decide +kernel⟩, rfl, by decide +kernel, by decide +kernel, tbm 12 (by decide +kernel), Nat.le_of_ble_eq_true rfl, rfl⟩
set_option maxRecDepth 100000 in
theorem om212 : okM 212 := ⟨tbm 1849 ⟨rfl, by decide +kernel⟩, rfl, by decide +kernel, by decide +kernel, tbm 12 (by decide +kernel), Nat.le_of_ble_eq_true rfl, rfl⟩
set_option maxRecDepth 100000 in
theorem om213 : okM 213 := ⟨tbm 1853 ⟨rfl, by decide +kernel⟩, rfl, by decide +kernel, by decide +kernel, tbm 12 (by decide +kernel), Nat.le_of_ble_eq_true rfl, rfl⟩
set_option maxRecDepth 100000 in
theorem om214 : okM 214 := ⟨tbm 1857 ⟨rfl, by decide +kernel⟩, rfl, by decide +kernel, by decide +kernel, tbm 12 (by decide +kernel), Nat.le_of_ble_eq_true rfl, rfl⟩
set_option maxRecDepth 100000 in
theorem om215 : okM 215 := ⟨tbm 1861 ⟨rfl, by decide +kernel⟩, rfl, by decide +kernel, by decide +kernel, tbm 12 (by decide +kernel), Nat.le_of_ble_eq_true rfl, rfl⟩
set_option maxRecDepth 100000 in
theorem om216 : okM 216 := ⟨tbm 1865 ⟨rfl, by decide +kernel⟩, rfl, by decide +kernel, by decide +kernel, tbm 12 (by decide +kernel), Nat.le_of_ble_eq_true rfl, rfl⟩
set_option maxRecDepth 100000 in
theorem om217 : okM 217 := ⟨tbm 1869 ⟨rfl, by decide +kernel⟩, rfl, by decide +kernel, by decide +kernel, tbm 12 (by decide +kernel), Nat.le_of_ble_eq_true rfl, rfl⟩
set_option maxRecDepth 100000 in
theorem om218 : okM 218 := ⟨tbm 1877 ⟨rfl, by decide +kernel⟩, rfl, by decide +kernel, by decide +kernel, tbm 12 (by decide +kernel), Nat.le_of_ble_eq_true rfl, rfl⟩
set_option maxRecDepth 100000 in
theorem om219 : okM 219 := ⟨tbm 1873 ⟨rfl, by decide +kernel⟩, rfl, by decide +kernel, by decide +kernel, tbm 12 (by decide +kernel), Nat.le_of_ble_eq_true rfl, rfl⟩
set_option maxRecDepth 100000 in
theorem om220 : okM 220 := ⟨tbm 1885 ⟨rfl, by decide +kernel⟩, rfl, by decide +kernel, by decide +kernel, tbm 12 (by decide +kernel), Nat.le_of_ble_eq_true rfl, rfl⟩
set_option maxRecDepth 100000 in
theorem om221 : okM 221 := ⟨tbm 1881 ⟨rfl, by decide +kernel⟩, rfl, by decide +kernel, by decide +kernel, tbm 12 (by decide +kernel), Nat.le_of_ble_eq_true rfl, rfl⟩
set_option maxRecDepth 100000 in
theorem om222 : okM 222 := ⟨tbm 1890 ⟨rfl, by decide +kernel⟩, rfl, by decide +kernel, by decide +kernel, tbm 12 (by decide +kernel), Nat.le_of_ble_eq_true rfl, rfl⟩
set_option maxRecDepth 100000 in
theorem om223 : okM 223 := ⟨tbm 1899 ⟨rfl, by decide +kernel⟩, rfl, by decide +kernel, by decide +kernel, tbm 12 (by decide +kernel), Nat.le_of_ble_eq_true rfl, rfl⟩
set_option maxRecDepth 100000 in
theorem om224 : okM 224 := ⟨tbm 1894 ⟨rfl, by decide +kernel⟩, rfl, by decide +kernel, by decide +kernel, tbm 12 (by decide +kernel), Nat.le_of_ble_eq_true rfl, rfl⟩
set_option maxRecDepth 100000 in
theorem om225 : okM 225 := ⟨tbm 1903 ⟨rfl, by decide +kernel⟩, rfl, by decide +kernel, by decide +kernel, tbm 12 (by decide +kernel), Nat.le_of_ble_eq_true rfl, rfl⟩
set_option maxRecDepth 100000 in
theorem om226 : okM 226 := ⟨tbm 1912 ⟨rfl, by decide +kernel⟩, rfl, by decide +kernel, by decide +kernel, tbm 12 (by decide +kernel), Nat.le_of_ble_eq_true rfl, rfl⟩
set_option maxRecDepth 100000 in
theorem om227 : okM 227 := ⟨tbm 1926 ⟨rfl, by decide +kernel⟩, rfl, by decide +kernel, by decide +kernel, tbm 12 (by decide +kernel), Nat.le_of_ble_eq_true rfl, rfl⟩
set_option maxRecDepth 100000 in
theorem om228 : okM 228 := ⟨tbm 1922 ⟨rfl, by decide +kernel⟩, rfl, by decide +kernel, by decide +kernel, tbm 12 (by decide +kernel), Nat.le_of_ble_eq_true rfl, rfl⟩
set_option maxRecDepth 100000 in
theorem om229 : okM 229 := ⟨tbm 1908 ⟨rfl, by decide +kernel⟩, rfl, by decide +kernel, by decide +kernel, tbm 12 (by decide +kernel), Nat.le_of_ble_eq_true rfl, rfl⟩
set_option maxRecDepth 100000 in
theorem om230 : okM 230 := ⟨tbm 1930 ⟨rfl, by decide +kernel⟩, rfl, by decide +kernel, by decide +kernel, tbm 12 (by decide +kernel), Nat.le_of_ble_eq_true rfl, rfl⟩
set_option maxRecDepth 100000 in
theorem om231 : okM 231 := ⟨tbm 1934 ⟨rfl, by decide +kernel⟩, rfl, by decide +kernel, by decide +kernel, tbm 12 (by decide +kernel), Nat.le_of_ble_eq_true rfl, rfl⟩
set_option maxRecDepth 100000 in
theorem om232 : okM 232 := ⟨tbm 1938 ⟨rfl, by decide +kernel⟩, rfl, by decide +kernel, by decide +kernel, tbm 12 (by decide +kernel), Nat.le_of_ble_eq_true rfl, rfl⟩
set_option maxRecDepth 100000 in
theorem om233 : okM 233 := ⟨tbm 1942 ⟨rfl, by decide +kernel⟩, rfl, by decide +kernel, by decide +kernel, tbm 12 (by decide +kernel), Nat.le_of_ble_eq_true rfl, rfl⟩
set_option maxRecDepth 100000 in
theorem om234 : okM 234 := ⟨tbm 1946 ⟨rfl, by decide +kernel⟩, rfl, by decide +kernel, by decide +kernel, tbm 12 (by decide +kernel), Nat.le_of_ble_eq_true rfl, rfl⟩
