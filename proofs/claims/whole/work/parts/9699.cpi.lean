section SIMQ7
variable {D : va_G} {G : xG} {A : Nat → Prop} {mid d : Nat} {p : Program} {lc : Launch} {e : Env} {R : Room} {s : State} {m : MethodId} {args : Array Value} {below : List Frame} {meth : Method} {c : Code} {Z : State → Prop} {ad0 : sA} {b0 : Nat × Nat} {pc : Nat} {l : aL} {st r : List aV} {σ : aM}
theorem met_cpi {ws : va_W} {tys : List (ClassId × FieldType)} {H : Heap} {q1 t0 ba n k : Nat} {cA : ClassId} {f : Nat → Int32} (h1 : ws[q1]? = some (ba, .inl (cA, n, .inl f))) (ht : tys[t0]? = some (cA, .int)) (hk : k ≤ n) (hn : n ≤ 100000) : Met lc y_cpi (Cond.code y_cpi prog_34_method_123_code 3 (some (.array .int)) :: tb) { frames := 1, cells := 1, slots := k, locals := 60 } (va_Pc [.ref ba, .int (nI k)] (PW D G A ws tys H)) (va_Qq (fun r (u : va_W × List (ClassId × FieldType)) => ∃ (q : Nat) (cB : ClassId) (f9 : Nat → Int32), r = some q ∧ u.1 = ws ++ [(q, .inl (cB, k, .inl f9))] ∧ u.2[tys.length]? = some (cB, .int) ∧ (∀ j, j < k → f9 j = f j) ∧ keepT tys u.2) (QW D A) A) 1 k A := by
  refine Met.ofW (cc := prog_34_method_123_code) (maxL := 3) (ret := (some (.array .int))) (by decide +kernel) rfl ?_
  intro p e s m args below meth c s₁ B hml hv
  obtain ⟨rfl, hh, hP, hK, hD, hxf, hWn, hA⟩ := hv
  subst hh
  have hx := B.exec
  have hb := B.bytes
  have hr := B.returns
  have hts := atoms_spec (ws := Cond.code y_cpi prog_34_method_123_code 3 (some (.array .int)) :: tb) B.pre
  have hts2 : ∀ w ∈ tb, w.before _ s = true := fun w hw => hts w (List.mem_cons_of_mem _ hw)
  have hown : s.vm.findClass "java/util/Arrays" = some m.cls := findClass_of_methodNamed B.named
  have hlocks := B.notSynchronized
  have hS0 : va_S A s.heap s.heap [] := va_S.rf
  have hS5 : CallFix p m c prog_34_method_123_code 3 s _ tb "java/util/Arrays" := ⟨hx, hb, hml, hown, hts2⟩
  have hl := lv_entry ([.ref ba, .int (nI k)]) (n := 3) (Nat.le_of_ble_eq_true rfl)
  rw [lg_entry_eq]
  generalize (lg_sl ([.ref ba, .int (nI k)]) ++ List.replicate (3 - (lg_sl ([.ref ba, .int (nI k)])).length) Slot.unset).toArray = ls at hl ⊢
  have hl : lv_has ls 3 [(0, .ref ba), (1, .int (nI k))] := hl
  have hnm : s.vm.findClass "[I" = some cA := va_nm_int (hK.2 t0 _ ht).2
  refine lv_iload_n hx hb (show decode prog_34_method_123_code 0 = .ok (.iload_n 1, 1) by decide +kernel) rfl (lv_at hl 1 rfl) ?_
  refine lv_aload_n hx hb (show decode prog_34_method_123_code 1 = .ok (.aload_n 0, 1) by decide +kernel) rfl (lv_at hl 0 rfl) ?_
  refine va_alen hx hb hK hP q1 t0 h1 ht (v := nI n) rfl (show decode prog_34_method_123_code 2 = .ok (.arraylength, 1) by decide +kernel) ?_
  rcases Nat.lt_or_ge k n with hlt | hge
  · refine lv_icmp_ne hx hb (show decode prog_34_method_123_code 3 = .ok (.if_icmp .ne 11, 3) by decide +kernel) (tgt := 14) rfl (fun hbr => ?_) (fun h => absurd h (fun e => absurd ((nI_eq (by omega) (by omega)).mp e) (by omega)))
    refine lv_iload_n hx hb (show decode prog_34_method_123_code 14 = .ok (.iload_n 1, 1) by decide +kernel) rfl (lv_at hl 1 rfl) ?_
    refine va_newa (atype := .int) (ty := .int) (a0 := (k, .inl fun _ => 0)) hx hb (hts2 _ ok_arr.1) rfl hK hP hD hS0 hA (n := nI k) (N' := k) (fun _ => rfl) (nI_pos (by omega)) (nI_clamp (by omega)) (by show k * 4 ≤ _; omega) (Nat.le_of_ble_eq_true rfl) (by show 0 + k ≤ k; omega) (show decode prog_34_method_123_code 15 = .ok (.newarray .int, 2) by decide +kernel) (fun q cB H1 hK1 hP1 hD1 hS1 => ?_)
    refine lv_astore_n hx hb (show decode prog_34_method_123_code 17 = .ok (.astore_n 2, 1) by decide +kernel) rfl hl (by decide) rfl (fun ls hl => ?_)
    refine lv_aload_n hx hb (show decode prog_34_method_123_code 18 = .ok (.aload_n 0, 1) by decide +kernel) rfl (lv_at hl 1 rfl) ?_
    refine lv_iconst hx hb (v := nI 0) (show decode prog_34_method_123_code 19 = .ok (.iconst 0, 1) by decide +kernel) (by decide +kernel) ?_
    refine lv_aload_n hx hb (show decode prog_34_method_123_code 20 = .ok (.aload_n 2, 1) by decide +kernel) rfl (lv_at hl 0 rfl) ?_
    refine lv_iconst hx hb (v := nI 0) (show decode prog_34_method_123_code 21 = .ok (.iconst 0, 1) by decide +kernel) (by decide +kernel) ?_
    refine lv_aload_n hx hb (show decode prog_34_method_123_code 22 = .ok (.aload_n 0, 1) by decide +kernel) rfl (lv_at hl 1 rfl) ?_
    refine va_alen hx hb hK1 hP1 q1 t0 (app_lt h1) (app_lt ht) (v := nI n) rfl (show decode prog_34_method_123_code 23 = .ok (.arraylength, 1) by decide +kernel) ?_
    refine lv_iload_n hx hb (show decode prog_34_method_123_code 24 = .ok (.iload_n 1, 1) by decide +kernel) rfl (lv_at hl 2 rfl) ?_
    refine va_mmin hx hb (hml.trans hl.1.symm) hown (hts2 _ (tbm 230 (by decide +kernel))) (hts2 _ (tbm 231 (by decide +kernel))) (hts2 _ (tbm 9 (by decide +kernel))) (hts2 _ ok_mnC) (Nat.le_of_ble_eq_true rfl) (Nat.le_of_ble_eq_true rfl) (Nat.le_of_ble_eq_true rfl) (by show 0 + k ≤ k; omega) (show decode prog_34_method_123_code 25 = .ok (.invokestatic 304, 3) by decide +kernel) ?_
    refine lv_topi (fun z1 hz1 => ?_)
    have hz1 : z1 = nI k := hz1.trans (if_pos (nI_lt hlt (by omega)))
    subst hz1
    refine va_copyi hx hb (hml.trans hl.1.symm) hown (hts2 _ (tbm 233 (by decide +kernel))) (hts2 _ (tbm 235 (by decide +kernel))) (hts2 _ (tbm 234 (by decide +kernel))) (hts2 _ (tbm 11 (by decide +kernel))) hK1 hP1 hD1 hS1 q1 ws.length t0 tys.length (ty := .int) (app_lt h1) app_at (app_lt ht) app_at rfl (sp := nI 0) (dp := nI 0) (n := nI k) (nI_pos (by omega)) (nI_pos (by omega)) (nI_pos (by omega)) (by rw [nI_clamp (by omega), nI_clamp (by omega)]; omega) (by rw [nI_clamp (by omega), nI_clamp (by omega)]; omega) (fun i hi => rfl) (Nat.le_of_ble_eq_true rfl) (Nat.le_of_ble_eq_true rfl) (show decode prog_34_method_123_code 28 = .ok (.invokestatic 150, 3) by decide +kernel) (fun H2 locs2 hP2 hD2 hS2 => ?_)
    simp only [nI_clamp (show 0 < 2 ^ 31 by omega), nI_clamp (show k < 2 ^ 31 by omega)] at hP2 hD2
    refine lv_aload_n hx hb (show decode prog_34_method_123_code 31 = .ok (.aload_n 2, 1) by decide +kernel) rfl (lv_at hl 0 rfl) ?_
    refine W.widen (k := 1) (n := k) (Nat.le_of_ble_eq_true rfl) (by show 0 + k ≤ k; omega) ?_
    have he : (ws ++ [(q, (Sum.inl (cB, k, Sum.inl fun _ => (0 : Int32)) : va_E))]).set ws.length (q, Sum.inl (cB, k, Sum.inl (va_cpy f (fun _ => 0) 0 0 k))) = ws ++ [(q, Sum.inl (cB, k, Sum.inl (va_cpy f (fun _ => 0) 0 0 k)))] := by simp
    exact W.aret hx hb hr (Or.inr ⟨_, rfl⟩) (Or.inr ⟨_, rfl⟩) (fun t ht9 hW => ⟨⟨some q, (_, _), rfl, ⟨q, cB, _, rfl, he, app_at, fun j hj => (pk_cpy_in (by omega) (by omega)).trans (congrArg f (by omega)), keepT.app⟩, by rw [ht9]; exact hP2, hK1.moved hW.alike, hD2⟩, hS2.F ht9⟩) hS2.2.2 (show decode prog_34_method_123_code 32 = .ok (.areturn, 1) by decide +kernel) hlocks
  · obtain rfl : n = k := by omega
    refine lv_icmp_ne hx hb (show decode prog_34_method_123_code 3 = .ok (.if_icmp .ne 11, 3) by decide +kernel) (tgt := 14) rfl (fun h => absurd (rfl) h) (fun hbr => ?_)
    refine lv_aload_n hx hb (show decode prog_34_method_123_code 6 = .ok (.aload_n 0, 1) by decide +kernel) rfl (lv_at hl 0 rfl) ?_
    refine va_clone hx hb (hml.trans hl.1.symm) hown (hts2 _ (tbm 739 (by decide +kernel))) (hts2 _ (tbm 740 (by decide +kernel))) (hts2 _ (tbm 741 (by decide +kernel))) (hts2 _ (tbm 742 (by decide +kernel))) (hts2 _ (tbm 743 (by decide +kernel))) hWn.2.2.2.1 hK hP hD hS0 hA q1 t0 h1 ht hnm (va_fit fun i hi => rfl) (Nat.le_of_ble_eq_true rfl) (Nat.le_of_ble_eq_true rfl) (Nat.le_of_ble_eq_true rfl) (by show 0 + n ≤ n; omega) (show decode prog_34_method_123_code 7 = .ok (.invokevirtual 316, 3) by decide +kernel) (fun q H1 hK1 hP1 hD1 hS1 => ?_)
    refine va_castA hx hb hown (hts2 _ (tbm 745 (by decide +kernel))) hP1 ws.length app_at hnm (show decode prog_34_method_123_code 10 = .ok (.checkcast 317, 3) by decide +kernel) ?_
    refine W.widen (k := 1) (n := n) (Nat.le_of_ble_eq_true rfl) (by show 0 + n ≤ n; omega) ?_
    exact W.aret hx hb hr (Or.inr ⟨_, rfl⟩) (Or.inr ⟨_, rfl⟩) (fun t ht9 hW => ⟨⟨some q, (_, _), rfl, ⟨q, cA, f, rfl, rfl, app_at, fun j hj => rfl, keepT.app⟩, by rw [ht9]; exact hP1, hK1.moved hW.alike, hD1⟩, hS1.F ht9⟩) hS1.2.2 (show decode prog_34_method_123_code 13 = .ok (.areturn, 1) by decide +kernel) hlocks
end SIMQ7
