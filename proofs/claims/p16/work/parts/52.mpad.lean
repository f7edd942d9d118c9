set_option maxHeartbeats 1000000 in
set_option maxRecDepth 100000 in
theorem m_say (l : Launch) (G : Gy) (sz : Nat) (h1 : Nat) (v_sites : Value) (v_maps : Value) (v_told : Value) (v_kinds : Value) (v_land : Value) (v_spades : Value) (v_part : Value) (v_slips : Value) (v_slipMany : Value) (v_made : Value) (v_queue : Value) (v_depth : Value) (v_by : Value) (v_from : Value) (v_come : Value) (v_offOf : Value) (v_parent : Value) (v_best : Value) (v_trees : Value) (v_least : Value) (v_sums : Value) (v_toward : Value) (v_kept : Value) (v_isKept : Value) (v_keptAt : Value) (v_isWriting : Value) (a_pad : Nat) (pm : Nat) (fd : Nat → Int32) (p0 : Int32) (hpm : pm ≤ 40) : Ci l G yX10_say wsX10_say ({ frames := 1, cells := 0, slots := 0, locals := 25 }) [.ref h1, .int p0] ([(h1, .inr (6, [v_sites, v_maps, v_told, v_kinds, v_land, v_spades, v_part, .ref a_pad, .int (nI pm), v_slips, v_slipMany, v_made, v_queue, v_depth, v_by, v_from, v_come, v_offOf, v_parent, v_best, v_trees, v_least, v_sums, v_toward, v_kept, v_isKept, v_keptAt, v_isWriting])), (a_pad, .inl (gI G, 40, .inl fd))]) sz (fun (r : Int32) (u : Nat × (Nat → Int32)) => match u with | (pm1, fd1) => (¬ inR p0 33 126 ∧ r = (-2) ∧ pm1 = pm ∧ fd1 = fd) ∨ (inR p0 33 126 ∧ pm = 40 ∧ r = (-4) ∧ pm1 = pm ∧ fd1 = fd) ∨ (inR p0 33 126 ∧ pm < 40 ∧ r = nI (pm + 1) ∧ pm1 = pm + 1 ∧ fd1 = upd fd pm p0)) (fun (u : Nat × (Nat → Int32)) => match u with | (pm1, fd1) => [(h1, .inr (6, [v_sites, v_maps, v_told, v_kinds, v_land, v_spades, v_part, .ref a_pad, .int (nI pm1), v_slips, v_slipMany, v_made, v_queue, v_depth, v_by, v_from, v_come, v_offOf, v_parent, v_best, v_trees, v_least, v_sums, v_toward, v_kept, v_isKept, v_keptAt, v_isWriting])), (a_pad, .inl (gI G, 40, .inl fd1))]) 0 0 := by
  refine Met.ofW (cc := cX10_say) (maxL := 2) (ret := (some .int)) (by decide) rfl ?_
  intro p e s m args below meth c s₁ B hml hv
  obtain ⟨rfl, hsz, hP, hD0, E0⟩ := hv
  have hx := B.exec
  have hb := B.bytes
  have hr := B.returns
  have hts := atoms_spec (ws := wsX10_say) B.pre
  have hown : s.vm.findClass RX10 = some m.cls := findClass_of_methodNamed B.named
  have hlocks := B.notSynchronized
  subst hsz
  have hD := hD0.self (sz := s.heap.size)
  generalize hAe : va_A ([(h1, .inr (6, [v_sites, v_maps, v_told, v_kinds, v_land, v_spades, v_part, .ref a_pad, .int (nI pm), v_slips, v_slipMany, v_made, v_queue, v_depth, v_by, v_from, v_come, v_offOf, v_parent, v_best, v_trees, v_least, v_sums, v_toward, v_kept, v_isKept, v_keptAt, v_isWriting])), (a_pad, .inl (gI G, 40, .inl fd))]) s.heap.size = A at hD E0 ⊢
  have E : EV G A s s.heap := E0
  have hA : ∀ q : Nat, s.heap.size ≤ q → A q := fun q h => by rw [← hAe]; exact Or.inr h
  have hS : va_S A s.heap s.heap [] := va_S.rf
  have hl := lv_entry ([.ref h1, .int p0]) (n := 2) (Nat.le_of_ble_eq_true rfl)
  rw [lg_entry_eq]
  generalize (lg_sl ([.ref h1, .int p0]) ++ List.replicate (2 - (lg_sl ([.ref h1, .int p0])).length) Slot.unset).toArray = ls at hl ⊢
  have hl : lv_has ls 2 [(0, .ref h1), (1, .int p0)] := hl
  have hP : va_P G.1 vwCl ([(h1, .inr (6, [v_sites, v_maps, v_told, v_kinds, v_land, v_spades, v_part, .ref a_pad, .int (nI pm), v_slips, v_slipMany, v_made, v_queue, v_depth, v_by, v_from, v_come, v_offOf, v_parent, v_best, v_trees, v_least, v_sums, v_toward, v_kept, v_isKept, v_keptAt, v_isWriting])), (a_pad, .inl (gI G, 40, .inl fd))]) s.heap := hP
  refine lv_iload_n hx hb dX10_say_0 rfl (lv_at hl 1 rfl) ?_
  refine lv_i2l hx hb dX10_say_1 rfl ?_
  refine lv_topl (fun x1 ex1 => ?_)
  refine lv_ldc2 (v := 33) hx hb hown (hts (.constantLong RX10 99 (33)) (by decide +kernel)) dX10_say_2 ?_
  refine lv_ldc2 (v := 126) hx hb hown (hts (.constantLong RX10 101 (126)) (by decide +kernel)) dX10_say_5 ?_
  refine ca_iR (va_runS (As := [.long x1, .long 33, .long 126]) (rest := []) ⟨hx, hb, hml, hown, hts⟩ (m_in l G s.heap.size x1 33 126 p0 33 126 ex1 (by decide) (by decide)) (va_cwS 3 hts gX10_say_X10_in rfl rfl rfl (by decide +kernel) ⟨by decide +kernel, by decide +kernel⟩) (pre_S E hP hD hS hA [] (by decide) rfl) rfl rfl hl.1 rfl (lv_room (Nat.le_of_ble_eq_true rfl)) dX10_say_8 ⟨by decide +kernel, by decide +kernel⟩) hS hP hD hA [] rfl (fun r3 _ H locs w2 hP hS => ?_)
  rcases w2 with ⟨rfl, b4⟩ | ⟨rfl, b4⟩
  · refine lv_if_ne (tgt := 17) hx hb dX10_say_11 (by decide) (fun _ => ?_) (fun c5 => False.elim (by revert c5; decide))
    refine lv_aload_n hx hb dX10_say_17 rfl (lv_at hl 0 rfl) ?_
    refine va_get (D := G.1) (ci := 6) (v := .int (nI pm)) (C := RX10) (T := TX10) (N := 28) hx hb hts (fun _ h => List.mem_cons_of_mem _ (List.mem_append_right _ h)) hown E.K hP 0 rfl rfl 8 (by decide) (hts (.fieldLink RX10 103 "LastMapModel" "padMany" "I") (by decide +kernel)) (fun _ h9 => h9) rfl dX10_say_18 ?_
    refine lv_bipush (v := 40) hx hb dX10_say_21 (by decide) ?_
    refine lv_icmp_ne (tgt := 29) hx hb dX10_say_23 (by decide) (fun c6 => ?_) (fun c6 => ?_)
    · have c6 : ¬ pm = 40 := fun h9_ => c6 ((nI_eq (a := pm) (b := 40) (by omega) (by omega)).mpr h9_)
      refine lv_aload_n hx hb dX10_say_29 rfl (lv_at hl 0 rfl) ?_
      refine va_get (D := G.1) (ci := 6) (v := .ref a_pad) (C := RX10) (T := TX10) (N := 28) hx hb hts (fun _ h => List.mem_cons_of_mem _ (List.mem_append_right _ h)) hown E.K hP 0 rfl rfl 7 (by decide) (hts (.fieldLink RX10 19 "LastMapModel" "pad" "[I") (by decide +kernel)) (fun _ h9 => h9) rfl dX10_say_30 ?_
      refine lv_aload_n hx hb dX10_say_33 rfl (lv_at hl 0 rfl) ?_
      refine va_get (D := G.1) (ci := 6) (v := .int (nI pm)) (C := RX10) (T := TX10) (N := 28) hx hb hts (fun _ h => List.mem_cons_of_mem _ (List.mem_append_right _ h)) hown E.K hP 0 rfl rfl 8 (by decide) (hts (.fieldLink RX10 103 "LastMapModel" "padMany" "I") (by decide +kernel)) (fun _ h9 => h9) rfl dX10_say_34 ?_
      refine lv_iload_n hx hb dX10_say_37 rfl (lv_at hl 1 rfl) ?_
      refine va_iast hx hb E.K hP hD hS 1 1 rfl rfl (i := nI pm) (vp_in_nI (by omega) (by decide)) dX10_say_38 (fun H locs hP hD hS => ?_)
      obtain ⟨f7, ef7⟩ : ∃ yy_ : Nat → Int32, yy_ = upd fd (nI pm).toNatClampNeg p0 := ⟨_, rfl⟩
      have hP : va_P G.1 vwCl ([(h1, .inr (6, [v_sites, v_maps, v_told, v_kinds, v_land, v_spades, v_part, .ref a_pad, .int (nI pm), v_slips, v_slipMany, v_made, v_queue, v_depth, v_by, v_from, v_come, v_offOf, v_parent, v_best, v_trees, v_least, v_sums, v_toward, v_kept, v_isKept, v_keptAt, v_isWriting])), (a_pad, .inl (gI G, 40, .inl f7))]) H := by rw [ef7]; exact hP
      have hD : va_D A ([(h1, .inr (6, [v_sites, v_maps, v_told, v_kinds, v_land, v_spades, v_part, .ref a_pad, .int (nI pm), v_slips, v_slipMany, v_made, v_queue, v_depth, v_by, v_from, v_come, v_offOf, v_parent, v_best, v_trees, v_least, v_sums, v_toward, v_kept, v_isKept, v_keptAt, v_isWriting])), (a_pad, .inl (gI G, 40, .inl f7))]) := by rw [ef7]; exact hD
      refine lv_aload_n hx hb dX10_say_39 rfl (lv_at hl 0 rfl) ?_
      refine lv_dup hx hb dX10_say_40 rfl ?_
      refine va_get (D := G.1) (ci := 6) (v := .int (nI pm)) (C := RX10) (T := TX10) (N := 28) hx hb hts (fun _ h => List.mem_cons_of_mem _ (List.mem_append_right _ h)) hown E.K hP 0 rfl rfl 8 (by decide) (hts (.fieldLink RX10 103 "LastMapModel" "padMany" "I") (by decide +kernel)) (fun _ h9 => h9) rfl dX10_say_41 ?_
      refine lv_iconst (v := 1) hx hb dX10_say_44 (by decide) ?_
      refine lv_iadd hx hb dX10_say_45 ?_
      refine lv_topi (fun x8 ex8 => ?_)
      obtain rfl : x8 = nI (pm + 1) := by rw [ex8]; exact nI_add pm 1
      refine va_put (D := G.1) (ci := 6) (v := .int (nI (pm + 1))) (ty := .int) (C := RX10) (T := TX10) (N := 28) hx hb hts (fun _ h => List.mem_cons_of_mem _ (List.mem_append_right _ h)) tyX10 tyX10_ok nmX10 hown E.K hP hD hS 0 rfl rfl 8 (by decide) (hts (.fieldLink RX10 103 "LastMapModel" "padMany" "I") (by decide +kernel)) (fun _ h9 => h9) rfl (by decide +kernel) rfl rfl (Nat.le_of_ble_eq_true rfl) dX10_say_46 (fun H locs hP hD hS => ?_)
      have hP : va_P G.1 vwCl ([(h1, .inr (6, [v_sites, v_maps, v_told, v_kinds, v_land, v_spades, v_part, .ref a_pad, .int (nI (pm + 1)), v_slips, v_slipMany, v_made, v_queue, v_depth, v_by, v_from, v_come, v_offOf, v_parent, v_best, v_trees, v_least, v_sums, v_toward, v_kept, v_isKept, v_keptAt, v_isWriting])), (a_pad, .inl (gI G, 40, .inl f7))]) H := hP
      have hD : va_D A ([(h1, .inr (6, [v_sites, v_maps, v_told, v_kinds, v_land, v_spades, v_part, .ref a_pad, .int (nI (pm + 1)), v_slips, v_slipMany, v_made, v_queue, v_depth, v_by, v_from, v_come, v_offOf, v_parent, v_best, v_trees, v_least, v_sums, v_toward, v_kept, v_isKept, v_keptAt, v_isWriting])), (a_pad, .inl (gI G, 40, .inl f7))]) := hD
      refine lv_aload_n hx hb dX10_say_49 rfl (lv_at hl 0 rfl) ?_
      refine va_get (D := G.1) (ci := 6) (v := .int (nI (pm + 1))) (C := RX10) (T := TX10) (N := 28) hx hb hts (fun _ h => List.mem_cons_of_mem _ (List.mem_append_right _ h)) hown E.K hP 0 rfl rfl 8 (by decide) (hts (.fieldLink RX10 103 "LastMapModel" "padMany" "I") (by decide +kernel)) (fun _ h9 => h9) rfl dX10_say_50 ?_
      have hP9 := (hP.sub (ws' := [(h1, .inr (6, [v_sites, v_maps, v_told, v_kinds, v_land, v_spades, v_part, .ref a_pad, .int (nI (pm + 1)), v_slips, v_slipMany, v_made, v_queue, v_depth, v_by, v_from, v_come, v_offOf, v_parent, v_best, v_trees, v_least, v_sums, v_toward, v_kept, v_isKept, v_keptAt, v_isWriting])), (a_pad, .inl (gI G, 40, .inl f7))]) [0, 1] rfl)
      have hD9 := (hD.sub (ws' := [(h1, .inr (6, [v_sites, v_maps, v_told, v_kinds, v_land, v_spades, v_part, .ref a_pad, .int (nI (pm + 1)), v_slips, v_slipMany, v_made, v_queue, v_depth, v_by, v_from, v_come, v_offOf, v_parent, v_best, v_trees, v_least, v_sums, v_toward, v_kept, v_isKept, v_keptAt, v_isWriting])), (a_pad, .inl (gI G, 40, .inl f7))]) [0, 1] (by decide) rfl)
      exact W.iret (v := (nI (pm + 1))) hx hb hr (fun t9_ ht9_ hW9_ => ⟨⟨nI (pm + 1), ((pm + 1), f7), rfl, Or.inr (Or.inr ⟨b4, by omega, rfl, rfl, by rw [ef7, nI_clamp (by omega)]⟩), by rw [ht9_]; exact hP9, hD9⟩, hS.F ht9_⟩) hS.2.2 dX10_say_53
    · have c6 : pm = 40 := (nI_eq (a := pm) (b := 40) (by omega) (by omega)).mp c6
      refine lv_bipush (v := (-4)) hx hb dX10_say_26 (by decide) ?_
      have hP9 := (hP.sub (ws' := [(h1, .inr (6, [v_sites, v_maps, v_told, v_kinds, v_land, v_spades, v_part, .ref a_pad, .int (nI pm), v_slips, v_slipMany, v_made, v_queue, v_depth, v_by, v_from, v_come, v_offOf, v_parent, v_best, v_trees, v_least, v_sums, v_toward, v_kept, v_isKept, v_keptAt, v_isWriting])), (a_pad, .inl (gI G, 40, .inl fd))]) [0, 1] rfl)
      have hD9 := (hD.sub (ws' := [(h1, .inr (6, [v_sites, v_maps, v_told, v_kinds, v_land, v_spades, v_part, .ref a_pad, .int (nI pm), v_slips, v_slipMany, v_made, v_queue, v_depth, v_by, v_from, v_come, v_offOf, v_parent, v_best, v_trees, v_least, v_sums, v_toward, v_kept, v_isKept, v_keptAt, v_isWriting])), (a_pad, .inl (gI G, 40, .inl fd))]) [0, 1] (by decide) rfl)
      exact W.iret (v := (-4)) hx hb hr (fun t9_ ht9_ hW9_ => ⟨⟨(-4), (pm, fd), rfl, Or.inr (Or.inl ⟨b4, by omega, rfl, rfl, rfl⟩), by rw [ht9_]; exact hP9, hD9⟩, hS.F ht9_⟩) hS.2.2 dX10_say_28
  · refine lv_if_ne (tgt := 17) hx hb dX10_say_11 (by decide) (fun c9 => False.elim (by revert c9; decide)) (fun _ => ?_)
    refine lv_bipush (v := (-2)) hx hb dX10_say_14 (by decide) ?_
    have hP9 := (hP.sub (ws' := [(h1, .inr (6, [v_sites, v_maps, v_told, v_kinds, v_land, v_spades, v_part, .ref a_pad, .int (nI pm), v_slips, v_slipMany, v_made, v_queue, v_depth, v_by, v_from, v_come, v_offOf, v_parent, v_best, v_trees, v_least, v_sums, v_toward, v_kept, v_isKept, v_keptAt, v_isWriting])), (a_pad, .inl (gI G, 40, .inl fd))]) [0, 1] rfl)
    have hD9 := (hD.sub (ws' := [(h1, .inr (6, [v_sites, v_maps, v_told, v_kinds, v_land, v_spades, v_part, .ref a_pad, .int (nI pm), v_slips, v_slipMany, v_made, v_queue, v_depth, v_by, v_from, v_come, v_offOf, v_parent, v_best, v_trees, v_least, v_sums, v_toward, v_kept, v_isKept, v_keptAt, v_isWriting])), (a_pad, .inl (gI G, 40, .inl fd))]) [0, 1] (by decide) rfl)
    exact W.iret (v := (-2)) hx hb hr (fun t9_ ht9_ hW9_ => ⟨⟨(-2), (pm, fd), rfl, Or.inl ⟨b4, rfl, rfl, rfl⟩, by rw [ht9_]; exact hP9, hD9⟩, hS.F ht9_⟩) hS.2.2 dX10_say_16

set_option maxHeartbeats 1000000 in
set_option maxRecDepth 100000 in
theorem m_wipe (l : Launch) (G : Gy) (sz : Nat) (h1 : Nat) (v_sites : Value) (v_maps : Value) (v_told : Value) (v_kinds : Value) (v_land : Value) (v_spades : Value) (v_part : Value) (v_pad : Value) (v_slips : Value) (v_slipMany : Value) (v_made : Value) (v_queue : Value) (v_depth : Value) (v_by : Value) (v_from : Value) (v_come : Value) (v_offOf : Value) (v_parent : Value) (v_best : Value) (v_trees : Value) (v_least : Value) (v_sums : Value) (v_toward : Value) (v_kept : Value) (v_isKept : Value) (v_keptAt : Value) (v_isWriting : Value) (pm : Nat)  : Ci l G yX10_wipe wsX10_wipe ({ frames := 0, cells := 0, slots := 0, locals := 0 }) [.ref h1] ([(h1, .inr (6, [v_sites, v_maps, v_told, v_kinds, v_land, v_spades, v_part, v_pad, .int (nI pm), v_slips, v_slipMany, v_made, v_queue, v_depth, v_by, v_from, v_come, v_offOf, v_parent, v_best, v_trees, v_least, v_sums, v_toward, v_kept, v_isKept, v_keptAt, v_isWriting]))]) sz (fun (r : Int32) (_ : Unit) => r = nI pm) (fun (_ : Unit) => [(h1, .inr (6, [v_sites, v_maps, v_told, v_kinds, v_land, v_spades, v_part, v_pad, .int 0, v_slips, v_slipMany, v_made, v_queue, v_depth, v_by, v_from, v_come, v_offOf, v_parent, v_best, v_trees, v_least, v_sums, v_toward, v_kept, v_isKept, v_keptAt, v_isWriting]))]) 0 0 := by
  refine Met.ofW (cc := cX10_wipe) (maxL := 2) (ret := (some .int)) (by decide) rfl ?_
  intro p e s m args below meth c s₁ B hml hv
  obtain ⟨rfl, hsz, hP, hD0, E0⟩ := hv
  have hx := B.exec
  have hb := B.bytes
  have hr := B.returns
  have hts := atoms_spec (ws := wsX10_wipe) B.pre
  have hown : s.vm.findClass RX10 = some m.cls := findClass_of_methodNamed B.named
  have hlocks := B.notSynchronized
  subst hsz
  have hD := hD0.self (sz := s.heap.size)
  generalize hAe : va_A ([(h1, .inr (6, [v_sites, v_maps, v_told, v_kinds, v_land, v_spades, v_part, v_pad, .int (nI pm), v_slips, v_slipMany, v_made, v_queue, v_depth, v_by, v_from, v_come, v_offOf, v_parent, v_best, v_trees, v_least, v_sums, v_toward, v_kept, v_isKept, v_keptAt, v_isWriting]))]) s.heap.size = A at hD E0 ⊢
  have E : EV G A s s.heap := E0
  have hA : ∀ q : Nat, s.heap.size ≤ q → A q := fun q h => by rw [← hAe]; exact Or.inr h
  have hS : va_S A s.heap s.heap [] := va_S.rf
  have hl := lv_entry ([.ref h1]) (n := 2) (Nat.le_of_ble_eq_true rfl)
  rw [lg_entry_eq]
  generalize (lg_sl ([.ref h1]) ++ List.replicate (2 - (lg_sl ([.ref h1])).length) Slot.unset).toArray = ls at hl ⊢
  have hl : lv_has ls 2 [(0, .ref h1)] := hl
  have hP : va_P G.1 vwCl ([(h1, .inr (6, [v_sites, v_maps, v_told, v_kinds, v_land, v_spades, v_part, v_pad, .int (nI pm), v_slips, v_slipMany, v_made, v_queue, v_depth, v_by, v_from, v_come, v_offOf, v_parent, v_best, v_trees, v_least, v_sums, v_toward, v_kept, v_isKept, v_keptAt, v_isWriting]))]) s.heap := hP
  refine lv_aload_n hx hb dX10_wipe_0 rfl (lv_at hl 0 rfl) ?_
  refine va_get (D := G.1) (ci := 6) (v := .int (nI pm)) (C := RX10) (T := TX10) (N := 28) hx hb hts (fun _ h => List.mem_cons_of_mem _ (List.mem_append_right _ h)) hown E.K hP 0 rfl rfl 8 (by decide) (hts (.fieldLink RX10 103 "LastMapModel" "padMany" "I") (by decide +kernel)) (fun _ h9 => h9) rfl dX10_wipe_1 ?_
  refine lv_istore_n (lv' := [(1, .int (nI pm)), (0, .ref h1)]) hx hb dX10_wipe_4 rfl hl (by decide) rfl (fun ls hl => ?_)
  refine lv_aload_n hx hb dX10_wipe_5 rfl (lv_at hl 1 rfl) ?_
  refine lv_iconst (v := 0) hx hb dX10_wipe_6 (by decide) ?_
  refine va_put (D := G.1) (ci := 6) (v := .int 0) (ty := .int) (C := RX10) (T := TX10) (N := 28) hx hb hts (fun _ h => List.mem_cons_of_mem _ (List.mem_append_right _ h)) tyX10 tyX10_ok nmX10 hown E.K hP hD hS 0 rfl rfl 8 (by decide) (hts (.fieldLink RX10 103 "LastMapModel" "padMany" "I") (by decide +kernel)) (fun _ h9 => h9) rfl (by decide +kernel) rfl rfl (Nat.le_of_ble_eq_true rfl) dX10_wipe_7 (fun H locs hP hD hS => ?_)
  have hP : va_P G.1 vwCl ([(h1, .inr (6, [v_sites, v_maps, v_told, v_kinds, v_land, v_spades, v_part, v_pad, .int 0, v_slips, v_slipMany, v_made, v_queue, v_depth, v_by, v_from, v_come, v_offOf, v_parent, v_best, v_trees, v_least, v_sums, v_toward, v_kept, v_isKept, v_keptAt, v_isWriting]))]) H := hP
  have hD : va_D A ([(h1, .inr (6, [v_sites, v_maps, v_told, v_kinds, v_land, v_spades, v_part, v_pad, .int 0, v_slips, v_slipMany, v_made, v_queue, v_depth, v_by, v_from, v_come, v_offOf, v_parent, v_best, v_trees, v_least, v_sums, v_toward, v_kept, v_isKept, v_keptAt, v_isWriting]))]) := hD
  refine lv_iload_n hx hb dX10_wipe_10 rfl (lv_at hl 0 rfl) ?_
  have hP9 := (hP.sub (ws' := [(h1, .inr (6, [v_sites, v_maps, v_told, v_kinds, v_land, v_spades, v_part, v_pad, .int 0, v_slips, v_slipMany, v_made, v_queue, v_depth, v_by, v_from, v_come, v_offOf, v_parent, v_best, v_trees, v_least, v_sums, v_toward, v_kept, v_isKept, v_keptAt, v_isWriting]))]) [0] rfl)
  have hD9 := (hD.sub (ws' := [(h1, .inr (6, [v_sites, v_maps, v_told, v_kinds, v_land, v_spades, v_part, v_pad, .int 0, v_slips, v_slipMany, v_made, v_queue, v_depth, v_by, v_from, v_come, v_offOf, v_parent, v_best, v_trees, v_least, v_sums, v_toward, v_kept, v_isKept, v_keptAt, v_isWriting]))]) [0] (by decide) rfl)
  exact W.iret (v := (nI pm)) hx hb hr (fun t9_ ht9_ hW9_ => ⟨⟨nI pm, (), rfl, rfl, by rw [ht9_]; exact hP9, hD9⟩, hS.F ht9_⟩) hS.2.2 dX10_wipe_11
