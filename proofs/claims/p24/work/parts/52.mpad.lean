set_option maxHeartbeats 1000000 in
set_option maxRecDepth 100000 in
theorem m_say (l : Launch) (G : Gy) (sz : Nat) (h1 : Nat) (v_sites : Value) (v_maps : Value) (v_told : Value) (v_kinds : Value) (v_land : Value) (v_spades : Value) (v_part : Value) (v_slips : Value) (v_slipMany : Value) (v_made : Value) (v_queue : Value) (v_depth : Value) (v_by : Value) (v_from : Value) (v_come : Value) (v_offOf : Value) (v_parent : Value) (v_best : Value) (v_trees : Value) (v_least : Value) (v_sums : Value) (v_toward : Value) (v_kept : Value) (v_isKept : Value) (v_keptAt : Value) (v_isWriting : Value) (a_pad : Nat) (pm : Nat) (fd : Nat → Int32) (p0 : Int32) (hpm : pm ≤ 40) : Ci l G yX10_say wsX10_say ({ frames := 1, cells := 0, slots := 0, locals := 25 }) [.ref h1, .int p0] ([(h1, .inr (6, [v_sites, v_maps, v_told, v_kinds, v_land, v_spades, v_part, .ref a_pad, .int (nI pm), v_slips, v_slipMany, v_made, v_queue, v_depth, v_by, v_from, v_come, v_offOf, v_parent, v_best, v_trees, v_least, v_sums, v_toward, v_kept, v_isKept, v_keptAt, v_isWriting])), (a_pad, .inl (gI G, 40, .inl fd))]) sz (fun (r : Int32) (u : Nat × (Nat → Int32)) => match u with | (pm1, fd1) => (¬ inR p0 33 126 ∧ r = (-2) ∧ pm1 = pm ∧ fd1 = fd) ∨ (inR p0 33 126 ∧ pm = 40 ∧ r = (-4) ∧ pm1 = pm ∧ fd1 = fd) ∨ (inR p0 33 126 ∧ pm < 40 ∧ r = nI (pm + 1) ∧ pm1 = pm + 1 ∧ fd1 = upd fd pm p0)) (fun (u : Nat × (Nat → Int32)) => match u with | (pm1, fd1) => [(h1, .inr (6, [v_sites, v_maps, v_told, v_kinds, v_land, v_spades, v_part, .ref a_pad, .int (nI pm1), v_slips, v_slipMany, v_made, v_queue, v_depth, v_by, v_from, v_come, v_offOf, v_parent, v_best, v_trees, v_least, v_sums, v_toward, v_kept, v_isKept, v_keptAt, v_isWriting])), (a_pad, .inl (gI G, 40, .inl fd1))]) 0 0 := by
  refine Met.ofW (cc := cX10_say) (maxL := 2) (ret := (some .int)) (by decide) rfl ?_
  intro p e s m args below meth c s₁ B hml hv
  obtain ⟨rfl, hsz, hP, hD0, E0⟩ := hv
  have hx := B.exec
  have hb := B.bytes
  have hr := B.returns
  have hts := atoms_spec (ws := wsX10_say) B.pre
  have hown : s.vm.findClass RX10 = some m.cls := findClass_of_methodNamed B.named
  have hlocks := B.notSynchronized
  subst hsz
  have hD := hD0.self (sz := s.heap.size)
  generalize hAe : va_A ([(h1, .inr (6, [v_sites, v_maps, v_told, v_kinds, v_land, v_spades, v_part, .ref a_pad, .int (nI pm), v_slips, v_slipMany, v_made, v_queue, v_depth, v_by, v_from, v_come, v_offOf, v_parent, v_best, v_trees, v_least, v_sums, v_toward, v_kept, v_isKept, v_keptAt, v_isWriting])), (a_pad, .inl (gI G, 40, .inl fd))]) s.heap.size = A at hD E0 ⊢
  have E : EV G A s s.heap := E0
  have hA : ∀ q : Nat, s.heap.size ≤ q → A q := fun q h => by rw [← hAe]; exact Or.inr h
  have hS : va_S A s.heap s.heap [] := va_S.rf
  have hl := lv_entry ([.ref h1, .int p0]) (n := 2) (Nat.le_of_ble_eq_true rfl)
  rw [lg_entry_eq]
  generalize (lg_sl ([.ref h1, .int p0]) ++ List.replicate (2 - (lg_sl ([.ref h1, .int p0])).length) Slot.unset).toArray = ls at hl ⊢
  have hl : lv_has ls 2 [(0, .ref h1), (1, .int p0)] := hl
  have hP : va_P G.1 vwCl ([(h1, .inr (6, [v_sites, v_maps, v_told, v_kinds, v_land, v_spades, v_part, .ref a_pad, .int (nI pm), v_slips, v_slipMany, v_made, v_queue, v_depth, v_by, v_from, v_come, v_offOf, v_parent, v_best, v_trees, v_least, v_sums, v_toward, v_kept, v_isKept, v_keptAt, v_isWriting])), (a_pad, .inl (gI G, 40, .inl fd))]) s.heap := hP
  refine lv_iload_n hx hb dX10_say_0 rfl (lv_at hl 1 rfl) ?_
  refine lv_i2l hx hb dX10_say_1 rfl ?_
  refine lv_topl (fun x1 ex1 => ?_)
  refine lv_ldc2 (v := 33) hx hb hown (hts (.constantLong RX10 99 (33)) (by decide +kernel)) dX10_say_2 ?_
  refine lv_ldc2 (v := 126) hx hb hown (hts (.constantLong RX10 101 (126)) (by decide +kernel)) dX10_say_5 ?_
  refine ca_iR (va_runS (As := [.long x1, .long 33, .long 126]) (rest := []) ⟨hx, hb, hml, hown, hts⟩ (m_in l G s.heap.size x1 33 126 p0 33 126 ex1 (by decide) (by decide)) (va_cwS 3 hts gX10_say_X10_in rfl rfl rfl (by decide +kernel) ⟨by decide +kernel, by decide +kernel⟩) (pre_S E hP hD hS hA [] (by decide) rfl) rfl rfl hl.1 rfl (lv_room (Nat.le_of_ble_eq_true rfl)) dX10_say_8 ⟨by decide +kernel, by decide +kernel⟩) hS hP hD hA [] rfl (fun r3 _ H locs w2 hP hS => ?_)
  rcases w2 with ⟨rfl, b4⟩ | ⟨rfl, b4⟩
  · refine lv_if_ne (tgt := 17) hx hb dX10_say_11 (by decide) (fun _ => ?_) (fun c5 => False.elim (by revert c5; decide))
    refine lv_aload_n hx hb dX10_say_17 rfl (lv_at hl 0 rfl) ?_
    refine va_get (D := G.1) (ci := 6) (v := .int (nI pm)) (C := RX10) (T := TX10) (N := 28) hx hb hts (fun _ h => List.mem_cons_of_mem _ (List.mem_append_right _ h)) hown E.K hP 0 rfl rfl 8 (by decide) (hts (.fieldLink RX10 103 "LastMapModel" "padMany" "I") (by decide +kernel)) (fun _ h9 => h9) rfl dX10_say_18 ?_
    refine lv_bipush (v := 40) hx hb dX10_say_21 (by decide) ?_
    refine lv_icmp_ne (tgt := 29) hx hb dX10_say_23 (by decide) (fun c6 => ?_) (fun c6 => ?_)
    · have c6 : ¬ pm = 40 := fun h9_ => c6 ((nI_eq (a := pm) (b := 40) (by omega) (by omega)).mpr h9_)
      refine lv_aload_n hx hb dX10_say_29 rfl (lv_at hl 0 rfl) ?_
      refine va_get (D := G.1) (ci := 6) (v := .ref a_pad) (C := RX10) (T := TX10) (N := 28) hx hb hts (fun _ h => List.mem_cons_of_mem _ (List.mem_append_right _ h)) hown E.K hP 0 rfl rfl 7 (by decide) (hts (.fieldLink RX10 19 "LastMapModel" "pad" "[I") (by decide +kernel)) (fun _ h9 => h9) rfl dX10_say_30 ?_
      refine lv_aload_n hx hb dX10_say_33 rfl (lv_at hl 0 rfl) ?_
      refine va_get (D := G.1) (ci := 6) (v := .int (nI pm)) (C := RX10) (T := TX10) (N := 28) hx hb hts (fun _ h => List.mem_cons_of_mem _ (List.mem_append_right _ h)) hown E.K hP 0 rfl rfl 8 (by decide) (hts (.fieldLink RX10 103 "LastMapModel" "padMany" "I") (by decide +kernel)) (fun _ h9 => h9) rfl dX10_say_34 ?_
      refine lv_iload_n hx hb dX10_say_37 rfl (lv_at hl 1 rfl) ?_
      refine va_iast hx hb E.K hP hD hS 1 1 rfl rfl (i := nI pm) (vp_in_nI (by omega) (by decide)) dX10_say_38 (fun H locs hP hD hS => ?_)
      obtain ⟨f7, ef7⟩ : ∃ yy_ : Nat → Int32, yy_ = upd fd (nI pm).toNatClampNeg p0 := ⟨_, rfl⟩
      have hP : va_P G.1 vwCl ([(h1, .inr (6, [v_sites, v_maps, v_told, v_kinds, v_land, v_spades, v_part, .ref a_pad, .int (nI pm), v_slips, v_slipMany, v_made, v_queue, v_depth, v_by, v_from, v_come, v_offOf, v_parent, v_best, v_trees, v_least, v_sums, v_toward, v_kept, v_isKept, v_keptAt, v_isWriting])), (a_pad, .inl (gI G, 40, .inl f7))]) H := by rw [ef7]; exact hP
      have hD : va_D A ([(h1, .inr (6, [v_sites, v_maps, v_told, v_kinds, v_land, v_spades, v_part, .ref a_pad, .int (nI pm), v_slips, v_slipMany, v_made, v_queue, v_depth, v_by, v_from, v_come, v_offOf, v_parent, v_best, v_trees, v_least, v_sums, v_toward, v_kept, v_isKept, v_keptAt, v_isWriting])), (a_pad, .inl (gI G, 40, .inl f7))]) := by rw [ef7]; exact hD
      refine lv_aload_n hx hb dX10_say_39 rfl (lv_at hl 0 rfl) ?_
      refine lv_dup hx hb dX10_say_40 rfl ?_
      refine va_get (D := G.1) (ci := 6) (v := .int (nI pm)) (C := RX10) (T := TX10) (N := 28) hx hb hts (fun _ h => List.mem_cons_of_mem _ (List.mem_append_right _ h)) hown E.K hP 0 rfl rfl 8 (by decide) (hts (.fieldLink RX10 103 "LastMapModel" "padMany" "I") (by decide +kernel)) (fun _ h9 => h9) rfl dX10_say_41 ?_
      refine lv_iconst (v := 1) hx hb dX10_say_44 (by decide) ?_
      refine lv_iadd hx hb dX10_say_45 ?_
      refine lv_topi (fun x8 ex8 => ?_)
      obtain rfl : x8 = nI (pm + 1) := by rw [ex8]; exact nI_add pm 1
      refine va_put (D := G.1) (ci := 6) (v := .int (nI (pm + 1))) (ty := .int) (C := RX10) (T := TX10) (N := 28) hx hb hts (fun _ h => List.mem_cons_of_mem _ (List.mem_append_right _ h)) tyX10 tyX10_ok nmX10 hown E.K hP hD hS 0 rfl rfl 8 (by decide) (hts (.fieldLink RX10 103 "LastMapModel" "padMany" "I") (by decide +kernel)) (fun _ h9 => h9) rfl (by decide +kernel) rfl rfl (Nat.le_of_ble_eq_true rfl) dX10_say_46 (fun H locs hP hD hS => ?_)
      have hP : va_P G.1 vwCl ([(h1, .inr (6, [v_sites, v_maps, v_told, v_kinds, v_land, v_spades, v_part, .ref a_pad, .int (nI (pm + 1)), v_slips, v_slipMany, v_made, v_queue, v_depth, v_by, v_from, v_come, v_offOf, v_parent, v_best, v_trees, v_least, v_sums, v_toward, v_kept, v_isKept, v_keptAt, v_isWriting])), (a_pad, .inl (gI G, 40, .inl f7))]) H := hP
      have hD : va_D A ([(h1, .inr (6, [v_sites, v_maps, v_told, v_kinds, v_land, v_spades, v_part, .ref a_pad, .int (nI (pm + 1)), v_slips, v_slipMany, v_made, v_queue, v_depth, v_by, v_from, v_come, v_offOf, v_parent, v_best, v_trees, v_least, v_sums, v_toward, v_kept, v_isKept, v_keptAt, v_isWriting])), (a_pad, .inl (gI G, 40, .inl f7))]) := hD
      refine lv_aload_n hx hb dX10_say_49 rfl (lv_at hl 0 rfl) ?_
      refine va_get (D := G.1) (ci := 6) (v := .int (nI (pm + 1))) (C := RX10) (T := TX10) (N := 28) hx hb hts (fun _ h => List.mem_cons_of_mem _ (List.mem_append_right _ h)) hown E.K hP 0 rfl rfl 8 (by decide) (hts (.fieldLink RX10 103 "LastMapModel" "padMany" "I") (by decide +kernel)) (fun _ h9 => h9) rfl dX10_say_50 ?_
      have hP9 := (hP.sub (ws' := [(h1, .inr (6, [v_sites, v_maps, v_told, v_kinds, v_land, v_spades, v_part, .ref a_pad, .int (nI (pm + 1)), v_slips, v_slipMany, v_made, v_queue, v_depth, v_by, v_from, v_come, v_offOf, v_parent, v_best, v_trees, v_least, v_sums, v_toward, v_kept, v_isKept, v_keptAt, v_isWriting])), (a_pad, .inl (gI G, 40, .inl f7))]) [0, 1] rfl)
      have hD9 := (hD.sub (ws' := [(h1, .inr (6, [v_sites, v_maps, v_told, v_kinds, v_land, v_spades, v_part, .ref a_pad, .int (nI (pm + 1)), v_slips, v_slipMany, v_made, v_queue, v_depth, v_by, v_from, v_come, v_offOf, v_parent, v_best, v_trees, v_least, v_sums, v_toward, v_kept, v_isKept, v_keptAt, v_isWriting])), (a_pad, .inl (gI G, 40, .inl f7))]) [0, 1] (by decide) rfl)
      exact W.iret (v := (nI (pm + 1))) hx hb hr (fun t9_ ht9_ hW9_ => ⟨⟨nI (pm + 1), ((pm + 1), f7), rfl, Or.inr (Or.inr ⟨b4, by omega, rfl, rfl, by rw [ef7, nI_clamp (by omega)]⟩), by rw [ht9_]; exact hP9, hD9⟩, hS.F ht9_⟩) hS.2.2 dX10_say_53
    · have c6 : pm = 40 := (nI_eq (a := pm) (b := 40) (by omega) (by omega)).mp c6
      refine lv_bipush (v := (-4)) hx hb dX10_say_26 (by decide) ?_
      have hP9 := (hP.sub (ws' := [(h1, .inr (6, [v_sites, v_maps, v_told, v_kinds, v_land, v_spades, v_part, .ref a_pad, .int (nI pm), v_slips, v_slipMany, v_made, v_queue, v_depth, v_by, v_from, v_come, v_offOf, v_parent, v_best, v_trees, v_least, v_sums, v_toward, v_kept, v_isKept, v_keptAt, v_isWriting])), (a_pad, .inl (gI G, 40, .inl fd))]) [0, 1] rfl)
      have hD9 := (hD.sub (ws' := [(h1, .inr (6, [v_sites, v_maps, v_told, v_kinds, v_land, v_spades, v_part, .ref a_pad, .int (nI pm), v_slips, v_slipMany, v_made, v_queue, v_depth, v_by, v_from, v_come, v_offOf, v_parent, v_best, v_trees, v_least, v_sums, v_toward, v_kept, v_isKept, v_keptAt, v_isWriting])), (a_pad, .inl (gI G, 40, .inl fd))]) [0, 1] (by decide) rfl)
      exact W.iret (v := (-4)) hx hb hr (fun t9_ ht9_ hW9_ => ⟨⟨(-4), (pm, fd), rfl, Or.inr (Or.inl ⟨b4, by omega, rfl, rfl, rfl⟩), by rw [ht9_]; exact hP9, hD9⟩, hS.F ht9_⟩) hS.2.2 dX10_say_28
  · refine lv_if_ne (tgt := 17) hx hb dX10_say_11 (by decide) (fun c9 => False.elim (by revert c9; decide)) (fun _ => ?_)
    refine lv_bipush (v := (-2)) hx hb dX10_say_14 (by decide) ?_
    have hP9 := (hP.sub (ws' := [(h1, .inr (6, [v_sites, v_maps, v_told, v_kinds, v_land, v_spades, v_part, .ref a_pad, .int (nI pm), v_slips, v_slipMany, v_made, v_queue, v_depth, v_by, v_from, v_come, v_offOf, v_parent, v_best, v_trees, v_least, v_sums, v_toward, v_kept, v_isKept, v_keptAt, v_isWriting])), (a_pad, .inl (gI G, 40, .inl fd))]) [0, 1] rfl)
    have hD9 := (hD.sub (ws' := [(h1, .inr (6, [v_sites, v_maps, v_told, v_kinds, v_land, v_spades, v_part, .ref a_pad, .int (nI pm), v_slips, v_slipMany, v_made, v_queue, v_depth, v_by, v_from, v_come, v_offOf, v_parent, v_best, v_trees, v_least, v_sums, v_toward, v_kept, v_isKept, v_keptAt, v_isWriting])), (a_pad, .inl (gI G, 40, .inl fd))]) [0, 1] (by decide) rfl)
    exact W.iret (v := (-2)) hx hb hr (fun t9_ ht9_ hW9_ => ⟨⟨(-2), (pm, fd), rfl, Or.inl ⟨b4, rfl, rfl, rfl⟩, by rw [ht9_]; exact hP9, hD9⟩, hS.F ht9_⟩) hS.2.2 dX10_say_16

set_option maxHeartbeats 1000000 in
set_option maxRecDepth 100000 in
theorem m_wipe (l : Launch) (G : Gy) (sz : Nat) (h1 : Nat) (v_sites : Value) (v_maps : Value) (v_told : Value) (v_kinds : Value) (v_land : Value) (v_spades : Value) (v_part : Value) (v_pad : Value) (v_slips : Value) (v_slipMany : Value) (v_made : Value) (v_queue : Value) (v_depth : Value) (v_by : Value) (v_from : Value) (v_come : Value) (v_offOf : Value) (v_parent : Value) (v_best : Value) (v_trees : Value) (v_least : Value) (v_sums : Value) (v_toward : Value) (v_kept : Value) (v_isKept : Value) (v_keptAt : Value) (v_isWriting : Value) (pm : Nat)  : Ci l G yX10_wipe wsX10_wipe ({ frames := 0, cells := 0, slots := 0, locals := 0 }) [.ref h1] ([(h1, .inr (6, [v_sites, v_maps, v_told, v_kinds, v_land, v_spades, v_part, v_pad, .int (nI pm), v_slips, v_slipMany, v_made, v_queue, v_depth, v_by, v_from, v_come, v_offOf, v_parent, v_best, v_trees, v_least, v_sums, v_toward, v_kept, v_isKept, v_keptAt, v_isWriting]))]) sz (fun (r : Int32) (_ : Unit) => r = nI pm) (fun (_ : Unit) => [(h1, .inr (6, [v_sites, v_maps, v_told, v_kinds, v_land, v_spades, v_part, v_pad, .int 0, v_slips, v_slipMany, v_made, v_queue, v_depth, v_by, v_from, v_come, v_offOf, v_parent, v_best, v_trees, v_least, v_sums, v_toward, v_kept, v_isKept, v_keptAt, v_isWriting]))]) 0 0 := by
  refine Met.ofW (cc := cX10_wipe) (maxL := 2) (ret := (some .int)) (by decide) rfl ?_
  intro p e s m args below meth c s₁ B hml hv
  obtain ⟨rfl, hsz, hP, hD0, E0⟩ := hv
  have hx := B.exec
  have hb := B.bytes
  have hr := B.returns
  have hts := atoms_spec (ws := wsX10_wipe) B.pre
  have hown : s.vm.findClass RX10 = some m.cls := findClass_of_methodNamed B.named
  have hlocks := B.notSynchronized
  subst hsz
  have hD := hD0.self (sz := s.heap.size)
  generalize hAe : va_A ([(h1, .inr (6, [v_sites, v_maps, v_told, v_kinds, v_land, v_spades, v_part, v_pad, .int (nI pm), v_slips, v_slipMany, v_made, v_queue, v_depth, v_by, v_from, v_come, v_offOf, v_parent, v_best, v_trees, v_least, v_sums, v_toward, v_kept, v_isKept, v_keptAt, v_isWriting]))]) s.heap.size = A at hD E0 ⊢
  have E : EV G A s s.heap := E0
  have hA : ∀ q : Nat, s.heap.size ≤ q → A q := fun q h => by rw [← hAe]; exact Or.inr h
  have hS : va_S A s.heap s.heap [] := va_S.rf
  have hl := lv_entry ([.ref h1]) (n := 2) (Nat.le_of_ble_eq_true rfl)
  rw [lg_entry_eq]
  generalize (lg_sl ([.ref h1]) ++ List.replicate (2 - (lg_sl ([.ref h1])).length) Slot.unset).toArray = ls at hl ⊢
  have hl : lv_has ls 2 [(0, .ref h1)] := hl
  have hP : va_P G.1 vwCl ([(h1, .inr (6, [v_sites, v_maps, v_told, v_kinds, v_land, v_spades, v_part, v_pad, .int (nI pm), v_slips, v_slipMany, v_made, v_queue, v_depth, v_by, v_from, v_come, v_offOf, v_parent, v_best, v_trees, v_least, v_sums, v_toward, v_kept, v_isKept, v_keptAt, v_isWriting]))]) s.heap := hP
  refine lv_aload_n hx hb dX10_wipe_0 rfl (lv_at hl 0 rfl) ?_
  refine va_get (D := G.1) (ci := 6) (v := .int (nI pm)) (C := RX10) (T := TX10) (N := 28) hx hb hts (fun _ h => List.mem_cons_of_mem _ (List.mem_append_right _ h)) hown E.K hP 0 rfl rfl 8 (by decide) (hts (.fieldLink RX10 103 "LastMapModel" "padMany" "I") (by decide +kernel)) (fun _ h9 => h9) rfl dX10_wipe_1 ?_
  refine lv_istore_n (lv' := [(1, .int (nI pm)), (0, .ref h1)]) hx hb dX10_wipe_4 rfl hl (by decide) rfl (fun ls hl => ?_)
  refine lv_aload_n hx hb dX10_wipe_5 rfl (lv_at hl 1 rfl) ?_
  refine lv_iconst (v := 0) hx hb dX10_wipe_6 (by decide) ?_
  refine va_put (D := G.1) (ci := 6) (v := .int 0) (ty := .int) (C := RX10) (T := TX10) (N := 28) hx hb hts (fun _ h => List.mem_cons_of_mem _ (List.mem_append_right _ h)) tyX10 tyX10_ok nmX10 hown E.K hP hD hS 0 rfl rfl 8 (by decide) (hts (.fieldLink RX10 103 "LastMapModel" "padMany" "I") (by decide +kernel)) (fun _ h9 => h9) rfl (by decide +kernel) rfl rfl (Nat.le_of_ble_eq_true rfl) dX10_wipe_7 (fun H locs hP hD hS => ?_)
  have hP : va_P G.1 vwCl ([(h1, .inr (6, [v_sites, v_maps, v_told, v_kinds, v_land, v_spades, v_part, v_pad, .int 0, v_slips, v_slipMany, v_made, v_queue, v_depth, v_by, v_from, v_come, v_offOf, v_parent, v_best, v_trees, v_least, v_sums, v_toward, v_kept, v_isKept, v_keptAt, v_isWriting]))]) H := hP
  have hD : va_D A ([(h1, .inr (6, [v_sites, v_maps, v_told, v_kinds, v_land, v_spades, v_part, v_pad, .int 0, v_slips, v_slipMany, v_made, v_queue, v_depth, v_by, v_from, v_come, v_offOf, v_parent, v_best, v_trees, v_least, v_sums, v_toward, v_kept, v_isKept, v_keptAt, v_isWriting]))]) := hD
  refine lv_iload_n hx hb dX10_wipe_10 rfl (lv_at hl 0 rfl) ?_
  have hP9 := (hP.sub (ws' := [(h1, .inr (6, [v_sites, v_maps, v_told, v_kinds, v_land, v_spades, v_part, v_pad, .int 0, v_slips, v_slipMany, v_made, v_queue, v_depth, v_by, v_from, v_come, v_offOf, v_parent, v_best, v_trees, v_least, v_sums, v_toward, v_kept, v_isKept, v_keptAt, v_isWriting]))]) [0] rfl)
  have hD9 := (hD.sub (ws' := [(h1, .inr (6, [v_sites, v_maps, v_told, v_kinds, v_land, v_spades, v_part, v_pad, .int 0, v_slips, v_slipMany, v_made, v_queue, v_depth, v_by, v_from, v_come, v_offOf, v_parent, v_best, v_trees, v_least, v_sums, v_toward, v_kept, v_isKept, v_keptAt, v_isWriting]))]) [0] (by decide) rfl)
  exact W.iret (v := (nI pm)) hx hb hr (fun t9_ ht9_ hW9_ => ⟨⟨nI pm, (), rfl, rfl, by rw [ht9_]; exact hP9, hD9⟩, hS.F ht9_⟩) hS.2.2 dX10_wipe_11

set_option maxHeartbeats 1000000 in
set_option maxRecDepth 100000 in
theorem m_faultOfMap (l : Launch) (G : Gy) (sz : Nat) (h1 : Nat) (v_maps : Value) (v_told : Value) (v_kinds : Value) (v_land : Value) (v_spades : Value) (v_part : Value) (v_slips : Value) (v_slipMany : Value) (v_made : Value) (v_queue : Value) (v_depth : Value) (v_by : Value) (v_from : Value) (v_come : Value) (v_offOf : Value) (v_parent : Value) (v_best : Value) (v_trees : Value) (v_least : Value) (v_sums : Value) (v_toward : Value) (v_kept : Value) (v_isKept : Value) (v_keptAt : Value) (v_isWriting : Value) (a_pad : Nat) (pm : Nat) (fd : Nat → Int32) (k : Nat) (p0 : Int32) (hk2 : 2 ≤ k) (hk6 : k ≤ 6) (hpm : pm ≤ 40) : Ci l G yX10_faultOfMap wsX10_faultOfMap ({ frames := 2, cells := 0, slots := 0, locals := 45 }) [.ref h1, .int p0] ([(h1, .inr (6, [.int (nI k), v_maps, v_told, v_kinds, v_land, v_spades, v_part, .ref a_pad, .int (nI pm), v_slips, v_slipMany, v_made, v_queue, v_depth, v_by, v_from, v_come, v_offOf, v_parent, v_best, v_trees, v_least, v_sums, v_toward, v_kept, v_isKept, v_keptAt, v_isWriting])), (a_pad, .inl (gI G, 40, .inl fd))]) sz (fun (r : Int32) (_ : Unit) => (r = (-6) ∧ pm = k ∧ ∀ i : Nat, i < k → (0 ≤ sgO (fd i) ∨ (¬ p0 = 0 ∧ fd i = 63))) ∨ (∃ i, i ≤ 40 ∧ r = nI i)) (fun (_ : Unit) => [(h1, .inr (6, [.int (nI k), v_maps, v_told, v_kinds, v_land, v_spades, v_part, .ref a_pad, .int (nI pm), v_slips, v_slipMany, v_made, v_queue, v_depth, v_by, v_from, v_come, v_offOf, v_parent, v_best, v_trees, v_least, v_sums, v_toward, v_kept, v_isKept, v_keptAt, v_isWriting])), (a_pad, .inl (gI G, 40, .inl fd))]) 0 0 := by
  refine Met.ofW (cc := cX10_faultOfMap) (maxL := 4) (ret := (some .int)) (by decide) rfl ?_
  intro p e s m args below meth c s₁ B hml hv
  obtain ⟨rfl, hsz, hP, hD0, E0⟩ := hv
  have hx := B.exec
  have hb := B.bytes
  have hr := B.returns
  have hts := atoms_spec (ws := wsX10_faultOfMap) B.pre
  have hown : s.vm.findClass RX10 = some m.cls := findClass_of_methodNamed B.named
  have hlocks := B.notSynchronized
  subst hsz
  have hD := hD0.self (sz := s.heap.size)
  generalize hAe : va_A ([(h1, .inr (6, [.int (nI k), v_maps, v_told, v_kinds, v_land, v_spades, v_part, .ref a_pad, .int (nI pm), v_slips, v_slipMany, v_made, v_queue, v_depth, v_by, v_from, v_come, v_offOf, v_parent, v_best, v_trees, v_least, v_sums, v_toward, v_kept, v_isKept, v_keptAt, v_isWriting])), (a_pad, .inl (gI G, 40, .inl fd))]) s.heap.size = A at hD E0 ⊢
  have E : EV G A s s.heap := E0
  have hA : ∀ q : Nat, s.heap.size ≤ q → A q := fun q h => by rw [← hAe]; exact Or.inr h
  have hS : va_S A s.heap s.heap [] := va_S.rf
  have hl := lv_entry ([.ref h1, .int p0]) (n := 4) (Nat.le_of_ble_eq_true rfl)
  rw [lg_entry_eq]
  generalize (lg_sl ([.ref h1, .int p0]) ++ List.replicate (4 - (lg_sl ([.ref h1, .int p0])).length) Slot.unset).toArray = ls at hl ⊢
  have hl : lv_has ls 4 [(0, .ref h1), (1, .int p0)] := hl
  have hP : va_P G.1 vwCl ([(h1, .inr (6, [.int (nI k), v_maps, v_told, v_kinds, v_land, v_spades, v_part, .ref a_pad, .int (nI pm), v_slips, v_slipMany, v_made, v_queue, v_depth, v_by, v_from, v_come, v_offOf, v_parent, v_best, v_trees, v_least, v_sums, v_toward, v_kept, v_isKept, v_keptAt, v_isWriting])), (a_pad, .inl (gI G, 40, .inl fd))]) s.heap := hP
  refine lv_iconst (v := 0) hx hb dX10_faultOfMap_0 (by decide) ?_
  refine lv_istore_n (lv' := [(2, .int 0), (0, .ref h1), (1, .int p0)]) hx hb dX10_faultOfMap_1 rfl hl (by decide) rfl (fun ls hl => ?_)
  refine lp_run (x0 := 0) (fun x : Nat => [(h1, .inr (6, [.int (nI k), v_maps, v_told, v_kinds, v_land, v_spades, v_part, .ref a_pad, .int (nI pm), v_slips, v_slipMany, v_made, v_queue, v_depth, v_by, v_from, v_come, v_offOf, v_parent, v_best, v_trees, v_least, v_sums, v_toward, v_kept, v_isKept, v_keptAt, v_isWriting])), (a_pad, .inl (gI G, 40, .inl fd))]) (fun x : Nat => [(2, .int (nI x)), (0, .ref h1), (1, .int p0)]) (fun x : Nat => (x ≤ pm) ∧ (∀ i : Nat, i < x → ¬ i = k ∧ (0 ≤ sgO (fd i) ∨ (¬ p0 = 0 ∧ fd i = 63)))) (fun x : Nat => pm - x) (hP.sub [0, 1] rfl) (hD.sub [0, 1] (by decide) rfl) hS (lv_sub hl [0, 1, 2] rfl) ⟨(by omega), by intro i hi; omega⟩ ?_
  intro xx_ hI ih2 H locs ls hP hD hS hl
  obtain ⟨x, rfl⟩ : ∃ zz_, zz_ = xx_ := ⟨_, rfl⟩
  obtain ⟨hx0, hcan⟩ := hI
  have hl : lv_has ls 4 [(2, .int (nI x)), (0, .ref h1), (1, .int p0)] := hl
  have hP : va_P G.1 vwCl ([(h1, .inr (6, [.int (nI k), v_maps, v_told, v_kinds, v_land, v_spades, v_part, .ref a_pad, .int (nI pm), v_slips, v_slipMany, v_made, v_queue, v_depth, v_by, v_from, v_come, v_offOf, v_parent, v_best, v_trees, v_least, v_sums, v_toward, v_kept, v_isKept, v_keptAt, v_isWriting])), (a_pad, .inl (gI G, 40, .inl fd))]) H := hP
  have hD : va_D A ([(h1, .inr (6, [.int (nI k), v_maps, v_told, v_kinds, v_land, v_spades, v_part, .ref a_pad, .int (nI pm), v_slips, v_slipMany, v_made, v_queue, v_depth, v_by, v_from, v_come, v_offOf, v_parent, v_best, v_trees, v_least, v_sums, v_toward, v_kept, v_isKept, v_keptAt, v_isWriting])), (a_pad, .inl (gI G, 40, .inl fd))]) := hD
  refine lv_iload_n hx hb dX10_faultOfMap_2 rfl (lv_at hl 0 rfl) ?_
  refine lv_aload_n hx hb dX10_faultOfMap_3 rfl (lv_at hl 1 rfl) ?_
  refine va_get (D := G.1) (ci := 6) (v := .int (nI pm)) (C := RX10) (T := TX10) (N := 28) hx hb hts (fun _ h => List.mem_cons_of_mem _ (List.mem_append_right _ h)) hown E.K hP 0 rfl rfl 8 (by decide) (hts (.fieldLink RX10 103 "LastMapModel" "padMany" "I") (by decide +kernel)) (fun _ h9 => h9) rfl dX10_faultOfMap_4 ?_
  refine lv_icmp_ge (tgt := 63) hx hb dX10_faultOfMap_7 (by decide) (fun c1 => ?_) (fun c1 => ?_)
  · have c1 : pm ≤ x := (nI_leI (a := pm) (b := x) (by omega) (by omega)).mp c1
    refine lv_aload_n hx hb dX10_faultOfMap_63 rfl (lv_at hl 1 rfl) ?_
    refine va_get (D := G.1) (ci := 6) (v := .int (nI pm)) (C := RX10) (T := TX10) (N := 28) hx hb hts (fun _ h => List.mem_cons_of_mem _ (List.mem_append_right _ h)) hown E.K hP 0 rfl rfl 8 (by decide) (hts (.fieldLink RX10 103 "LastMapModel" "padMany" "I") (by decide +kernel)) (fun _ h9 => h9) rfl dX10_faultOfMap_64 ?_
    refine lv_aload_n hx hb dX10_faultOfMap_67 rfl (lv_at hl 1 rfl) ?_
    refine va_get (D := G.1) (ci := 6) (v := .int (nI k)) (C := RX10) (T := TX10) (N := 28) hx hb hts (fun _ h => List.mem_cons_of_mem _ (List.mem_append_right _ h)) hown E.K hP 0 rfl rfl 0 (by decide) (hts (.fieldLink RX10 67 "LastMapModel" "sites" "I") (by decide +kernel)) (fun _ h9 => h9) rfl dX10_faultOfMap_68 ?_
    refine lv_icmp_ge (tgt := 81) hx hb dX10_faultOfMap_71 (by decide) (fun c2 => ?_) (fun c2 => ?_)
    · have c2 : k ≤ pm := (nI_leI (a := k) (b := pm) (by omega) (by omega)).mp c2
      refine lv_bipush (v := (-6)) hx hb dX10_faultOfMap_81 (by decide) ?_
      have hP9 := (hP.sub (ws' := [(h1, .inr (6, [.int (nI k), v_maps, v_told, v_kinds, v_land, v_spades, v_part, .ref a_pad, .int (nI pm), v_slips, v_slipMany, v_made, v_queue, v_depth, v_by, v_from, v_come, v_offOf, v_parent, v_best, v_trees, v_least, v_sums, v_toward, v_kept, v_isKept, v_keptAt, v_isWriting])), (a_pad, .inl (gI G, 40, .inl fd))]) [0, 1] rfl)
      have hD9 := (hD.sub (ws' := [(h1, .inr (6, [.int (nI k), v_maps, v_told, v_kinds, v_land, v_spades, v_part, .ref a_pad, .int (nI pm), v_slips, v_slipMany, v_made, v_queue, v_depth, v_by, v_from, v_come, v_offOf, v_parent, v_best, v_trees, v_least, v_sums, v_toward, v_kept, v_isKept, v_keptAt, v_isWriting])), (a_pad, .inl (gI G, 40, .inl fd))]) [0, 1] (by decide) rfl)
      exact W.iret (v := (-6)) hx hb hr (fun t9_ ht9_ hW9_ => ⟨⟨(-6), (), rfl, Or.inl ⟨rfl, by (have q : pm = k := by (rcases Nat.lt_or_ge k pm with q | q <;> first | exact absurd rfl (hcan k (by omega)).1 | omega)); exact ⟨q, fun i hi => (hcan i (by omega)).2⟩⟩, by rw [ht9_]; exact hP9, hD9⟩, hS.F ht9_⟩) hS.2.2 dX10_faultOfMap_83
    · have c2 : ¬ k ≤ pm := fun h9_ => c2 ((nI_leI (a := k) (b := pm) (by omega) (by omega)).mpr h9_)
      refine lv_aload_n hx hb dX10_faultOfMap_74 rfl (lv_at hl 1 rfl) ?_
      refine va_get (D := G.1) (ci := 6) (v := .int (nI pm)) (C := RX10) (T := TX10) (N := 28) hx hb hts (fun _ h => List.mem_cons_of_mem _ (List.mem_append_right _ h)) hown E.K hP 0 rfl rfl 8 (by decide) (hts (.fieldLink RX10 103 "LastMapModel" "padMany" "I") (by decide +kernel)) (fun _ h9 => h9) rfl dX10_faultOfMap_75 ?_
      refine lv_goto (tgt := 83) hx hb dX10_faultOfMap_78 (by decide) ?_
      have hP9 := (hP.sub (ws' := [(h1, .inr (6, [.int (nI k), v_maps, v_told, v_kinds, v_land, v_spades, v_part, .ref a_pad, .int (nI pm), v_slips, v_slipMany, v_made, v_queue, v_depth, v_by, v_from, v_come, v_offOf, v_parent, v_best, v_trees, v_least, v_sums, v_toward, v_kept, v_isKept, v_keptAt, v_isWriting])), (a_pad, .inl (gI G, 40, .inl fd))]) [0, 1] rfl)
      have hD9 := (hD.sub (ws' := [(h1, .inr (6, [.int (nI k), v_maps, v_told, v_kinds, v_land, v_spades, v_part, .ref a_pad, .int (nI pm), v_slips, v_slipMany, v_made, v_queue, v_depth, v_by, v_from, v_come, v_offOf, v_parent, v_best, v_trees, v_least, v_sums, v_toward, v_kept, v_isKept, v_keptAt, v_isWriting])), (a_pad, .inl (gI G, 40, .inl fd))]) [0, 1] (by decide) rfl)
      exact W.iret (v := (nI pm)) hx hb hr (fun t9_ ht9_ hW9_ => ⟨⟨nI pm, (), rfl, Or.inr ⟨pm, by omega, rfl⟩, by rw [ht9_]; exact hP9, hD9⟩, hS.F ht9_⟩) hS.2.2 dX10_faultOfMap_83
  · have c1 : ¬ pm ≤ x := fun h9_ => c1 ((nI_leI (a := pm) (b := x) (by omega) (by omega)).mpr h9_)
    refine lv_aload_n hx hb dX10_faultOfMap_10 rfl (lv_at hl 1 rfl) ?_
    refine va_get (D := G.1) (ci := 6) (v := .ref a_pad) (C := RX10) (T := TX10) (N := 28) hx hb hts (fun _ h => List.mem_cons_of_mem _ (List.mem_append_right _ h)) hown E.K hP 0 rfl rfl 7 (by decide) (hts (.fieldLink RX10 19 "LastMapModel" "pad" "[I") (by decide +kernel)) (fun _ h9 => h9) rfl dX10_faultOfMap_11 ?_
    refine lv_iload_n hx hb dX10_faultOfMap_14 rfl (lv_at hl 0 rfl) ?_
    refine va_iald hx hb E.K hP 1 1 rfl rfl (i := nI x) (vp_in_nI (by omega) (by decide)) dX10_faultOfMap_15 ?_
    refine lv_topi (fun x3 ex3 => ?_)
    refine ca_iR (va_runS (As := [.int x3]) (rest := []) ⟨hx, hb, hml, hown, hts⟩ (m_signOf l G H.size x3) (va_cwS 1 hts gX10_faultOfMap_X10_signOf rfl rfl rfl (by decide +kernel) ⟨by decide +kernel, by decide +kernel⟩) (pre_S E hP hD hS hA [] (by decide) rfl) rfl rfl hl.1 rfl (lv_room (Nat.le_of_ble_eq_true rfl)) dX10_faultOfMap_16 ⟨by decide +kernel, by decide +kernel⟩) hS hP hD hA [] rfl (fun r5 _ H locs w4 hP hS => ?_)
    refine lv_if_ge (tgt := 37) hx hb dX10_faultOfMap_19 (by decide) (fun c6 => ?_) (fun c6 => ?_)
    · refine lv_iconst (v := 1) hx hb dX10_faultOfMap_37 (by decide) ?_
      refine lv_goto (tgt := 42) hx hb dX10_faultOfMap_38 (by decide) ?_
      refine lv_istore_n (lv' := [(3, .int 1), (2, .int (nI x)), (0, .ref h1), (1, .int p0)]) hx hb dX10_faultOfMap_42 rfl hl (by decide) rfl (fun ls hl => ?_)
      refine lv_iload_n hx hb dX10_faultOfMap_43 rfl (lv_at hl 1 rfl) ?_
      refine lv_aload_n hx hb dX10_faultOfMap_44 rfl (lv_at hl 2 rfl) ?_
      refine va_get (D := G.1) (ci := 6) (v := .int (nI k)) (C := RX10) (T := TX10) (N := 28) hx hb hts (fun _ h => List.mem_cons_of_mem _ (List.mem_append_right _ h)) hown E.K hP 0 rfl rfl 0 (by decide) (hts (.fieldLink RX10 67 "LastMapModel" "sites" "I") (by decide +kernel)) (fun _ h9 => h9) rfl dX10_faultOfMap_45 ?_
      refine lv_icmp_eq (tgt := 55) hx hb dX10_faultOfMap_48 (by decide) (fun c7 => ?_) (fun c7 => ?_)
      · have c7 : x = k := (nI_eq (a := x) (b := k) (by omega) (by omega)).mp c7
        refine lv_iload_n hx hb dX10_faultOfMap_55 rfl (lv_at hl 1 rfl) ?_
        have hP9 := (hP.sub (ws' := [(h1, .inr (6, [.int (nI k), v_maps, v_told, v_kinds, v_land, v_spades, v_part, .ref a_pad, .int (nI pm), v_slips, v_slipMany, v_made, v_queue, v_depth, v_by, v_from, v_come, v_offOf, v_parent, v_best, v_trees, v_least, v_sums, v_toward, v_kept, v_isKept, v_keptAt, v_isWriting])), (a_pad, .inl (gI G, 40, .inl fd))]) [0, 1] rfl)
        have hD9 := (hD.sub (ws' := [(h1, .inr (6, [.int (nI k), v_maps, v_told, v_kinds, v_land, v_spades, v_part, .ref a_pad, .int (nI pm), v_slips, v_slipMany, v_made, v_queue, v_depth, v_by, v_from, v_come, v_offOf, v_parent, v_best, v_trees, v_least, v_sums, v_toward, v_kept, v_isKept, v_keptAt, v_isWriting])), (a_pad, .inl (gI G, 40, .inl fd))]) [0, 1] (by decide) rfl)
        exact W.iret (v := (nI x)) hx hb hr (fun t9_ ht9_ hW9_ => ⟨⟨nI x, (), rfl, Or.inr ⟨x, by omega, rfl⟩, by rw [ht9_]; exact hP9, hD9⟩, hS.F ht9_⟩) hS.2.2 dX10_faultOfMap_56
      · have c7 : ¬ x = k := fun h9_ => c7 ((nI_eq (a := x) (b := k) (by omega) (by omega)).mpr h9_)
        refine lv_iload_n hx hb dX10_faultOfMap_51 rfl (lv_at hl 0 rfl) ?_
        refine lv_if_ne (tgt := 57) hx hb dX10_faultOfMap_52 (by decide) (fun _ => ?_) (fun c8 => False.elim (by revert c8; decide))
        obtain ⟨x9, ex9⟩ : ∃ yy_ : Int32, yy_ = (nI x) + 1 := ⟨_, rfl⟩
        refine lv_iinc (v := x9) (lv' := [(2, .int x9), (3, .int 1), (0, .ref h1), (1, .int p0)]) hx hb dX10_faultOfMap_57 hl (k := 1) rfl (by rw [ex9]; rfl) (by decide) rfl (fun ls hl => ?_)
        obtain rfl : x9 = nI (x + 1) := by rw [ex9]; exact nI_add x 1
        refine lv_goto (tgt := 2) hx hb dX10_faultOfMap_60 (by decide) ?_
        refine ih2 (x + 1) ⟨?_, ?_⟩ (by first | omega | (dsimp only; omega)) H locs ls (hP.sub [0, 1] rfl) (hD.sub [0, 1] (by decide) rfl) hS (lv_sub hl [0, 2, 3] rfl)
        · try dsimp only
          omega
        · try dsimp only
          intro i hi; by_cases e9 : i = x
          · subst e9; exact ⟨by omega, by exact Or.inl (by have q := c6; rw [w4, ex3, nI_clamp (by omega)] at q; exact q)⟩
          · exact hcan i (by omega)
    · refine lv_iload_n hx hb dX10_faultOfMap_22 rfl (lv_at hl 2 rfl) ?_
      refine lv_if_eq (tgt := 41) hx hb dX10_faultOfMap_23 (by decide) (fun c10 => ?_) (fun c10 => ?_)
      · refine lv_iconst (v := 0) hx hb dX10_faultOfMap_41 (by decide) ?_
        refine lv_istore_n (lv' := [(3, .int 0), (2, .int (nI x)), (0, .ref h1), (1, .int p0)]) hx hb dX10_faultOfMap_42 rfl hl (by decide) rfl (fun ls hl => ?_)
        refine lv_iload_n hx hb dX10_faultOfMap_43 rfl (lv_at hl 1 rfl) ?_
        refine lv_aload_n hx hb dX10_faultOfMap_44 rfl (lv_at hl 2 rfl) ?_
        refine va_get (D := G.1) (ci := 6) (v := .int (nI k)) (C := RX10) (T := TX10) (N := 28) hx hb hts (fun _ h => List.mem_cons_of_mem _ (List.mem_append_right _ h)) hown E.K hP 0 rfl rfl 0 (by decide) (hts (.fieldLink RX10 67 "LastMapModel" "sites" "I") (by decide +kernel)) (fun _ h9 => h9) rfl dX10_faultOfMap_45 ?_
        refine lv_icmp_eq (tgt := 55) hx hb dX10_faultOfMap_48 (by decide) (fun c11 => ?_) (fun c11 => ?_)
        · have c11 : x = k := (nI_eq (a := x) (b := k) (by omega) (by omega)).mp c11
          refine lv_iload_n hx hb dX10_faultOfMap_55 rfl (lv_at hl 1 rfl) ?_
          have hP9 := (hP.sub (ws' := [(h1, .inr (6, [.int (nI k), v_maps, v_told, v_kinds, v_land, v_spades, v_part, .ref a_pad, .int (nI pm), v_slips, v_slipMany, v_made, v_queue, v_depth, v_by, v_from, v_come, v_offOf, v_parent, v_best, v_trees, v_least, v_sums, v_toward, v_kept, v_isKept, v_keptAt, v_isWriting])), (a_pad, .inl (gI G, 40, .inl fd))]) [0, 1] rfl)
          have hD9 := (hD.sub (ws' := [(h1, .inr (6, [.int (nI k), v_maps, v_told, v_kinds, v_land, v_spades, v_part, .ref a_pad, .int (nI pm), v_slips, v_slipMany, v_made, v_queue, v_depth, v_by, v_from, v_come, v_offOf, v_parent, v_best, v_trees, v_least, v_sums, v_toward, v_kept, v_isKept, v_keptAt, v_isWriting])), (a_pad, .inl (gI G, 40, .inl fd))]) [0, 1] (by decide) rfl)
          exact W.iret (v := (nI x)) hx hb hr (fun t9_ ht9_ hW9_ => ⟨⟨nI x, (), rfl, Or.inr ⟨x, by omega, rfl⟩, by rw [ht9_]; exact hP9, hD9⟩, hS.F ht9_⟩) hS.2.2 dX10_faultOfMap_56
        · have c11 : ¬ x = k := fun h9_ => c11 ((nI_eq (a := x) (b := k) (by omega) (by omega)).mpr h9_)
          refine lv_iload_n hx hb dX10_faultOfMap_51 rfl (lv_at hl 0 rfl) ?_
          refine lv_if_ne (tgt := 57) hx hb dX10_faultOfMap_52 (by decide) (fun c12 => False.elim (by revert c12; decide)) (fun _ => ?_)
          refine lv_iload_n hx hb dX10_faultOfMap_55 rfl (lv_at hl 1 rfl) ?_
          have hP9 := (hP.sub (ws' := [(h1, .inr (6, [.int (nI k), v_maps, v_told, v_kinds, v_land, v_spades, v_part, .ref a_pad, .int (nI pm), v_slips, v_slipMany, v_made, v_queue, v_depth, v_by, v_from, v_come, v_offOf, v_parent, v_best, v_trees, v_least, v_sums, v_toward, v_kept, v_isKept, v_keptAt, v_isWriting])), (a_pad, .inl (gI G, 40, .inl fd))]) [0, 1] rfl)
          have hD9 := (hD.sub (ws' := [(h1, .inr (6, [.int (nI k), v_maps, v_told, v_kinds, v_land, v_spades, v_part, .ref a_pad, .int (nI pm), v_slips, v_slipMany, v_made, v_queue, v_depth, v_by, v_from, v_come, v_offOf, v_parent, v_best, v_trees, v_least, v_sums, v_toward, v_kept, v_isKept, v_keptAt, v_isWriting])), (a_pad, .inl (gI G, 40, .inl fd))]) [0, 1] (by decide) rfl)
          exact W.iret (v := (nI x)) hx hb hr (fun t9_ ht9_ hW9_ => ⟨⟨nI x, (), rfl, Or.inr ⟨x, by omega, rfl⟩, by rw [ht9_]; exact hP9, hD9⟩, hS.F ht9_⟩) hS.2.2 dX10_faultOfMap_56
      · refine lv_aload_n hx hb dX10_faultOfMap_26 rfl (lv_at hl 1 rfl) ?_
        refine va_get (D := G.1) (ci := 6) (v := .ref a_pad) (C := RX10) (T := TX10) (N := 28) hx hb hts (fun _ h => List.mem_cons_of_mem _ (List.mem_append_right _ h)) hown E.K hP 0 rfl rfl 7 (by decide) (hts (.fieldLink RX10 19 "LastMapModel" "pad" "[I") (by decide +kernel)) (fun _ h9 => h9) rfl dX10_faultOfMap_27 ?_
        refine lv_iload_n hx hb dX10_faultOfMap_30 rfl (lv_at hl 0 rfl) ?_
        refine va_iald hx hb E.K hP 1 1 rfl rfl (i := nI x) (vp_in_nI (by omega) (by decide)) dX10_faultOfMap_31 ?_
        refine lv_topi (fun x13 ex13 => ?_)
        refine lv_bipush (v := 63) hx hb dX10_faultOfMap_32 (by decide) ?_
        refine lv_icmp_ne (tgt := 41) hx hb dX10_faultOfMap_34 (by decide) (fun c14 => ?_) (fun c14 => ?_)
        · refine lv_iconst (v := 0) hx hb dX10_faultOfMap_41 (by decide) ?_
          refine lv_istore_n (lv' := [(3, .int 0), (2, .int (nI x)), (0, .ref h1), (1, .int p0)]) hx hb dX10_faultOfMap_42 rfl hl (by decide) rfl (fun ls hl => ?_)
          refine lv_iload_n hx hb dX10_faultOfMap_43 rfl (lv_at hl 1 rfl) ?_
          refine lv_aload_n hx hb dX10_faultOfMap_44 rfl (lv_at hl 2 rfl) ?_
          refine va_get (D := G.1) (ci := 6) (v := .int (nI k)) (C := RX10) (T := TX10) (N := 28) hx hb hts (fun _ h => List.mem_cons_of_mem _ (List.mem_append_right _ h)) hown E.K hP 0 rfl rfl 0 (by decide) (hts (.fieldLink RX10 67 "LastMapModel" "sites" "I") (by decide +kernel)) (fun _ h9 => h9) rfl dX10_faultOfMap_45 ?_
          refine lv_icmp_eq (tgt := 55) hx hb dX10_faultOfMap_48 (by decide) (fun c15 => ?_) (fun c15 => ?_)
          · have c15 : x = k := (nI_eq (a := x) (b := k) (by omega) (by omega)).mp c15
            refine lv_iload_n hx hb dX10_faultOfMap_55 rfl (lv_at hl 1 rfl) ?_
            have hP9 := (hP.sub (ws' := [(h1, .inr (6, [.int (nI k), v_maps, v_told, v_kinds, v_land, v_spades, v_part, .ref a_pad, .int (nI pm), v_slips, v_slipMany, v_made, v_queue, v_depth, v_by, v_from, v_come, v_offOf, v_parent, v_best, v_trees, v_least, v_sums, v_toward, v_kept, v_isKept, v_keptAt, v_isWriting])), (a_pad, .inl (gI G, 40, .inl fd))]) [0, 1] rfl)
            have hD9 := (hD.sub (ws' := [(h1, .inr (6, [.int (nI k), v_maps, v_told, v_kinds, v_land, v_spades, v_part, .ref a_pad, .int (nI pm), v_slips, v_slipMany, v_made, v_queue, v_depth, v_by, v_from, v_come, v_offOf, v_parent, v_best, v_trees, v_least, v_sums, v_toward, v_kept, v_isKept, v_keptAt, v_isWriting])), (a_pad, .inl (gI G, 40, .inl fd))]) [0, 1] (by decide) rfl)
            exact W.iret (v := (nI x)) hx hb hr (fun t9_ ht9_ hW9_ => ⟨⟨nI x, (), rfl, Or.inr ⟨x, by omega, rfl⟩, by rw [ht9_]; exact hP9, hD9⟩, hS.F ht9_⟩) hS.2.2 dX10_faultOfMap_56
          · have c15 : ¬ x = k := fun h9_ => c15 ((nI_eq (a := x) (b := k) (by omega) (by omega)).mpr h9_)
            refine lv_iload_n hx hb dX10_faultOfMap_51 rfl (lv_at hl 0 rfl) ?_
            refine lv_if_ne (tgt := 57) hx hb dX10_faultOfMap_52 (by decide) (fun c16 => False.elim (by revert c16; decide)) (fun _ => ?_)
            refine lv_iload_n hx hb dX10_faultOfMap_55 rfl (lv_at hl 1 rfl) ?_
            have hP9 := (hP.sub (ws' := [(h1, .inr (6, [.int (nI k), v_maps, v_told, v_kinds, v_land, v_spades, v_part, .ref a_pad, .int (nI pm), v_slips, v_slipMany, v_made, v_queue, v_depth, v_by, v_from, v_come, v_offOf, v_parent, v_best, v_trees, v_least, v_sums, v_toward, v_kept, v_isKept, v_keptAt, v_isWriting])), (a_pad, .inl (gI G, 40, .inl fd))]) [0, 1] rfl)
            have hD9 := (hD.sub (ws' := [(h1, .inr (6, [.int (nI k), v_maps, v_told, v_kinds, v_land, v_spades, v_part, .ref a_pad, .int (nI pm), v_slips, v_slipMany, v_made, v_queue, v_depth, v_by, v_from, v_come, v_offOf, v_parent, v_best, v_trees, v_least, v_sums, v_toward, v_kept, v_isKept, v_keptAt, v_isWriting])), (a_pad, .inl (gI G, 40, .inl fd))]) [0, 1] (by decide) rfl)
            exact W.iret (v := (nI x)) hx hb hr (fun t9_ ht9_ hW9_ => ⟨⟨nI x, (), rfl, Or.inr ⟨x, by omega, rfl⟩, by rw [ht9_]; exact hP9, hD9⟩, hS.F ht9_⟩) hS.2.2 dX10_faultOfMap_56
        · refine lv_iconst (v := 1) hx hb dX10_faultOfMap_37 (by decide) ?_
          refine lv_goto (tgt := 42) hx hb dX10_faultOfMap_38 (by decide) ?_
          refine lv_istore_n (lv' := [(3, .int 1), (2, .int (nI x)), (0, .ref h1), (1, .int p0)]) hx hb dX10_faultOfMap_42 rfl hl (by decide) rfl (fun ls hl => ?_)
          refine lv_iload_n hx hb dX10_faultOfMap_43 rfl (lv_at hl 1 rfl) ?_
          refine lv_aload_n hx hb dX10_faultOfMap_44 rfl (lv_at hl 2 rfl) ?_
          refine va_get (D := G.1) (ci := 6) (v := .int (nI k)) (C := RX10) (T := TX10) (N := 28) hx hb hts (fun _ h => List.mem_cons_of_mem _ (List.mem_append_right _ h)) hown E.K hP 0 rfl rfl 0 (by decide) (hts (.fieldLink RX10 67 "LastMapModel" "sites" "I") (by decide +kernel)) (fun _ h9 => h9) rfl dX10_faultOfMap_45 ?_
          refine lv_icmp_eq (tgt := 55) hx hb dX10_faultOfMap_48 (by decide) (fun c17 => ?_) (fun c17 => ?_)
          · have c17 : x = k := (nI_eq (a := x) (b := k) (by omega) (by omega)).mp c17
            refine lv_iload_n hx hb dX10_faultOfMap_55 rfl (lv_at hl 1 rfl) ?_
            have hP9 := (hP.sub (ws' := [(h1, .inr (6, [.int (nI k), v_maps, v_told, v_kinds, v_land, v_spades, v_part, .ref a_pad, .int (nI pm), v_slips, v_slipMany, v_made, v_queue, v_depth, v_by, v_from, v_come, v_offOf, v_parent, v_best, v_trees, v_least, v_sums, v_toward, v_kept, v_isKept, v_keptAt, v_isWriting])), (a_pad, .inl (gI G, 40, .inl fd))]) [0, 1] rfl)
            have hD9 := (hD.sub (ws' := [(h1, .inr (6, [.int (nI k), v_maps, v_told, v_kinds, v_land, v_spades, v_part, .ref a_pad, .int (nI pm), v_slips, v_slipMany, v_made, v_queue, v_depth, v_by, v_from, v_come, v_offOf, v_parent, v_best, v_trees, v_least, v_sums, v_toward, v_kept, v_isKept, v_keptAt, v_isWriting])), (a_pad, .inl (gI G, 40, .inl fd))]) [0, 1] (by decide) rfl)
            exact W.iret (v := (nI x)) hx hb hr (fun t9_ ht9_ hW9_ => ⟨⟨nI x, (), rfl, Or.inr ⟨x, by omega, rfl⟩, by rw [ht9_]; exact hP9, hD9⟩, hS.F ht9_⟩) hS.2.2 dX10_faultOfMap_56
          · have c17 : ¬ x = k := fun h9_ => c17 ((nI_eq (a := x) (b := k) (by omega) (by omega)).mpr h9_)
            refine lv_iload_n hx hb dX10_faultOfMap_51 rfl (lv_at hl 0 rfl) ?_
            refine lv_if_ne (tgt := 57) hx hb dX10_faultOfMap_52 (by decide) (fun _ => ?_) (fun c18 => False.elim (by revert c18; decide))
            obtain ⟨x19, ex19⟩ : ∃ yy_ : Int32, yy_ = (nI x) + 1 := ⟨_, rfl⟩
            refine lv_iinc (v := x19) (lv' := [(2, .int x19), (3, .int 1), (0, .ref h1), (1, .int p0)]) hx hb dX10_faultOfMap_57 hl (k := 1) rfl (by rw [ex19]; rfl) (by decide) rfl (fun ls hl => ?_)
            obtain rfl : x19 = nI (x + 1) := by rw [ex19]; exact nI_add x 1
            refine lv_goto (tgt := 2) hx hb dX10_faultOfMap_60 (by decide) ?_
            refine ih2 (x + 1) ⟨?_, ?_⟩ (by first | omega | (dsimp only; omega)) H locs ls (hP.sub [0, 1] rfl) (hD.sub [0, 1] (by decide) rfl) hS (lv_sub hl [0, 2, 3] rfl)
            · try dsimp only
              omega
            · try dsimp only
              intro i hi; by_cases e9 : i = x
              · subst e9; exact ⟨by omega, by exact Or.inr ⟨c10, by have q := c14; rw [ex13, nI_clamp (by omega)] at q; exact q⟩⟩
              · exact hcan i (by omega)
