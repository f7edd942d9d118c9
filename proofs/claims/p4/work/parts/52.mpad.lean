set_option maxHeartbeats 1000000 in
set_option maxRecDepth 100000 in
theorem m_say (l : Launch) (G : Gy) (sz : Nat) (h1 : Nat) (v_sites : Value) (v_maps : Value) (v_told : Value) (v_kinds : Value) (v_land : Value) (v_spades : Value) (v_part : Value) (v_slips : Value) (v_slipMany : Value) (v_made : Value) (v_queue : Value) (v_depth : Value) (v_by : Value) (v_from : Value) (v_come : Value) (v_offOf : Value) (v_parent : Value) (v_best : Value) (v_trees : Value) (v_least : Value) (v_sums : Value) (v_toward : Value) (v_kept : Value) (v_isKept : Value) (v_keptAt : Value) (v_isWriting : Value) (a_pad : Nat) (pm : Nat) (fd : Nat → Int32) (p0 : Int32) (hpm : pm ≤ 40) : Ci l G yX10_say wsX10_say ({ frames := 1, cells := 0, slots := 0, locals := 25 }) [.ref h1, .int p0] ([(h1, .inr (6, [v_sites, v_maps, v_told, v_kinds, v_land, v_spades, v_part, .ref a_pad, .int (nI pm), v_slips, v_slipMany, v_made, v_queue, v_depth, v_by, v_from, v_come, v_offOf, v_parent, v_best, v_trees, v_least, v_sums, v_toward, v_kept, v_isKept, v_keptAt, v_isWriting])), (a_pad, .inl (gI G, 40, .inl fd))]) sz (fun (r : Int32) (u : Nat × (Nat → Int32)) => match u with | (pm1, fd1) => (¬ inR p0 33 126 ∧ r = (-2) ∧ pm1 = pm ∧ fd1 = fd) ∨ (inR p0 33 126 ∧ pm = 40 ∧ r = (-4) ∧ pm1 = pm ∧ fd1 = fd) ∨ (inR p0 33 126 ∧ pm < 40 ∧ r = nI (pm + 1) ∧ pm1 = pm + 1 ∧ fd1 = upd fd pm p0)) (fun (u : Nat × (Nat → Int32)) => match u with | (pm1, fd1) => [(h1, .inr (6, [v_sites, v_maps, v_told, v_kinds, v_land, v_spades, v_part, .ref a_pad, .int (nI pm1), v_slips, v_slipMany, v_made, v_queue, v_depth, v_by, v_from, v_come, v_offOf, v_parent, v_best, v_trees, v_least, v_sums, v_toward, v_kept, v_isKept, v_keptAt, v_isWriting])), (a_pad, .inl (gI G, 40, .inl fd1))]) 0 0 := by
  refine Met.ofW (cc := cX10_say) (maxL := 2) (ret := (some .int)) (by decide) rfl ?_
  intro p e s m args below meth c s₁ B hml hv
  obtain ⟨rfl, hsz, hP, hD0, E0⟩ := hv
  have hx := B.exec
  have hb := B.bytes
  have hr := B.returns
  have hts := atoms_spec (ws := wsX10_say) B.pre
  have hown : s.vm.findClass RX10 = some m.cls := findClass_of_methodNamed B.named
  have hlocks := B.notSynchronized
  subst hsz
  have hD := hD0.self (sz := s.heap.size)
  generalize hAe : va_A ([(h1, .inr (6, [v_sites, v_maps, v_told, v_kinds, v_land, v_spades, v_part, .ref a_pad, .int (nI pm), v_slips, v_slipMany, v_made, v_queue, v_depth, v_by, v_from, v_come, v_offOf, v_parent, v_best, v_trees, v_least, v_sums, v_toward, v_kept, v_isKept, v_keptAt, v_isWriting])), (a_pad, .inl (gI G, 40, .inl fd))]) s.heap.size = A at hD E0 ⊢
  have E : EV G A s s.heap := E0
  have hA : ∀ q : Nat, s.heap.size ≤ q → A q := fun q h => by rw [← hAe]; exact Or.inr h
  have hS : va_S A s.heap s.heap [] := va_S.rf
  have hl := lv_entry ([.ref h1, .int p0]) (n := 2) (Nat.le_of_ble_eq_true rfl)
  rw [lg_entry_eq]
  generalize (lg_sl ([.ref h1, .int p0]) ++ List.replicate (2 - (lg_sl ([.ref h1, .int p0])).length) Slot.unset).toArray = ls at hl ⊢
  have hl : lv_has ls 2 [(0, .ref h1), (1, .int p0)] := hl
  have hP : va_P G.1 vwCl ([(h1, .inr (6, [v_sites, v_maps, v_told, v_kinds, v_land, v_spades, v_part, .ref a_pad, .int (nI pm), v_slips, v_slipMany, v_made, v_queue, v_depth, v_by, v_from, v_come, v_offOf, v_parent, v_best, v_trees, v_least, v_sums, v_toward, v_kept, v_isKept, v_keptAt, v_isWriting])), (a_pad, .inl (gI G, 40, .inl fd))]) s.heap := hP
  refine lv_iload_n hx hb dX10_say_0 rfl (lv_at hl 1 rfl) ?_
  refine lv_i2l hx hb dX10_say_1 rfl ?_
  refine lv_topl (fun x1 ex1 => ?_)
  refine lv_ldc2 (v := 33) hx hb hown (hts (.constantLong RX10 99 (33)) (by decide +kernel)) dX10_say_2 ?_
  refine lv_ldc2 (v := 126) hx hb hown (hts (.constantLong RX10 101 (126)) (by decide +kernel)) dX10_say_5 ?_
  refine ca_iR (va_runS (As := [.long x1, .long 33, .long 126]) (rest := []) ⟨hx, hb, hml, hown, hts⟩ (m_in l G s.heap.size x1 33 126 p0 33 126 ex1 (by decide) (by decide)) (va_cwS 3 hts gX10_say_X10_in rfl rfl rfl (by decide +kernel) ⟨by decide +kernel, by decide +kernel⟩) (pre_S E hP hD hS hA [] (by decide) rfl) rfl rfl hl.1 rfl (lv_room (Nat.le_of_ble_eq_true rfl)) dX10_say_8 ⟨by decide +kernel, by decide +kernel⟩) hS hP hD hA [] rfl (fun r3 _ H locs w2 hP hS => ?_)
  rcases w2 with ⟨rfl, b4⟩ | ⟨rfl, b4⟩
  · refine lv_if_ne (tgt := 17) hx hb dX10_say_11 (by decide) (fun _ => ?_) (fun c5 => False.elim (by revert c5; decide))
    refine lv_aload_n hx hb dX10_say_17 rfl (lv_at hl 0 rfl) ?_
    refine va_get (D := G.1) (ci := 6) (v := .int (nI pm)) (C := RX10) (T := TX10) (N := 28) hx hb hts (fun _ h => List.mem_cons_of_mem _ (List.mem_append_right _ h)) hown E.K hP 0 rfl rfl 8 (by decide) (hts (.fieldLink RX10 103 "LastMapModel" "padMany" "I") (by decide +kernel)) (fun _ h9 => h9) rfl dX10_say_18 ?_
    refine lv_bipush (v := 40) hx hb dX10_say_21 (by decide) ?_
    refine lv_icmp_ne (tgt := 29) hx hb dX10_say_23 (by decide) (fun c6 => ?_) (fun c6 => ?_)
    · have c6 : ¬ pm = 40 := fun h9_ => c6 ((nI_eq (a := pm) (b := 40) (by omega) (by omega)).mpr h9_)
      refine lv_aload_n hx hb dX10_say_29 rfl (lv_at hl 0 rfl) ?_
      refine va_get (D := G.1) (ci := 6) (v := .ref a_pad) (C := RX10) (T := TX10) (N := 28) hx hb hts (fun _ h => List.mem_cons_of_mem _ (List.mem_append_right _ h)) hown E.K hP 0 rfl rfl 7 (by decide) (hts (.fieldLink RX10 19 "LastMapModel" "pad" "[I") (by decide +kernel)) (fun _ h9 => h9) rfl dX10_say_30 ?_
      refine lv_aload_n hx hb dX10_say_33 rfl (lv_at hl 0 rfl) ?_
      refine va_get (D := G.1) (ci := 6) (v := .int (nI pm)) (C := RX10) (T := TX10) (N := 28) hx hb hts (fun _ h => List.mem_cons_of_mem _ (List.mem_append_right _ h)) hown E.K hP 0 rfl rfl 8 (by decide) (hts (.fieldLink RX10 103 "LastMapModel" "padMany" "I") (by decide +kernel)) (fun _ h9 => h9) rfl dX10_say_34 ?_
      refine lv_iload_n hx hb dX10_say_37 rfl (lv_at hl 1 rfl) ?_
      refine va_iast hx hb E.K hP hD hS 1 1 rfl rfl (i := nI pm) (vp_in_nI (by omega) (by decide)) dX10_say_38 (fun H locs hP hD hS => ?_)
      obtain ⟨f7, ef7⟩ : ∃ yy_ : Nat → Int32, yy_ = upd fd (nI pm).toNatClampNeg p0 := ⟨_, rfl⟩
      have hP : va_P G.1 vwCl ([(h1, .inr (6, [v_sites, v_maps, v_told, v_kinds, v_land, v_spades, v_part, .ref a_pad, .int (nI pm), v_slips, v_slipMany, v_made, v_queue, v_depth, v_by, v_from, v_come, v_offOf, v_parent, v_best, v_trees, v_least, v_sums, v_toward, v_kept, v_isKept, v_keptAt, v_isWriting])), (a_pad, .inl (gI G, 40, .inl f7))]) H := by rw [ef7]; exact hP
      have hD : va_D A ([(h1, .inr (6, [v_sites, v_maps, v_told, v_kinds, v_land, v_spades, v_part, .ref a_pad, .int (nI pm), v_slips, v_slipMany, v_made, v_queue, v_depth, v_by, v_from, v_come, v_offOf, v_parent, v_best, v_trees, v_least, v_sums, v_toward, v_kept, v_isKept, v_keptAt, v_isWriting])), (a_pad, .inl (gI G, 40, .inl f7))]) := by rw [ef7]; exact hD
      refine lv_aload_n hx hb dX10_say_39 rfl (lv_at hl 0 rfl) ?_
      refine lv_dup hx hb dX10_say_40 rfl ?_
      refine va_get (D := G.1) (ci := 6) (v := .int (nI pm)) (C := RX10) (T := TX10) (N := 28) hx hb hts (fun _ h => List.mem_cons_of_mem _ (List.mem_append_right _ h)) hown E.K hP 0 rfl rfl 8 (by decide) (hts (.fieldLink RX10 103 "LastMapModel" "padMany" "I") (by decide +kernel)) (fun _ h9 => h9) rfl dX10_say_41 ?_
      refine lv_iconst (v := 1) hx hb dX10_say_44 (by decide) ?_
      refine lv_iadd hx hb dX10_say_45 ?_
      refine lv_topi (fun x8 ex8 => ?_)
      obtain rfl : x8 = nI (pm + 1) := by rw [ex8]; exact nI_add pm 1
      refine va_put (D := G.1) (ci := 6) (v := .int (nI (pm + 1))) (ty := .int) (C := RX10) (T := TX10) (N := 28) hx hb hts (fun _ h => List.mem_cons_of_mem _ (List.mem_append_right _ h)) tyX10 tyX10_ok nmX10 hown E.K hP hD hS 0 rfl rfl 8 (by decide) (hts (.fieldLink RX10 103 "LastMapModel" "padMany" "I") (by decide +kernel)) (fun _ h9 => h9) rfl (by decide +kernel) rfl rfl (Nat.le_of_ble_eq_true rfl) dX10_say_46 (fun H locs hP hD hS => ?_)
      have hP : va_P G.1 vwCl ([(h1, .inr (6, [v_sites, v_maps, v_told, v_kinds, v_land, v_spades, v_part, .ref a_pad, .int (nI (pm + 1)), v_slips, v_slipMany, v_made, v_queue, v_depth, v_by, v_from, v_come, v_offOf, v_parent, v_best, v_trees, v_least, v_sums, v_toward, v_kept, v_isKept, v_keptAt, v_isWriting])), (a_pad, .inl (gI G, 40, .inl f7))]) H := hP
      have hD : va_D A ([(h1, .inr (6, [v_sites, v_maps, v_told, v_kinds, v_land, v_spades, v_part, .ref a_pad, .int (nI (pm + 1)), v_slips, v_slipMany, v_made, v_queue, v_depth, v_by, v_from, v_come, v_offOf, v_parent, v_best, v_trees, v_least, v_sums, v_toward, v_kept, v_isKept, v_keptAt, v_isWriting])), (a_pad, .inl (gI G, 40, .inl f7))]) := hD
      refine lv_aload_n hx hb dX10_say_49 rfl (lv_at hl 0 rfl) ?_
      refine va_get (D := G.1) (ci := 6) (v := .int (nI (pm + 1))) (C := RX10) (T := TX10) (N := 28) hx hb hts (fun _ h => List.mem_cons_of_mem _ (List.mem_append_right _ h)) hown E.K hP 0 rfl rfl 8 (by decide) (hts (.fieldLink RX10 103 "LastMapModel" "padMany" "I") (by decide +kernel)) (fun _ h9 => h9) rfl dX10_say_50 ?_
      have hP9 := (hP.sub (ws' := [(h1, .inr (6, [v_sites, v_maps, v_told, v_kinds, v_land, v_spades, v_part, .ref a_pad, .int (nI (pm + 1)), v_slips, v_slipMany, v_made, v_queue, v_depth, v_by, v_from, v_come, v_offOf, v_parent, v_best, v_trees, v_least, v_sums, v_toward, v_kept, v_isKept, v_keptAt, v_isWriting])), (a_pad, .inl (gI G, 40, .inl f7))]) [0, 1] rfl)
      have hD9 := (hD.sub (ws' := [(h1, .inr (6, [v_sites, v_maps, v_told, v_kinds, v_land, v_spades, v_part, .ref a_pad, .int (nI (pm + 1)), v_slips, v_slipMany, v_made, v_queue, v_depth, v_by, v_from, v_come, v_offOf, v_parent, v_best, v_trees, v_least, v_sums, v_toward, v_kept, v_isKept, v_keptAt, v_isWriting])), (a_pad, .inl (gI G, 40, .inl f7))]) [0, 1] (by decide) rfl)
      exact W.iret (v := (nI (pm + 1))) hx hb hr (fun t9_ ht9_ hW9_ => ⟨⟨nI (pm + 1), ((pm + 1), f7), rfl, Or.inr (Or.inr ⟨b4, by omega, rfl, rfl, by rw [ef7, nI_clamp (by omega)]⟩), by rw [ht9_]; exact hP9, hD9⟩, hS.F ht9_⟩) hS.2.2 dX10_say_53
    · have c6 : pm = 40 := (nI_eq (a := pm) (b := 40) (by omega) (by omega)).mp c6
      refine lv_bipush (v := (-4)) hx hb dX10_say_26 (by decide) ?_
      have hP9 := (hP.sub (ws' := [(h1, .inr (6, [v_sites, v_maps, v_told, v_kinds, v_land, v_spades, v_part, .ref a_pad, .int (nI pm), v_slips, v_slipMany, v_made, v_queue, v_depth, v_by, v_from, v_come, v_offOf, v_parent, v_best, v_trees, v_least, v_sums, v_toward, v_kept, v_isKept, v_keptAt, v_isWriting])), (a_pad, .inl (gI G, 40, .inl fd))]) [0, 1] rfl)
      have hD9 := (hD.sub (ws' := [(h1, .inr (6, [v_sites, v_maps, v_told, v_kinds, v_land, v_spades, v_part, .ref a_pad, .int (nI pm), v_slips, v_slipMany, v_made, v_queue, v_depth, v_by, v_from, v_come, v_offOf, v_parent, v_best, v_trees, v_least, v_sums, v_toward, v_kept, v_isKept, v_keptAt, v_isWriting])), (a_pad, .inl (gI G, 40, .inl fd))]) [0, 1] (by decide) rfl)
      exact W.iret (v := (-4)) hx hb hr (fun t9_ ht9_ hW9_ => ⟨⟨(-4), (pm, fd), rfl, Or.inr (Or.inl ⟨b4, by omega, rfl, rfl, rfl⟩), by rw [ht9_]; exact hP9, hD9⟩, hS.F ht9_⟩) hS.2.2 dX10_say_28
  · refine lv_if_ne (tgt := 17) hx hb dX10_say_11 (by decide) (fun c9 => False.elim (by revert c9; decide)) (fun _ => ?_)
    refine lv_bipush (v := (-2)) hx hb dX10_say_14 (by decide) ?_
    have hP9 := (hP.sub (ws' := [(h1, .inr (6, [v_sites, v_maps, v_told, v_kinds, v_land, v_spades, v_part, .ref a_pad, .int (nI pm), v_slips, v_slipMany, v_made, v_queue, v_depth, v_by, v_from, v_come, v_offOf, v_parent, v_best, v_trees, v_least, v_sums, v_toward, v_kept, v_isKept, v_keptAt, v_isWriting])), (a_pad, .inl (gI G, 40, .inl fd))]) [0, 1] rfl)
    have hD9 := (hD.sub (ws' := [(h1, .inr (6, [v_sites, v_maps, v_told, v_kinds, v_land, v_spades, v_part, .ref a_pad, .int (nI pm), v_slips, v_slipMany, v_made, v_queue, v_depth, v_by, v_from, v_come, v_offOf, v_parent, v_best, v_trees, v_least, v_sums, v_toward, v_kept, v_isKept, v_keptAt, v_isWriting])), (a_pad, .inl (gI G, 40, .inl fd))]) [0, 1] (by decide) rfl)
    exact W.iret (v := (-2)) hx hb hr (fun t9_ ht9_ hW9_ => ⟨⟨(-2), (pm, fd), rfl, Or.inl ⟨b4, rfl, rfl, rfl⟩, by rw [ht9_]; exact hP9, hD9⟩, hS.F ht9_⟩) hS.2.2 dX10_say_16

set_option maxHeartbeats 1000000 in
set_option maxRecDepth 100000 in
theorem m_wipe (l : Launch) (G : Gy) (sz : Nat) (h1 : Nat) (v_sites : Value) (v_maps : Value) (v_told : Value) (v_kinds : Value) (v_land : Value) (v_spades : Value) (v_part : Value) (v_pad : Value) (v_slips : Value) (v_slipMany : Value) (v_made : Value) (v_queue : Value) (v_depth : Value) (v_by : Value) (v_from : Value) (v_come : Value) (v_offOf : Value) (v_parent : Value) (v_best : Value) (v_trees : Value) (v_least : Value) (v_sums : Value) (v_toward : Value) (v_kept : Value) (v_isKept : Value) (v_keptAt : Value) (v_isWriting : Value) (pm : Nat)  : Ci l G yX10_wipe wsX10_wipe ({ frames := 0, cells := 0, slots := 0, locals := 0 }) [.ref h1] ([(h1, .inr (6, [v_sites, v_maps, v_told, v_kinds, v_land, v_spades, v_part, v_pad, .int (nI pm), v_slips, v_slipMany, v_made, v_queue, v_depth, v_by, v_from, v_come, v_offOf, v_parent, v_best, v_trees, v_least, v_sums, v_toward, v_kept, v_isKept, v_keptAt, v_isWriting]))]) sz (fun (r : Int32) (_ : Unit) => r = nI pm) (fun (_ : Unit) => [(h1, .inr (6, [v_sites, v_maps, v_told, v_kinds, v_land, v_spades, v_part, v_pad, .int 0, v_slips, v_slipMany, v_made, v_queue, v_depth, v_by, v_from, v_come, v_offOf, v_parent, v_best, v_trees, v_least, v_sums, v_toward, v_kept, v_isKept, v_keptAt, v_isWriting]))]) 0 0 := by
  refine Met.ofW (cc := cX10_wipe) (maxL := 2) (ret := (some .int)) (by decide) rfl ?_
  intro p e s m args below meth c s₁ B hml hv
  obtain ⟨rfl, hsz, hP, hD0, E0⟩ := hv
  have hx := B.exec
  have hb := B.bytes
  have hr := B.returns
  have hts := atoms_spec (ws := wsX10_wipe) B.pre
  have hown : s.vm.findClass RX10 = some m.cls := findClass_of_methodNamed B.named
  have hlocks := B.notSynchronized
  subst hsz
  have hD := hD0.self (sz := s.heap.size)
  generalize hAe : va_A ([(h1, .inr (6, [v_sites, v_maps, v_told, v_kinds, v_land, v_spades, v_part, v_pad, .int (nI pm), v_slips, v_slipMany, v_made, v_queue, v_depth, v_by, v_from, v_come, v_offOf, v_parent, v_best, v_trees, v_least, v_sums, v_toward, v_kept, v_isKept, v_keptAt, v_isWriting]))]) s.heap.size = A at hD E0 ⊢
  have E : EV G A s s.heap := E0
  have hA : ∀ q : Nat, s.heap.size ≤ q → A q := fun q h => by rw [← hAe]; exact Or.inr h
  have hS : va_S A s.heap s.heap [] := va_S.rf
  have hl := lv_entry ([.ref h1]) (n := 2) (Nat.le_of_ble_eq_true rfl)
  rw [lg_entry_eq]
  generalize (lg_sl ([.ref h1]) ++ List.replicate (2 - (lg_sl ([.ref h1])).length) Slot.unset).toArray = ls at hl ⊢
  have hl : lv_has ls 2 [(0, .ref h1)] := hl
  have hP : va_P G.1 vwCl ([(h1, .inr (6, [v_sites, v_maps, v_told, v_kinds, v_land, v_spades, v_part, v_pad, .int (nI pm), v_slips, v_slipMany, v_made, v_queue, v_depth, v_by, v_from, v_come, v_offOf, v_parent, v_best, v_trees, v_least, v_sums, v_toward, v_kept, v_isKept, v_keptAt, v_isWriting]))]) s.heap := hP
  refine lv_aload_n hx hb dX10_wipe_0 rfl (lv_at hl 0 rfl) ?_
  refine va_get (D := G.1) (ci := 6) (v := .int (nI pm)) (C := RX10) (T := TX10) (N := 28) hx hb hts (fun _ h => List.mem_cons_of_mem _ (List.mem_append_right _ h)) hown E.K hP 0 rfl rfl 8 (by decide) (hts (.fieldLink RX10 103 "LastMapModel" "padMany" "I") (by decide +kernel)) (fun _ h9 => h9) rfl dX10_wipe_1 ?_
  refine lv_istore_n (lv' := [(1, .int (nI pm)), (0, .ref h1)]) hx hb dX10_wipe_4 rfl hl (by decide) rfl (fun ls hl => ?_)
  refine lv_aload_n hx hb dX10_wipe_5 rfl (lv_at hl 1 rfl) ?_
  refine lv_iconst (v := 0) hx hb dX10_wipe_6 (by decide) ?_
  refine va_put (D := G.1) (ci := 6) (v := .int 0) (ty := .int) (C := RX10) (T := TX10) (N := 28) hx hb hts (fun _ h => List.mem_cons_of_mem _ (List.mem_append_right _ h)) tyX10 tyX10_ok nmX10 hown E.K hP hD hS 0 rfl rfl 8 (by decide) (hts (.fieldLink RX10 103 "LastMapModel" "padMany" "I") (by decide +kernel)) (fun _ h9 => h9) rfl (by decide +kernel) rfl rfl (Nat.le_of_ble_eq_true rfl) dX10_wipe_7 (fun H locs hP hD hS => ?_)
  have hP : va_P G.1 vwCl ([(h1, .inr (6, [v_sites, v_maps, v_told, v_kinds, v_land, v_spades, v_part, v_pad, .int 0, v_slips, v_slipMany, v_made, v_queue, v_depth, v_by, v_from, v_come, v_offOf, v_parent, v_best, v_trees, v_least, v_sums, v_toward, v_kept, v_isKept, v_keptAt, v_isWriting]))]) H := hP
  have hD : va_D A ([(h1, .inr (6, [v_sites, v_maps, v_told, v_kinds, v_land, v_spades, v_part, v_pad, .int 0, v_slips, v_slipMany, v_made, v_queue, v_depth, v_by, v_from, v_come, v_offOf, v_parent, v_best, v_trees, v_least, v_sums, v_toward, v_kept, v_isKept, v_keptAt, v_isWriting]))]) := hD
  refine lv_iload_n hx hb dX10_wipe_10 rfl (lv_at hl 0 rfl) ?_
  have hP9 := (hP.sub (ws' := [(h1, .inr (6, [v_sites, v_maps, v_told, v_kinds, v_land, v_spades, v_part, v_pad, .int 0, v_slips, v_slipMany, v_made, v_queue, v_depth, v_by, v_from, v_come, v_offOf, v_parent, v_best, v_trees, v_least, v_sums, v_toward, v_kept, v_isKept, v_keptAt, v_isWriting]))]) [0] rfl)
  have hD9 := (hD.sub (ws' := [(h1, .inr (6, [v_sites, v_maps, v_told, v_kinds, v_land, v_spades, v_part, v_pad, .int 0, v_slips, v_slipMany, v_made, v_queue, v_depth, v_by, v_from, v_come, v_offOf, v_parent, v_best, v_trees, v_least, v_sums, v_toward, v_kept, v_isKept, v_keptAt, v_isWriting]))]) [0] (by decide) rfl)
  exact W.iret (v := (nI pm)) hx hb hr (fun t9_ ht9_ hW9_ => ⟨⟨nI pm, (), rfl, rfl, by rw [ht9_]; exact hP9, hD9⟩, hS.F ht9_⟩) hS.2.2 dX10_wipe_11

set_option maxHeartbeats 1000000 in
set_option maxRecDepth 100000 in
theorem m_faultOfMap (l : Launch) (G : Gy) (sz : Nat) (h1 : Nat) (v_maps : Value) (v_told : Value) (v_kinds : Value) (v_land : Value) (v_spades : Value) (v_part : Value) (v_slips : Value) (v_slipMany : Value) (v_made : Value) (v_queue : Value) (v_depth : Value) (v_by : Value) (v_from : Value) (v_come : Value) (v_offOf : Value) (v_parent : Value) (v_best : Value) (v_trees : Value) (v_least : Value) (v_sums : Value) (v_toward : Value) (v_kept : Value) (v_isKept : Value) (v_keptAt : Value) (v_isWriting : Value) (a_pad : Nat) (pm : Nat) (fd : Nat → Int32) (k : Nat) (p0 : Int32) (hk2 : 2 ≤ k) (hk6 : k ≤ 6) (hpm : pm ≤ 40) : Ci l G yX10_faultOfMap wsX10_faultOfMap ({ frames := 2, cells := 0, slots := 0, locals := 45 }) [.ref h1, .int p0] ([(h1, .inr (6, [.int (nI k), v_maps, v_told, v_kinds, v_land, v_spades, v_part, .ref a_pad, .int (nI pm), v_slips, v_slipMany, v_made, v_queue, v_depth, v_by, v_from, v_come, v_offOf, v_parent, v_best, v_trees, v_least, v_sums, v_toward, v_kept, v_isKept, v_keptAt, v_isWriting])), (a_pad, .inl (gI G, 40, .inl fd))]) sz (fun (r : Int32) (_ : Unit) => (r = (-6) ∧ pm = k ∧ ∀ i : Nat, i < k → (0 ≤ sgO (fd i) ∨ (¬ p0 = 0 ∧ fd i = 63))) ∨ (∃ i, i ≤ 40 ∧ r = nI i)) (fun (_ : Unit) => [(h1, .inr (6, [.int (nI k), v_maps, v_told, v_kinds, v_land, v_spades, v_part, .ref a_pad, .int (nI pm), v_slips, v_slipMany, v_made, v_queue, v_depth, v_by, v_from, v_come, v_offOf, v_parent, v_best, v_trees, v_least, v_sums, v_toward, v_kept, v_isKept, v_keptAt, v_isWriting])), (a_pad, .inl (gI G, 40, .inl fd))]) 0 0 := by
  refine Met.ofW (cc := cX10_faultOfMap) (maxL := 4) (ret := (some .int)) (by decide) rfl ?_
  intro p e s m args below meth c s₁ B hml hv
  obtain ⟨rfl, hsz, hP, hD0, E0⟩ := hv
  have hx := B.exec
  have hb := B.bytes
  have hr := B.returns
  have hts := atoms_spec (ws := wsX10_faultOfMap) B.pre
  have hown : s.vm.findClass RX10 = some m.cls := findClass_of_methodNamed B.named
  have hlocks := B.notSynchronized
  subst hsz
  have hD := hD0.self (sz := s.heap.size)
  generalize hAe : va_A ([(h1, .inr (6, [.int (nI k), v_maps, v_told, v_kinds, v_land, v_spades, v_part, .ref a_pad, .int (nI pm), v_slips, v_slipMany, v_made, v_queue, v_depth, v_by, v_from, v_come, v_offOf, v_parent, v_best, v_trees, v_least, v_sums, v_toward, v_kept, v_isKept, v_keptAt, v_isWriting])), (a_pad, .inl (gI G, 40, .inl fd))]) s.heap.size = A at hD E0 ⊢
  have E : EV G A s s.heap := E0
  have hA : ∀ q : Nat, s.heap.size ≤ q → A q := fun q h => by rw [← hAe]; exact Or.inr h
  have hS : va_S A s.heap s.heap [] := va_S.rf
  have hl := lv_entry ([.ref h1, .int p0]) (n := 4) (Nat.le_of_ble_eq_true rfl)
  rw [lg_entry_eq]
  generalize (lg_sl ([.ref h1, .int p0]) ++ List.replicate (4 - (lg_sl ([.ref h1, .int p0])).length) Slot.unset).toArray = ls at hl ⊢
  have hl : lv_has ls 4 [(0, .ref h1), (1, .int p0)] := hl
  have hP : va_P G.1 vwCl ([(h1, .inr (6, [.int (nI k), v_maps, v_told, v_kinds, v_land, v_spades, v_part, .ref a_pad, .int (nI pm), v_slips, v_slipMany, v_made, v_queue, v_depth, v_by, v_from, v_come, v_offOf, v_parent, v_best, v_trees, v_least, v_sums, v_toward, v_kept, v_isKept, v_keptAt, v_isWriting])), (a_pad, .inl (gI G, 40, .inl fd))]) s.heap := hP
  refine lv_iconst (v := 0) hx hb dX10_faultOfMap_0 (by decide) ?_
  refine lv_istore_n (lv' := [(2, .int 0), (0, .ref h1), (1, .int p0)]) hx hb dX10_faultOfMap_1 rfl hl (by decide) rfl (fun ls hl => ?_)
  refine lp_run (x0 := 0) (fun x : Nat => [(h1, .inr (6, [.int (nI k), v_maps, v_told, v_kinds, v_land, v_spades, v_part, .ref a_pad, .int (nI pm), v_slips, v_slipMany, v_made, v_queue, v_depth, v_by, v_from, v_come, v_offOf, v_parent, v_best, v_trees, v_least, v_sums, v_toward, v_kept, v_isKept, v_keptAt, v_isWriting])), (a_pad, .inl (gI G, 40, .inl fd))]) (fun x : Nat => [(2, .int (nI x)), (0, .ref h1), (1, .int p0)]) (fun x : Nat => (x ≤ pm) ∧ (∀ i : Nat, i < x → ¬ i = k ∧ (0 ≤ sgO (fd i) ∨ (¬ p0 = 0 ∧ fd i = 63)))) (fun x : Nat => pm - x) (hP.sub [0, 1] rfl) (hD.sub [0, 1] (by decide) rfl) hS (lv_sub hl [0, 1, 2] rfl) ⟨(by omega), by intro i hi; omega⟩ ?_
  intro xx_ hI ih2 H locs ls hP hD hS hl
  obtain ⟨x, rfl⟩ : ∃ zz_, zz_ = xx_ := ⟨_, rfl⟩
  obtain ⟨hx0, hcan⟩ := hI
  have hl : lv_has ls 4 [(2, .int (nI x)), (0, .ref h1), (1, .int p0)] := hl
  have hP : va_P G.1 vwCl ([(h1, .inr (6, [.int (nI k), v_maps, v_told, v_kinds, v_land, v_spades, v_part, .ref a_pad, .int (nI pm), v_slips, v_slipMany, v_made, v_queue, v_depth, v_by, v_from, v_come, v_offOf, v_parent, v_best, v_trees, v_least, v_sums, v_toward, v_kept, v_isKept, v_keptAt, v_isWriting])), (a_pad, .inl (gI G, 40, .inl fd))]) H := hP
  have hD : va_D A ([(h1, .inr (6, [.int (nI k), v_maps, v_told, v_kinds, v_land, v_spades, v_part, .ref a_pad, .int (nI pm), v_slips, v_slipMany, v_made, v_queue, v_depth, v_by, v_from, v_come, v_offOf, v_parent, v_best, v_trees, v_least, v_sums, v_toward, v_kept, v_isKept, v_keptAt, v_isWriting])), (a_pad, .inl (gI G, 40, .inl fd))]) := hD
  refine lv_iload_n hx hb dX10_faultOfMap_2 rfl (lv_at hl 0 rfl) ?_
  refine lv_aload_n hx hb dX10_faultOfMap_3 rfl (lv_at hl 1 rfl) ?_
  refine va_get (D := G.1) (ci := 6) (v := .int (nI pm)) (C := RX10) (T := TX10) (N := 28) hx hb hts (fun _ h => List.mem_cons_of_mem _ (List.mem_append_right _ h)) hown E.K hP 0 rfl rfl 8 (by decide) (hts (.fieldLink RX10 103 "LastMapModel" "padMany" "I") (by decide +kernel)) (fun _ h9 => h9) rfl dX10_faultOfMap_4 ?_
  refine lv_icmp_ge (tgt := 63) hx hb dX10_faultOfMap_7 (by decide) (fun c1 => ?_) (fun c1 => ?_)
  · have c1 : pm ≤ x := (nI_leI (a := pm) (b := x) (by omega) (by omega)).mp c1
    refine lv_aload_n hx hb dX10_faultOfMap_63 rfl (lv_at hl 1 rfl) ?_
    refine va_get (D := G.1) (ci := 6) (v := .int (nI pm)) (C := RX10) (T := TX10) (N := 28) hx hb hts (fun _ h => List.mem_cons_of_mem _ (List.mem_append_right _ h)) hown E.K hP 0 rfl rfl 8 (by decide) (hts (.fieldLink RX10 103 "LastMapModel" "padMany" "I") (by decide +kernel)) (fun _ h9 => h9) rfl dX10_faultOfMap_64 ?_
    refine lv_aload_n hx hb dX10_faultOfMap_67 rfl (lv_at hl 1 rfl) ?_
    refine va_get (D := G.1) (ci := 6) (v := .int (nI k)) (C := RX10) (T := TX10) (N := 28) hx hb hts (fun _ h => List.mem_cons_of_mem _ (List.mem_append_right _ h)) hown E.K hP 0 rfl rfl 0 (by decide) (hts (.fieldLink RX10 67 "LastMapModel" "sites" "I") (by decide +kernel)) (fun _ h9 => h9) rfl dX10_faultOfMap_68 ?_
    refine lv_icmp_ge (tgt := 81) hx hb dX10_faultOfMap_71 (by decide) (fun c2 => ?_) (fun c2 => ?_)
    · have c2 : k ≤ pm := (nI_leI (a := k) (b := pm) (by omega) (by omega)).mp c2
      refine lv_bipush (v := (-6)) hx hb dX10_faultOfMap_81 (by decide) ?_
      have hP9 := (hP.sub (ws' := [(h1, .inr (6, [.int (nI k), v_maps, v_told, v_kinds, v_land, v_spades, v_part, .ref a_pad, .int (nI pm), v_slips, v_slipMany, v_made, v_queue, v_depth, v_by, v_from, v_come, v_offOf, v_parent, v_best, v_trees, v_least, v_sums, v_toward, v_kept, v_isKept, v_keptAt, v_isWriting])), (a_pad, .inl (gI G, 40, .inl fd))]) [0, 1] rfl)
      have hD9 := (hD.sub (ws' := [(h1, .inr (6, [.int (nI k), v_maps, v_told, v_kinds, v_land, v_spades, v_part, .ref a_pad, .int (nI pm), v_slips, v_slipMany, v_made, v_queue, v_depth, v_by, v_from, v_come, v_offOf, v_parent, v_best, v_trees, v_least, v_sums, v_toward, v_kept, v_isKept, v_keptAt, v_isWriting])), (a_pad, .inl (gI G, 40, .inl fd))]) [0, 1] (by decide) rfl)
      exact W.iret (v := (-6)) hx hb hr (fun t9_ ht9_ hW9_ => ⟨⟨(-6), (), rfl, Or.inl ⟨rfl, by (have q : pm = k := by (rcases Nat.lt_or_ge k pm with q | q <;> first | exact absurd rfl (hcan k (by omega)).1 | omega)); exact ⟨q, fun i hi => (hcan i (by omega)).2⟩⟩, by rw [ht9_]; exact hP9, hD9⟩, hS.F ht9_⟩) hS.2.2 dX10_faultOfMap_83
    · have c2 : ¬ k ≤ pm := fun h9_ => c2 ((nI_leI (a := k) (b := pm) (by omega) (by omega)).mpr h9_)
      refine lv_aload_n hx hb dX10_faultOfMap_74 rfl (lv_at hl 1 rfl) ?_
      refine va_get (D := G.1) (ci := 6) (v := .int (nI pm)) (C := RX10) (T := TX10) (N := 28) hx hb hts (fun _ h => List.mem_cons_of_mem _ (List.mem_append_right _ h)) hown E.K hP 0 rfl rfl 8 (by decide) (hts (.fieldLink RX10 103 "LastMapModel" "padMany" "I") (by decide +kernel)) (fun _ h9 => h9) rfl dX10_faultOfMap_75 ?_
      refine lv_goto (tgt := 83) hx hb dX10_faultOfMap_78 (by decide) ?_
      have hP9 := (hP.sub (ws' := [(h1, .inr (6, [.int (nI k), v_maps, v_told, v_kinds, v_land, v_spades, v_part, .ref a_pad, .int (nI pm), v_slips, v_slipMany, v_made, v_queue, v_depth, v_by, v_from, v_come, v_offOf, v_parent, v_best, v_trees, v_least, v_sums, v_toward, v_kept, v_isKept, v_keptAt, v_isWriting])), (a_pad, .inl (gI G, 40, .inl fd))]) [0, 1] rfl)
      have hD9 := (hD.sub (ws' := [(h1, .inr (6, [.int (nI k), v_maps, v_told, v_kinds, v_land, v_spades, v_part, .ref a_pad, .int (nI pm), v_slips, v_slipMany, v_made, v_queue, v_depth, v_by, v_from, v_come, v_offOf, v_parent, v_best, v_trees, v_least, v_sums, v_toward, v_kept, v_isKept, v_keptAt, v_isWriting])), (a_pad, .inl (gI G, 40, .inl fd))]) [0, 1] (by decide) rfl)
      exact W.iret (v := (nI pm)) hx hb hr (fun t9_ ht9_ hW9_ => ⟨⟨nI pm, (), rfl, Or.inr ⟨pm, by omega, rfl⟩, by rw [ht9_]; exact hP9, hD9⟩, hS.F ht9_⟩) hS.2.2 dX10_faultOfMap_83
  · have c1 : ¬ pm ≤ x := fun h9_ => c1 ((nI_leI (a := pm) (b := x) (by omega) (by omega)).mpr h9_)
    refine lv_aload_n hx hb dX10_faultOfMap_10 rfl (lv_at hl 1 rfl) ?_
    refine va_get (D := G.1) (ci := 6) (v := .ref a_pad) (C := RX10) (T := TX10) (N := 28) hx hb hts (fun _ h => List.mem_cons_of_mem _ (List.mem_append_right _ h)) hown E.K hP 0 rfl rfl 7 (by decide) (hts (.fieldLink RX10 19 "LastMapModel" "pad" "[I") (by decide +kernel)) (fun _ h9 => h9) rfl dX10_faultOfMap_11 ?_
    refine lv_iload_n hx hb dX10_faultOfMap_14 rfl (lv_at hl 0 rfl) ?_
    refine va_iald hx hb E.K hP 1 1 rfl rfl (i := nI x) (vp_in_nI (by omega) (by decide)) dX10_faultOfMap_15 ?_
    refine lv_topi (fun x3 ex3 => ?_)
    refine ca_iR (va_runS (As := [.int x3]) (rest := []) ⟨hx, hb, hml, hown, hts⟩ (m_signOf l G H.size x3) (va_cwS 1 hts gX10_faultOfMap_X10_signOf rfl rfl rfl (by decide +kernel) ⟨by decide +kernel, by decide +kernel⟩) (pre_S E hP hD hS hA [] (by decide) rfl) rfl rfl hl.1 rfl (lv_room (Nat.le_of_ble_eq_true rfl)) dX10_faultOfMap_16 ⟨by decide +kernel, by decide +kernel⟩) hS hP hD hA [] rfl (fun r5 _ H locs w4 hP hS => ?_)
    refine lv_if_ge (tgt := 37) hx hb dX10_faultOfMap_19 (by decide) (fun c6 => ?_) (fun c6 => ?_)
    · refine lv_iconst (v := 1) hx hb dX10_faultOfMap_37 (by decide) ?_
      refine lv_goto (tgt := 42) hx hb dX10_faultOfMap_38 (by decide) ?_
      refine lv_istore_n (lv' := [(3, .int 1), (2, .int (nI x)), (0, .ref h1), (1, .int p0)]) hx hb dX10_faultOfMap_42 rfl hl (by decide) rfl (fun ls hl => ?_)
      refine lv_iload_n hx hb dX10_faultOfMap_43 rfl (lv_at hl 1 rfl) ?_
      refine lv_aload_n hx hb dX10_faultOfMap_44 rfl (lv_at hl 2 rfl) ?_
      refine va_get (D := G.1) (ci := 6) (v := .int (nI k)) (C := RX10) (T := TX10) (N := 28) hx hb hts (fun _ h => List.mem_cons_of_mem _ (List.mem_append_right _ h)) hown E.K hP 0 rfl rfl 0 (by decide) (hts (.fieldLink RX10 67 "LastMapModel" "sites" "I") (by decide +kernel)) (fun _ h9 => h9) rfl dX10_faultOfMap_45 ?_
      refine lv_icmp_eq (tgt := 55) hx hb dX10_faultOfMap_48 (by decide) (fun c7 => ?_) (fun c7 => ?_)
      · have c7 : x = k := (nI_eq (a := x) (b := k) (by omega) (by omega)).mp c7
        refine lv_iload_n hx hb dX10_faultOfMap_55 rfl (lv_at hl 1 rfl) ?_
        have hP9 := (hP.sub (ws' := [(h1, .inr (6, [.int (nI k), v_maps, v_told, v_kinds, v_land, v_spades, v_part, .ref a_pad, .int (nI pm), v_slips, v_slipMany, v_made, v_queue, v_depth, v_by, v_from, v_come, v_offOf, v_parent, v_best, v_trees, v_least, v_sums, v_toward, v_kept, v_isKept, v_keptAt, v_isWriting])), (a_pad, .inl (gI G, 40, .inl fd))]) [0, 1] rfl)
        have hD9 := (hD.sub (ws' := [(h1, .inr (6, [.int (nI k), v_maps, v_told, v_kinds, v_land, v_spades, v_part, .ref a_pad, .int (nI pm), v_slips, v_slipMany, v_made, v_queue, v_depth, v_by, v_from, v_come, v_offOf, v_parent, v_best, v_trees, v_least, v_sums, v_toward, v_kept, v_isKept, v_keptAt, v_isWriting])), (a_pad, .inl (gI G, 40, .inl fd))]) [0, 1] (by decide) rfl)
        exact W.iret (v := (nI x)) hx hb hr (fun t9_ ht9_ hW9_ => ⟨⟨nI x, (), rfl, Or.inr ⟨x, by omega, rfl⟩, by rw [ht9_]; exact hP9, hD9⟩, hS.F ht9_⟩) hS.2.2 dX10_faultOfMap_56
      · have c7 : ¬ x = k := fun h9_ => c7 ((nI_eq (a := x) (b := k) (by omega) (by omega)).mpr h9_)
        refine lv_iload_n hx hb dX10_faultOfMap_51 rfl (lv_at hl 0 rfl) ?_
        refine lv_if_ne (tgt := 57) hx hb dX10_faultOfMap_52 (by decide) (fun _ => ?_) (fun c8 => False.elim (by revert c8; decide))
        obtain ⟨x9, ex9⟩ : ∃ yy_ : Int32, yy_ = (nI x) + 1 := ⟨_, rfl⟩
        refine lv_iinc (v := x9) (lv' := [(2, .int x9), (3, .int 1), (0, .ref h1), (1, .int p0)]) hx hb dX10_faultOfMap_57 hl (k := 1) rfl (by rw [ex9]; rfl) (by decide) rfl (fun ls hl => ?_)
        obtain rfl : x9 = nI (x + 1) := by rw [ex9]; exact nI_add x 1
        refine lv_goto (tgt := 2) hx hb dX10_faultOfMap_60 (by decide) ?_
        refine ih2 (x + 1) ⟨?_, ?_⟩ (by first | omega | (dsimp only; omega)) H locs ls (hP.sub [0, 1] rfl) (hD.sub [0, 1] (by decide) rfl) hS (lv_sub hl [0, 2, 3] rfl)
        · try dsimp only
          omega
        · try dsimp only
          intro i hi; by_cases e9 : i = x
          · subst e9; exact ⟨by omega, by exact Or.inl (by have q := c6; rw [w4, ex3, nI_clamp (by omega)] at q; exact q)⟩
          · exact hcan i (by omega)
    · refine lv_iload_n hx hb dX10_faultOfMap_22 rfl (lv_at hl 2 rfl) ?_
      refine lv_if_eq (tgt := 41) hx hb dX10_faultOfMap_23 (by decide) (fun c10 => ?_) (fun c10 => ?_)
      · refine lv_iconst (v := 0) hx hb dX10_faultOfMap_41 (by decide) ?_
        refine lv_istore_n (lv' := [(3, .int 0), (2, .int (nI x)), (0, .ref h1), (1, .int p0)]) hx hb dX10_faultOfMap_42 rfl hl (by decide) rfl (fun ls hl => ?_)
        refine lv_iload_n hx hb dX10_faultOfMap_43 rfl (lv_at hl 1 rfl) ?_
        refine lv_aload_n hx hb dX10_faultOfMap_44 rfl (lv_at hl 2 rfl) ?_
        refine va_get (D := G.1) (ci := 6) (v := .int (nI k)) (C := RX10) (T := TX10) (N := 28) hx hb hts (fun _ h => List.mem_cons_of_mem _ (List.mem_append_right _ h)) hown E.K hP 0 rfl rfl 0 (by decide) (hts (.fieldLink RX10 67 "LastMapModel" "sites" "I") (by decide +kernel)) (fun _ h9 => h9) rfl dX10_faultOfMap_45 ?_
        refine lv_icmp_eq (tgt := 55) hx hb dX10_faultOfMap_48 (by decide) (fun c11 => ?_) (fun c11 => ?_)
        · have c11 : x = k := (nI_eq (a := x) (b := k) (by omega) (by omega)).mp c11
          refine lv_iload_n hx hb dX10_faultOfMap_55 rfl (lv_at hl 1 rfl) ?_
          have hP9 := (hP.sub (ws' := [(h1, .inr (6, [.int (nI k), v_maps, v_told, v_kinds, v_land, v_spades, v_part, .ref a_pad, .int (nI pm), v_slips, v_slipMany, v_made, v_queue, v_depth, v_by, v_from, v_come, v_offOf, v_parent, v_best, v_trees, v_least, v_sums, v_toward, v_kept, v_isKept, v_keptAt, v_isWriting])), (a_pad, .inl (gI G, 40, .inl fd))]) [0, 1] rfl)
          have hD9 := (hD.sub (ws' := [(h1, .inr (6, [.int (nI k), v_maps, v_told, v_kinds, v_land, v_spades, v_part, .ref a_pad, .int (nI pm), v_slips, v_slipMany, v_made, v_queue, v_depth, v_by, v_from, v_come, v_offOf, v_parent, v_best, v_trees, v_least, v_sums, v_toward, v_kept, v_isKept, v_keptAt, v_isWriting])), (a_pad, .inl (gI G, 40, .inl fd))]) [0, 1] (by decide) rfl)
          exact W.iret (v := (nI x)) hx hb hr (fun t9_ ht9_ hW9_ => ⟨⟨nI x, (), rfl, Or.inr ⟨x, by omega, rfl⟩, by rw [ht9_]; exact hP9, hD9⟩, hS.F ht9_⟩) hS.2.2 dX10_faultOfMap_56
        · have c11 : ¬ x = k := fun h9_ => c11 ((nI_eq (a := x) (b := k) (by omega) (by omega)).mpr h9_)
          refine lv_iload_n hx hb dX10_faultOfMap_51 rfl (lv_at hl 0 rfl) ?_
          refine lv_if_ne (tgt := 57) hx hb dX10_faultOfMap_52 (by decide) (fun c12 => False.elim (by revert c12; decide)) (fun _ => ?_)
          refine lv_iload_n hx hb dX10_faultOfMap_55 rfl (lv_at hl 1 rfl) ?_
          have hP9 := (hP.sub (ws' := [(h1, .inr (6, [.int (nI k), v_maps, v_told, v_kinds, v_land, v_spades, v_part, .ref a_pad, .int (nI pm), v_slips, v_slipMany, v_made, v_queue, v_depth, v_by, v_from, v_come, v_offOf, v_parent, v_best, v_trees, v_least, v_sums, v_toward, v_kept, v_isKept, v_keptAt, v_isWriting])), (a_pad, .inl (gI G, 40, .inl fd))]) [0, 1] rfl)
          have hD9 := (hD.sub (ws' := [(h1, .inr (6, [.int (nI k), v_maps, v_told, v_kinds, v_land, v_spades, v_part, .ref a_pad, .int (nI pm), v_slips, v_slipMany, v_made, v_queue, v_depth, v_by, v_from, v_come, v_offOf, v_parent, v_best, v_trees, v_least, v_sums, v_toward, v_kept, v_isKept, v_keptAt, v_isWriting])), (a_pad, .inl (gI G, 40, .inl fd))]) [0, 1] (by decide) rfl)
          exact W.iret (v := (nI x)) hx hb hr (fun t9_ ht9_ hW9_ => ⟨⟨nI x, (), rfl, Or.inr ⟨x, by omega, rfl⟩, by rw [ht9_]; exact hP9, hD9⟩, hS.F ht9_⟩) hS.2.2 dX10_faultOfMap_56
      · refine lv_aload_n hx hb dX10_faultOfMap_26 rfl (lv_at hl 1 rfl) ?_
        refine va_get (D := G.1) (ci := 6) (v := .ref a_pad) (C := RX10) (T := TX10) (N := 28) hx hb hts (fun _ h => List.mem_cons_of_mem _ (List.mem_append_right _ h)) hown E.K hP 0 rfl rfl 7 (by decide) (hts (.fieldLink RX10 19 "LastMapModel" "pad" "[I") (by decide +kernel)) (fun _ h9 => h9) rfl dX10_faultOfMap_27 ?_
        refine lv_iload_n hx hb dX10_faultOfMap_30 rfl (lv_at hl 0 rfl) ?_
        refine va_iald hx hb E.K hP 1 1 rfl rfl (i := nI x) (vp_in_nI (by omega) (by decide)) dX10_faultOfMap_31 ?_
        refine lv_topi (fun x13 ex13 => ?_)
        refine lv_bipush (v := 63) hx hb dX10_faultOfMap_32 (by decide) ?_
        refine lv_icmp_ne (tgt := 41) hx hb dX10_faultOfMap_34 (by decide) (fun c14 => ?_) (fun c14 => ?_)
        · refine lv_iconst (v := 0) hx hb dX10_faultOfMap_41 (by decide) ?_
          refine lv_istore_n (lv' := [(3, .int 0), (2, .int (nI x)), (0, .ref h1), (1, .int p0)]) hx hb dX10_faultOfMap_42 rfl hl (by decide) rfl (fun ls hl => ?_)
          refine lv_iload_n hx hb dX10_faultOfMap_43 rfl (lv_at hl 1 rfl) ?_
          refine lv_aload_n hx hb dX10_faultOfMap_44 rfl (lv_at hl 2 rfl) ?_
          refine va_get (D := G.1) (ci := 6) (v := .int (nI k)) (C := RX10) (T := TX10) (N := 28) hx hb hts (fun _ h => List.mem_cons_of_mem _ (List.mem_append_right _ h)) hown E.K hP 0 rfl rfl 0 (by decide) (hts (.fieldLink RX10 67 "LastMapModel" "sites" "I") (by decide +kernel)) (fun _ h9 => h9) rfl dX10_faultOfMap_45 ?_
          refine lv_icmp_eq (tgt := 55) hx hb dX10_faultOfMap_48 (by decide) (fun c15 => ?_) (fun c15 => ?_)
          · have c15 : x = k := (nI_eq (a := x) (b := k) (by omega) (by omega)).mp c15
            refine lv_iload_n hx hb dX10_faultOfMap_55 rfl (lv_at hl 1 rfl) ?_
            have hP9 := (hP.sub (ws' := [(h1, .inr (6, [.int (nI k), v_maps, v_told, v_kinds, v_land, v_spades, v_part, .ref a_pad, .int (nI pm), v_slips, v_slipMany, v_made, v_queue, v_depth, v_by, v_from, v_come, v_offOf, v_parent, v_best, v_trees, v_least, v_sums, v_toward, v_kept, v_isKept, v_keptAt, v_isWriting])), (a_pad, .inl (gI G, 40, .inl fd))]) [0, 1] rfl)
            have hD9 := (hD.sub (ws' := [(h1, .inr (6, [.int (nI k), v_maps, v_told, v_kinds, v_land, v_spades, v_part, .ref a_pad, .int (nI pm), v_slips, v_slipMany, v_made, v_queue, v_depth, v_by, v_from, v_come, v_offOf, v_parent, v_best, v_trees, v_least, v_sums, v_toward, v_kept, v_isKept, v_keptAt, v_isWriting])), (a_pad, .inl (gI G, 40, .inl fd))]) [0, 1] (by decide) rfl)
            exact W.iret (v := (nI x)) hx hb hr (fun t9_ ht9_ hW9_ => ⟨⟨nI x, (), rfl, Or.inr ⟨x, by omega, rfl⟩, by rw [ht9_]; exact hP9, hD9⟩, hS.F ht9_⟩) hS.2.2 dX10_faultOfMap_56
          · have c15 : ¬ x = k := fun h9_ => c15 ((nI_eq (a := x) (b := k) (by omega) (by omega)).mpr h9_)
            refine lv_iload_n hx hb dX10_faultOfMap_51 rfl (lv_at hl 0 rfl) ?_
            refine lv_if_ne (tgt := 57) hx hb dX10_faultOfMap_52 (by decide) (fun c16 => False.elim (by revert c16; decide)) (fun _ => ?_)
            refine lv_iload_n hx hb dX10_faultOfMap_55 rfl (lv_at hl 1 rfl) ?_
            have hP9 := (hP.sub (ws' := [(h1, .inr (6, [.int (nI k), v_maps, v_told, v_kinds, v_land, v_spades, v_part, .ref a_pad, .int (nI pm), v_slips, v_slipMany, v_made, v_queue, v_depth, v_by, v_from, v_come, v_offOf, v_parent, v_best, v_trees, v_least, v_sums, v_toward, v_kept, v_isKept, v_keptAt, v_isWriting])), (a_pad, .inl (gI G, 40, .inl fd))]) [0, 1] rfl)
            have hD9 := (hD.sub (ws' := [(h1, .inr (6, [.int (nI k), v_maps, v_told, v_kinds, v_land, v_spades, v_part, .ref a_pad, .int (nI pm), v_slips, v_slipMany, v_made, v_queue, v_depth, v_by, v_from, v_come, v_offOf, v_parent, v_best, v_trees, v_least, v_sums, v_toward, v_kept, v_isKept, v_keptAt, v_isWriting])), (a_pad, .inl (gI G, 40, .inl fd))]) [0, 1] (by decide) rfl)
            exact W.iret (v := (nI x)) hx hb hr (fun t9_ ht9_ hW9_ => ⟨⟨nI x, (), rfl, Or.inr ⟨x, by omega, rfl⟩, by rw [ht9_]; exact hP9, hD9⟩, hS.F ht9_⟩) hS.2.2 dX10_faultOfMap_56
        · refine lv_iconst (v := 1) hx hb dX10_faultOfMap_37 (by decide) ?_
          refine lv_goto (tgt := 42) hx hb dX10_faultOfMap_38 (by decide) ?_
          refine lv_istore_n (lv' := [(3, .int 1), (2, .int (nI x)), (0, .ref h1), (1, .int p0)]) hx hb dX10_faultOfMap_42 rfl hl (by decide) rfl (fun ls hl => ?_)
          refine lv_iload_n hx hb dX10_faultOfMap_43 rfl (lv_at hl 1 rfl) ?_
          refine lv_aload_n hx hb dX10_faultOfMap_44 rfl (lv_at hl 2 rfl) ?_
          refine va_get (D := G.1) (ci := 6) (v := .int (nI k)) (C := RX10) (T := TX10) (N := 28) hx hb hts (fun _ h => List.mem_cons_of_mem _ (List.mem_append_right _ h)) hown E.K hP 0 rfl rfl 0 (by decide) (hts (.fieldLink RX10 67 "LastMapModel" "sites" "I") (by decide +kernel)) (fun _ h9 => h9) rfl dX10_faultOfMap_45 ?_
          refine lv_icmp_eq (tgt := 55) hx hb dX10_faultOfMap_48 (by decide) (fun c17 => ?_) (fun c17 => ?_)
          · have c17 : x = k := (nI_eq (a := x) (b := k) (by omega) (by omega)).mp c17
            refine lv_iload_n hx hb dX10_faultOfMap_55 rfl (lv_at hl 1 rfl) ?_
            have hP9 := (hP.sub (ws' := [(h1, .inr (6, [.int (nI k), v_maps, v_told, v_kinds, v_land, v_spades, v_part, .ref a_pad, .int (nI pm), v_slips, v_slipMany, v_made, v_queue, v_depth, v_by, v_from, v_come, v_offOf, v_parent, v_best, v_trees, v_least, v_sums, v_toward, v_kept, v_isKept, v_keptAt, v_isWriting])), (a_pad, .inl (gI G, 40, .inl fd))]) [0, 1] rfl)
            have hD9 := (hD.sub (ws' := [(h1, .inr (6, [.int (nI k), v_maps, v_told, v_kinds, v_land, v_spades, v_part, .ref a_pad, .int (nI pm), v_slips, v_slipMany, v_made, v_queue, v_depth, v_by, v_from, v_come, v_offOf, v_parent, v_best, v_trees, v_least, v_sums, v_toward, v_kept, v_isKept, v_keptAt, v_isWriting])), (a_pad, .inl (gI G, 40, .inl fd))]) [0, 1] (by decide) rfl)
            exact W.iret (v := (nI x)) hx hb hr (fun t9_ ht9_ hW9_ => ⟨⟨nI x, (), rfl, Or.inr ⟨x, by omega, rfl⟩, by rw [ht9_]; exact hP9, hD9⟩, hS.F ht9_⟩) hS.2.2 dX10_faultOfMap_56
          · have c17 : ¬ x = k := fun h9_ => c17 ((nI_eq (a := x) (b := k) (by omega) (by omega)).mpr h9_)
            refine lv_iload_n hx hb dX10_faultOfMap_51 rfl (lv_at hl 0 rfl) ?_
            refine lv_if_ne (tgt := 57) hx hb dX10_faultOfMap_52 (by decide) (fun _ => ?_) (fun c18 => False.elim (by revert c18; decide))
            obtain ⟨x19, ex19⟩ : ∃ yy_ : Int32, yy_ = (nI x) + 1 := ⟨_, rfl⟩
            refine lv_iinc (v := x19) (lv' := [(2, .int x19), (3, .int 1), (0, .ref h1), (1, .int p0)]) hx hb dX10_faultOfMap_57 hl (k := 1) rfl (by rw [ex19]; rfl) (by decide) rfl (fun ls hl => ?_)
            obtain rfl : x19 = nI (x + 1) := by rw [ex19]; exact nI_add x 1
            refine lv_goto (tgt := 2) hx hb dX10_faultOfMap_60 (by decide) ?_
            refine ih2 (x + 1) ⟨?_, ?_⟩ (by first | omega | (dsimp only; omega)) H locs ls (hP.sub [0, 1] rfl) (hD.sub [0, 1] (by decide) rfl) hS (lv_sub hl [0, 2, 3] rfl)
            · try dsimp only
              omega
            · try dsimp only
              intro i hi; by_cases e9 : i = x
              · subst e9; exact ⟨by omega, by exact Or.inr ⟨c10, by have q := c14; rw [ex13, nI_clamp (by omega)] at q; exact q⟩⟩
              · exact hcan i (by omega)

set_option maxHeartbeats 1000000 in
set_option maxRecDepth 100000 in
theorem m_faultOfSlips (l : Launch) (G : Gy) (sz : Nat) (h1 : Nat) (v_maps : Value) (v_told : Value) (v_kinds : Value) (v_land : Value) (v_spades : Value) (v_part : Value) (v_made : Value) (v_queue : Value) (v_depth : Value) (v_by : Value) (v_from : Value) (v_come : Value) (v_offOf : Value) (v_parent : Value) (v_best : Value) (v_trees : Value) (v_least : Value) (v_sums : Value) (v_toward : Value) (v_kept : Value) (v_isKept : Value) (v_keptAt : Value) (v_isWriting : Value) (a_pad : Nat) (pm : Nat) (fd : Nat → Int32) (a_slips : Nat) (k : Nat) (fs : Nat → Int32) (sm0 : Int32) (hk2 : 2 ≤ k) (hk6 : k ≤ 6) (hpm : pm ≤ 40) : Ci l G yX10_faultOfSlips wsX10_faultOfSlips ({ frames := 1, cells := 0, slots := 0, locals := 25 }) [.ref h1] ([(h1, .inr (6, [.int (nI k), v_maps, v_told, v_kinds, v_land, v_spades, v_part, .ref a_pad, .int (nI pm), .ref a_slips, .int sm0, v_made, v_queue, v_depth, v_by, v_from, v_come, v_offOf, v_parent, v_best, v_trees, v_least, v_sums, v_toward, v_kept, v_isKept, v_keptAt, v_isWriting])), (a_pad, .inl (gI G, 40, .inl fd)), (a_slips, .inl (gI G, 10, .inl fs))]) sz (fun (r : Int32) (u : Nat × (Nat → Int32)) => match u with | (sm1, fs1) => sm1 ≤ 10 ∧ (∀ i : Nat, i < sm1 → slipOK k (fs1 i)) ∧ (r = (-6) ∨ ∃ i, i ≤ 40 ∧ r = nI i)) (fun (u : Nat × (Nat → Int32)) => match u with | (sm1, fs1) => [(h1, .inr (6, [.int (nI k), v_maps, v_told, v_kinds, v_land, v_spades, v_part, .ref a_pad, .int (nI pm), .ref a_slips, .int (nI sm1), v_made, v_queue, v_depth, v_by, v_from, v_come, v_offOf, v_parent, v_best, v_trees, v_least, v_sums, v_toward, v_kept, v_isKept, v_keptAt, v_isWriting])), (a_pad, .inl (gI G, 40, .inl fd)), (a_slips, .inl (gI G, 10, .inl fs1))]) 0 0 := by
  refine Met.ofW (cc := cX10_faultOfSlips) (maxL := 7) (ret := (some .int)) (by decide) rfl ?_
  intro p e s m args below meth c s₁ B hml hv
  obtain ⟨rfl, hsz, hP, hD0, E0⟩ := hv
  have hx := B.exec
  have hb := B.bytes
  have hr := B.returns
  have hts := atoms_spec (ws := wsX10_faultOfSlips) B.pre
  have hown : s.vm.findClass RX10 = some m.cls := findClass_of_methodNamed B.named
  have hlocks := B.notSynchronized
  subst hsz
  have hD := hD0.self (sz := s.heap.size)
  generalize hAe : va_A ([(h1, .inr (6, [.int (nI k), v_maps, v_told, v_kinds, v_land, v_spades, v_part, .ref a_pad, .int (nI pm), .ref a_slips, .int sm0, v_made, v_queue, v_depth, v_by, v_from, v_come, v_offOf, v_parent, v_best, v_trees, v_least, v_sums, v_toward, v_kept, v_isKept, v_keptAt, v_isWriting])), (a_pad, .inl (gI G, 40, .inl fd)), (a_slips, .inl (gI G, 10, .inl fs))]) s.heap.size = A at hD E0 ⊢
  have E : EV G A s s.heap := E0
  have hA : ∀ q : Nat, s.heap.size ≤ q → A q := fun q h => by rw [← hAe]; exact Or.inr h
  have hS : va_S A s.heap s.heap [] := va_S.rf
  have hl := lv_entry ([.ref h1]) (n := 7) (Nat.le_of_ble_eq_true rfl)
  rw [lg_entry_eq]
  generalize (lg_sl ([.ref h1]) ++ List.replicate (7 - (lg_sl ([.ref h1])).length) Slot.unset).toArray = ls at hl ⊢
  have hl : lv_has ls 7 [(0, .ref h1)] := hl
  have hP : va_P G.1 vwCl ([(h1, .inr (6, [.int (nI k), v_maps, v_told, v_kinds, v_land, v_spades, v_part, .ref a_pad, .int (nI pm), .ref a_slips, .int sm0, v_made, v_queue, v_depth, v_by, v_from, v_come, v_offOf, v_parent, v_best, v_trees, v_least, v_sums, v_toward, v_kept, v_isKept, v_keptAt, v_isWriting])), (a_pad, .inl (gI G, 40, .inl fd)), (a_slips, .inl (gI G, 10, .inl fs))]) s.heap := hP
  refine lv_iconst (v := 0) hx hb dX10_faultOfSlips_0 (by decide) ?_
  refine lv_istore_n (lv' := [(1, .int 0), (0, .ref h1)]) hx hb dX10_faultOfSlips_1 rfl hl (by decide) rfl (fun ls hl => ?_)
  refine lv_iconst (v := 0) hx hb dX10_faultOfSlips_2 (by decide) ?_
  refine lv_istore_n (lv' := [(2, .int 0), (1, .int 0), (0, .ref h1)]) hx hb dX10_faultOfSlips_3 rfl hl (by decide) rfl (fun ls hl => ?_)
  refine lv_iconst (v := 0) hx hb dX10_faultOfSlips_4 (by decide) ?_
  refine lv_istore_n (lv' := [(3, .int 0), (2, .int 0), (1, .int 0), (0, .ref h1)]) hx hb dX10_faultOfSlips_5 rfl hl (by decide) rfl (fun ls hl => ?_)
  refine lv_aload_n hx hb dX10_faultOfSlips_6 rfl (lv_at hl 3 rfl) ?_
  refine lv_iconst (v := 0) hx hb dX10_faultOfSlips_7 (by decide) ?_
  refine va_put (D := G.1) (ci := 6) (v := .int 0) (ty := .int) (C := RX10) (T := TX10) (N := 28) hx hb hts (fun _ h => List.mem_cons_of_mem _ (List.mem_append_right _ h)) tyX10 tyX10_ok nmX10 hown E.K hP hD hS 0 rfl rfl 10 (by decide) (hts (.fieldLink RX10 110 "LastMapModel" "slipMany" "I") (by decide +kernel)) (fun _ h9 => h9) rfl (by decide +kernel) rfl rfl (Nat.le_of_ble_eq_true rfl) dX10_faultOfSlips_8 (fun H locs hP hD hS => ?_)
  have hP : va_P G.1 vwCl ([(h1, .inr (6, [.int (nI k), v_maps, v_told, v_kinds, v_land, v_spades, v_part, .ref a_pad, .int (nI pm), .ref a_slips, .int 0, v_made, v_queue, v_depth, v_by, v_from, v_come, v_offOf, v_parent, v_best, v_trees, v_least, v_sums, v_toward, v_kept, v_isKept, v_keptAt, v_isWriting])), (a_pad, .inl (gI G, 40, .inl fd)), (a_slips, .inl (gI G, 10, .inl fs))]) H := hP
  have hD : va_D A ([(h1, .inr (6, [.int (nI k), v_maps, v_told, v_kinds, v_land, v_spades, v_part, .ref a_pad, .int (nI pm), .ref a_slips, .int 0, v_made, v_queue, v_depth, v_by, v_from, v_come, v_offOf, v_parent, v_best, v_trees, v_least, v_sums, v_toward, v_kept, v_isKept, v_keptAt, v_isWriting])), (a_pad, .inl (gI G, 40, .inl fd)), (a_slips, .inl (gI G, 10, .inl fs))]) := hD
  refine lv_iconst (v := 0) hx hb dX10_faultOfSlips_11 (by decide) ?_
  refine lv_istore (lv' := [(4, .int 0), (3, .int 0), (2, .int 0), (1, .int 0), (0, .ref h1)]) hx hb dX10_faultOfSlips_12 hl (by decide) rfl (fun ls hl => ?_)
  refine lp_run (x0 := (0, 0, 0, 0, 0, fs)) (fun xx_ : Nat × Nat × Nat × Nat × Nat × (Nat → Int32) => match xx_ with | (x, sa, kd, si, sm, g) => [(h1, .inr (6, [.int (nI k), v_maps, v_told, v_kinds, v_land, v_spades, v_part, .ref a_pad, .int (nI pm), .ref a_slips, .int (nI sm), v_made, v_queue, v_depth, v_by, v_from, v_come, v_offOf, v_parent, v_best, v_trees, v_least, v_sums, v_toward, v_kept, v_isKept, v_keptAt, v_isWriting])), (a_pad, .inl (gI G, 40, .inl fd)), (a_slips, .inl (gI G, 10, .inl g))]) (fun xx_ : Nat × Nat × Nat × Nat × Nat × (Nat → Int32) => match xx_ with | (x, sa, kd, si, sm, g) => [(4, .int (nI x)), (3, .int (nI si)), (2, .int (nI kd)), (1, .int (nI sa)), (0, .ref h1)]) (fun xx_ : Nat × Nat × Nat × Nat × Nat × (Nat → Int32) => match xx_ with | (x, sa, kd, si, sm, g) => (x ≤ pm) ∧ (sa ≤ 2) ∧ (kd ≤ 3) ∧ (sm ≤ 10 ∧ (1 ≤ sa → sm < 10)) ∧ (sa = 2 → kd = 0 ∧ si < k) ∧ (∀ i : Nat, i < sm → slipOK k (g i))) (fun xx_ : Nat × Nat × Nat × Nat × Nat × (Nat → Int32) => match xx_ with | (x, sa, kd, si, sm, g) => pm - x) (hP.sub [0, 1, 2] rfl) (hD.sub [0, 1, 2] (by decide) rfl) hS (lv_sub hl [0, 1, 2, 3, 4] rfl) ⟨(by omega), by omega, by omega, by omega, by omega, by intro i hi; omega⟩ ?_
  intro xx_ hI ih14 H locs ls hP hD hS hl
  obtain ⟨x, sa, kd, si, sm, g⟩ := xx_
  dsimp only at hI ih14 hP hD hl
  obtain ⟨hx0, hsa, hkd, hsm, hsi, hsl⟩ := hI
  have hl : lv_has ls 7 [(4, .int (nI x)), (3, .int (nI si)), (2, .int (nI kd)), (1, .int (nI sa)), (0, .ref h1)] := hl
  have hP : va_P G.1 vwCl ([(h1, .inr (6, [.int (nI k), v_maps, v_told, v_kinds, v_land, v_spades, v_part, .ref a_pad, .int (nI pm), .ref a_slips, .int (nI sm), v_made, v_queue, v_depth, v_by, v_from, v_come, v_offOf, v_parent, v_best, v_trees, v_least, v_sums, v_toward, v_kept, v_isKept, v_keptAt, v_isWriting])), (a_pad, .inl (gI G, 40, .inl fd)), (a_slips, .inl (gI G, 10, .inl g))]) H := hP
  have hD : va_D A ([(h1, .inr (6, [.int (nI k), v_maps, v_told, v_kinds, v_land, v_spades, v_part, .ref a_pad, .int (nI pm), .ref a_slips, .int (nI sm), v_made, v_queue, v_depth, v_by, v_from, v_come, v_offOf, v_parent, v_best, v_trees, v_least, v_sums, v_toward, v_kept, v_isKept, v_keptAt, v_isWriting])), (a_pad, .inl (gI G, 40, .inl fd)), (a_slips, .inl (gI G, 10, .inl g))]) := hD
  refine lv_iload hx hb dX10_faultOfSlips_14 (lv_at hl 0 rfl) ?_
  refine lv_aload_n hx hb dX10_faultOfSlips_16 rfl (lv_at hl 4 rfl) ?_
  refine va_get (D := G.1) (ci := 6) (v := .int (nI pm)) (C := RX10) (T := TX10) (N := 28) hx hb hts (fun _ h => List.mem_cons_of_mem _ (List.mem_append_right _ h)) hown E.K hP 0 rfl rfl 8 (by decide) (hts (.fieldLink RX10 103 "LastMapModel" "padMany" "I") (by decide +kernel)) (fun _ h9 => h9) rfl dX10_faultOfSlips_17 ?_
  refine lv_icmp_ge (tgt := 218) hx hb dX10_faultOfSlips_20 (by decide) (fun c1 => ?_) (fun c1 => ?_)
  · have c1 : pm ≤ x := (nI_leI (a := pm) (b := x) (by omega) (by omega)).mp c1
    refine lv_iload_n hx hb dX10_faultOfSlips_218 rfl (lv_at hl 3 rfl) ?_
    refine lv_if_ne (tgt := 227) hx hb dX10_faultOfSlips_219 (by decide) (fun c2 => ?_) (fun c2 => ?_)
    · have c2 : ¬ sa = 0 := fun h9_ => c2 ((nI_eq (a := sa) (b := 0) (by omega) (by omega)).mpr h9_)
      refine lv_aload_n hx hb dX10_faultOfSlips_227 rfl (lv_at hl 4 rfl) ?_
      refine va_get (D := G.1) (ci := 6) (v := .int (nI pm)) (C := RX10) (T := TX10) (N := 28) hx hb hts (fun _ h => List.mem_cons_of_mem _ (List.mem_append_right _ h)) hown E.K hP 0 rfl rfl 8 (by decide) (hts (.fieldLink RX10 103 "LastMapModel" "padMany" "I") (by decide +kernel)) (fun _ h9 => h9) rfl dX10_faultOfSlips_228 ?_
      have hP9 := (hP.sub (ws' := [(h1, .inr (6, [.int (nI k), v_maps, v_told, v_kinds, v_land, v_spades, v_part, .ref a_pad, .int (nI pm), .ref a_slips, .int (nI sm), v_made, v_queue, v_depth, v_by, v_from, v_come, v_offOf, v_parent, v_best, v_trees, v_least, v_sums, v_toward, v_kept, v_isKept, v_keptAt, v_isWriting])), (a_pad, .inl (gI G, 40, .inl fd)), (a_slips, .inl (gI G, 10, .inl g))]) [0, 1, 2] rfl)
      have hD9 := (hD.sub (ws' := [(h1, .inr (6, [.int (nI k), v_maps, v_told, v_kinds, v_land, v_spades, v_part, .ref a_pad, .int (nI pm), .ref a_slips, .int (nI sm), v_made, v_queue, v_depth, v_by, v_from, v_come, v_offOf, v_parent, v_best, v_trees, v_least, v_sums, v_toward, v_kept, v_isKept, v_keptAt, v_isWriting])), (a_pad, .inl (gI G, 40, .inl fd)), (a_slips, .inl (gI G, 10, .inl g))]) [0, 1, 2] (by decide) rfl)
      exact W.iret (v := (nI pm)) hx hb hr (fun t9_ ht9_ hW9_ => ⟨⟨nI pm, (sm, g), rfl, ⟨by omega, hsl, Or.inr ⟨pm, by omega, rfl⟩⟩, by rw [ht9_]; exact hP9, hD9⟩, hS.F ht9_⟩) hS.2.2 dX10_faultOfSlips_231
    · have c2 : sa = 0 := (nI_eq (a := sa) (b := 0) (by omega) (by omega)).mp c2
      refine lv_bipush (v := (-6)) hx hb dX10_faultOfSlips_222 (by decide) ?_
      refine lv_goto (tgt := 231) hx hb dX10_faultOfSlips_224 (by decide) ?_
      have hP9 := (hP.sub (ws' := [(h1, .inr (6, [.int (nI k), v_maps, v_told, v_kinds, v_land, v_spades, v_part, .ref a_pad, .int (nI pm), .ref a_slips, .int (nI sm), v_made, v_queue, v_depth, v_by, v_from, v_come, v_offOf, v_parent, v_best, v_trees, v_least, v_sums, v_toward, v_kept, v_isKept, v_keptAt, v_isWriting])), (a_pad, .inl (gI G, 40, .inl fd)), (a_slips, .inl (gI G, 10, .inl g))]) [0, 1, 2] rfl)
      have hD9 := (hD.sub (ws' := [(h1, .inr (6, [.int (nI k), v_maps, v_told, v_kinds, v_land, v_spades, v_part, .ref a_pad, .int (nI pm), .ref a_slips, .int (nI sm), v_made, v_queue, v_depth, v_by, v_from, v_come, v_offOf, v_parent, v_best, v_trees, v_least, v_sums, v_toward, v_kept, v_isKept, v_keptAt, v_isWriting])), (a_pad, .inl (gI G, 40, .inl fd)), (a_slips, .inl (gI G, 10, .inl g))]) [0, 1, 2] (by decide) rfl)
      exact W.iret (v := (-6)) hx hb hr (fun t9_ ht9_ hW9_ => ⟨⟨(-6), (sm, g), rfl, ⟨by omega, hsl, Or.inl rfl⟩, by rw [ht9_]; exact hP9, hD9⟩, hS.F ht9_⟩) hS.2.2 dX10_faultOfSlips_231
  · have c1 : ¬ pm ≤ x := fun h9_ => c1 ((nI_leI (a := pm) (b := x) (by omega) (by omega)).mpr h9_)
    refine lv_aload_n hx hb dX10_faultOfSlips_23 rfl (lv_at hl 4 rfl) ?_
    refine va_get (D := G.1) (ci := 6) (v := .ref a_pad) (C := RX10) (T := TX10) (N := 28) hx hb hts (fun _ h => List.mem_cons_of_mem _ (List.mem_append_right _ h)) hown E.K hP 0 rfl rfl 7 (by decide) (hts (.fieldLink RX10 19 "LastMapModel" "pad" "[I") (by decide +kernel)) (fun _ h9 => h9) rfl dX10_faultOfSlips_24 ?_
    refine lv_iload hx hb dX10_faultOfSlips_27 (lv_at hl 0 rfl) ?_
    refine va_iald hx hb E.K hP 1 1 rfl rfl (i := nI x) (vp_in_nI (by omega) (by decide)) dX10_faultOfSlips_29 ?_
    refine lv_topi (fun x3 ex3 => ?_)
    refine lv_istore (lv' := [(5, .int x3), (4, .int (nI x)), (3, .int (nI si)), (2, .int (nI kd)), (1, .int (nI sa)), (0, .ref h1)]) hx hb dX10_faultOfSlips_30 hl (by decide) rfl (fun ls hl => ?_)
    refine lv_iconst (v := 0) hx hb dX10_faultOfSlips_32 (by decide) ?_
    refine lv_istore (lv' := [(6, .int 0), (5, .int x3), (4, .int (nI x)), (3, .int (nI si)), (2, .int (nI kd)), (1, .int (nI sa)), (0, .ref h1)]) hx hb dX10_faultOfSlips_33 hl (by decide) rfl (fun ls hl => ?_)
    refine lv_iload_n hx hb dX10_faultOfSlips_35 rfl (lv_at hl 5 rfl) ?_
    refine lv_if_ne (tgt := 67) hx hb dX10_faultOfSlips_36 (by decide) (fun c4 => ?_) (fun c4 => ?_)
    · have c4 : ¬ sa = 0 := fun h9_ => c4 ((nI_eq (a := sa) (b := 0) (by omega) (by omega)).mpr h9_)
      refine lv_iload_n hx hb dX10_faultOfSlips_67 rfl (lv_at hl 5 rfl) ?_
      refine lv_iconst (v := 1) hx hb dX10_faultOfSlips_68 (by decide) ?_
      refine lv_icmp_ne (tgt := 134) hx hb dX10_faultOfSlips_69 (by decide) (fun c5 => ?_) (fun c5 => ?_)
      · have c5 : ¬ sa = 1 := fun h9_ => c5 ((nI_eq (a := sa) (b := 1) (by omega) (by omega)).mpr h9_)
        refine lv_iload_n hx hb dX10_faultOfSlips_134 rfl (lv_at hl 5 rfl) ?_
        refine lv_iconst (v := 2) hx hb dX10_faultOfSlips_135 (by decide) ?_
        refine lv_icmp_ne (tgt := 160) hx hb dX10_faultOfSlips_136 (by decide) (fun c6 => ?_) (fun c6 => ?_)
        · have c6 : ¬ sa = 2 := fun h9_ => c6 ((nI_eq (a := sa) (b := 2) (by omega) (by omega)).mpr h9_)
          refine lv_iload hx hb dX10_faultOfSlips_160 (lv_at hl 2 rfl) ?_
          have hP9 := (hP.sub (ws' := [(h1, .inr (6, [.int (nI k), v_maps, v_told, v_kinds, v_land, v_spades, v_part, .ref a_pad, .int (nI pm), .ref a_slips, .int (nI sm), v_made, v_queue, v_depth, v_by, v_from, v_come, v_offOf, v_parent, v_best, v_trees, v_least, v_sums, v_toward, v_kept, v_isKept, v_keptAt, v_isWriting])), (a_pad, .inl (gI G, 40, .inl fd)), (a_slips, .inl (gI G, 10, .inl g))]) [0, 1, 2] rfl)
          have hD9 := (hD.sub (ws' := [(h1, .inr (6, [.int (nI k), v_maps, v_told, v_kinds, v_land, v_spades, v_part, .ref a_pad, .int (nI pm), .ref a_slips, .int (nI sm), v_made, v_queue, v_depth, v_by, v_from, v_come, v_offOf, v_parent, v_best, v_trees, v_least, v_sums, v_toward, v_kept, v_isKept, v_keptAt, v_isWriting])), (a_pad, .inl (gI G, 40, .inl fd)), (a_slips, .inl (gI G, 10, .inl g))]) [0, 1, 2] (by decide) rfl)
          exact W.iret (v := (nI x)) hx hb hr (fun t9_ ht9_ hW9_ => ⟨⟨nI x, (sm, g), rfl, ⟨by omega, hsl, Or.inr ⟨x, by omega, rfl⟩⟩, by rw [ht9_]; exact hP9, hD9⟩, hS.F ht9_⟩) hS.2.2 dX10_faultOfSlips_162
        · have c6 : sa = 2 := (nI_eq (a := sa) (b := 2) (by omega) (by omega)).mp c6
          refine lv_iload hx hb dX10_faultOfSlips_139 (lv_at hl 1 rfl) ?_
          refine lv_i2l hx hb dX10_faultOfSlips_141 rfl ?_
          refine lv_topl (fun x7 ex7 => ?_)
          refine lv_ldc2 (v := 97) hx hb hown (hts (.constantLong RX10 95 (97)) (by decide +kernel)) dX10_faultOfSlips_142 ?_
          refine lv_ldc2 (v := 100) hx hb hown (hts (.constantLong RX10 97 (100)) (by decide +kernel)) dX10_faultOfSlips_145 ?_
          refine ca_iR (va_runS (As := [.long x7, .long 97, .long 100]) (rest := []) ⟨hx, hb, hml, hown, hts⟩ (m_in l G H.size x7 97 100 x3 97 100 ex7 (by decide) (by decide)) (va_cwS 3 hts gX10_faultOfSlips_X10_in rfl rfl rfl (by decide +kernel) ⟨by decide +kernel, by decide +kernel⟩) (pre_S E hP hD hS hA [] (by decide) rfl) rfl rfl hl.1 rfl (lv_room (Nat.le_of_ble_eq_true rfl)) dX10_faultOfSlips_148 ⟨by decide +kernel, by decide +kernel⟩) hS hP hD hA [] rfl (fun r9 _ H locs w8 hP hS => ?_)
          rcases w8 with ⟨rfl, b10⟩ | ⟨rfl, b10⟩
          · refine lv_if_eq (tgt := 160) hx hb dX10_faultOfSlips_151 (by decide) (fun c11 => False.elim (by revert c11; decide)) (fun _ => ?_)
            refine lv_iconst (v := 1) hx hb dX10_faultOfSlips_154 (by decide) ?_
            refine lv_istore (lv' := [(6, .int 1), (5, .int x3), (4, .int (nI x)), (3, .int (nI si)), (2, .int (nI kd)), (1, .int (nI sa)), (0, .ref h1)]) hx hb dX10_faultOfSlips_155 hl (by decide) rfl (fun ls hl => ?_)
            refine lv_goto (tgt := 163) hx hb dX10_faultOfSlips_157 (by decide) ?_
            refine lv_iload hx hb dX10_faultOfSlips_163 (lv_at hl 0 rfl) ?_
            refine lv_if_eq (tgt := 212) hx hb dX10_faultOfSlips_165 (by decide) (fun c12 => False.elim (by revert c12; decide)) (fun _ => ?_)
            refine lv_aload_n hx hb dX10_faultOfSlips_168 rfl (lv_at hl 6 rfl) ?_
            refine va_get (D := G.1) (ci := 6) (v := .ref a_slips) (C := RX10) (T := TX10) (N := 28) hx hb hts (fun _ h => List.mem_cons_of_mem _ (List.mem_append_right _ h)) hown E.K hP 0 rfl rfl 9 (by decide) (hts (.fieldLink RX10 22 "LastMapModel" "slips" "[I") (by decide +kernel)) (fun _ h9 => h9) rfl dX10_faultOfSlips_169 ?_
            refine lv_aload_n hx hb dX10_faultOfSlips_172 rfl (lv_at hl 6 rfl) ?_
            refine va_get (D := G.1) (ci := 6) (v := .int (nI sm)) (C := RX10) (T := TX10) (N := 28) hx hb hts (fun _ h => List.mem_cons_of_mem _ (List.mem_append_right _ h)) hown E.K hP 0 rfl rfl 10 (by decide) (hts (.fieldLink RX10 110 "LastMapModel" "slipMany" "I") (by decide +kernel)) (fun _ h9 => h9) rfl dX10_faultOfSlips_173 ?_
            refine lv_bipush (v := 100) hx hb dX10_faultOfSlips_176 (by decide) ?_
            refine lv_iload_n hx hb dX10_faultOfSlips_178 rfl (lv_at hl 4 rfl) ?_
            refine lv_imul hx hb dX10_faultOfSlips_179 ?_
            refine lv_topi (fun x13 ex13 => ?_)
            obtain rfl : x13 = nI (100 * kd) := by rw [ex13]; exact pk_mul 100 kd
            refine lv_bipush (v := 10) hx hb dX10_faultOfSlips_180 (by decide) ?_
            refine lv_iload_n hx hb dX10_faultOfSlips_182 rfl (lv_at hl 3 rfl) ?_
            refine lv_imul hx hb dX10_faultOfSlips_183 ?_
            refine lv_topi (fun x14 ex14 => ?_)
            obtain rfl : x14 = nI (10 * si) := by rw [ex14]; exact pk_mul 10 si
            refine lv_iadd hx hb dX10_faultOfSlips_184 ?_
            refine lv_topi (fun x15 ex15 => ?_)
            obtain rfl : x15 = nI ((100 * kd) + (10 * si)) := by rw [ex15]; exact nI_add (100 * kd) (10 * si)
            refine lv_iload_n hx hb dX10_faultOfSlips_185 rfl (lv_at hl 4 rfl) ?_
            refine lv_if_ne (tgt := 197) hx hb dX10_faultOfSlips_186 (by decide) (fun c16 => absurd (show nI kd = 0 by rw [(hsi (by omega)).1]; rfl) c16) (fun c16 => ?_)
            refine lv_iload hx hb dX10_faultOfSlips_189 (lv_at hl 1 rfl) ?_
            refine lv_bipush (v := 97) hx hb dX10_faultOfSlips_191 (by decide) ?_
            refine lv_isub hx hb dX10_faultOfSlips_193 ?_
            refine lv_topi (fun x17 ex17 => ?_)
            obtain ⟨mg9, hmg9, emg9⟩ := sub97 b10
            obtain rfl : x17 = nI mg9 := by rw [ex17]; exact emg9
            refine lv_goto (tgt := 198) hx hb dX10_faultOfSlips_194 (by decide) ?_
            refine lv_iadd hx hb dX10_faultOfSlips_198 ?_
            refine lv_topi (fun x18 ex18 => ?_)
            obtain rfl : x18 = nI (((100 * kd) + (10 * si)) + mg9) := by rw [ex18]; exact nI_add ((100 * kd) + (10 * si)) mg9
            have hput : slipOK k (nI ((((100 * kd) + (10 * si)) + mg9))) := ⟨kd, si, mg9, by unfold okV; have q := hsi (by omega); omega, rfl⟩
            refine va_iast hx hb E.K hP hD hS 2 1 rfl rfl (i := nI sm) (vp_in_nI (by omega) (by decide)) dX10_faultOfSlips_199 (fun H locs hP hD hS => ?_)
            obtain ⟨f19, ef19⟩ : ∃ yy_ : Nat → Int32, yy_ = upd g (nI sm).toNatClampNeg (nI (((100 * kd) + (10 * si)) + mg9)) := ⟨_, rfl⟩
            have hP : va_P G.1 vwCl ([(h1, .inr (6, [.int (nI k), v_maps, v_told, v_kinds, v_land, v_spades, v_part, .ref a_pad, .int (nI pm), .ref a_slips, .int (nI sm), v_made, v_queue, v_depth, v_by, v_from, v_come, v_offOf, v_parent, v_best, v_trees, v_least, v_sums, v_toward, v_kept, v_isKept, v_keptAt, v_isWriting])), (a_pad, .inl (gI G, 40, .inl fd)), (a_slips, .inl (gI G, 10, .inl f19))]) H := by rw [ef19]; exact hP
            have hD : va_D A ([(h1, .inr (6, [.int (nI k), v_maps, v_told, v_kinds, v_land, v_spades, v_part, .ref a_pad, .int (nI pm), .ref a_slips, .int (nI sm), v_made, v_queue, v_depth, v_by, v_from, v_come, v_offOf, v_parent, v_best, v_trees, v_least, v_sums, v_toward, v_kept, v_isKept, v_keptAt, v_isWriting])), (a_pad, .inl (gI G, 40, .inl fd)), (a_slips, .inl (gI G, 10, .inl f19))]) := by rw [ef19]; exact hD
            refine lv_aload_n hx hb dX10_faultOfSlips_200 rfl (lv_at hl 6 rfl) ?_
            refine lv_dup hx hb dX10_faultOfSlips_201 rfl ?_
            refine va_get (D := G.1) (ci := 6) (v := .int (nI sm)) (C := RX10) (T := TX10) (N := 28) hx hb hts (fun _ h => List.mem_cons_of_mem _ (List.mem_append_right _ h)) hown E.K hP 0 rfl rfl 10 (by decide) (hts (.fieldLink RX10 110 "LastMapModel" "slipMany" "I") (by decide +kernel)) (fun _ h9 => h9) rfl dX10_faultOfSlips_202 ?_
            refine lv_iconst (v := 1) hx hb dX10_faultOfSlips_205 (by decide) ?_
            refine lv_iadd hx hb dX10_faultOfSlips_206 ?_
            refine lv_topi (fun x20 ex20 => ?_)
            obtain rfl : x20 = nI (sm + 1) := by rw [ex20]; exact nI_add sm 1
            refine va_put (D := G.1) (ci := 6) (v := .int (nI (sm + 1))) (ty := .int) (C := RX10) (T := TX10) (N := 28) hx hb hts (fun _ h => List.mem_cons_of_mem _ (List.mem_append_right _ h)) tyX10 tyX10_ok nmX10 hown E.K hP hD hS 0 rfl rfl 10 (by decide) (hts (.fieldLink RX10 110 "LastMapModel" "slipMany" "I") (by decide +kernel)) (fun _ h9 => h9) rfl (by decide +kernel) rfl rfl (Nat.le_of_ble_eq_true rfl) dX10_faultOfSlips_207 (fun H locs hP hD hS => ?_)
            have hP : va_P G.1 vwCl ([(h1, .inr (6, [.int (nI k), v_maps, v_told, v_kinds, v_land, v_spades, v_part, .ref a_pad, .int (nI pm), .ref a_slips, .int (nI (sm + 1)), v_made, v_queue, v_depth, v_by, v_from, v_come, v_offOf, v_parent, v_best, v_trees, v_least, v_sums, v_toward, v_kept, v_isKept, v_keptAt, v_isWriting])), (a_pad, .inl (gI G, 40, .inl fd)), (a_slips, .inl (gI G, 10, .inl f19))]) H := hP
            have hD : va_D A ([(h1, .inr (6, [.int (nI k), v_maps, v_told, v_kinds, v_land, v_spades, v_part, .ref a_pad, .int (nI pm), .ref a_slips, .int (nI (sm + 1)), v_made, v_queue, v_depth, v_by, v_from, v_come, v_offOf, v_parent, v_best, v_trees, v_least, v_sums, v_toward, v_kept, v_isKept, v_keptAt, v_isWriting])), (a_pad, .inl (gI G, 40, .inl fd)), (a_slips, .inl (gI G, 10, .inl f19))]) := hD
            refine lv_iconst (v := 0) hx hb dX10_faultOfSlips_210 (by decide) ?_
            refine lv_istore_n (lv' := [(1, .int 0), (6, .int 1), (5, .int x3), (4, .int (nI x)), (3, .int (nI si)), (2, .int (nI kd)), (0, .ref h1)]) hx hb dX10_faultOfSlips_211 rfl hl (by decide) rfl (fun ls hl => ?_)
            obtain ⟨x21, ex21⟩ : ∃ yy_ : Int32, yy_ = (nI x) + 1 := ⟨_, rfl⟩
            refine lv_iinc (v := x21) (lv' := [(4, .int x21), (1, .int 0), (6, .int 1), (5, .int x3), (3, .int (nI si)), (2, .int (nI kd)), (0, .ref h1)]) hx hb dX10_faultOfSlips_212 hl (k := 3) rfl (by rw [ex21]; rfl) (by decide) rfl (fun ls hl => ?_)
            obtain rfl : x21 = nI (x + 1) := by rw [ex21]; exact nI_add x 1
            refine lv_goto (tgt := 14) hx hb dX10_faultOfSlips_215 (by decide) ?_
            refine ih14 ((x + 1), 0, kd, si, (sm + 1), f19) ⟨?_, ?_, ?_, ?_, ?_, ?_⟩ (by first | omega | (dsimp only; omega)) H locs ls (hP.sub [0, 1, 2] rfl) (hD.sub [0, 1, 2] (by decide) rfl) hS (lv_sub hl [0, 4, 5, 1, 6] rfl)
            · try dsimp only
              omega
            · try dsimp only
              omega
            · try dsimp only
              omega
            · try dsimp only
              omega
            · try dsimp only
              omega
            · try dsimp only
              rw [ef19, nI_clamp (by omega)]; exact slips_upd hsl hput
          · refine lv_if_eq (tgt := 160) hx hb dX10_faultOfSlips_151 (by decide) (fun _ => ?_) (fun c22 => False.elim (by revert c22; decide))
            refine lv_iload hx hb dX10_faultOfSlips_160 (lv_at hl 2 rfl) ?_
            have hP9 := (hP.sub (ws' := [(h1, .inr (6, [.int (nI k), v_maps, v_told, v_kinds, v_land, v_spades, v_part, .ref a_pad, .int (nI pm), .ref a_slips, .int (nI sm), v_made, v_queue, v_depth, v_by, v_from, v_come, v_offOf, v_parent, v_best, v_trees, v_least, v_sums, v_toward, v_kept, v_isKept, v_keptAt, v_isWriting])), (a_pad, .inl (gI G, 40, .inl fd)), (a_slips, .inl (gI G, 10, .inl g))]) [0, 1, 2] rfl)
            have hD9 := (hD.sub (ws' := [(h1, .inr (6, [.int (nI k), v_maps, v_told, v_kinds, v_land, v_spades, v_part, .ref a_pad, .int (nI pm), .ref a_slips, .int (nI sm), v_made, v_queue, v_depth, v_by, v_from, v_come, v_offOf, v_parent, v_best, v_trees, v_least, v_sums, v_toward, v_kept, v_isKept, v_keptAt, v_isWriting])), (a_pad, .inl (gI G, 40, .inl fd)), (a_slips, .inl (gI G, 10, .inl g))]) [0, 1, 2] (by decide) rfl)
            exact W.iret (v := (nI x)) hx hb hr (fun t9_ ht9_ hW9_ => ⟨⟨nI x, (sm, g), rfl, ⟨by omega, hsl, Or.inr ⟨x, by omega, rfl⟩⟩, by rw [ht9_]; exact hP9, hD9⟩, hS.F ht9_⟩) hS.2.2 dX10_faultOfSlips_162
      · have c5 : sa = 1 := (nI_eq (a := sa) (b := 1) (by omega) (by omega)).mp c5
        refine lv_iload hx hb dX10_faultOfSlips_72 (lv_at hl 1 rfl) ?_
        refine lv_bipush (v := 48) hx hb dX10_faultOfSlips_74 (by decide) ?_
        refine lv_isub hx hb dX10_faultOfSlips_76 ?_
        refine lv_topi (fun x23 ex23 => ?_)
        refine lv_i2l hx hb dX10_faultOfSlips_77 rfl ?_
        refine lv_topl (fun x24 ex24 => ?_)
        refine lv_lconst (v := 0) hx hb dX10_faultOfSlips_78 (by decide) ?_
        refine lv_iload_n hx hb dX10_faultOfSlips_79 rfl (lv_at hl 4 rfl) ?_
        refine lv_iconst (v := 1) hx hb dX10_faultOfSlips_80 (by decide) ?_
        refine lv_icmp_eq (tgt := 89) hx hb dX10_faultOfSlips_81 (by decide) (fun c25 => ?_) (fun c25 => ?_)
        · have c25 : kd = 1 := (nI_eq (a := kd) (b := 1) (by omega) (by omega)).mp c25
          refine lv_aload_n hx hb dX10_faultOfSlips_89 rfl (lv_at hl 6 rfl) ?_
          refine va_get (D := G.1) (ci := 6) (v := .int (nI k)) (C := RX10) (T := TX10) (N := 28) hx hb hts (fun _ h => List.mem_cons_of_mem _ (List.mem_append_right _ h)) hown E.K hP 0 rfl rfl 0 (by decide) (hts (.fieldLink RX10 67 "LastMapModel" "sites" "I") (by decide +kernel)) (fun _ h9 => h9) rfl dX10_faultOfSlips_90 ?_
          refine lv_iconst (v := 2) hx hb dX10_faultOfSlips_93 (by decide) ?_
          refine lv_isub hx hb dX10_faultOfSlips_94 ?_
          refine lv_topi (fun x26 ex26 => ?_)
          obtain rfl : x26 = nI (k - 2) := by rw [ex26]; exact pk_sub (show 2 ≤ k by omega)
          refine lv_i2l hx hb dX10_faultOfSlips_95 rfl ?_
          refine lv_topl (fun x27 ex27 => ?_)
          refine lv_goto (tgt := 106) hx hb dX10_faultOfSlips_96 (by decide) ?_
          refine ca_iR (va_runS (As := [.long x24, .long 0, .long x27]) (rest := []) ⟨hx, hb, hml, hown, hts⟩ (m_in l G H.size x24 0 x27 x23 0 (nI (k - 2)) ex24 (by decide) ex27) (va_cwS 3 hts gX10_faultOfSlips_X10_in rfl rfl rfl (by decide +kernel) ⟨by decide +kernel, by decide +kernel⟩) (pre_S E hP hD hS hA [] (by decide) rfl) rfl rfl hl.1 rfl (lv_room (Nat.le_of_ble_eq_true rfl)) dX10_faultOfSlips_106 ⟨by decide +kernel, by decide +kernel⟩) hS hP hD hA [] rfl (fun r29 _ H locs w28 hP hS => ?_)
          rcases w28 with ⟨rfl, b30⟩ | ⟨rfl, b30⟩
          · refine lv_if_eq (tgt := 134) hx hb dX10_faultOfSlips_109 (by decide) (fun c31 => False.elim (by revert c31; decide)) (fun _ => ?_)
            refine lv_iload hx hb dX10_faultOfSlips_112 (lv_at hl 1 rfl) ?_
            refine lv_bipush (v := 48) hx hb dX10_faultOfSlips_114 (by decide) ?_
            refine lv_isub hx hb dX10_faultOfSlips_116 ?_
            refine lv_topi (fun x32 ex32 => ?_)
            obtain ⟨si9, hsi9, esi9⟩ := inRn (by omega) b30
            obtain rfl : x32 = nI si9 := by rw [ex32, ← ex23]; exact esi9
            refine lv_istore_n (lv' := [(3, .int (nI si9)), (6, .int 0), (5, .int x3), (4, .int (nI x)), (2, .int (nI kd)), (1, .int (nI sa)), (0, .ref h1)]) hx hb dX10_faultOfSlips_117 rfl hl (by decide) rfl (fun ls hl => ?_)
            refine lv_iconst (v := 2) hx hb dX10_faultOfSlips_118 (by decide) ?_
            refine lv_istore_n (lv' := [(1, .int 2), (3, .int (nI si9)), (6, .int 0), (5, .int x3), (4, .int (nI x)), (2, .int (nI kd)), (0, .ref h1)]) hx hb dX10_faultOfSlips_119 rfl hl (by decide) rfl (fun ls hl => ?_)
            refine lv_iload_n hx hb dX10_faultOfSlips_120 rfl (lv_at hl 5 rfl) ?_
            refine lv_if_eq (tgt := 128) hx hb dX10_faultOfSlips_121 (by decide) (fun c33 => ?_) (fun c33 => ?_)
            · have c33 : kd = 0 := (nI_eq (a := kd) (b := 0) (by omega) (by omega)).mp c33
              refine lv_iconst (v := 0) hx hb dX10_faultOfSlips_128 (by decide) ?_
              refine lv_istore (lv' := [(6, .int 0), (1, .int 2), (3, .int (nI si9)), (5, .int x3), (4, .int (nI x)), (2, .int (nI kd)), (0, .ref h1)]) hx hb dX10_faultOfSlips_129 hl (by decide) rfl (fun ls hl => ?_)
              refine lv_goto (tgt := 163) hx hb dX10_faultOfSlips_131 (by decide) ?_
              refine lv_iload hx hb dX10_faultOfSlips_163 (lv_at hl 0 rfl) ?_
              refine lv_if_eq (tgt := 212) hx hb dX10_faultOfSlips_165 (by decide) (fun _ => ?_) (fun c34 => False.elim (by revert c34; decide))
              obtain ⟨x35, ex35⟩ : ∃ yy_ : Int32, yy_ = (nI x) + 1 := ⟨_, rfl⟩
              refine lv_iinc (v := x35) (lv' := [(4, .int x35), (6, .int 0), (1, .int 2), (3, .int (nI si9)), (5, .int x3), (2, .int (nI kd)), (0, .ref h1)]) hx hb dX10_faultOfSlips_212 hl (k := 4) rfl (by rw [ex35]; rfl) (by decide) rfl (fun ls hl => ?_)
              obtain rfl : x35 = nI (x + 1) := by rw [ex35]; exact nI_add x 1
              refine lv_goto (tgt := 14) hx hb dX10_faultOfSlips_215 (by decide) ?_
              refine ih14 ((x + 1), 2, kd, si9, sm, g) ⟨?_, ?_, ?_, ?_, ?_, ?_⟩ (by first | omega | (dsimp only; omega)) H locs ls (hP.sub [0, 1, 2] rfl) (hD.sub [0, 1, 2] (by decide) rfl) hS (lv_sub hl [0, 3, 5, 2, 6] rfl)
              · try dsimp only
                omega
              · try dsimp only
                omega
              · try dsimp only
                omega
              · try dsimp only
                omega
              · try dsimp only
                omega
              · try dsimp only
                exact hsl
            · have c33 : ¬ kd = 0 := fun h9_ => c33 ((nI_eq (a := kd) (b := 0) (by omega) (by omega)).mpr h9_)
              refine lv_iconst (v := 1) hx hb dX10_faultOfSlips_124 (by decide) ?_
              refine lv_goto (tgt := 129) hx hb dX10_faultOfSlips_125 (by decide) ?_
              refine lv_istore (lv' := [(6, .int 1), (1, .int 2), (3, .int (nI si9)), (5, .int x3), (4, .int (nI x)), (2, .int (nI kd)), (0, .ref h1)]) hx hb dX10_faultOfSlips_129 hl (by decide) rfl (fun ls hl => ?_)
              refine lv_goto (tgt := 163) hx hb dX10_faultOfSlips_131 (by decide) ?_
              refine lv_iload hx hb dX10_faultOfSlips_163 (lv_at hl 0 rfl) ?_
              refine lv_if_eq (tgt := 212) hx hb dX10_faultOfSlips_165 (by decide) (fun c36 => False.elim (by revert c36; decide)) (fun _ => ?_)
              refine lv_aload_n hx hb dX10_faultOfSlips_168 rfl (lv_at hl 6 rfl) ?_
              refine va_get (D := G.1) (ci := 6) (v := .ref a_slips) (C := RX10) (T := TX10) (N := 28) hx hb hts (fun _ h => List.mem_cons_of_mem _ (List.mem_append_right _ h)) hown E.K hP 0 rfl rfl 9 (by decide) (hts (.fieldLink RX10 22 "LastMapModel" "slips" "[I") (by decide +kernel)) (fun _ h9 => h9) rfl dX10_faultOfSlips_169 ?_
              refine lv_aload_n hx hb dX10_faultOfSlips_172 rfl (lv_at hl 6 rfl) ?_
              refine va_get (D := G.1) (ci := 6) (v := .int (nI sm)) (C := RX10) (T := TX10) (N := 28) hx hb hts (fun _ h => List.mem_cons_of_mem _ (List.mem_append_right _ h)) hown E.K hP 0 rfl rfl 10 (by decide) (hts (.fieldLink RX10 110 "LastMapModel" "slipMany" "I") (by decide +kernel)) (fun _ h9 => h9) rfl dX10_faultOfSlips_173 ?_
              refine lv_bipush (v := 100) hx hb dX10_faultOfSlips_176 (by decide) ?_
              refine lv_iload_n hx hb dX10_faultOfSlips_178 rfl (lv_at hl 5 rfl) ?_
              refine lv_imul hx hb dX10_faultOfSlips_179 ?_
              refine lv_topi (fun x37 ex37 => ?_)
              obtain rfl : x37 = nI (100 * kd) := by rw [ex37]; exact pk_mul 100 kd
              refine lv_bipush (v := 10) hx hb dX10_faultOfSlips_180 (by decide) ?_
              refine lv_iload_n hx hb dX10_faultOfSlips_182 rfl (lv_at hl 2 rfl) ?_
              refine lv_imul hx hb dX10_faultOfSlips_183 ?_
              refine lv_topi (fun x38 ex38 => ?_)
              obtain rfl : x38 = nI (10 * si9) := by rw [ex38]; exact pk_mul 10 si9
              refine lv_iadd hx hb dX10_faultOfSlips_184 ?_
              refine lv_topi (fun x39 ex39 => ?_)
              obtain rfl : x39 = nI ((100 * kd) + (10 * si9)) := by rw [ex39]; exact nI_add (100 * kd) (10 * si9)
              refine lv_iload_n hx hb dX10_faultOfSlips_185 rfl (lv_at hl 5 rfl) ?_
              refine lv_if_ne (tgt := 197) hx hb dX10_faultOfSlips_186 (by decide) (fun c40 => ?_) (fun c40 => False.elim (by have q := (nI_eq (a := kd) (b := 0) (by omega) (by omega)).mp c40; omega))
              refine lv_iconst (v := 0) hx hb dX10_faultOfSlips_197 (by decide) ?_
              refine lv_iadd hx hb dX10_faultOfSlips_198 ?_
              refine lv_topi (fun x41 ex41 => ?_)
              obtain rfl : x41 = nI (((100 * kd) + (10 * si9)) + 0) := by rw [ex41]; exact nI_add ((100 * kd) + (10 * si9)) 0
              have hput : slipOK k (nI ((((100 * kd) + (10 * si9)) + 0))) := ⟨kd, si9, 0, by unfold okV; omega, rfl⟩
              refine va_iast hx hb E.K hP hD hS 2 1 rfl rfl (i := nI sm) (vp_in_nI (by omega) (by decide)) dX10_faultOfSlips_199 (fun H locs hP hD hS => ?_)
              obtain ⟨f42, ef42⟩ : ∃ yy_ : Nat → Int32, yy_ = upd g (nI sm).toNatClampNeg (nI (((100 * kd) + (10 * si9)) + 0)) := ⟨_, rfl⟩
              have hP : va_P G.1 vwCl ([(h1, .inr (6, [.int (nI k), v_maps, v_told, v_kinds, v_land, v_spades, v_part, .ref a_pad, .int (nI pm), .ref a_slips, .int (nI sm), v_made, v_queue, v_depth, v_by, v_from, v_come, v_offOf, v_parent, v_best, v_trees, v_least, v_sums, v_toward, v_kept, v_isKept, v_keptAt, v_isWriting])), (a_pad, .inl (gI G, 40, .inl fd)), (a_slips, .inl (gI G, 10, .inl f42))]) H := by rw [ef42]; exact hP
              have hD : va_D A ([(h1, .inr (6, [.int (nI k), v_maps, v_told, v_kinds, v_land, v_spades, v_part, .ref a_pad, .int (nI pm), .ref a_slips, .int (nI sm), v_made, v_queue, v_depth, v_by, v_from, v_come, v_offOf, v_parent, v_best, v_trees, v_least, v_sums, v_toward, v_kept, v_isKept, v_keptAt, v_isWriting])), (a_pad, .inl (gI G, 40, .inl fd)), (a_slips, .inl (gI G, 10, .inl f42))]) := by rw [ef42]; exact hD
              refine lv_aload_n hx hb dX10_faultOfSlips_200 rfl (lv_at hl 6 rfl) ?_
              refine lv_dup hx hb dX10_faultOfSlips_201 rfl ?_
              refine va_get (D := G.1) (ci := 6) (v := .int (nI sm)) (C := RX10) (T := TX10) (N := 28) hx hb hts (fun _ h => List.mem_cons_of_mem _ (List.mem_append_right _ h)) hown E.K hP 0 rfl rfl 10 (by decide) (hts (.fieldLink RX10 110 "LastMapModel" "slipMany" "I") (by decide +kernel)) (fun _ h9 => h9) rfl dX10_faultOfSlips_202 ?_
              refine lv_iconst (v := 1) hx hb dX10_faultOfSlips_205 (by decide) ?_
              refine lv_iadd hx hb dX10_faultOfSlips_206 ?_
              refine lv_topi (fun x43 ex43 => ?_)
              obtain rfl : x43 = nI (sm + 1) := by rw [ex43]; exact nI_add sm 1
              refine va_put (D := G.1) (ci := 6) (v := .int (nI (sm + 1))) (ty := .int) (C := RX10) (T := TX10) (N := 28) hx hb hts (fun _ h => List.mem_cons_of_mem _ (List.mem_append_right _ h)) tyX10 tyX10_ok nmX10 hown E.K hP hD hS 0 rfl rfl 10 (by decide) (hts (.fieldLink RX10 110 "LastMapModel" "slipMany" "I") (by decide +kernel)) (fun _ h9 => h9) rfl (by decide +kernel) rfl rfl (Nat.le_of_ble_eq_true rfl) dX10_faultOfSlips_207 (fun H locs hP hD hS => ?_)
              have hP : va_P G.1 vwCl ([(h1, .inr (6, [.int (nI k), v_maps, v_told, v_kinds, v_land, v_spades, v_part, .ref a_pad, .int (nI pm), .ref a_slips, .int (nI (sm + 1)), v_made, v_queue, v_depth, v_by, v_from, v_come, v_offOf, v_parent, v_best, v_trees, v_least, v_sums, v_toward, v_kept, v_isKept, v_keptAt, v_isWriting])), (a_pad, .inl (gI G, 40, .inl fd)), (a_slips, .inl (gI G, 10, .inl f42))]) H := hP
              have hD : va_D A ([(h1, .inr (6, [.int (nI k), v_maps, v_told, v_kinds, v_land, v_spades, v_part, .ref a_pad, .int (nI pm), .ref a_slips, .int (nI (sm + 1)), v_made, v_queue, v_depth, v_by, v_from, v_come, v_offOf, v_parent, v_best, v_trees, v_least, v_sums, v_toward, v_kept, v_isKept, v_keptAt, v_isWriting])), (a_pad, .inl (gI G, 40, .inl fd)), (a_slips, .inl (gI G, 10, .inl f42))]) := hD
              refine lv_iconst (v := 0) hx hb dX10_faultOfSlips_210 (by decide) ?_
              refine lv_istore_n (lv' := [(1, .int 0), (6, .int 1), (3, .int (nI si9)), (5, .int x3), (4, .int (nI x)), (2, .int (nI kd)), (0, .ref h1)]) hx hb dX10_faultOfSlips_211 rfl hl (by decide) rfl (fun ls hl => ?_)
              obtain ⟨x44, ex44⟩ : ∃ yy_ : Int32, yy_ = (nI x) + 1 := ⟨_, rfl⟩
              refine lv_iinc (v := x44) (lv' := [(4, .int x44), (1, .int 0), (6, .int 1), (3, .int (nI si9)), (5, .int x3), (2, .int (nI kd)), (0, .ref h1)]) hx hb dX10_faultOfSlips_212 hl (k := 4) rfl (by rw [ex44]; rfl) (by decide) rfl (fun ls hl => ?_)
              obtain rfl : x44 = nI (x + 1) := by rw [ex44]; exact nI_add x 1
              refine lv_goto (tgt := 14) hx hb dX10_faultOfSlips_215 (by decide) ?_
              refine ih14 ((x + 1), 0, kd, si9, (sm + 1), f42) ⟨?_, ?_, ?_, ?_, ?_, ?_⟩ (by first | omega | (dsimp only; omega)) H locs ls (hP.sub [0, 1, 2] rfl) (hD.sub [0, 1, 2] (by decide) rfl) hS (lv_sub hl [0, 3, 5, 1, 6] rfl)
              · try dsimp only
                omega
              · try dsimp only
                omega
              · try dsimp only
                omega
              · try dsimp only
                omega
              · try dsimp only
                omega
              · try dsimp only
                rw [ef42, nI_clamp (by omega)]; exact slips_upd hsl hput
          · refine lv_if_eq (tgt := 134) hx hb dX10_faultOfSlips_109 (by decide) (fun _ => ?_) (fun c45 => False.elim (by revert c45; decide))
            refine lv_iload_n hx hb dX10_faultOfSlips_134 rfl (lv_at hl 5 rfl) ?_
            refine lv_iconst (v := 2) hx hb dX10_faultOfSlips_135 (by decide) ?_
            refine lv_icmp_ne (tgt := 160) hx hb dX10_faultOfSlips_136 (by decide) (fun c46 => ?_) (fun c46 => ?_)
            · have c46 : ¬ sa = 2 := fun h9_ => c46 ((nI_eq (a := sa) (b := 2) (by omega) (by omega)).mpr h9_)
              refine lv_iload hx hb dX10_faultOfSlips_160 (lv_at hl 2 rfl) ?_
              have hP9 := (hP.sub (ws' := [(h1, .inr (6, [.int (nI k), v_maps, v_told, v_kinds, v_land, v_spades, v_part, .ref a_pad, .int (nI pm), .ref a_slips, .int (nI sm), v_made, v_queue, v_depth, v_by, v_from, v_come, v_offOf, v_parent, v_best, v_trees, v_least, v_sums, v_toward, v_kept, v_isKept, v_keptAt, v_isWriting])), (a_pad, .inl (gI G, 40, .inl fd)), (a_slips, .inl (gI G, 10, .inl g))]) [0, 1, 2] rfl)
              have hD9 := (hD.sub (ws' := [(h1, .inr (6, [.int (nI k), v_maps, v_told, v_kinds, v_land, v_spades, v_part, .ref a_pad, .int (nI pm), .ref a_slips, .int (nI sm), v_made, v_queue, v_depth, v_by, v_from, v_come, v_offOf, v_parent, v_best, v_trees, v_least, v_sums, v_toward, v_kept, v_isKept, v_keptAt, v_isWriting])), (a_pad, .inl (gI G, 40, .inl fd)), (a_slips, .inl (gI G, 10, .inl g))]) [0, 1, 2] (by decide) rfl)
              exact W.iret (v := (nI x)) hx hb hr (fun t9_ ht9_ hW9_ => ⟨⟨nI x, (sm, g), rfl, ⟨by omega, hsl, Or.inr ⟨x, by omega, rfl⟩⟩, by rw [ht9_]; exact hP9, hD9⟩, hS.F ht9_⟩) hS.2.2 dX10_faultOfSlips_162
            · have c46 : sa = 2 := (nI_eq (a := sa) (b := 2) (by omega) (by omega)).mp c46
              refine lv_iload hx hb dX10_faultOfSlips_139 (lv_at hl 1 rfl) ?_
              refine lv_i2l hx hb dX10_faultOfSlips_141 rfl ?_
              refine lv_topl (fun x47 ex47 => ?_)
              refine lv_ldc2 (v := 97) hx hb hown (hts (.constantLong RX10 95 (97)) (by decide +kernel)) dX10_faultOfSlips_142 ?_
              refine lv_ldc2 (v := 100) hx hb hown (hts (.constantLong RX10 97 (100)) (by decide +kernel)) dX10_faultOfSlips_145 ?_
              refine ca_iR (va_runS (As := [.long x47, .long 97, .long 100]) (rest := []) ⟨hx, hb, hml, hown, hts⟩ (m_in l G H.size x47 97 100 x3 97 100 ex47 (by decide) (by decide)) (va_cwS 3 hts gX10_faultOfSlips_X10_in rfl rfl rfl (by decide +kernel) ⟨by decide +kernel, by decide +kernel⟩) (pre_S E hP hD hS hA [] (by decide) rfl) rfl rfl hl.1 rfl (lv_room (Nat.le_of_ble_eq_true rfl)) dX10_faultOfSlips_148 ⟨by decide +kernel, by decide +kernel⟩) hS hP hD hA [] rfl (fun r49 _ H locs w48 hP hS => ?_)
              rcases w48 with ⟨rfl, b50⟩ | ⟨rfl, b50⟩
              · refine lv_if_eq (tgt := 160) hx hb dX10_faultOfSlips_151 (by decide) (fun c51 => False.elim (by revert c51; decide)) (fun _ => ?_)
                refine lv_iconst (v := 1) hx hb dX10_faultOfSlips_154 (by decide) ?_
                refine lv_istore (lv' := [(6, .int 1), (5, .int x3), (4, .int (nI x)), (3, .int (nI si)), (2, .int (nI kd)), (1, .int (nI sa)), (0, .ref h1)]) hx hb dX10_faultOfSlips_155 hl (by decide) rfl (fun ls hl => ?_)
                refine lv_goto (tgt := 163) hx hb dX10_faultOfSlips_157 (by decide) ?_
                refine lv_iload hx hb dX10_faultOfSlips_163 (lv_at hl 0 rfl) ?_
                refine lv_if_eq (tgt := 212) hx hb dX10_faultOfSlips_165 (by decide) (fun c52 => False.elim (by revert c52; decide)) (fun _ => ?_)
                refine lv_aload_n hx hb dX10_faultOfSlips_168 rfl (lv_at hl 6 rfl) ?_
                refine va_get (D := G.1) (ci := 6) (v := .ref a_slips) (C := RX10) (T := TX10) (N := 28) hx hb hts (fun _ h => List.mem_cons_of_mem _ (List.mem_append_right _ h)) hown E.K hP 0 rfl rfl 9 (by decide) (hts (.fieldLink RX10 22 "LastMapModel" "slips" "[I") (by decide +kernel)) (fun _ h9 => h9) rfl dX10_faultOfSlips_169 ?_
                refine lv_aload_n hx hb dX10_faultOfSlips_172 rfl (lv_at hl 6 rfl) ?_
                refine va_get (D := G.1) (ci := 6) (v := .int (nI sm)) (C := RX10) (T := TX10) (N := 28) hx hb hts (fun _ h => List.mem_cons_of_mem _ (List.mem_append_right _ h)) hown E.K hP 0 rfl rfl 10 (by decide) (hts (.fieldLink RX10 110 "LastMapModel" "slipMany" "I") (by decide +kernel)) (fun _ h9 => h9) rfl dX10_faultOfSlips_173 ?_
                refine lv_bipush (v := 100) hx hb dX10_faultOfSlips_176 (by decide) ?_
                refine lv_iload_n hx hb dX10_faultOfSlips_178 rfl (lv_at hl 4 rfl) ?_
                refine lv_imul hx hb dX10_faultOfSlips_179 ?_
                refine lv_topi (fun x53 ex53 => ?_)
                obtain rfl : x53 = nI (100 * kd) := by rw [ex53]; exact pk_mul 100 kd
                refine lv_bipush (v := 10) hx hb dX10_faultOfSlips_180 (by decide) ?_
                refine lv_iload_n hx hb dX10_faultOfSlips_182 rfl (lv_at hl 3 rfl) ?_
                refine lv_imul hx hb dX10_faultOfSlips_183 ?_
                refine lv_topi (fun x54 ex54 => ?_)
                obtain rfl : x54 = nI (10 * si) := by rw [ex54]; exact pk_mul 10 si
                refine lv_iadd hx hb dX10_faultOfSlips_184 ?_
                refine lv_topi (fun x55 ex55 => ?_)
                obtain rfl : x55 = nI ((100 * kd) + (10 * si)) := by rw [ex55]; exact nI_add (100 * kd) (10 * si)
                refine lv_iload_n hx hb dX10_faultOfSlips_185 rfl (lv_at hl 4 rfl) ?_
                refine lv_if_ne (tgt := 197) hx hb dX10_faultOfSlips_186 (by decide) (fun c56 => absurd (show nI kd = 0 by rw [(hsi (by omega)).1]; rfl) c56) (fun c56 => ?_)
                refine lv_iload hx hb dX10_faultOfSlips_189 (lv_at hl 1 rfl) ?_
                refine lv_bipush (v := 97) hx hb dX10_faultOfSlips_191 (by decide) ?_
                refine lv_isub hx hb dX10_faultOfSlips_193 ?_
                refine lv_topi (fun x57 ex57 => ?_)
                obtain ⟨mg9, hmg9, emg9⟩ := sub97 b50
                obtain rfl : x57 = nI mg9 := by rw [ex57]; exact emg9
                refine lv_goto (tgt := 198) hx hb dX10_faultOfSlips_194 (by decide) ?_
                refine lv_iadd hx hb dX10_faultOfSlips_198 ?_
                refine lv_topi (fun x58 ex58 => ?_)
                obtain rfl : x58 = nI (((100 * kd) + (10 * si)) + mg9) := by rw [ex58]; exact nI_add ((100 * kd) + (10 * si)) mg9
                have hput : slipOK k (nI ((((100 * kd) + (10 * si)) + mg9))) := ⟨kd, si, mg9, by unfold okV; have q := hsi (by omega); omega, rfl⟩
                refine va_iast hx hb E.K hP hD hS 2 1 rfl rfl (i := nI sm) (vp_in_nI (by omega) (by decide)) dX10_faultOfSlips_199 (fun H locs hP hD hS => ?_)
                obtain ⟨f59, ef59⟩ : ∃ yy_ : Nat → Int32, yy_ = upd g (nI sm).toNatClampNeg (nI (((100 * kd) + (10 * si)) + mg9)) := ⟨_, rfl⟩
                have hP : va_P G.1 vwCl ([(h1, .inr (6, [.int (nI k), v_maps, v_told, v_kinds, v_land, v_spades, v_part, .ref a_pad, .int (nI pm), .ref a_slips, .int (nI sm), v_made, v_queue, v_depth, v_by, v_from, v_come, v_offOf, v_parent, v_best, v_trees, v_least, v_sums, v_toward, v_kept, v_isKept, v_keptAt, v_isWriting])), (a_pad, .inl (gI G, 40, .inl fd)), (a_slips, .inl (gI G, 10, .inl f59))]) H := by rw [ef59]; exact hP
                have hD : va_D A ([(h1, .inr (6, [.int (nI k), v_maps, v_told, v_kinds, v_land, v_spades, v_part, .ref a_pad, .int (nI pm), .ref a_slips, .int (nI sm), v_made, v_queue, v_depth, v_by, v_from, v_come, v_offOf, v_parent, v_best, v_trees, v_least, v_sums, v_toward, v_kept, v_isKept, v_keptAt, v_isWriting])), (a_pad, .inl (gI G, 40, .inl fd)), (a_slips, .inl (gI G, 10, .inl f59))]) := by rw [ef59]; exact hD
                refine lv_aload_n hx hb dX10_faultOfSlips_200 rfl (lv_at hl 6 rfl) ?_
                refine lv_dup hx hb dX10_faultOfSlips_201 rfl ?_
                refine va_get (D := G.1) (ci := 6) (v := .int (nI sm)) (C := RX10) (T := TX10) (N := 28) hx hb hts (fun _ h => List.mem_cons_of_mem _ (List.mem_append_right _ h)) hown E.K hP 0 rfl rfl 10 (by decide) (hts (.fieldLink RX10 110 "LastMapModel" "slipMany" "I") (by decide +kernel)) (fun _ h9 => h9) rfl dX10_faultOfSlips_202 ?_
                refine lv_iconst (v := 1) hx hb dX10_faultOfSlips_205 (by decide) ?_
                refine lv_iadd hx hb dX10_faultOfSlips_206 ?_
                refine lv_topi (fun x60 ex60 => ?_)
                obtain rfl : x60 = nI (sm + 1) := by rw [ex60]; exact nI_add sm 1
                refine va_put (D := G.1) (ci := 6) (v := .int (nI (sm + 1))) (ty := .int) (C := RX10) (T := TX10) (N := 28) hx hb hts (fun _ h => List.mem_cons_of_mem _ (List.mem_append_right _ h)) tyX10 tyX10_ok nmX10 hown E.K hP hD hS 0 rfl rfl 10 (by decide) (hts (.fieldLink RX10 110 "LastMapModel" "slipMany" "I") (by decide +kernel)) (fun _ h9 => h9) rfl (by decide +kernel) rfl rfl (Nat.le_of_ble_eq_true rfl) dX10_faultOfSlips_207 (fun H locs hP hD hS => ?_)
                have hP : va_P G.1 vwCl ([(h1, .inr (6, [.int (nI k), v_maps, v_told, v_kinds, v_land, v_spades, v_part, .ref a_pad, .int (nI pm), .ref a_slips, .int (nI (sm + 1)), v_made, v_queue, v_depth, v_by, v_from, v_come, v_offOf, v_parent, v_best, v_trees, v_least, v_sums, v_toward, v_kept, v_isKept, v_keptAt, v_isWriting])), (a_pad, .inl (gI G, 40, .inl fd)), (a_slips, .inl (gI G, 10, .inl f59))]) H := hP
                have hD : va_D A ([(h1, .inr (6, [.int (nI k), v_maps, v_told, v_kinds, v_land, v_spades, v_part, .ref a_pad, .int (nI pm), .ref a_slips, .int (nI (sm + 1)), v_made, v_queue, v_depth, v_by, v_from, v_come, v_offOf, v_parent, v_best, v_trees, v_least, v_sums, v_toward, v_kept, v_isKept, v_keptAt, v_isWriting])), (a_pad, .inl (gI G, 40, .inl fd)), (a_slips, .inl (gI G, 10, .inl f59))]) := hD
                refine lv_iconst (v := 0) hx hb dX10_faultOfSlips_210 (by decide) ?_
                refine lv_istore_n (lv' := [(1, .int 0), (6, .int 1), (5, .int x3), (4, .int (nI x)), (3, .int (nI si)), (2, .int (nI kd)), (0, .ref h1)]) hx hb dX10_faultOfSlips_211 rfl hl (by decide) rfl (fun ls hl => ?_)
                obtain ⟨x61, ex61⟩ : ∃ yy_ : Int32, yy_ = (nI x) + 1 := ⟨_, rfl⟩
                refine lv_iinc (v := x61) (lv' := [(4, .int x61), (1, .int 0), (6, .int 1), (5, .int x3), (3, .int (nI si)), (2, .int (nI kd)), (0, .ref h1)]) hx hb dX10_faultOfSlips_212 hl (k := 3) rfl (by rw [ex61]; rfl) (by decide) rfl (fun ls hl => ?_)
                obtain rfl : x61 = nI (x + 1) := by rw [ex61]; exact nI_add x 1
                refine lv_goto (tgt := 14) hx hb dX10_faultOfSlips_215 (by decide) ?_
                refine ih14 ((x + 1), 0, kd, si, (sm + 1), f59) ⟨?_, ?_, ?_, ?_, ?_, ?_⟩ (by first | omega | (dsimp only; omega)) H locs ls (hP.sub [0, 1, 2] rfl) (hD.sub [0, 1, 2] (by decide) rfl) hS (lv_sub hl [0, 4, 5, 1, 6] rfl)
                · try dsimp only
                  omega
                · try dsimp only
                  omega
                · try dsimp only
                  omega
                · try dsimp only
                  omega
                · try dsimp only
                  omega
                · try dsimp only
                  rw [ef59, nI_clamp (by omega)]; exact slips_upd hsl hput
              · refine lv_if_eq (tgt := 160) hx hb dX10_faultOfSlips_151 (by decide) (fun _ => ?_) (fun c62 => False.elim (by revert c62; decide))
                refine lv_iload hx hb dX10_faultOfSlips_160 (lv_at hl 2 rfl) ?_
                have hP9 := (hP.sub (ws' := [(h1, .inr (6, [.int (nI k), v_maps, v_told, v_kinds, v_land, v_spades, v_part, .ref a_pad, .int (nI pm), .ref a_slips, .int (nI sm), v_made, v_queue, v_depth, v_by, v_from, v_come, v_offOf, v_parent, v_best, v_trees, v_least, v_sums, v_toward, v_kept, v_isKept, v_keptAt, v_isWriting])), (a_pad, .inl (gI G, 40, .inl fd)), (a_slips, .inl (gI G, 10, .inl g))]) [0, 1, 2] rfl)
                have hD9 := (hD.sub (ws' := [(h1, .inr (6, [.int (nI k), v_maps, v_told, v_kinds, v_land, v_spades, v_part, .ref a_pad, .int (nI pm), .ref a_slips, .int (nI sm), v_made, v_queue, v_depth, v_by, v_from, v_come, v_offOf, v_parent, v_best, v_trees, v_least, v_sums, v_toward, v_kept, v_isKept, v_keptAt, v_isWriting])), (a_pad, .inl (gI G, 40, .inl fd)), (a_slips, .inl (gI G, 10, .inl g))]) [0, 1, 2] (by decide) rfl)
                exact W.iret (v := (nI x)) hx hb hr (fun t9_ ht9_ hW9_ => ⟨⟨nI x, (sm, g), rfl, ⟨by omega, hsl, Or.inr ⟨x, by omega, rfl⟩⟩, by rw [ht9_]; exact hP9, hD9⟩, hS.F ht9_⟩) hS.2.2 dX10_faultOfSlips_162
        · have c25 : ¬ kd = 1 := fun h9_ => c25 ((nI_eq (a := kd) (b := 1) (by omega) (by omega)).mpr h9_)
          refine lv_iload_n hx hb dX10_faultOfSlips_84 rfl (lv_at hl 4 rfl) ?_
          refine lv_iconst (v := 2) hx hb dX10_faultOfSlips_85 (by decide) ?_
          refine lv_icmp_ne (tgt := 99) hx hb dX10_faultOfSlips_86 (by decide) (fun c63 => ?_) (fun c63 => ?_)
          · have c63 : ¬ kd = 2 := fun h9_ => c63 ((nI_eq (a := kd) (b := 2) (by omega) (by omega)).mpr h9_)
            refine lv_aload_n hx hb dX10_faultOfSlips_99 rfl (lv_at hl 6 rfl) ?_
            refine va_get (D := G.1) (ci := 6) (v := .int (nI k)) (C := RX10) (T := TX10) (N := 28) hx hb hts (fun _ h => List.mem_cons_of_mem _ (List.mem_append_right _ h)) hown E.K hP 0 rfl rfl 0 (by decide) (hts (.fieldLink RX10 67 "LastMapModel" "sites" "I") (by decide +kernel)) (fun _ h9 => h9) rfl dX10_faultOfSlips_100 ?_
            refine lv_iconst (v := 1) hx hb dX10_faultOfSlips_103 (by decide) ?_
            refine lv_isub hx hb dX10_faultOfSlips_104 ?_
            refine lv_topi (fun x64 ex64 => ?_)
            obtain rfl : x64 = nI (k - 1) := by rw [ex64]; exact pk_sub (show 1 ≤ k by omega)
            refine lv_i2l hx hb dX10_faultOfSlips_105 rfl ?_
            refine lv_topl (fun x65 ex65 => ?_)
            refine ca_iR (va_runS (As := [.long x24, .long 0, .long x65]) (rest := []) ⟨hx, hb, hml, hown, hts⟩ (m_in l G H.size x24 0 x65 x23 0 (nI (k - 1)) ex24 (by decide) ex65) (va_cwS 3 hts gX10_faultOfSlips_X10_in rfl rfl rfl (by decide +kernel) ⟨by decide +kernel, by decide +kernel⟩) (pre_S E hP hD hS hA [] (by decide) rfl) rfl rfl hl.1 rfl (lv_room (Nat.le_of_ble_eq_true rfl)) dX10_faultOfSlips_106 ⟨by decide +kernel, by decide +kernel⟩) hS hP hD hA [] rfl (fun r67 _ H locs w66 hP hS => ?_)
            rcases w66 with ⟨rfl, b68⟩ | ⟨rfl, b68⟩
            · refine lv_if_eq (tgt := 134) hx hb dX10_faultOfSlips_109 (by decide) (fun c69 => False.elim (by revert c69; decide)) (fun _ => ?_)
              refine lv_iload hx hb dX10_faultOfSlips_112 (lv_at hl 1 rfl) ?_
              refine lv_bipush (v := 48) hx hb dX10_faultOfSlips_114 (by decide) ?_
              refine lv_isub hx hb dX10_faultOfSlips_116 ?_
              refine lv_topi (fun x70 ex70 => ?_)
              obtain ⟨si9, hsi9, esi9⟩ := inRn (by omega) b68
              obtain rfl : x70 = nI si9 := by rw [ex70, ← ex23]; exact esi9
              refine lv_istore_n (lv' := [(3, .int (nI si9)), (6, .int 0), (5, .int x3), (4, .int (nI x)), (2, .int (nI kd)), (1, .int (nI sa)), (0, .ref h1)]) hx hb dX10_faultOfSlips_117 rfl hl (by decide) rfl (fun ls hl => ?_)
              refine lv_iconst (v := 2) hx hb dX10_faultOfSlips_118 (by decide) ?_
              refine lv_istore_n (lv' := [(1, .int 2), (3, .int (nI si9)), (6, .int 0), (5, .int x3), (4, .int (nI x)), (2, .int (nI kd)), (0, .ref h1)]) hx hb dX10_faultOfSlips_119 rfl hl (by decide) rfl (fun ls hl => ?_)
              refine lv_iload_n hx hb dX10_faultOfSlips_120 rfl (lv_at hl 5 rfl) ?_
              refine lv_if_eq (tgt := 128) hx hb dX10_faultOfSlips_121 (by decide) (fun c71 => ?_) (fun c71 => ?_)
              · have c71 : kd = 0 := (nI_eq (a := kd) (b := 0) (by omega) (by omega)).mp c71
                refine lv_iconst (v := 0) hx hb dX10_faultOfSlips_128 (by decide) ?_
                refine lv_istore (lv' := [(6, .int 0), (1, .int 2), (3, .int (nI si9)), (5, .int x3), (4, .int (nI x)), (2, .int (nI kd)), (0, .ref h1)]) hx hb dX10_faultOfSlips_129 hl (by decide) rfl (fun ls hl => ?_)
                refine lv_goto (tgt := 163) hx hb dX10_faultOfSlips_131 (by decide) ?_
                refine lv_iload hx hb dX10_faultOfSlips_163 (lv_at hl 0 rfl) ?_
                refine lv_if_eq (tgt := 212) hx hb dX10_faultOfSlips_165 (by decide) (fun _ => ?_) (fun c72 => False.elim (by revert c72; decide))
                obtain ⟨x73, ex73⟩ : ∃ yy_ : Int32, yy_ = (nI x) + 1 := ⟨_, rfl⟩
                refine lv_iinc (v := x73) (lv' := [(4, .int x73), (6, .int 0), (1, .int 2), (3, .int (nI si9)), (5, .int x3), (2, .int (nI kd)), (0, .ref h1)]) hx hb dX10_faultOfSlips_212 hl (k := 4) rfl (by rw [ex73]; rfl) (by decide) rfl (fun ls hl => ?_)
                obtain rfl : x73 = nI (x + 1) := by rw [ex73]; exact nI_add x 1
                refine lv_goto (tgt := 14) hx hb dX10_faultOfSlips_215 (by decide) ?_
                refine ih14 ((x + 1), 2, kd, si9, sm, g) ⟨?_, ?_, ?_, ?_, ?_, ?_⟩ (by first | omega | (dsimp only; omega)) H locs ls (hP.sub [0, 1, 2] rfl) (hD.sub [0, 1, 2] (by decide) rfl) hS (lv_sub hl [0, 3, 5, 2, 6] rfl)
                · try dsimp only
                  omega
                · try dsimp only
                  omega
                · try dsimp only
                  omega
                · try dsimp only
                  omega
                · try dsimp only
                  omega
                · try dsimp only
                  exact hsl
              · have c71 : ¬ kd = 0 := fun h9_ => c71 ((nI_eq (a := kd) (b := 0) (by omega) (by omega)).mpr h9_)
                refine lv_iconst (v := 1) hx hb dX10_faultOfSlips_124 (by decide) ?_
                refine lv_goto (tgt := 129) hx hb dX10_faultOfSlips_125 (by decide) ?_
                refine lv_istore (lv' := [(6, .int 1), (1, .int 2), (3, .int (nI si9)), (5, .int x3), (4, .int (nI x)), (2, .int (nI kd)), (0, .ref h1)]) hx hb dX10_faultOfSlips_129 hl (by decide) rfl (fun ls hl => ?_)
                refine lv_goto (tgt := 163) hx hb dX10_faultOfSlips_131 (by decide) ?_
                refine lv_iload hx hb dX10_faultOfSlips_163 (lv_at hl 0 rfl) ?_
                refine lv_if_eq (tgt := 212) hx hb dX10_faultOfSlips_165 (by decide) (fun c74 => False.elim (by revert c74; decide)) (fun _ => ?_)
                refine lv_aload_n hx hb dX10_faultOfSlips_168 rfl (lv_at hl 6 rfl) ?_
                refine va_get (D := G.1) (ci := 6) (v := .ref a_slips) (C := RX10) (T := TX10) (N := 28) hx hb hts (fun _ h => List.mem_cons_of_mem _ (List.mem_append_right _ h)) hown E.K hP 0 rfl rfl 9 (by decide) (hts (.fieldLink RX10 22 "LastMapModel" "slips" "[I") (by decide +kernel)) (fun _ h9 => h9) rfl dX10_faultOfSlips_169 ?_
                refine lv_aload_n hx hb dX10_faultOfSlips_172 rfl (lv_at hl 6 rfl) ?_
                refine va_get (D := G.1) (ci := 6) (v := .int (nI sm)) (C := RX10) (T := TX10) (N := 28) hx hb hts (fun _ h => List.mem_cons_of_mem _ (List.mem_append_right _ h)) hown E.K hP 0 rfl rfl 10 (by decide) (hts (.fieldLink RX10 110 "LastMapModel" "slipMany" "I") (by decide +kernel)) (fun _ h9 => h9) rfl dX10_faultOfSlips_173 ?_
                refine lv_bipush (v := 100) hx hb dX10_faultOfSlips_176 (by decide) ?_
                refine lv_iload_n hx hb dX10_faultOfSlips_178 rfl (lv_at hl 5 rfl) ?_
                refine lv_imul hx hb dX10_faultOfSlips_179 ?_
                refine lv_topi (fun x75 ex75 => ?_)
                obtain rfl : x75 = nI (100 * kd) := by rw [ex75]; exact pk_mul 100 kd
                refine lv_bipush (v := 10) hx hb dX10_faultOfSlips_180 (by decide) ?_
                refine lv_iload_n hx hb dX10_faultOfSlips_182 rfl (lv_at hl 2 rfl) ?_
                refine lv_imul hx hb dX10_faultOfSlips_183 ?_
                refine lv_topi (fun x76 ex76 => ?_)
                obtain rfl : x76 = nI (10 * si9) := by rw [ex76]; exact pk_mul 10 si9
                refine lv_iadd hx hb dX10_faultOfSlips_184 ?_
                refine lv_topi (fun x77 ex77 => ?_)
                obtain rfl : x77 = nI ((100 * kd) + (10 * si9)) := by rw [ex77]; exact nI_add (100 * kd) (10 * si9)
                refine lv_iload_n hx hb dX10_faultOfSlips_185 rfl (lv_at hl 5 rfl) ?_
                refine lv_if_ne (tgt := 197) hx hb dX10_faultOfSlips_186 (by decide) (fun c78 => ?_) (fun c78 => False.elim (by have q := (nI_eq (a := kd) (b := 0) (by omega) (by omega)).mp c78; omega))
                refine lv_iconst (v := 0) hx hb dX10_faultOfSlips_197 (by decide) ?_
                refine lv_iadd hx hb dX10_faultOfSlips_198 ?_
                refine lv_topi (fun x79 ex79 => ?_)
                obtain rfl : x79 = nI (((100 * kd) + (10 * si9)) + 0) := by rw [ex79]; exact nI_add ((100 * kd) + (10 * si9)) 0
                have hput : slipOK k (nI ((((100 * kd) + (10 * si9)) + 0))) := ⟨kd, si9, 0, by unfold okV; omega, rfl⟩
                refine va_iast hx hb E.K hP hD hS 2 1 rfl rfl (i := nI sm) (vp_in_nI (by omega) (by decide)) dX10_faultOfSlips_199 (fun H locs hP hD hS => ?_)
                obtain ⟨f80, ef80⟩ : ∃ yy_ : Nat → Int32, yy_ = upd g (nI sm).toNatClampNeg (nI (((100 * kd) + (10 * si9)) + 0)) := ⟨_, rfl⟩
                have hP : va_P G.1 vwCl ([(h1, .inr (6, [.int (nI k), v_maps, v_told, v_kinds, v_land, v_spades, v_part, .ref a_pad, .int (nI pm), .ref a_slips, .int (nI sm), v_made, v_queue, v_depth, v_by, v_from, v_come, v_offOf, v_parent, v_best, v_trees, v_least, v_sums, v_toward, v_kept, v_isKept, v_keptAt, v_isWriting])), (a_pad, .inl (gI G, 40, .inl fd)), (a_slips, .inl (gI G, 10, .inl f80))]) H := by rw [ef80]; exact hP
                have hD : va_D A ([(h1, .inr (6, [.int (nI k), v_maps, v_told, v_kinds, v_land, v_spades, v_part, .ref a_pad, .int (nI pm), .ref a_slips, .int (nI sm), v_made, v_queue, v_depth, v_by, v_from, v_come, v_offOf, v_parent, v_best, v_trees, v_least, v_sums, v_toward, v_kept, v_isKept, v_keptAt, v_isWriting])), (a_pad, .inl (gI G, 40, .inl fd)), (a_slips, .inl (gI G, 10, .inl f80))]) := by rw [ef80]; exact hD
                refine lv_aload_n hx hb dX10_faultOfSlips_200 rfl (lv_at hl 6 rfl) ?_
                refine lv_dup hx hb dX10_faultOfSlips_201 rfl ?_
                refine va_get (D := G.1) (ci := 6) (v := .int (nI sm)) (C := RX10) (T := TX10) (N := 28) hx hb hts (fun _ h => List.mem_cons_of_mem _ (List.mem_append_right _ h)) hown E.K hP 0 rfl rfl 10 (by decide) (hts (.fieldLink RX10 110 "LastMapModel" "slipMany" "I") (by decide +kernel)) (fun _ h9 => h9) rfl dX10_faultOfSlips_202 ?_
                refine lv_iconst (v := 1) hx hb dX10_faultOfSlips_205 (by decide) ?_
                refine lv_iadd hx hb dX10_faultOfSlips_206 ?_
                refine lv_topi (fun x81 ex81 => ?_)
                obtain rfl : x81 = nI (sm + 1) := by rw [ex81]; exact nI_add sm 1
                refine va_put (D := G.1) (ci := 6) (v := .int (nI (sm + 1))) (ty := .int) (C := RX10) (T := TX10) (N := 28) hx hb hts (fun _ h => List.mem_cons_of_mem _ (List.mem_append_right _ h)) tyX10 tyX10_ok nmX10 hown E.K hP hD hS 0 rfl rfl 10 (by decide) (hts (.fieldLink RX10 110 "LastMapModel" "slipMany" "I") (by decide +kernel)) (fun _ h9 => h9) rfl (by decide +kernel) rfl rfl (Nat.le_of_ble_eq_true rfl) dX10_faultOfSlips_207 (fun H locs hP hD hS => ?_)
                have hP : va_P G.1 vwCl ([(h1, .inr (6, [.int (nI k), v_maps, v_told, v_kinds, v_land, v_spades, v_part, .ref a_pad, .int (nI pm), .ref a_slips, .int (nI (sm + 1)), v_made, v_queue, v_depth, v_by, v_from, v_come, v_offOf, v_parent, v_best, v_trees, v_least, v_sums, v_toward, v_kept, v_isKept, v_keptAt, v_isWriting])), (a_pad, .inl (gI G, 40, .inl fd)), (a_slips, .inl (gI G, 10, .inl f80))]) H := hP
                have hD : va_D A ([(h1, .inr (6, [.int (nI k), v_maps, v_told, v_kinds, v_land, v_spades, v_part, .ref a_pad, .int (nI pm), .ref a_slips, .int (nI (sm + 1)), v_made, v_queue, v_depth, v_by, v_from, v_come, v_offOf, v_parent, v_best, v_trees, v_least, v_sums, v_toward, v_kept, v_isKept, v_keptAt, v_isWriting])), (a_pad, .inl (gI G, 40, .inl fd)), (a_slips, .inl (gI G, 10, .inl f80))]) := hD
                refine lv_iconst (v := 0) hx hb dX10_faultOfSlips_210 (by decide) ?_
                refine lv_istore_n (lv' := [(1, .int 0), (6, .int 1), (3, .int (nI si9)), (5, .int x3), (4, .int (nI x)), (2, .int (nI kd)), (0, .ref h1)]) hx hb dX10_faultOfSlips_211 rfl hl (by decide) rfl (fun ls hl => ?_)
                obtain ⟨x82, ex82⟩ : ∃ yy_ : Int32, yy_ = (nI x) + 1 := ⟨_, rfl⟩
                refine lv_iinc (v := x82) (lv' := [(4, .int x82), (1, .int 0), (6, .int 1), (3, .int (nI si9)), (5, .int x3), (2, .int (nI kd)), (0, .ref h1)]) hx hb dX10_faultOfSlips_212 hl (k := 4) rfl (by rw [ex82]; rfl) (by decide) rfl (fun ls hl => ?_)
                obtain rfl : x82 = nI (x + 1) := by rw [ex82]; exact nI_add x 1
                refine lv_goto (tgt := 14) hx hb dX10_faultOfSlips_215 (by decide) ?_
                refine ih14 ((x + 1), 0, kd, si9, (sm + 1), f80) ⟨?_, ?_, ?_, ?_, ?_, ?_⟩ (by first | omega | (dsimp only; omega)) H locs ls (hP.sub [0, 1, 2] rfl) (hD.sub [0, 1, 2] (by decide) rfl) hS (lv_sub hl [0, 3, 5, 1, 6] rfl)
                · try dsimp only
                  omega
                · try dsimp only
                  omega
                · try dsimp only
                  omega
                · try dsimp only
                  omega
                · try dsimp only
                  omega
                · try dsimp only
                  rw [ef80, nI_clamp (by omega)]; exact slips_upd hsl hput
            · refine lv_if_eq (tgt := 134) hx hb dX10_faultOfSlips_109 (by decide) (fun _ => ?_) (fun c83 => False.elim (by revert c83; decide))
              refine lv_iload_n hx hb dX10_faultOfSlips_134 rfl (lv_at hl 5 rfl) ?_
              refine lv_iconst (v := 2) hx hb dX10_faultOfSlips_135 (by decide) ?_
              refine lv_icmp_ne (tgt := 160) hx hb dX10_faultOfSlips_136 (by decide) (fun c84 => ?_) (fun c84 => ?_)
              · have c84 : ¬ sa = 2 := fun h9_ => c84 ((nI_eq (a := sa) (b := 2) (by omega) (by omega)).mpr h9_)
                refine lv_iload hx hb dX10_faultOfSlips_160 (lv_at hl 2 rfl) ?_
                have hP9 := (hP.sub (ws' := [(h1, .inr (6, [.int (nI k), v_maps, v_told, v_kinds, v_land, v_spades, v_part, .ref a_pad, .int (nI pm), .ref a_slips, .int (nI sm), v_made, v_queue, v_depth, v_by, v_from, v_come, v_offOf, v_parent, v_best, v_trees, v_least, v_sums, v_toward, v_kept, v_isKept, v_keptAt, v_isWriting])), (a_pad, .inl (gI G, 40, .inl fd)), (a_slips, .inl (gI G, 10, .inl g))]) [0, 1, 2] rfl)
                have hD9 := (hD.sub (ws' := [(h1, .inr (6, [.int (nI k), v_maps, v_told, v_kinds, v_land, v_spades, v_part, .ref a_pad, .int (nI pm), .ref a_slips, .int (nI sm), v_made, v_queue, v_depth, v_by, v_from, v_come, v_offOf, v_parent, v_best, v_trees, v_least, v_sums, v_toward, v_kept, v_isKept, v_keptAt, v_isWriting])), (a_pad, .inl (gI G, 40, .inl fd)), (a_slips, .inl (gI G, 10, .inl g))]) [0, 1, 2] (by decide) rfl)
                exact W.iret (v := (nI x)) hx hb hr (fun t9_ ht9_ hW9_ => ⟨⟨nI x, (sm, g), rfl, ⟨by omega, hsl, Or.inr ⟨x, by omega, rfl⟩⟩, by rw [ht9_]; exact hP9, hD9⟩, hS.F ht9_⟩) hS.2.2 dX10_faultOfSlips_162
              · have c84 : sa = 2 := (nI_eq (a := sa) (b := 2) (by omega) (by omega)).mp c84
                refine lv_iload hx hb dX10_faultOfSlips_139 (lv_at hl 1 rfl) ?_
                refine lv_i2l hx hb dX10_faultOfSlips_141 rfl ?_
                refine lv_topl (fun x85 ex85 => ?_)
                refine lv_ldc2 (v := 97) hx hb hown (hts (.constantLong RX10 95 (97)) (by decide +kernel)) dX10_faultOfSlips_142 ?_
                refine lv_ldc2 (v := 100) hx hb hown (hts (.constantLong RX10 97 (100)) (by decide +kernel)) dX10_faultOfSlips_145 ?_
                refine ca_iR (va_runS (As := [.long x85, .long 97, .long 100]) (rest := []) ⟨hx, hb, hml, hown, hts⟩ (m_in l G H.size x85 97 100 x3 97 100 ex85 (by decide) (by decide)) (va_cwS 3 hts gX10_faultOfSlips_X10_in rfl rfl rfl (by decide +kernel) ⟨by decide +kernel, by decide +kernel⟩) (pre_S E hP hD hS hA [] (by decide) rfl) rfl rfl hl.1 rfl (lv_room (Nat.le_of_ble_eq_true rfl)) dX10_faultOfSlips_148 ⟨by decide +kernel, by decide +kernel⟩) hS hP hD hA [] rfl (fun r87 _ H locs w86 hP hS => ?_)
                rcases w86 with ⟨rfl, b88⟩ | ⟨rfl, b88⟩
                · refine lv_if_eq (tgt := 160) hx hb dX10_faultOfSlips_151 (by decide) (fun c89 => False.elim (by revert c89; decide)) (fun _ => ?_)
                  refine lv_iconst (v := 1) hx hb dX10_faultOfSlips_154 (by decide) ?_
                  refine lv_istore (lv' := [(6, .int 1), (5, .int x3), (4, .int (nI x)), (3, .int (nI si)), (2, .int (nI kd)), (1, .int (nI sa)), (0, .ref h1)]) hx hb dX10_faultOfSlips_155 hl (by decide) rfl (fun ls hl => ?_)
                  refine lv_goto (tgt := 163) hx hb dX10_faultOfSlips_157 (by decide) ?_
                  refine lv_iload hx hb dX10_faultOfSlips_163 (lv_at hl 0 rfl) ?_
                  refine lv_if_eq (tgt := 212) hx hb dX10_faultOfSlips_165 (by decide) (fun c90 => False.elim (by revert c90; decide)) (fun _ => ?_)
                  refine lv_aload_n hx hb dX10_faultOfSlips_168 rfl (lv_at hl 6 rfl) ?_
                  refine va_get (D := G.1) (ci := 6) (v := .ref a_slips) (C := RX10) (T := TX10) (N := 28) hx hb hts (fun _ h => List.mem_cons_of_mem _ (List.mem_append_right _ h)) hown E.K hP 0 rfl rfl 9 (by decide) (hts (.fieldLink RX10 22 "LastMapModel" "slips" "[I") (by decide +kernel)) (fun _ h9 => h9) rfl dX10_faultOfSlips_169 ?_
                  refine lv_aload_n hx hb dX10_faultOfSlips_172 rfl (lv_at hl 6 rfl) ?_
                  refine va_get (D := G.1) (ci := 6) (v := .int (nI sm)) (C := RX10) (T := TX10) (N := 28) hx hb hts (fun _ h => List.mem_cons_of_mem _ (List.mem_append_right _ h)) hown E.K hP 0 rfl rfl 10 (by decide) (hts (.fieldLink RX10 110 "LastMapModel" "slipMany" "I") (by decide +kernel)) (fun _ h9 => h9) rfl dX10_faultOfSlips_173 ?_
                  refine lv_bipush (v := 100) hx hb dX10_faultOfSlips_176 (by decide) ?_
                  refine lv_iload_n hx hb dX10_faultOfSlips_178 rfl (lv_at hl 4 rfl) ?_
                  refine lv_imul hx hb dX10_faultOfSlips_179 ?_
                  refine lv_topi (fun x91 ex91 => ?_)
                  obtain rfl : x91 = nI (100 * kd) := by rw [ex91]; exact pk_mul 100 kd
                  refine lv_bipush (v := 10) hx hb dX10_faultOfSlips_180 (by decide) ?_
                  refine lv_iload_n hx hb dX10_faultOfSlips_182 rfl (lv_at hl 3 rfl) ?_
                  refine lv_imul hx hb dX10_faultOfSlips_183 ?_
                  refine lv_topi (fun x92 ex92 => ?_)
                  obtain rfl : x92 = nI (10 * si) := by rw [ex92]; exact pk_mul 10 si
                  refine lv_iadd hx hb dX10_faultOfSlips_184 ?_
                  refine lv_topi (fun x93 ex93 => ?_)
                  obtain rfl : x93 = nI ((100 * kd) + (10 * si)) := by rw [ex93]; exact nI_add (100 * kd) (10 * si)
                  refine lv_iload_n hx hb dX10_faultOfSlips_185 rfl (lv_at hl 4 rfl) ?_
                  refine lv_if_ne (tgt := 197) hx hb dX10_faultOfSlips_186 (by decide) (fun c94 => absurd (show nI kd = 0 by rw [(hsi (by omega)).1]; rfl) c94) (fun c94 => ?_)
                  refine lv_iload hx hb dX10_faultOfSlips_189 (lv_at hl 1 rfl) ?_
                  refine lv_bipush (v := 97) hx hb dX10_faultOfSlips_191 (by decide) ?_
                  refine lv_isub hx hb dX10_faultOfSlips_193 ?_
                  refine lv_topi (fun x95 ex95 => ?_)
                  obtain ⟨mg9, hmg9, emg9⟩ := sub97 b88
                  obtain rfl : x95 = nI mg9 := by rw [ex95]; exact emg9
                  refine lv_goto (tgt := 198) hx hb dX10_faultOfSlips_194 (by decide) ?_
                  refine lv_iadd hx hb dX10_faultOfSlips_198 ?_
                  refine lv_topi (fun x96 ex96 => ?_)
                  obtain rfl : x96 = nI (((100 * kd) + (10 * si)) + mg9) := by rw [ex96]; exact nI_add ((100 * kd) + (10 * si)) mg9
                  have hput : slipOK k (nI ((((100 * kd) + (10 * si)) + mg9))) := ⟨kd, si, mg9, by unfold okV; have q := hsi (by omega); omega, rfl⟩
                  refine va_iast hx hb E.K hP hD hS 2 1 rfl rfl (i := nI sm) (vp_in_nI (by omega) (by decide)) dX10_faultOfSlips_199 (fun H locs hP hD hS => ?_)
                  obtain ⟨f97, ef97⟩ : ∃ yy_ : Nat → Int32, yy_ = upd g (nI sm).toNatClampNeg (nI (((100 * kd) + (10 * si)) + mg9)) := ⟨_, rfl⟩
                  have hP : va_P G.1 vwCl ([(h1, .inr (6, [.int (nI k), v_maps, v_told, v_kinds, v_land, v_spades, v_part, .ref a_pad, .int (nI pm), .ref a_slips, .int (nI sm), v_made, v_queue, v_depth, v_by, v_from, v_come, v_offOf, v_parent, v_best, v_trees, v_least, v_sums, v_toward, v_kept, v_isKept, v_keptAt, v_isWriting])), (a_pad, .inl (gI G, 40, .inl fd)), (a_slips, .inl (gI G, 10, .inl f97))]) H := by rw [ef97]; exact hP
                  have hD : va_D A ([(h1, .inr (6, [.int (nI k), v_maps, v_told, v_kinds, v_land, v_spades, v_part, .ref a_pad, .int (nI pm), .ref a_slips, .int (nI sm), v_made, v_queue, v_depth, v_by, v_from, v_come, v_offOf, v_parent, v_best, v_trees, v_least, v_sums, v_toward, v_kept, v_isKept, v_keptAt, v_isWriting])), (a_pad, .inl (gI G, 40, .inl fd)), (a_slips, .inl (gI G, 10, .inl f97))]) := by rw [ef97]; exact hD
                  refine lv_aload_n hx hb dX10_faultOfSlips_200 rfl (lv_at hl 6 rfl) ?_
                  refine lv_dup hx hb dX10_faultOfSlips_201 rfl ?_
                  refine va_get (D := G.1) (ci := 6) (v := .int (nI sm)) (C := RX10) (T := TX10) (N := 28) hx hb hts (fun _ h => List.mem_cons_of_mem _ (List.mem_append_right _ h)) hown E.K hP 0 rfl rfl 10 (by decide) (hts (.fieldLink RX10 110 "LastMapModel" "slipMany" "I") (by decide +kernel)) (fun _ h9 => h9) rfl dX10_faultOfSlips_202 ?_
                  refine lv_iconst (v := 1) hx hb dX10_faultOfSlips_205 (by decide) ?_
                  refine lv_iadd hx hb dX10_faultOfSlips_206 ?_
                  refine lv_topi (fun x98 ex98 => ?_)
                  obtain rfl : x98 = nI (sm + 1) := by rw [ex98]; exact nI_add sm 1
                  refine va_put (D := G.1) (ci := 6) (v := .int (nI (sm + 1))) (ty := .int) (C := RX10) (T := TX10) (N := 28) hx hb hts (fun _ h => List.mem_cons_of_mem _ (List.mem_append_right _ h)) tyX10 tyX10_ok nmX10 hown E.K hP hD hS 0 rfl rfl 10 (by decide) (hts (.fieldLink RX10 110 "LastMapModel" "slipMany" "I") (by decide +kernel)) (fun _ h9 => h9) rfl (by decide +kernel) rfl rfl (Nat.le_of_ble_eq_true rfl) dX10_faultOfSlips_207 (fun H locs hP hD hS => ?_)
                  have hP : va_P G.1 vwCl ([(h1, .inr (6, [.int (nI k), v_maps, v_told, v_kinds, v_land, v_spades, v_part, .ref a_pad, .int (nI pm), .ref a_slips, .int (nI (sm + 1)), v_made, v_queue, v_depth, v_by, v_from, v_come, v_offOf, v_parent, v_best, v_trees, v_least, v_sums, v_toward, v_kept, v_isKept, v_keptAt, v_isWriting])), (a_pad, .inl (gI G, 40, .inl fd)), (a_slips, .inl (gI G, 10, .inl f97))]) H := hP
                  have hD : va_D A ([(h1, .inr (6, [.int (nI k), v_maps, v_told, v_kinds, v_land, v_spades, v_part, .ref a_pad, .int (nI pm), .ref a_slips, .int (nI (sm + 1)), v_made, v_queue, v_depth, v_by, v_from, v_come, v_offOf, v_parent, v_best, v_trees, v_least, v_sums, v_toward, v_kept, v_isKept, v_keptAt, v_isWriting])), (a_pad, .inl (gI G, 40, .inl fd)), (a_slips, .inl (gI G, 10, .inl f97))]) := hD
                  refine lv_iconst (v := 0) hx hb dX10_faultOfSlips_210 (by decide) ?_
                  refine lv_istore_n (lv' := [(1, .int 0), (6, .int 1), (5, .int x3), (4, .int (nI x)), (3, .int (nI si)), (2, .int (nI kd)), (0, .ref h1)]) hx hb dX10_faultOfSlips_211 rfl hl (by decide) rfl (fun ls hl => ?_)
                  obtain ⟨x99, ex99⟩ : ∃ yy_ : Int32, yy_ = (nI x) + 1 := ⟨_, rfl⟩
                  refine lv_iinc (v := x99) (lv' := [(4, .int x99), (1, .int 0), (6, .int 1), (5, .int x3), (3, .int (nI si)), (2, .int (nI kd)), (0, .ref h1)]) hx hb dX10_faultOfSlips_212 hl (k := 3) rfl (by rw [ex99]; rfl) (by decide) rfl (fun ls hl => ?_)
                  obtain rfl : x99 = nI (x + 1) := by rw [ex99]; exact nI_add x 1
                  refine lv_goto (tgt := 14) hx hb dX10_faultOfSlips_215 (by decide) ?_
                  refine ih14 ((x + 1), 0, kd, si, (sm + 1), f97) ⟨?_, ?_, ?_, ?_, ?_, ?_⟩ (by first | omega | (dsimp only; omega)) H locs ls (hP.sub [0, 1, 2] rfl) (hD.sub [0, 1, 2] (by decide) rfl) hS (lv_sub hl [0, 4, 5, 1, 6] rfl)
                  · try dsimp only
                    omega
                  · try dsimp only
                    omega
                  · try dsimp only
                    omega
                  · try dsimp only
                    omega
                  · try dsimp only
                    omega
                  · try dsimp only
                    rw [ef97, nI_clamp (by omega)]; exact slips_upd hsl hput
                · refine lv_if_eq (tgt := 160) hx hb dX10_faultOfSlips_151 (by decide) (fun _ => ?_) (fun c100 => False.elim (by revert c100; decide))
                  refine lv_iload hx hb dX10_faultOfSlips_160 (lv_at hl 2 rfl) ?_
                  have hP9 := (hP.sub (ws' := [(h1, .inr (6, [.int (nI k), v_maps, v_told, v_kinds, v_land, v_spades, v_part, .ref a_pad, .int (nI pm), .ref a_slips, .int (nI sm), v_made, v_queue, v_depth, v_by, v_from, v_come, v_offOf, v_parent, v_best, v_trees, v_least, v_sums, v_toward, v_kept, v_isKept, v_keptAt, v_isWriting])), (a_pad, .inl (gI G, 40, .inl fd)), (a_slips, .inl (gI G, 10, .inl g))]) [0, 1, 2] rfl)
                  have hD9 := (hD.sub (ws' := [(h1, .inr (6, [.int (nI k), v_maps, v_told, v_kinds, v_land, v_spades, v_part, .ref a_pad, .int (nI pm), .ref a_slips, .int (nI sm), v_made, v_queue, v_depth, v_by, v_from, v_come, v_offOf, v_parent, v_best, v_trees, v_least, v_sums, v_toward, v_kept, v_isKept, v_keptAt, v_isWriting])), (a_pad, .inl (gI G, 40, .inl fd)), (a_slips, .inl (gI G, 10, .inl g))]) [0, 1, 2] (by decide) rfl)
                  exact W.iret (v := (nI x)) hx hb hr (fun t9_ ht9_ hW9_ => ⟨⟨nI x, (sm, g), rfl, ⟨by omega, hsl, Or.inr ⟨x, by omega, rfl⟩⟩, by rw [ht9_]; exact hP9, hD9⟩, hS.F ht9_⟩) hS.2.2 dX10_faultOfSlips_162
          · have c63 : kd = 2 := (nI_eq (a := kd) (b := 2) (by omega) (by omega)).mp c63
            refine lv_aload_n hx hb dX10_faultOfSlips_89 rfl (lv_at hl 6 rfl) ?_
            refine va_get (D := G.1) (ci := 6) (v := .int (nI k)) (C := RX10) (T := TX10) (N := 28) hx hb hts (fun _ h => List.mem_cons_of_mem _ (List.mem_append_right _ h)) hown E.K hP 0 rfl rfl 0 (by decide) (hts (.fieldLink RX10 67 "LastMapModel" "sites" "I") (by decide +kernel)) (fun _ h9 => h9) rfl dX10_faultOfSlips_90 ?_
            refine lv_iconst (v := 2) hx hb dX10_faultOfSlips_93 (by decide) ?_
            refine lv_isub hx hb dX10_faultOfSlips_94 ?_
            refine lv_topi (fun x101 ex101 => ?_)
            obtain rfl : x101 = nI (k - 2) := by rw [ex101]; exact pk_sub (show 2 ≤ k by omega)
            refine lv_i2l hx hb dX10_faultOfSlips_95 rfl ?_
            refine lv_topl (fun x102 ex102 => ?_)
            refine lv_goto (tgt := 106) hx hb dX10_faultOfSlips_96 (by decide) ?_
            refine ca_iR (va_runS (As := [.long x24, .long 0, .long x102]) (rest := []) ⟨hx, hb, hml, hown, hts⟩ (m_in l G H.size x24 0 x102 x23 0 (nI (k - 2)) ex24 (by decide) ex102) (va_cwS 3 hts gX10_faultOfSlips_X10_in rfl rfl rfl (by decide +kernel) ⟨by decide +kernel, by decide +kernel⟩) (pre_S E hP hD hS hA [] (by decide) rfl) rfl rfl hl.1 rfl (lv_room (Nat.le_of_ble_eq_true rfl)) dX10_faultOfSlips_106 ⟨by decide +kernel, by decide +kernel⟩) hS hP hD hA [] rfl (fun r104 _ H locs w103 hP hS => ?_)
            rcases w103 with ⟨rfl, b105⟩ | ⟨rfl, b105⟩
            · refine lv_if_eq (tgt := 134) hx hb dX10_faultOfSlips_109 (by decide) (fun c106 => False.elim (by revert c106; decide)) (fun _ => ?_)
              refine lv_iload hx hb dX10_faultOfSlips_112 (lv_at hl 1 rfl) ?_
              refine lv_bipush (v := 48) hx hb dX10_faultOfSlips_114 (by decide) ?_
              refine lv_isub hx hb dX10_faultOfSlips_116 ?_
              refine lv_topi (fun x107 ex107 => ?_)
              obtain ⟨si9, hsi9, esi9⟩ := inRn (by omega) b105
              obtain rfl : x107 = nI si9 := by rw [ex107, ← ex23]; exact esi9
              refine lv_istore_n (lv' := [(3, .int (nI si9)), (6, .int 0), (5, .int x3), (4, .int (nI x)), (2, .int (nI kd)), (1, .int (nI sa)), (0, .ref h1)]) hx hb dX10_faultOfSlips_117 rfl hl (by decide) rfl (fun ls hl => ?_)
              refine lv_iconst (v := 2) hx hb dX10_faultOfSlips_118 (by decide) ?_
              refine lv_istore_n (lv' := [(1, .int 2), (3, .int (nI si9)), (6, .int 0), (5, .int x3), (4, .int (nI x)), (2, .int (nI kd)), (0, .ref h1)]) hx hb dX10_faultOfSlips_119 rfl hl (by decide) rfl (fun ls hl => ?_)
              refine lv_iload_n hx hb dX10_faultOfSlips_120 rfl (lv_at hl 5 rfl) ?_
              refine lv_if_eq (tgt := 128) hx hb dX10_faultOfSlips_121 (by decide) (fun c108 => ?_) (fun c108 => ?_)
              · have c108 : kd = 0 := (nI_eq (a := kd) (b := 0) (by omega) (by omega)).mp c108
                refine lv_iconst (v := 0) hx hb dX10_faultOfSlips_128 (by decide) ?_
                refine lv_istore (lv' := [(6, .int 0), (1, .int 2), (3, .int (nI si9)), (5, .int x3), (4, .int (nI x)), (2, .int (nI kd)), (0, .ref h1)]) hx hb dX10_faultOfSlips_129 hl (by decide) rfl (fun ls hl => ?_)
                refine lv_goto (tgt := 163) hx hb dX10_faultOfSlips_131 (by decide) ?_
                refine lv_iload hx hb dX10_faultOfSlips_163 (lv_at hl 0 rfl) ?_
                refine lv_if_eq (tgt := 212) hx hb dX10_faultOfSlips_165 (by decide) (fun _ => ?_) (fun c109 => False.elim (by revert c109; decide))
                obtain ⟨x110, ex110⟩ : ∃ yy_ : Int32, yy_ = (nI x) + 1 := ⟨_, rfl⟩
                refine lv_iinc (v := x110) (lv' := [(4, .int x110), (6, .int 0), (1, .int 2), (3, .int (nI si9)), (5, .int x3), (2, .int (nI kd)), (0, .ref h1)]) hx hb dX10_faultOfSlips_212 hl (k := 4) rfl (by rw [ex110]; rfl) (by decide) rfl (fun ls hl => ?_)
                obtain rfl : x110 = nI (x + 1) := by rw [ex110]; exact nI_add x 1
                refine lv_goto (tgt := 14) hx hb dX10_faultOfSlips_215 (by decide) ?_
                refine ih14 ((x + 1), 2, kd, si9, sm, g) ⟨?_, ?_, ?_, ?_, ?_, ?_⟩ (by first | omega | (dsimp only; omega)) H locs ls (hP.sub [0, 1, 2] rfl) (hD.sub [0, 1, 2] (by decide) rfl) hS (lv_sub hl [0, 3, 5, 2, 6] rfl)
                · try dsimp only
                  omega
                · try dsimp only
                  omega
                · try dsimp only
                  omega
                · try dsimp only
                  omega
                · try dsimp only
                  omega
                · try dsimp only
                  exact hsl
              · have c108 : ¬ kd = 0 := fun h9_ => c108 ((nI_eq (a := kd) (b := 0) (by omega) (by omega)).mpr h9_)
                refine lv_iconst (v := 1) hx hb dX10_faultOfSlips_124 (by decide) ?_
                refine lv_goto (tgt := 129) hx hb dX10_faultOfSlips_125 (by decide) ?_
                refine lv_istore (lv' := [(6, .int 1), (1, .int 2), (3, .int (nI si9)), (5, .int x3), (4, .int (nI x)), (2, .int (nI kd)), (0, .ref h1)]) hx hb dX10_faultOfSlips_129 hl (by decide) rfl (fun ls hl => ?_)
                refine lv_goto (tgt := 163) hx hb dX10_faultOfSlips_131 (by decide) ?_
                refine lv_iload hx hb dX10_faultOfSlips_163 (lv_at hl 0 rfl) ?_
                refine lv_if_eq (tgt := 212) hx hb dX10_faultOfSlips_165 (by decide) (fun c111 => False.elim (by revert c111; decide)) (fun _ => ?_)
                refine lv_aload_n hx hb dX10_faultOfSlips_168 rfl (lv_at hl 6 rfl) ?_
                refine va_get (D := G.1) (ci := 6) (v := .ref a_slips) (C := RX10) (T := TX10) (N := 28) hx hb hts (fun _ h => List.mem_cons_of_mem _ (List.mem_append_right _ h)) hown E.K hP 0 rfl rfl 9 (by decide) (hts (.fieldLink RX10 22 "LastMapModel" "slips" "[I") (by decide +kernel)) (fun _ h9 => h9) rfl dX10_faultOfSlips_169 ?_
                refine lv_aload_n hx hb dX10_faultOfSlips_172 rfl (lv_at hl 6 rfl) ?_
                refine va_get (D := G.1) (ci := 6) (v := .int (nI sm)) (C := RX10) (T := TX10) (N := 28) hx hb hts (fun _ h => List.mem_cons_of_mem _ (List.mem_append_right _ h)) hown E.K hP 0 rfl rfl 10 (by decide) (hts (.fieldLink RX10 110 "LastMapModel" "slipMany" "I") (by decide +kernel)) (fun _ h9 => h9) rfl dX10_faultOfSlips_173 ?_
                refine lv_bipush (v := 100) hx hb dX10_faultOfSlips_176 (by decide) ?_
                refine lv_iload_n hx hb dX10_faultOfSlips_178 rfl (lv_at hl 5 rfl) ?_
                refine lv_imul hx hb dX10_faultOfSlips_179 ?_
                refine lv_topi (fun x112 ex112 => ?_)
                obtain rfl : x112 = nI (100 * kd) := by rw [ex112]; exact pk_mul 100 kd
                refine lv_bipush (v := 10) hx hb dX10_faultOfSlips_180 (by decide) ?_
                refine lv_iload_n hx hb dX10_faultOfSlips_182 rfl (lv_at hl 2 rfl) ?_
                refine lv_imul hx hb dX10_faultOfSlips_183 ?_
                refine lv_topi (fun x113 ex113 => ?_)
                obtain rfl : x113 = nI (10 * si9) := by rw [ex113]; exact pk_mul 10 si9
                refine lv_iadd hx hb dX10_faultOfSlips_184 ?_
                refine lv_topi (fun x114 ex114 => ?_)
                obtain rfl : x114 = nI ((100 * kd) + (10 * si9)) := by rw [ex114]; exact nI_add (100 * kd) (10 * si9)
                refine lv_iload_n hx hb dX10_faultOfSlips_185 rfl (lv_at hl 5 rfl) ?_
                refine lv_if_ne (tgt := 197) hx hb dX10_faultOfSlips_186 (by decide) (fun c115 => ?_) (fun c115 => False.elim (by have q := (nI_eq (a := kd) (b := 0) (by omega) (by omega)).mp c115; omega))
                refine lv_iconst (v := 0) hx hb dX10_faultOfSlips_197 (by decide) ?_
                refine lv_iadd hx hb dX10_faultOfSlips_198 ?_
                refine lv_topi (fun x116 ex116 => ?_)
                obtain rfl : x116 = nI (((100 * kd) + (10 * si9)) + 0) := by rw [ex116]; exact nI_add ((100 * kd) + (10 * si9)) 0
                have hput : slipOK k (nI ((((100 * kd) + (10 * si9)) + 0))) := ⟨kd, si9, 0, by unfold okV; omega, rfl⟩
                refine va_iast hx hb E.K hP hD hS 2 1 rfl rfl (i := nI sm) (vp_in_nI (by omega) (by decide)) dX10_faultOfSlips_199 (fun H locs hP hD hS => ?_)
                obtain ⟨f117, ef117⟩ : ∃ yy_ : Nat → Int32, yy_ = upd g (nI sm).toNatClampNeg (nI (((100 * kd) + (10 * si9)) + 0)) := ⟨_, rfl⟩
                have hP : va_P G.1 vwCl ([(h1, .inr (6, [.int (nI k), v_maps, v_told, v_kinds, v_land, v_spades, v_part, .ref a_pad, .int (nI pm), .ref a_slips, .int (nI sm), v_made, v_queue, v_depth, v_by, v_from, v_come, v_offOf, v_parent, v_best, v_trees, v_least, v_sums, v_toward, v_kept, v_isKept, v_keptAt, v_isWriting])), (a_pad, .inl (gI G, 40, .inl fd)), (a_slips, .inl (gI G, 10, .inl f117))]) H := by rw [ef117]; exact hP
                have hD : va_D A ([(h1, .inr (6, [.int (nI k), v_maps, v_told, v_kinds, v_land, v_spades, v_part, .ref a_pad, .int (nI pm), .ref a_slips, .int (nI sm), v_made, v_queue, v_depth, v_by, v_from, v_come, v_offOf, v_parent, v_best, v_trees, v_least, v_sums, v_toward, v_kept, v_isKept, v_keptAt, v_isWriting])), (a_pad, .inl (gI G, 40, .inl fd)), (a_slips, .inl (gI G, 10, .inl f117))]) := by rw [ef117]; exact hD
                refine lv_aload_n hx hb dX10_faultOfSlips_200 rfl (lv_at hl 6 rfl) ?_
                refine lv_dup hx hb dX10_faultOfSlips_201 rfl ?_
                refine va_get (D := G.1) (ci := 6) (v := .int (nI sm)) (C := RX10) (T := TX10) (N := 28) hx hb hts (fun _ h => List.mem_cons_of_mem _ (List.mem_append_right _ h)) hown E.K hP 0 rfl rfl 10 (by decide) (hts (.fieldLink RX10 110 "LastMapModel" "slipMany" "I") (by decide +kernel)) (fun _ h9 => h9) rfl dX10_faultOfSlips_202 ?_
                refine lv_iconst (v := 1) hx hb dX10_faultOfSlips_205 (by decide) ?_
                refine lv_iadd hx hb dX10_faultOfSlips_206 ?_
                refine lv_topi (fun x118 ex118 => ?_)
                obtain rfl : x118 = nI (sm + 1) := by rw [ex118]; exact nI_add sm 1
                refine va_put (D := G.1) (ci := 6) (v := .int (nI (sm + 1))) (ty := .int) (C := RX10) (T := TX10) (N := 28) hx hb hts (fun _ h => List.mem_cons_of_mem _ (List.mem_append_right _ h)) tyX10 tyX10_ok nmX10 hown E.K hP hD hS 0 rfl rfl 10 (by decide) (hts (.fieldLink RX10 110 "LastMapModel" "slipMany" "I") (by decide +kernel)) (fun _ h9 => h9) rfl (by decide +kernel) rfl rfl (Nat.le_of_ble_eq_true rfl) dX10_faultOfSlips_207 (fun H locs hP hD hS => ?_)
                have hP : va_P G.1 vwCl ([(h1, .inr (6, [.int (nI k), v_maps, v_told, v_kinds, v_land, v_spades, v_part, .ref a_pad, .int (nI pm), .ref a_slips, .int (nI (sm + 1)), v_made, v_queue, v_depth, v_by, v_from, v_come, v_offOf, v_parent, v_best, v_trees, v_least, v_sums, v_toward, v_kept, v_isKept, v_keptAt, v_isWriting])), (a_pad, .inl (gI G, 40, .inl fd)), (a_slips, .inl (gI G, 10, .inl f117))]) H := hP
                have hD : va_D A ([(h1, .inr (6, [.int (nI k), v_maps, v_told, v_kinds, v_land, v_spades, v_part, .ref a_pad, .int (nI pm), .ref a_slips, .int (nI (sm + 1)), v_made, v_queue, v_depth, v_by, v_from, v_come, v_offOf, v_parent, v_best, v_trees, v_least, v_sums, v_toward, v_kept, v_isKept, v_keptAt, v_isWriting])), (a_pad, .inl (gI G, 40, .inl fd)), (a_slips, .inl (gI G, 10, .inl f117))]) := hD
                refine lv_iconst (v := 0) hx hb dX10_faultOfSlips_210 (by decide) ?_
                refine lv_istore_n (lv' := [(1, .int 0), (6, .int 1), (3, .int (nI si9)), (5, .int x3), (4, .int (nI x)), (2, .int (nI kd)), (0, .ref h1)]) hx hb dX10_faultOfSlips_211 rfl hl (by decide) rfl (fun ls hl => ?_)
                obtain ⟨x119, ex119⟩ : ∃ yy_ : Int32, yy_ = (nI x) + 1 := ⟨_, rfl⟩
                refine lv_iinc (v := x119) (lv' := [(4, .int x119), (1, .int 0), (6, .int 1), (3, .int (nI si9)), (5, .int x3), (2, .int (nI kd)), (0, .ref h1)]) hx hb dX10_faultOfSlips_212 hl (k := 4) rfl (by rw [ex119]; rfl) (by decide) rfl (fun ls hl => ?_)
                obtain rfl : x119 = nI (x + 1) := by rw [ex119]; exact nI_add x 1
                refine lv_goto (tgt := 14) hx hb dX10_faultOfSlips_215 (by decide) ?_
                refine ih14 ((x + 1), 0, kd, si9, (sm + 1), f117) ⟨?_, ?_, ?_, ?_, ?_, ?_⟩ (by first | omega | (dsimp only; omega)) H locs ls (hP.sub [0, 1, 2] rfl) (hD.sub [0, 1, 2] (by decide) rfl) hS (lv_sub hl [0, 3, 5, 1, 6] rfl)
                · try dsimp only
                  omega
                · try dsimp only
                  omega
                · try dsimp only
                  omega
                · try dsimp only
                  omega
                · try dsimp only
                  omega
                · try dsimp only
                  rw [ef117, nI_clamp (by omega)]; exact slips_upd hsl hput
            · refine lv_if_eq (tgt := 134) hx hb dX10_faultOfSlips_109 (by decide) (fun _ => ?_) (fun c120 => False.elim (by revert c120; decide))
              refine lv_iload_n hx hb dX10_faultOfSlips_134 rfl (lv_at hl 5 rfl) ?_
              refine lv_iconst (v := 2) hx hb dX10_faultOfSlips_135 (by decide) ?_
              refine lv_icmp_ne (tgt := 160) hx hb dX10_faultOfSlips_136 (by decide) (fun c121 => ?_) (fun c121 => ?_)
              · have c121 : ¬ sa = 2 := fun h9_ => c121 ((nI_eq (a := sa) (b := 2) (by omega) (by omega)).mpr h9_)
                refine lv_iload hx hb dX10_faultOfSlips_160 (lv_at hl 2 rfl) ?_
                have hP9 := (hP.sub (ws' := [(h1, .inr (6, [.int (nI k), v_maps, v_told, v_kinds, v_land, v_spades, v_part, .ref a_pad, .int (nI pm), .ref a_slips, .int (nI sm), v_made, v_queue, v_depth, v_by, v_from, v_come, v_offOf, v_parent, v_best, v_trees, v_least, v_sums, v_toward, v_kept, v_isKept, v_keptAt, v_isWriting])), (a_pad, .inl (gI G, 40, .inl fd)), (a_slips, .inl (gI G, 10, .inl g))]) [0, 1, 2] rfl)
                have hD9 := (hD.sub (ws' := [(h1, .inr (6, [.int (nI k), v_maps, v_told, v_kinds, v_land, v_spades, v_part, .ref a_pad, .int (nI pm), .ref a_slips, .int (nI sm), v_made, v_queue, v_depth, v_by, v_from, v_come, v_offOf, v_parent, v_best, v_trees, v_least, v_sums, v_toward, v_kept, v_isKept, v_keptAt, v_isWriting])), (a_pad, .inl (gI G, 40, .inl fd)), (a_slips, .inl (gI G, 10, .inl g))]) [0, 1, 2] (by decide) rfl)
                exact W.iret (v := (nI x)) hx hb hr (fun t9_ ht9_ hW9_ => ⟨⟨nI x, (sm, g), rfl, ⟨by omega, hsl, Or.inr ⟨x, by omega, rfl⟩⟩, by rw [ht9_]; exact hP9, hD9⟩, hS.F ht9_⟩) hS.2.2 dX10_faultOfSlips_162
              · have c121 : sa = 2 := (nI_eq (a := sa) (b := 2) (by omega) (by omega)).mp c121
                refine lv_iload hx hb dX10_faultOfSlips_139 (lv_at hl 1 rfl) ?_
                refine lv_i2l hx hb dX10_faultOfSlips_141 rfl ?_
                refine lv_topl (fun x122 ex122 => ?_)
                refine lv_ldc2 (v := 97) hx hb hown (hts (.constantLong RX10 95 (97)) (by decide +kernel)) dX10_faultOfSlips_142 ?_
                refine lv_ldc2 (v := 100) hx hb hown (hts (.constantLong RX10 97 (100)) (by decide +kernel)) dX10_faultOfSlips_145 ?_
                refine ca_iR (va_runS (As := [.long x122, .long 97, .long 100]) (rest := []) ⟨hx, hb, hml, hown, hts⟩ (m_in l G H.size x122 97 100 x3 97 100 ex122 (by decide) (by decide)) (va_cwS 3 hts gX10_faultOfSlips_X10_in rfl rfl rfl (by decide +kernel) ⟨by decide +kernel, by decide +kernel⟩) (pre_S E hP hD hS hA [] (by decide) rfl) rfl rfl hl.1 rfl (lv_room (Nat.le_of_ble_eq_true rfl)) dX10_faultOfSlips_148 ⟨by decide +kernel, by decide +kernel⟩) hS hP hD hA [] rfl (fun r124 _ H locs w123 hP hS => ?_)
                rcases w123 with ⟨rfl, b125⟩ | ⟨rfl, b125⟩
                · refine lv_if_eq (tgt := 160) hx hb dX10_faultOfSlips_151 (by decide) (fun c126 => False.elim (by revert c126; decide)) (fun _ => ?_)
                  refine lv_iconst (v := 1) hx hb dX10_faultOfSlips_154 (by decide) ?_
                  refine lv_istore (lv' := [(6, .int 1), (5, .int x3), (4, .int (nI x)), (3, .int (nI si)), (2, .int (nI kd)), (1, .int (nI sa)), (0, .ref h1)]) hx hb dX10_faultOfSlips_155 hl (by decide) rfl (fun ls hl => ?_)
                  refine lv_goto (tgt := 163) hx hb dX10_faultOfSlips_157 (by decide) ?_
                  refine lv_iload hx hb dX10_faultOfSlips_163 (lv_at hl 0 rfl) ?_
                  refine lv_if_eq (tgt := 212) hx hb dX10_faultOfSlips_165 (by decide) (fun c127 => False.elim (by revert c127; decide)) (fun _ => ?_)
                  refine lv_aload_n hx hb dX10_faultOfSlips_168 rfl (lv_at hl 6 rfl) ?_
                  refine va_get (D := G.1) (ci := 6) (v := .ref a_slips) (C := RX10) (T := TX10) (N := 28) hx hb hts (fun _ h => List.mem_cons_of_mem _ (List.mem_append_right _ h)) hown E.K hP 0 rfl rfl 9 (by decide) (hts (.fieldLink RX10 22 "LastMapModel" "slips" "[I") (by decide +kernel)) (fun _ h9 => h9) rfl dX10_faultOfSlips_169 ?_
                  refine lv_aload_n hx hb dX10_faultOfSlips_172 rfl (lv_at hl 6 rfl) ?_
                  refine va_get (D := G.1) (ci := 6) (v := .int (nI sm)) (C := RX10) (T := TX10) (N := 28) hx hb hts (fun _ h => List.mem_cons_of_mem _ (List.mem_append_right _ h)) hown E.K hP 0 rfl rfl 10 (by decide) (hts (.fieldLink RX10 110 "LastMapModel" "slipMany" "I") (by decide +kernel)) (fun _ h9 => h9) rfl dX10_faultOfSlips_173 ?_
                  refine lv_bipush (v := 100) hx hb dX10_faultOfSlips_176 (by decide) ?_
                  refine lv_iload_n hx hb dX10_faultOfSlips_178 rfl (lv_at hl 4 rfl) ?_
                  refine lv_imul hx hb dX10_faultOfSlips_179 ?_
                  refine lv_topi (fun x128 ex128 => ?_)
                  obtain rfl : x128 = nI (100 * kd) := by rw [ex128]; exact pk_mul 100 kd
                  refine lv_bipush (v := 10) hx hb dX10_faultOfSlips_180 (by decide) ?_
                  refine lv_iload_n hx hb dX10_faultOfSlips_182 rfl (lv_at hl 3 rfl) ?_
                  refine lv_imul hx hb dX10_faultOfSlips_183 ?_
                  refine lv_topi (fun x129 ex129 => ?_)
                  obtain rfl : x129 = nI (10 * si) := by rw [ex129]; exact pk_mul 10 si
                  refine lv_iadd hx hb dX10_faultOfSlips_184 ?_
                  refine lv_topi (fun x130 ex130 => ?_)
                  obtain rfl : x130 = nI ((100 * kd) + (10 * si)) := by rw [ex130]; exact nI_add (100 * kd) (10 * si)
                  refine lv_iload_n hx hb dX10_faultOfSlips_185 rfl (lv_at hl 4 rfl) ?_
                  refine lv_if_ne (tgt := 197) hx hb dX10_faultOfSlips_186 (by decide) (fun c131 => absurd (show nI kd = 0 by rw [(hsi (by omega)).1]; rfl) c131) (fun c131 => ?_)
                  refine lv_iload hx hb dX10_faultOfSlips_189 (lv_at hl 1 rfl) ?_
                  refine lv_bipush (v := 97) hx hb dX10_faultOfSlips_191 (by decide) ?_
                  refine lv_isub hx hb dX10_faultOfSlips_193 ?_
                  refine lv_topi (fun x132 ex132 => ?_)
                  obtain ⟨mg9, hmg9, emg9⟩ := sub97 b125
                  obtain rfl : x132 = nI mg9 := by rw [ex132]; exact emg9
                  refine lv_goto (tgt := 198) hx hb dX10_faultOfSlips_194 (by decide) ?_
                  refine lv_iadd hx hb dX10_faultOfSlips_198 ?_
                  refine lv_topi (fun x133 ex133 => ?_)
                  obtain rfl : x133 = nI (((100 * kd) + (10 * si)) + mg9) := by rw [ex133]; exact nI_add ((100 * kd) + (10 * si)) mg9
                  have hput : slipOK k (nI ((((100 * kd) + (10 * si)) + mg9))) := ⟨kd, si, mg9, by unfold okV; have q := hsi (by omega); omega, rfl⟩
                  refine va_iast hx hb E.K hP hD hS 2 1 rfl rfl (i := nI sm) (vp_in_nI (by omega) (by decide)) dX10_faultOfSlips_199 (fun H locs hP hD hS => ?_)
                  obtain ⟨f134, ef134⟩ : ∃ yy_ : Nat → Int32, yy_ = upd g (nI sm).toNatClampNeg (nI (((100 * kd) + (10 * si)) + mg9)) := ⟨_, rfl⟩
                  have hP : va_P G.1 vwCl ([(h1, .inr (6, [.int (nI k), v_maps, v_told, v_kinds, v_land, v_spades, v_part, .ref a_pad, .int (nI pm), .ref a_slips, .int (nI sm), v_made, v_queue, v_depth, v_by, v_from, v_come, v_offOf, v_parent, v_best, v_trees, v_least, v_sums, v_toward, v_kept, v_isKept, v_keptAt, v_isWriting])), (a_pad, .inl (gI G, 40, .inl fd)), (a_slips, .inl (gI G, 10, .inl f134))]) H := by rw [ef134]; exact hP
                  have hD : va_D A ([(h1, .inr (6, [.int (nI k), v_maps, v_told, v_kinds, v_land, v_spades, v_part, .ref a_pad, .int (nI pm), .ref a_slips, .int (nI sm), v_made, v_queue, v_depth, v_by, v_from, v_come, v_offOf, v_parent, v_best, v_trees, v_least, v_sums, v_toward, v_kept, v_isKept, v_keptAt, v_isWriting])), (a_pad, .inl (gI G, 40, .inl fd)), (a_slips, .inl (gI G, 10, .inl f134))]) := by rw [ef134]; exact hD
                  refine lv_aload_n hx hb dX10_faultOfSlips_200 rfl (lv_at hl 6 rfl) ?_
                  refine lv_dup hx hb dX10_faultOfSlips_201 rfl ?_
                  refine va_get (D := G.1) (ci := 6) (v := .int (nI sm)) (C := RX10) (T := TX10) (N := 28) hx hb hts (fun _ h => List.mem_cons_of_mem _ (List.mem_append_right _ h)) hown E.K hP 0 rfl rfl 10 (by decide) (hts (.fieldLink RX10 110 "LastMapModel" "slipMany" "I") (by decide +kernel)) (fun _ h9 => h9) rfl dX10_faultOfSlips_202 ?_
                  refine lv_iconst (v := 1) hx hb dX10_faultOfSlips_205 (by decide) ?_
                  refine lv_iadd hx hb dX10_faultOfSlips_206 ?_
                  refine lv_topi (fun x135 ex135 => ?_)
                  obtain rfl : x135 = nI (sm + 1) := by rw [ex135]; exact nI_add sm 1
                  refine va_put (D := G.1) (ci := 6) (v := .int (nI (sm + 1))) (ty := .int) (C := RX10) (T := TX10) (N := 28) hx hb hts (fun _ h => List.mem_cons_of_mem _ (List.mem_append_right _ h)) tyX10 tyX10_ok nmX10 hown E.K hP hD hS 0 rfl rfl 10 (by decide) (hts (.fieldLink RX10 110 "LastMapModel" "slipMany" "I") (by decide +kernel)) (fun _ h9 => h9) rfl (by decide +kernel) rfl rfl (Nat.le_of_ble_eq_true rfl) dX10_faultOfSlips_207 (fun H locs hP hD hS => ?_)
                  have hP : va_P G.1 vwCl ([(h1, .inr (6, [.int (nI k), v_maps, v_told, v_kinds, v_land, v_spades, v_part, .ref a_pad, .int (nI pm), .ref a_slips, .int (nI (sm + 1)), v_made, v_queue, v_depth, v_by, v_from, v_come, v_offOf, v_parent, v_best, v_trees, v_least, v_sums, v_toward, v_kept, v_isKept, v_keptAt, v_isWriting])), (a_pad, .inl (gI G, 40, .inl fd)), (a_slips, .inl (gI G, 10, .inl f134))]) H := hP
                  have hD : va_D A ([(h1, .inr (6, [.int (nI k), v_maps, v_told, v_kinds, v_land, v_spades, v_part, .ref a_pad, .int (nI pm), .ref a_slips, .int (nI (sm + 1)), v_made, v_queue, v_depth, v_by, v_from, v_come, v_offOf, v_parent, v_best, v_trees, v_least, v_sums, v_toward, v_kept, v_isKept, v_keptAt, v_isWriting])), (a_pad, .inl (gI G, 40, .inl fd)), (a_slips, .inl (gI G, 10, .inl f134))]) := hD
                  refine lv_iconst (v := 0) hx hb dX10_faultOfSlips_210 (by decide) ?_
                  refine lv_istore_n (lv' := [(1, .int 0), (6, .int 1), (5, .int x3), (4, .int (nI x)), (3, .int (nI si)), (2, .int (nI kd)), (0, .ref h1)]) hx hb dX10_faultOfSlips_211 rfl hl (by decide) rfl (fun ls hl => ?_)
                  obtain ⟨x136, ex136⟩ : ∃ yy_ : Int32, yy_ = (nI x) + 1 := ⟨_, rfl⟩
                  refine lv_iinc (v := x136) (lv' := [(4, .int x136), (1, .int 0), (6, .int 1), (5, .int x3), (3, .int (nI si)), (2, .int (nI kd)), (0, .ref h1)]) hx hb dX10_faultOfSlips_212 hl (k := 3) rfl (by rw [ex136]; rfl) (by decide) rfl (fun ls hl => ?_)
                  obtain rfl : x136 = nI (x + 1) := by rw [ex136]; exact nI_add x 1
                  refine lv_goto (tgt := 14) hx hb dX10_faultOfSlips_215 (by decide) ?_
                  refine ih14 ((x + 1), 0, kd, si, (sm + 1), f134) ⟨?_, ?_, ?_, ?_, ?_, ?_⟩ (by first | omega | (dsimp only; omega)) H locs ls (hP.sub [0, 1, 2] rfl) (hD.sub [0, 1, 2] (by decide) rfl) hS (lv_sub hl [0, 4, 5, 1, 6] rfl)
                  · try dsimp only
                    omega
                  · try dsimp only
                    omega
                  · try dsimp only
                    omega
                  · try dsimp only
                    omega
                  · try dsimp only
                    omega
                  · try dsimp only
                    rw [ef134, nI_clamp (by omega)]; exact slips_upd hsl hput
                · refine lv_if_eq (tgt := 160) hx hb dX10_faultOfSlips_151 (by decide) (fun _ => ?_) (fun c137 => False.elim (by revert c137; decide))
                  refine lv_iload hx hb dX10_faultOfSlips_160 (lv_at hl 2 rfl) ?_
                  have hP9 := (hP.sub (ws' := [(h1, .inr (6, [.int (nI k), v_maps, v_told, v_kinds, v_land, v_spades, v_part, .ref a_pad, .int (nI pm), .ref a_slips, .int (nI sm), v_made, v_queue, v_depth, v_by, v_from, v_come, v_offOf, v_parent, v_best, v_trees, v_least, v_sums, v_toward, v_kept, v_isKept, v_keptAt, v_isWriting])), (a_pad, .inl (gI G, 40, .inl fd)), (a_slips, .inl (gI G, 10, .inl g))]) [0, 1, 2] rfl)
                  have hD9 := (hD.sub (ws' := [(h1, .inr (6, [.int (nI k), v_maps, v_told, v_kinds, v_land, v_spades, v_part, .ref a_pad, .int (nI pm), .ref a_slips, .int (nI sm), v_made, v_queue, v_depth, v_by, v_from, v_come, v_offOf, v_parent, v_best, v_trees, v_least, v_sums, v_toward, v_kept, v_isKept, v_keptAt, v_isWriting])), (a_pad, .inl (gI G, 40, .inl fd)), (a_slips, .inl (gI G, 10, .inl g))]) [0, 1, 2] (by decide) rfl)
                  exact W.iret (v := (nI x)) hx hb hr (fun t9_ ht9_ hW9_ => ⟨⟨nI x, (sm, g), rfl, ⟨by omega, hsl, Or.inr ⟨x, by omega, rfl⟩⟩, by rw [ht9_]; exact hP9, hD9⟩, hS.F ht9_⟩) hS.2.2 dX10_faultOfSlips_162
    · have c4 : sa = 0 := (nI_eq (a := sa) (b := 0) (by omega) (by omega)).mp c4
      refine lv_aload_n hx hb dX10_faultOfSlips_39 rfl (lv_at hl 6 rfl) ?_
      refine va_get (D := G.1) (ci := 6) (v := .int (nI sm)) (C := RX10) (T := TX10) (N := 28) hx hb hts (fun _ h => List.mem_cons_of_mem _ (List.mem_append_right _ h)) hown E.K hP 0 rfl rfl 10 (by decide) (hts (.fieldLink RX10 110 "LastMapModel" "slipMany" "I") (by decide +kernel)) (fun _ h9 => h9) rfl dX10_faultOfSlips_40 ?_
      refine lv_bipush (v := 10) hx hb dX10_faultOfSlips_43 (by decide) ?_
      refine lv_icmp_ge (tgt := 67) hx hb dX10_faultOfSlips_45 (by decide) (fun c138 => ?_) (fun c138 => ?_)
      · have c138 : 10 ≤ sm := (nI_leI (a := 10) (b := sm) (by omega) (by omega)).mp c138
        refine lv_iload_n hx hb dX10_faultOfSlips_67 rfl (lv_at hl 5 rfl) ?_
        refine lv_iconst (v := 1) hx hb dX10_faultOfSlips_68 (by decide) ?_
        refine lv_icmp_ne (tgt := 134) hx hb dX10_faultOfSlips_69 (by decide) (fun c139 => ?_) (fun c139 => ?_)
        · have c139 : ¬ sa = 1 := fun h9_ => c139 ((nI_eq (a := sa) (b := 1) (by omega) (by omega)).mpr h9_)
          refine lv_iload_n hx hb dX10_faultOfSlips_134 rfl (lv_at hl 5 rfl) ?_
          refine lv_iconst (v := 2) hx hb dX10_faultOfSlips_135 (by decide) ?_
          refine lv_icmp_ne (tgt := 160) hx hb dX10_faultOfSlips_136 (by decide) (fun c140 => ?_) (fun c140 => ?_)
          · have c140 : ¬ sa = 2 := fun h9_ => c140 ((nI_eq (a := sa) (b := 2) (by omega) (by omega)).mpr h9_)
            refine lv_iload hx hb dX10_faultOfSlips_160 (lv_at hl 2 rfl) ?_
            have hP9 := (hP.sub (ws' := [(h1, .inr (6, [.int (nI k), v_maps, v_told, v_kinds, v_land, v_spades, v_part, .ref a_pad, .int (nI pm), .ref a_slips, .int (nI sm), v_made, v_queue, v_depth, v_by, v_from, v_come, v_offOf, v_parent, v_best, v_trees, v_least, v_sums, v_toward, v_kept, v_isKept, v_keptAt, v_isWriting])), (a_pad, .inl (gI G, 40, .inl fd)), (a_slips, .inl (gI G, 10, .inl g))]) [0, 1, 2] rfl)
            have hD9 := (hD.sub (ws' := [(h1, .inr (6, [.int (nI k), v_maps, v_told, v_kinds, v_land, v_spades, v_part, .ref a_pad, .int (nI pm), .ref a_slips, .int (nI sm), v_made, v_queue, v_depth, v_by, v_from, v_come, v_offOf, v_parent, v_best, v_trees, v_least, v_sums, v_toward, v_kept, v_isKept, v_keptAt, v_isWriting])), (a_pad, .inl (gI G, 40, .inl fd)), (a_slips, .inl (gI G, 10, .inl g))]) [0, 1, 2] (by decide) rfl)
            exact W.iret (v := (nI x)) hx hb hr (fun t9_ ht9_ hW9_ => ⟨⟨nI x, (sm, g), rfl, ⟨by omega, hsl, Or.inr ⟨x, by omega, rfl⟩⟩, by rw [ht9_]; exact hP9, hD9⟩, hS.F ht9_⟩) hS.2.2 dX10_faultOfSlips_162
          · have c140 : sa = 2 := (nI_eq (a := sa) (b := 2) (by omega) (by omega)).mp c140
            refine lv_iload hx hb dX10_faultOfSlips_139 (lv_at hl 1 rfl) ?_
            refine lv_i2l hx hb dX10_faultOfSlips_141 rfl ?_
            refine lv_topl (fun x141 ex141 => ?_)
            refine lv_ldc2 (v := 97) hx hb hown (hts (.constantLong RX10 95 (97)) (by decide +kernel)) dX10_faultOfSlips_142 ?_
            refine lv_ldc2 (v := 100) hx hb hown (hts (.constantLong RX10 97 (100)) (by decide +kernel)) dX10_faultOfSlips_145 ?_
            refine ca_iR (va_runS (As := [.long x141, .long 97, .long 100]) (rest := []) ⟨hx, hb, hml, hown, hts⟩ (m_in l G H.size x141 97 100 x3 97 100 ex141 (by decide) (by decide)) (va_cwS 3 hts gX10_faultOfSlips_X10_in rfl rfl rfl (by decide +kernel) ⟨by decide +kernel, by decide +kernel⟩) (pre_S E hP hD hS hA [] (by decide) rfl) rfl rfl hl.1 rfl (lv_room (Nat.le_of_ble_eq_true rfl)) dX10_faultOfSlips_148 ⟨by decide +kernel, by decide +kernel⟩) hS hP hD hA [] rfl (fun r143 _ H locs w142 hP hS => ?_)
            rcases w142 with ⟨rfl, b144⟩ | ⟨rfl, b144⟩
            · refine lv_if_eq (tgt := 160) hx hb dX10_faultOfSlips_151 (by decide) (fun c145 => False.elim (by revert c145; decide)) (fun _ => ?_)
              refine lv_iconst (v := 1) hx hb dX10_faultOfSlips_154 (by decide) ?_
              refine lv_istore (lv' := [(6, .int 1), (5, .int x3), (4, .int (nI x)), (3, .int (nI si)), (2, .int (nI kd)), (1, .int (nI sa)), (0, .ref h1)]) hx hb dX10_faultOfSlips_155 hl (by decide) rfl (fun ls hl => ?_)
              refine lv_goto (tgt := 163) hx hb dX10_faultOfSlips_157 (by decide) ?_
              refine lv_iload hx hb dX10_faultOfSlips_163 (lv_at hl 0 rfl) ?_
              refine lv_if_eq (tgt := 212) hx hb dX10_faultOfSlips_165 (by decide) (fun c146 => False.elim (by revert c146; decide)) (fun _ => ?_)
              refine lv_aload_n hx hb dX10_faultOfSlips_168 rfl (lv_at hl 6 rfl) ?_
              refine va_get (D := G.1) (ci := 6) (v := .ref a_slips) (C := RX10) (T := TX10) (N := 28) hx hb hts (fun _ h => List.mem_cons_of_mem _ (List.mem_append_right _ h)) hown E.K hP 0 rfl rfl 9 (by decide) (hts (.fieldLink RX10 22 "LastMapModel" "slips" "[I") (by decide +kernel)) (fun _ h9 => h9) rfl dX10_faultOfSlips_169 ?_
              refine lv_aload_n hx hb dX10_faultOfSlips_172 rfl (lv_at hl 6 rfl) ?_
              refine va_get (D := G.1) (ci := 6) (v := .int (nI sm)) (C := RX10) (T := TX10) (N := 28) hx hb hts (fun _ h => List.mem_cons_of_mem _ (List.mem_append_right _ h)) hown E.K hP 0 rfl rfl 10 (by decide) (hts (.fieldLink RX10 110 "LastMapModel" "slipMany" "I") (by decide +kernel)) (fun _ h9 => h9) rfl dX10_faultOfSlips_173 ?_
              refine lv_bipush (v := 100) hx hb dX10_faultOfSlips_176 (by decide) ?_
              refine lv_iload_n hx hb dX10_faultOfSlips_178 rfl (lv_at hl 4 rfl) ?_
              refine lv_imul hx hb dX10_faultOfSlips_179 ?_
              refine lv_topi (fun x147 ex147 => ?_)
              obtain rfl : x147 = nI (100 * kd) := by rw [ex147]; exact pk_mul 100 kd
              refine lv_bipush (v := 10) hx hb dX10_faultOfSlips_180 (by decide) ?_
              refine lv_iload_n hx hb dX10_faultOfSlips_182 rfl (lv_at hl 3 rfl) ?_
              refine lv_imul hx hb dX10_faultOfSlips_183 ?_
              refine lv_topi (fun x148 ex148 => ?_)
              obtain rfl : x148 = nI (10 * si) := by rw [ex148]; exact pk_mul 10 si
              refine lv_iadd hx hb dX10_faultOfSlips_184 ?_
              refine lv_topi (fun x149 ex149 => ?_)
              obtain rfl : x149 = nI ((100 * kd) + (10 * si)) := by rw [ex149]; exact nI_add (100 * kd) (10 * si)
              refine lv_iload_n hx hb dX10_faultOfSlips_185 rfl (lv_at hl 4 rfl) ?_
              refine lv_if_ne (tgt := 197) hx hb dX10_faultOfSlips_186 (by decide) (fun c150 => absurd (show nI kd = 0 by rw [(hsi (by omega)).1]; rfl) c150) (fun c150 => ?_)
              refine lv_iload hx hb dX10_faultOfSlips_189 (lv_at hl 1 rfl) ?_
              refine lv_bipush (v := 97) hx hb dX10_faultOfSlips_191 (by decide) ?_
              refine lv_isub hx hb dX10_faultOfSlips_193 ?_
              refine lv_topi (fun x151 ex151 => ?_)
              obtain ⟨mg9, hmg9, emg9⟩ := sub97 b144
              obtain rfl : x151 = nI mg9 := by rw [ex151]; exact emg9
              refine lv_goto (tgt := 198) hx hb dX10_faultOfSlips_194 (by decide) ?_
              refine lv_iadd hx hb dX10_faultOfSlips_198 ?_
              refine lv_topi (fun x152 ex152 => ?_)
              obtain rfl : x152 = nI (((100 * kd) + (10 * si)) + mg9) := by rw [ex152]; exact nI_add ((100 * kd) + (10 * si)) mg9
              have hput : slipOK k (nI ((((100 * kd) + (10 * si)) + mg9))) := ⟨kd, si, mg9, by unfold okV; have q := hsi (by omega); omega, rfl⟩
              refine va_iast hx hb E.K hP hD hS 2 1 rfl rfl (i := nI sm) (vp_in_nI (by omega) (by decide)) dX10_faultOfSlips_199 (fun H locs hP hD hS => ?_)
              obtain ⟨f153, ef153⟩ : ∃ yy_ : Nat → Int32, yy_ = upd g (nI sm).toNatClampNeg (nI (((100 * kd) + (10 * si)) + mg9)) := ⟨_, rfl⟩
              have hP : va_P G.1 vwCl ([(h1, .inr (6, [.int (nI k), v_maps, v_told, v_kinds, v_land, v_spades, v_part, .ref a_pad, .int (nI pm), .ref a_slips, .int (nI sm), v_made, v_queue, v_depth, v_by, v_from, v_come, v_offOf, v_parent, v_best, v_trees, v_least, v_sums, v_toward, v_kept, v_isKept, v_keptAt, v_isWriting])), (a_pad, .inl (gI G, 40, .inl fd)), (a_slips, .inl (gI G, 10, .inl f153))]) H := by rw [ef153]; exact hP
              have hD : va_D A ([(h1, .inr (6, [.int (nI k), v_maps, v_told, v_kinds, v_land, v_spades, v_part, .ref a_pad, .int (nI pm), .ref a_slips, .int (nI sm), v_made, v_queue, v_depth, v_by, v_from, v_come, v_offOf, v_parent, v_best, v_trees, v_least, v_sums, v_toward, v_kept, v_isKept, v_keptAt, v_isWriting])), (a_pad, .inl (gI G, 40, .inl fd)), (a_slips, .inl (gI G, 10, .inl f153))]) := by rw [ef153]; exact hD
              refine lv_aload_n hx hb dX10_faultOfSlips_200 rfl (lv_at hl 6 rfl) ?_
              refine lv_dup hx hb dX10_faultOfSlips_201 rfl ?_
              refine va_get (D := G.1) (ci := 6) (v := .int (nI sm)) (C := RX10) (T := TX10) (N := 28) hx hb hts (fun _ h => List.mem_cons_of_mem _ (List.mem_append_right _ h)) hown E.K hP 0 rfl rfl 10 (by decide) (hts (.fieldLink RX10 110 "LastMapModel" "slipMany" "I") (by decide +kernel)) (fun _ h9 => h9) rfl dX10_faultOfSlips_202 ?_
              refine lv_iconst (v := 1) hx hb dX10_faultOfSlips_205 (by decide) ?_
              refine lv_iadd hx hb dX10_faultOfSlips_206 ?_
              refine lv_topi (fun x154 ex154 => ?_)
              obtain rfl : x154 = nI (sm + 1) := by rw [ex154]; exact nI_add sm 1
              refine va_put (D := G.1) (ci := 6) (v := .int (nI (sm + 1))) (ty := .int) (C := RX10) (T := TX10) (N := 28) hx hb hts (fun _ h => List.mem_cons_of_mem _ (List.mem_append_right _ h)) tyX10 tyX10_ok nmX10 hown E.K hP hD hS 0 rfl rfl 10 (by decide) (hts (.fieldLink RX10 110 "LastMapModel" "slipMany" "I") (by decide +kernel)) (fun _ h9 => h9) rfl (by decide +kernel) rfl rfl (Nat.le_of_ble_eq_true rfl) dX10_faultOfSlips_207 (fun H locs hP hD hS => ?_)
              have hP : va_P G.1 vwCl ([(h1, .inr (6, [.int (nI k), v_maps, v_told, v_kinds, v_land, v_spades, v_part, .ref a_pad, .int (nI pm), .ref a_slips, .int (nI (sm + 1)), v_made, v_queue, v_depth, v_by, v_from, v_come, v_offOf, v_parent, v_best, v_trees, v_least, v_sums, v_toward, v_kept, v_isKept, v_keptAt, v_isWriting])), (a_pad, .inl (gI G, 40, .inl fd)), (a_slips, .inl (gI G, 10, .inl f153))]) H := hP
              have hD : va_D A ([(h1, .inr (6, [.int (nI k), v_maps, v_told, v_kinds, v_land, v_spades, v_part, .ref a_pad, .int (nI pm), .ref a_slips, .int (nI (sm + 1)), v_made, v_queue, v_depth, v_by, v_from, v_come, v_offOf, v_parent, v_best, v_trees, v_least, v_sums, v_toward, v_kept, v_isKept, v_keptAt, v_isWriting])), (a_pad, .inl (gI G, 40, .inl fd)), (a_slips, .inl (gI G, 10, .inl f153))]) := hD
              refine lv_iconst (v := 0) hx hb dX10_faultOfSlips_210 (by decide) ?_
              refine lv_istore_n (lv' := [(1, .int 0), (6, .int 1), (5, .int x3), (4, .int (nI x)), (3, .int (nI si)), (2, .int (nI kd)), (0, .ref h1)]) hx hb dX10_faultOfSlips_211 rfl hl (by decide) rfl (fun ls hl => ?_)
              obtain ⟨x155, ex155⟩ : ∃ yy_ : Int32, yy_ = (nI x) + 1 := ⟨_, rfl⟩
              refine lv_iinc (v := x155) (lv' := [(4, .int x155), (1, .int 0), (6, .int 1), (5, .int x3), (3, .int (nI si)), (2, .int (nI kd)), (0, .ref h1)]) hx hb dX10_faultOfSlips_212 hl (k := 3) rfl (by rw [ex155]; rfl) (by decide) rfl (fun ls hl => ?_)
              obtain rfl : x155 = nI (x + 1) := by rw [ex155]; exact nI_add x 1
              refine lv_goto (tgt := 14) hx hb dX10_faultOfSlips_215 (by decide) ?_
              refine ih14 ((x + 1), 0, kd, si, (sm + 1), f153) ⟨?_, ?_, ?_, ?_, ?_, ?_⟩ (by first | omega | (dsimp only; omega)) H locs ls (hP.sub [0, 1, 2] rfl) (hD.sub [0, 1, 2] (by decide) rfl) hS (lv_sub hl [0, 4, 5, 1, 6] rfl)
              · try dsimp only
                omega
              · try dsimp only
                omega
              · try dsimp only
                omega
              · try dsimp only
                omega
              · try dsimp only
                omega
              · try dsimp only
                rw [ef153, nI_clamp (by omega)]; exact slips_upd hsl hput
            · refine lv_if_eq (tgt := 160) hx hb dX10_faultOfSlips_151 (by decide) (fun _ => ?_) (fun c156 => False.elim (by revert c156; decide))
              refine lv_iload hx hb dX10_faultOfSlips_160 (lv_at hl 2 rfl) ?_
              have hP9 := (hP.sub (ws' := [(h1, .inr (6, [.int (nI k), v_maps, v_told, v_kinds, v_land, v_spades, v_part, .ref a_pad, .int (nI pm), .ref a_slips, .int (nI sm), v_made, v_queue, v_depth, v_by, v_from, v_come, v_offOf, v_parent, v_best, v_trees, v_least, v_sums, v_toward, v_kept, v_isKept, v_keptAt, v_isWriting])), (a_pad, .inl (gI G, 40, .inl fd)), (a_slips, .inl (gI G, 10, .inl g))]) [0, 1, 2] rfl)
              have hD9 := (hD.sub (ws' := [(h1, .inr (6, [.int (nI k), v_maps, v_told, v_kinds, v_land, v_spades, v_part, .ref a_pad, .int (nI pm), .ref a_slips, .int (nI sm), v_made, v_queue, v_depth, v_by, v_from, v_come, v_offOf, v_parent, v_best, v_trees, v_least, v_sums, v_toward, v_kept, v_isKept, v_keptAt, v_isWriting])), (a_pad, .inl (gI G, 40, .inl fd)), (a_slips, .inl (gI G, 10, .inl g))]) [0, 1, 2] (by decide) rfl)
              exact W.iret (v := (nI x)) hx hb hr (fun t9_ ht9_ hW9_ => ⟨⟨nI x, (sm, g), rfl, ⟨by omega, hsl, Or.inr ⟨x, by omega, rfl⟩⟩, by rw [ht9_]; exact hP9, hD9⟩, hS.F ht9_⟩) hS.2.2 dX10_faultOfSlips_162
        · have c139 : sa = 1 := (nI_eq (a := sa) (b := 1) (by omega) (by omega)).mp c139
          refine lv_iload hx hb dX10_faultOfSlips_72 (lv_at hl 1 rfl) ?_
          refine lv_bipush (v := 48) hx hb dX10_faultOfSlips_74 (by decide) ?_
          refine lv_isub hx hb dX10_faultOfSlips_76 ?_
          refine lv_topi (fun x157 ex157 => ?_)
          refine lv_i2l hx hb dX10_faultOfSlips_77 rfl ?_
          refine lv_topl (fun x158 ex158 => ?_)
          refine lv_lconst (v := 0) hx hb dX10_faultOfSlips_78 (by decide) ?_
          refine lv_iload_n hx hb dX10_faultOfSlips_79 rfl (lv_at hl 4 rfl) ?_
          refine lv_iconst (v := 1) hx hb dX10_faultOfSlips_80 (by decide) ?_
          refine lv_icmp_eq (tgt := 89) hx hb dX10_faultOfSlips_81 (by decide) (fun c159 => ?_) (fun c159 => ?_)
          · have c159 : kd = 1 := (nI_eq (a := kd) (b := 1) (by omega) (by omega)).mp c159
            refine lv_aload_n hx hb dX10_faultOfSlips_89 rfl (lv_at hl 6 rfl) ?_
            refine va_get (D := G.1) (ci := 6) (v := .int (nI k)) (C := RX10) (T := TX10) (N := 28) hx hb hts (fun _ h => List.mem_cons_of_mem _ (List.mem_append_right _ h)) hown E.K hP 0 rfl rfl 0 (by decide) (hts (.fieldLink RX10 67 "LastMapModel" "sites" "I") (by decide +kernel)) (fun _ h9 => h9) rfl dX10_faultOfSlips_90 ?_
            refine lv_iconst (v := 2) hx hb dX10_faultOfSlips_93 (by decide) ?_
            refine lv_isub hx hb dX10_faultOfSlips_94 ?_
            refine lv_topi (fun x160 ex160 => ?_)
            obtain rfl : x160 = nI (k - 2) := by rw [ex160]; exact pk_sub (show 2 ≤ k by omega)
            refine lv_i2l hx hb dX10_faultOfSlips_95 rfl ?_
            refine lv_topl (fun x161 ex161 => ?_)
            refine lv_goto (tgt := 106) hx hb dX10_faultOfSlips_96 (by decide) ?_
            refine ca_iR (va_runS (As := [.long x158, .long 0, .long x161]) (rest := []) ⟨hx, hb, hml, hown, hts⟩ (m_in l G H.size x158 0 x161 x157 0 (nI (k - 2)) ex158 (by decide) ex161) (va_cwS 3 hts gX10_faultOfSlips_X10_in rfl rfl rfl (by decide +kernel) ⟨by decide +kernel, by decide +kernel⟩) (pre_S E hP hD hS hA [] (by decide) rfl) rfl rfl hl.1 rfl (lv_room (Nat.le_of_ble_eq_true rfl)) dX10_faultOfSlips_106 ⟨by decide +kernel, by decide +kernel⟩) hS hP hD hA [] rfl (fun r163 _ H locs w162 hP hS => ?_)
            rcases w162 with ⟨rfl, b164⟩ | ⟨rfl, b164⟩
            · refine lv_if_eq (tgt := 134) hx hb dX10_faultOfSlips_109 (by decide) (fun c165 => False.elim (by revert c165; decide)) (fun _ => ?_)
              refine lv_iload hx hb dX10_faultOfSlips_112 (lv_at hl 1 rfl) ?_
              refine lv_bipush (v := 48) hx hb dX10_faultOfSlips_114 (by decide) ?_
              refine lv_isub hx hb dX10_faultOfSlips_116 ?_
              refine lv_topi (fun x166 ex166 => ?_)
              obtain ⟨si9, hsi9, esi9⟩ := inRn (by omega) b164
              obtain rfl : x166 = nI si9 := by rw [ex166, ← ex157]; exact esi9
              refine lv_istore_n (lv' := [(3, .int (nI si9)), (6, .int 0), (5, .int x3), (4, .int (nI x)), (2, .int (nI kd)), (1, .int (nI sa)), (0, .ref h1)]) hx hb dX10_faultOfSlips_117 rfl hl (by decide) rfl (fun ls hl => ?_)
              refine lv_iconst (v := 2) hx hb dX10_faultOfSlips_118 (by decide) ?_
              refine lv_istore_n (lv' := [(1, .int 2), (3, .int (nI si9)), (6, .int 0), (5, .int x3), (4, .int (nI x)), (2, .int (nI kd)), (0, .ref h1)]) hx hb dX10_faultOfSlips_119 rfl hl (by decide) rfl (fun ls hl => ?_)
              refine lv_iload_n hx hb dX10_faultOfSlips_120 rfl (lv_at hl 5 rfl) ?_
              refine lv_if_eq (tgt := 128) hx hb dX10_faultOfSlips_121 (by decide) (fun c167 => ?_) (fun c167 => ?_)
              · have c167 : kd = 0 := (nI_eq (a := kd) (b := 0) (by omega) (by omega)).mp c167
                refine lv_iconst (v := 0) hx hb dX10_faultOfSlips_128 (by decide) ?_
                refine lv_istore (lv' := [(6, .int 0), (1, .int 2), (3, .int (nI si9)), (5, .int x3), (4, .int (nI x)), (2, .int (nI kd)), (0, .ref h1)]) hx hb dX10_faultOfSlips_129 hl (by decide) rfl (fun ls hl => ?_)
                refine lv_goto (tgt := 163) hx hb dX10_faultOfSlips_131 (by decide) ?_
                refine lv_iload hx hb dX10_faultOfSlips_163 (lv_at hl 0 rfl) ?_
                refine lv_if_eq (tgt := 212) hx hb dX10_faultOfSlips_165 (by decide) (fun _ => ?_) (fun c168 => False.elim (by revert c168; decide))
                obtain ⟨x169, ex169⟩ : ∃ yy_ : Int32, yy_ = (nI x) + 1 := ⟨_, rfl⟩
                refine lv_iinc (v := x169) (lv' := [(4, .int x169), (6, .int 0), (1, .int 2), (3, .int (nI si9)), (5, .int x3), (2, .int (nI kd)), (0, .ref h1)]) hx hb dX10_faultOfSlips_212 hl (k := 4) rfl (by rw [ex169]; rfl) (by decide) rfl (fun ls hl => ?_)
                obtain rfl : x169 = nI (x + 1) := by rw [ex169]; exact nI_add x 1
                refine lv_goto (tgt := 14) hx hb dX10_faultOfSlips_215 (by decide) ?_
                refine ih14 ((x + 1), 2, kd, si9, sm, g) ⟨?_, ?_, ?_, ?_, ?_, ?_⟩ (by first | omega | (dsimp only; omega)) H locs ls (hP.sub [0, 1, 2] rfl) (hD.sub [0, 1, 2] (by decide) rfl) hS (lv_sub hl [0, 3, 5, 2, 6] rfl)
                · try dsimp only
                  omega
                · try dsimp only
                  omega
                · try dsimp only
                  omega
                · try dsimp only
                  omega
                · try dsimp only
                  omega
                · try dsimp only
                  exact hsl
              · have c167 : ¬ kd = 0 := fun h9_ => c167 ((nI_eq (a := kd) (b := 0) (by omega) (by omega)).mpr h9_)
                refine lv_iconst (v := 1) hx hb dX10_faultOfSlips_124 (by decide) ?_
                refine lv_goto (tgt := 129) hx hb dX10_faultOfSlips_125 (by decide) ?_
                refine lv_istore (lv' := [(6, .int 1), (1, .int 2), (3, .int (nI si9)), (5, .int x3), (4, .int (nI x)), (2, .int (nI kd)), (0, .ref h1)]) hx hb dX10_faultOfSlips_129 hl (by decide) rfl (fun ls hl => ?_)
                refine lv_goto (tgt := 163) hx hb dX10_faultOfSlips_131 (by decide) ?_
                refine lv_iload hx hb dX10_faultOfSlips_163 (lv_at hl 0 rfl) ?_
                refine lv_if_eq (tgt := 212) hx hb dX10_faultOfSlips_165 (by decide) (fun c170 => False.elim (by revert c170; decide)) (fun _ => ?_)
                refine lv_aload_n hx hb dX10_faultOfSlips_168 rfl (lv_at hl 6 rfl) ?_
                refine va_get (D := G.1) (ci := 6) (v := .ref a_slips) (C := RX10) (T := TX10) (N := 28) hx hb hts (fun _ h => List.mem_cons_of_mem _ (List.mem_append_right _ h)) hown E.K hP 0 rfl rfl 9 (by decide) (hts (.fieldLink RX10 22 "LastMapModel" "slips" "[I") (by decide +kernel)) (fun _ h9 => h9) rfl dX10_faultOfSlips_169 ?_
                refine lv_aload_n hx hb dX10_faultOfSlips_172 rfl (lv_at hl 6 rfl) ?_
                refine va_get (D := G.1) (ci := 6) (v := .int (nI sm)) (C := RX10) (T := TX10) (N := 28) hx hb hts (fun _ h => List.mem_cons_of_mem _ (List.mem_append_right _ h)) hown E.K hP 0 rfl rfl 10 (by decide) (hts (.fieldLink RX10 110 "LastMapModel" "slipMany" "I") (by decide +kernel)) (fun _ h9 => h9) rfl dX10_faultOfSlips_173 ?_
                refine lv_bipush (v := 100) hx hb dX10_faultOfSlips_176 (by decide) ?_
                refine lv_iload_n hx hb dX10_faultOfSlips_178 rfl (lv_at hl 5 rfl) ?_
                refine lv_imul hx hb dX10_faultOfSlips_179 ?_
                refine lv_topi (fun x171 ex171 => ?_)
                obtain rfl : x171 = nI (100 * kd) := by rw [ex171]; exact pk_mul 100 kd
                refine lv_bipush (v := 10) hx hb dX10_faultOfSlips_180 (by decide) ?_
                refine lv_iload_n hx hb dX10_faultOfSlips_182 rfl (lv_at hl 2 rfl) ?_
                refine lv_imul hx hb dX10_faultOfSlips_183 ?_
                refine lv_topi (fun x172 ex172 => ?_)
                obtain rfl : x172 = nI (10 * si9) := by rw [ex172]; exact pk_mul 10 si9
                refine lv_iadd hx hb dX10_faultOfSlips_184 ?_
                refine lv_topi (fun x173 ex173 => ?_)
                obtain rfl : x173 = nI ((100 * kd) + (10 * si9)) := by rw [ex173]; exact nI_add (100 * kd) (10 * si9)
                refine lv_iload_n hx hb dX10_faultOfSlips_185 rfl (lv_at hl 5 rfl) ?_
                refine lv_if_ne (tgt := 197) hx hb dX10_faultOfSlips_186 (by decide) (fun c174 => ?_) (fun c174 => False.elim (by have q := (nI_eq (a := kd) (b := 0) (by omega) (by omega)).mp c174; omega))
                refine lv_iconst (v := 0) hx hb dX10_faultOfSlips_197 (by decide) ?_
                refine lv_iadd hx hb dX10_faultOfSlips_198 ?_
                refine lv_topi (fun x175 ex175 => ?_)
                obtain rfl : x175 = nI (((100 * kd) + (10 * si9)) + 0) := by rw [ex175]; exact nI_add ((100 * kd) + (10 * si9)) 0
                have hput : slipOK k (nI ((((100 * kd) + (10 * si9)) + 0))) := ⟨kd, si9, 0, by unfold okV; omega, rfl⟩
                refine va_iast hx hb E.K hP hD hS 2 1 rfl rfl (i := nI sm) (vp_in_nI (by omega) (by decide)) dX10_faultOfSlips_199 (fun H locs hP hD hS => ?_)
                obtain ⟨f176, ef176⟩ : ∃ yy_ : Nat → Int32, yy_ = upd g (nI sm).toNatClampNeg (nI (((100 * kd) + (10 * si9)) + 0)) := ⟨_, rfl⟩
                have hP : va_P G.1 vwCl ([(h1, .inr (6, [.int (nI k), v_maps, v_told, v_kinds, v_land, v_spades, v_part, .ref a_pad, .int (nI pm), .ref a_slips, .int (nI sm), v_made, v_queue, v_depth, v_by, v_from, v_come, v_offOf, v_parent, v_best, v_trees, v_least, v_sums, v_toward, v_kept, v_isKept, v_keptAt, v_isWriting])), (a_pad, .inl (gI G, 40, .inl fd)), (a_slips, .inl (gI G, 10, .inl f176))]) H := by rw [ef176]; exact hP
                have hD : va_D A ([(h1, .inr (6, [.int (nI k), v_maps, v_told, v_kinds, v_land, v_spades, v_part, .ref a_pad, .int (nI pm), .ref a_slips, .int (nI sm), v_made, v_queue, v_depth, v_by, v_from, v_come, v_offOf, v_parent, v_best, v_trees, v_least, v_sums, v_toward, v_kept, v_isKept, v_keptAt, v_isWriting])), (a_pad, .inl (gI G, 40, .inl fd)), (a_slips, .inl (gI G, 10, .inl f176))]) := by rw [ef176]; exact hD
                refine lv_aload_n hx hb dX10_faultOfSlips_200 rfl (lv_at hl 6 rfl) ?_
                refine lv_dup hx hb dX10_faultOfSlips_201 rfl ?_
                refine va_get (D := G.1) (ci := 6) (v := .int (nI sm)) (C := RX10) (T := TX10) (N := 28) hx hb hts (fun _ h => List.mem_cons_of_mem _ (List.mem_append_right _ h)) hown E.K hP 0 rfl rfl 10 (by decide) (hts (.fieldLink RX10 110 "LastMapModel" "slipMany" "I") (by decide +kernel)) (fun _ h9 => h9) rfl dX10_faultOfSlips_202 ?_
                refine lv_iconst (v := 1) hx hb dX10_faultOfSlips_205 (by decide) ?_
                refine lv_iadd hx hb dX10_faultOfSlips_206 ?_
                refine lv_topi (fun x177 ex177 => ?_)
                obtain rfl : x177 = nI (sm + 1) := by rw [ex177]; exact nI_add sm 1
                refine va_put (D := G.1) (ci := 6) (v := .int (nI (sm + 1))) (ty := .int) (C := RX10) (T := TX10) (N := 28) hx hb hts (fun _ h => List.mem_cons_of_mem _ (List.mem_append_right _ h)) tyX10 tyX10_ok nmX10 hown E.K hP hD hS 0 rfl rfl 10 (by decide) (hts (.fieldLink RX10 110 "LastMapModel" "slipMany" "I") (by decide +kernel)) (fun _ h9 => h9) rfl (by decide +kernel) rfl rfl (Nat.le_of_ble_eq_true rfl) dX10_faultOfSlips_207 (fun H locs hP hD hS => ?_)
                have hP : va_P G.1 vwCl ([(h1, .inr (6, [.int (nI k), v_maps, v_told, v_kinds, v_land, v_spades, v_part, .ref a_pad, .int (nI pm), .ref a_slips, .int (nI (sm + 1)), v_made, v_queue, v_depth, v_by, v_from, v_come, v_offOf, v_parent, v_best, v_trees, v_least, v_sums, v_toward, v_kept, v_isKept, v_keptAt, v_isWriting])), (a_pad, .inl (gI G, 40, .inl fd)), (a_slips, .inl (gI G, 10, .inl f176))]) H := hP
                have hD : va_D A ([(h1, .inr (6, [.int (nI k), v_maps, v_told, v_kinds, v_land, v_spades, v_part, .ref a_pad, .int (nI pm), .ref a_slips, .int (nI (sm + 1)), v_made, v_queue, v_depth, v_by, v_from, v_come, v_offOf, v_parent, v_best, v_trees, v_least, v_sums, v_toward, v_kept, v_isKept, v_keptAt, v_isWriting])), (a_pad, .inl (gI G, 40, .inl fd)), (a_slips, .inl (gI G, 10, .inl f176))]) := hD
                refine lv_iconst (v := 0) hx hb dX10_faultOfSlips_210 (by decide) ?_
                refine lv_istore_n (lv' := [(1, .int 0), (6, .int 1), (3, .int (nI si9)), (5, .int x3), (4, .int (nI x)), (2, .int (nI kd)), (0, .ref h1)]) hx hb dX10_faultOfSlips_211 rfl hl (by decide) rfl (fun ls hl => ?_)
                obtain ⟨x178, ex178⟩ : ∃ yy_ : Int32, yy_ = (nI x) + 1 := ⟨_, rfl⟩
                refine lv_iinc (v := x178) (lv' := [(4, .int x178), (1, .int 0), (6, .int 1), (3, .int (nI si9)), (5, .int x3), (2, .int (nI kd)), (0, .ref h1)]) hx hb dX10_faultOfSlips_212 hl (k := 4) rfl (by rw [ex178]; rfl) (by decide) rfl (fun ls hl => ?_)
                obtain rfl : x178 = nI (x + 1) := by rw [ex178]; exact nI_add x 1
                refine lv_goto (tgt := 14) hx hb dX10_faultOfSlips_215 (by decide) ?_
                refine ih14 ((x + 1), 0, kd, si9, (sm + 1), f176) ⟨?_, ?_, ?_, ?_, ?_, ?_⟩ (by first | omega | (dsimp only; omega)) H locs ls (hP.sub [0, 1, 2] rfl) (hD.sub [0, 1, 2] (by decide) rfl) hS (lv_sub hl [0, 3, 5, 1, 6] rfl)
                · try dsimp only
                  omega
                · try dsimp only
                  omega
                · try dsimp only
                  omega
                · try dsimp only
                  omega
                · try dsimp only
                  omega
                · try dsimp only
                  rw [ef176, nI_clamp (by omega)]; exact slips_upd hsl hput
            · refine lv_if_eq (tgt := 134) hx hb dX10_faultOfSlips_109 (by decide) (fun _ => ?_) (fun c179 => False.elim (by revert c179; decide))
              refine lv_iload_n hx hb dX10_faultOfSlips_134 rfl (lv_at hl 5 rfl) ?_
              refine lv_iconst (v := 2) hx hb dX10_faultOfSlips_135 (by decide) ?_
              refine lv_icmp_ne (tgt := 160) hx hb dX10_faultOfSlips_136 (by decide) (fun c180 => ?_) (fun c180 => ?_)
              · have c180 : ¬ sa = 2 := fun h9_ => c180 ((nI_eq (a := sa) (b := 2) (by omega) (by omega)).mpr h9_)
                refine lv_iload hx hb dX10_faultOfSlips_160 (lv_at hl 2 rfl) ?_
                have hP9 := (hP.sub (ws' := [(h1, .inr (6, [.int (nI k), v_maps, v_told, v_kinds, v_land, v_spades, v_part, .ref a_pad, .int (nI pm), .ref a_slips, .int (nI sm), v_made, v_queue, v_depth, v_by, v_from, v_come, v_offOf, v_parent, v_best, v_trees, v_least, v_sums, v_toward, v_kept, v_isKept, v_keptAt, v_isWriting])), (a_pad, .inl (gI G, 40, .inl fd)), (a_slips, .inl (gI G, 10, .inl g))]) [0, 1, 2] rfl)
                have hD9 := (hD.sub (ws' := [(h1, .inr (6, [.int (nI k), v_maps, v_told, v_kinds, v_land, v_spades, v_part, .ref a_pad, .int (nI pm), .ref a_slips, .int (nI sm), v_made, v_queue, v_depth, v_by, v_from, v_come, v_offOf, v_parent, v_best, v_trees, v_least, v_sums, v_toward, v_kept, v_isKept, v_keptAt, v_isWriting])), (a_pad, .inl (gI G, 40, .inl fd)), (a_slips, .inl (gI G, 10, .inl g))]) [0, 1, 2] (by decide) rfl)
                exact W.iret (v := (nI x)) hx hb hr (fun t9_ ht9_ hW9_ => ⟨⟨nI x, (sm, g), rfl, ⟨by omega, hsl, Or.inr ⟨x, by omega, rfl⟩⟩, by rw [ht9_]; exact hP9, hD9⟩, hS.F ht9_⟩) hS.2.2 dX10_faultOfSlips_162
              · have c180 : sa = 2 := (nI_eq (a := sa) (b := 2) (by omega) (by omega)).mp c180
                refine lv_iload hx hb dX10_faultOfSlips_139 (lv_at hl 1 rfl) ?_
                refine lv_i2l hx hb dX10_faultOfSlips_141 rfl ?_
                refine lv_topl (fun x181 ex181 => ?_)
                refine lv_ldc2 (v := 97) hx hb hown (hts (.constantLong RX10 95 (97)) (by decide +kernel)) dX10_faultOfSlips_142 ?_
                refine lv_ldc2 (v := 100) hx hb hown (hts (.constantLong RX10 97 (100)) (by decide +kernel)) dX10_faultOfSlips_145 ?_
                refine ca_iR (va_runS (As := [.long x181, .long 97, .long 100]) (rest := []) ⟨hx, hb, hml, hown, hts⟩ (m_in l G H.size x181 97 100 x3 97 100 ex181 (by decide) (by decide)) (va_cwS 3 hts gX10_faultOfSlips_X10_in rfl rfl rfl (by decide +kernel) ⟨by decide +kernel, by decide +kernel⟩) (pre_S E hP hD hS hA [] (by decide) rfl) rfl rfl hl.1 rfl (lv_room (Nat.le_of_ble_eq_true rfl)) dX10_faultOfSlips_148 ⟨by decide +kernel, by decide +kernel⟩) hS hP hD hA [] rfl (fun r183 _ H locs w182 hP hS => ?_)
                rcases w182 with ⟨rfl, b184⟩ | ⟨rfl, b184⟩
                · refine lv_if_eq (tgt := 160) hx hb dX10_faultOfSlips_151 (by decide) (fun c185 => False.elim (by revert c185; decide)) (fun _ => ?_)
                  refine lv_iconst (v := 1) hx hb dX10_faultOfSlips_154 (by decide) ?_
                  refine lv_istore (lv' := [(6, .int 1), (5, .int x3), (4, .int (nI x)), (3, .int (nI si)), (2, .int (nI kd)), (1, .int (nI sa)), (0, .ref h1)]) hx hb dX10_faultOfSlips_155 hl (by decide) rfl (fun ls hl => ?_)
                  refine lv_goto (tgt := 163) hx hb dX10_faultOfSlips_157 (by decide) ?_
                  refine lv_iload hx hb dX10_faultOfSlips_163 (lv_at hl 0 rfl) ?_
                  refine lv_if_eq (tgt := 212) hx hb dX10_faultOfSlips_165 (by decide) (fun c186 => False.elim (by revert c186; decide)) (fun _ => ?_)
                  refine lv_aload_n hx hb dX10_faultOfSlips_168 rfl (lv_at hl 6 rfl) ?_
                  refine va_get (D := G.1) (ci := 6) (v := .ref a_slips) (C := RX10) (T := TX10) (N := 28) hx hb hts (fun _ h => List.mem_cons_of_mem _ (List.mem_append_right _ h)) hown E.K hP 0 rfl rfl 9 (by decide) (hts (.fieldLink RX10 22 "LastMapModel" "slips" "[I") (by decide +kernel)) (fun _ h9 => h9) rfl dX10_faultOfSlips_169 ?_
                  refine lv_aload_n hx hb dX10_faultOfSlips_172 rfl (lv_at hl 6 rfl) ?_
                  refine va_get (D := G.1) (ci := 6) (v := .int (nI sm)) (C := RX10) (T := TX10) (N := 28) hx hb hts (fun _ h => List.mem_cons_of_mem _ (List.mem_append_right _ h)) hown E.K hP 0 rfl rfl 10 (by decide) (hts (.fieldLink RX10 110 "LastMapModel" "slipMany" "I") (by decide +kernel)) (fun _ h9 => h9) rfl dX10_faultOfSlips_173 ?_
                  refine lv_bipush (v := 100) hx hb dX10_faultOfSlips_176 (by decide) ?_
                  refine lv_iload_n hx hb dX10_faultOfSlips_178 rfl (lv_at hl 4 rfl) ?_
                  refine lv_imul hx hb dX10_faultOfSlips_179 ?_
                  refine lv_topi (fun x187 ex187 => ?_)
                  obtain rfl : x187 = nI (100 * kd) := by rw [ex187]; exact pk_mul 100 kd
                  refine lv_bipush (v := 10) hx hb dX10_faultOfSlips_180 (by decide) ?_
                  refine lv_iload_n hx hb dX10_faultOfSlips_182 rfl (lv_at hl 3 rfl) ?_
                  refine lv_imul hx hb dX10_faultOfSlips_183 ?_
                  refine lv_topi (fun x188 ex188 => ?_)
                  obtain rfl : x188 = nI (10 * si) := by rw [ex188]; exact pk_mul 10 si
                  refine lv_iadd hx hb dX10_faultOfSlips_184 ?_
                  refine lv_topi (fun x189 ex189 => ?_)
                  obtain rfl : x189 = nI ((100 * kd) + (10 * si)) := by rw [ex189]; exact nI_add (100 * kd) (10 * si)
                  refine lv_iload_n hx hb dX10_faultOfSlips_185 rfl (lv_at hl 4 rfl) ?_
                  refine lv_if_ne (tgt := 197) hx hb dX10_faultOfSlips_186 (by decide) (fun c190 => absurd (show nI kd = 0 by rw [(hsi (by omega)).1]; rfl) c190) (fun c190 => ?_)
                  refine lv_iload hx hb dX10_faultOfSlips_189 (lv_at hl 1 rfl) ?_
                  refine lv_bipush (v := 97) hx hb dX10_faultOfSlips_191 (by decide) ?_
                  refine lv_isub hx hb dX10_faultOfSlips_193 ?_
                  refine lv_topi (fun x191 ex191 => ?_)
                  obtain ⟨mg9, hmg9, emg9⟩ := sub97 b184
                  obtain rfl : x191 = nI mg9 := by rw [ex191]; exact emg9
                  refine lv_goto (tgt := 198) hx hb dX10_faultOfSlips_194 (by decide) ?_
                  refine lv_iadd hx hb dX10_faultOfSlips_198 ?_
                  refine lv_topi (fun x192 ex192 => ?_)
                  obtain rfl : x192 = nI (((100 * kd) + (10 * si)) + mg9) := by rw [ex192]; exact nI_add ((100 * kd) + (10 * si)) mg9
                  have hput : slipOK k (nI ((((100 * kd) + (10 * si)) + mg9))) := ⟨kd, si, mg9, by unfold okV; have q := hsi (by omega); omega, rfl⟩
                  refine va_iast hx hb E.K hP hD hS 2 1 rfl rfl (i := nI sm) (vp_in_nI (by omega) (by decide)) dX10_faultOfSlips_199 (fun H locs hP hD hS => ?_)
                  obtain ⟨f193, ef193⟩ : ∃ yy_ : Nat → Int32, yy_ = upd g (nI sm).toNatClampNeg (nI (((100 * kd) + (10 * si)) + mg9)) := ⟨_, rfl⟩
                  have hP : va_P G.1 vwCl ([(h1, .inr (6, [.int (nI k), v_maps, v_told, v_kinds, v_land, v_spades, v_part, .ref a_pad, .int (nI pm), .ref a_slips, .int (nI sm), v_made, v_queue, v_depth, v_by, v_from, v_come, v_offOf, v_parent, v_best, v_trees, v_least, v_sums, v_toward, v_kept, v_isKept, v_keptAt, v_isWriting])), (a_pad, .inl (gI G, 40, .inl fd)), (a_slips, .inl (gI G, 10, .inl f193))]) H := by rw [ef193]; exact hP
                  have hD : va_D A ([(h1, .inr (6, [.int (nI k), v_maps, v_told, v_kinds, v_land, v_spades, v_part, .ref a_pad, .int (nI pm), .ref a_slips, .int (nI sm), v_made, v_queue, v_depth, v_by, v_from, v_come, v_offOf, v_parent, v_best, v_trees, v_least, v_sums, v_toward, v_kept, v_isKept, v_keptAt, v_isWriting])), (a_pad, .inl (gI G, 40, .inl fd)), (a_slips, .inl (gI G, 10, .inl f193))]) := by rw [ef193]; exact hD
                  refine lv_aload_n hx hb dX10_faultOfSlips_200 rfl (lv_at hl 6 rfl) ?_
                  refine lv_dup hx hb dX10_faultOfSlips_201 rfl ?_
                  refine va_get (D := G.1) (ci := 6) (v := .int (nI sm)) (C := RX10) (T := TX10) (N := 28) hx hb hts (fun _ h => List.mem_cons_of_mem _ (List.mem_append_right _ h)) hown E.K hP 0 rfl rfl 10 (by decide) (hts (.fieldLink RX10 110 "LastMapModel" "slipMany" "I") (by decide +kernel)) (fun _ h9 => h9) rfl dX10_faultOfSlips_202 ?_
                  refine lv_iconst (v := 1) hx hb dX10_faultOfSlips_205 (by decide) ?_
                  refine lv_iadd hx hb dX10_faultOfSlips_206 ?_
                  refine lv_topi (fun x194 ex194 => ?_)
                  obtain rfl : x194 = nI (sm + 1) := by rw [ex194]; exact nI_add sm 1
                  refine va_put (D := G.1) (ci := 6) (v := .int (nI (sm + 1))) (ty := .int) (C := RX10) (T := TX10) (N := 28) hx hb hts (fun _ h => List.mem_cons_of_mem _ (List.mem_append_right _ h)) tyX10 tyX10_ok nmX10 hown E.K hP hD hS 0 rfl rfl 10 (by decide) (hts (.fieldLink RX10 110 "LastMapModel" "slipMany" "I") (by decide +kernel)) (fun _ h9 => h9) rfl (by decide +kernel) rfl rfl (Nat.le_of_ble_eq_true rfl) dX10_faultOfSlips_207 (fun H locs hP hD hS => ?_)
                  have hP : va_P G.1 vwCl ([(h1, .inr (6, [.int (nI k), v_maps, v_told, v_kinds, v_land, v_spades, v_part, .ref a_pad, .int (nI pm), .ref a_slips, .int (nI (sm + 1)), v_made, v_queue, v_depth, v_by, v_from, v_come, v_offOf, v_parent, v_best, v_trees, v_least, v_sums, v_toward, v_kept, v_isKept, v_keptAt, v_isWriting])), (a_pad, .inl (gI G, 40, .inl fd)), (a_slips, .inl (gI G, 10, .inl f193))]) H := hP
                  have hD : va_D A ([(h1, .inr (6, [.int (nI k), v_maps, v_told, v_kinds, v_land, v_spades, v_part, .ref a_pad, .int (nI pm), .ref a_slips, .int (nI (sm + 1)), v_made, v_queue, v_depth, v_by, v_from, v_come, v_offOf, v_parent, v_best, v_trees, v_least, v_sums, v_toward, v_kept, v_isKept, v_keptAt, v_isWriting])), (a_pad, .inl (gI G, 40, .inl fd)), (a_slips, .inl (gI G, 10, .inl f193))]) := hD
                  refine lv_iconst (v := 0) hx hb dX10_faultOfSlips_210 (by decide) ?_
                  refine lv_istore_n (lv' := [(1, .int 0), (6, .int 1), (5, .int x3), (4, .int (nI x)), (3, .int (nI si)), (2, .int (nI kd)), (0, .ref h1)]) hx hb dX10_faultOfSlips_211 rfl hl (by decide) rfl (fun ls hl => ?_)
                  obtain ⟨x195, ex195⟩ : ∃ yy_ : Int32, yy_ = (nI x) + 1 := ⟨_, rfl⟩
                  refine lv_iinc (v := x195) (lv' := [(4, .int x195), (1, .int 0), (6, .int 1), (5, .int x3), (3, .int (nI si)), (2, .int (nI kd)), (0, .ref h1)]) hx hb dX10_faultOfSlips_212 hl (k := 3) rfl (by rw [ex195]; rfl) (by decide) rfl (fun ls hl => ?_)
                  obtain rfl : x195 = nI (x + 1) := by rw [ex195]; exact nI_add x 1
                  refine lv_goto (tgt := 14) hx hb dX10_faultOfSlips_215 (by decide) ?_
                  refine ih14 ((x + 1), 0, kd, si, (sm + 1), f193) ⟨?_, ?_, ?_, ?_, ?_, ?_⟩ (by first | omega | (dsimp only; omega)) H locs ls (hP.sub [0, 1, 2] rfl) (hD.sub [0, 1, 2] (by decide) rfl) hS (lv_sub hl [0, 4, 5, 1, 6] rfl)
                  · try dsimp only
                    omega
                  · try dsimp only
                    omega
                  · try dsimp only
                    omega
                  · try dsimp only
                    omega
                  · try dsimp only
                    omega
                  · try dsimp only
                    rw [ef193, nI_clamp (by omega)]; exact slips_upd hsl hput
                · refine lv_if_eq (tgt := 160) hx hb dX10_faultOfSlips_151 (by decide) (fun _ => ?_) (fun c196 => False.elim (by revert c196; decide))
                  refine lv_iload hx hb dX10_faultOfSlips_160 (lv_at hl 2 rfl) ?_
                  have hP9 := (hP.sub (ws' := [(h1, .inr (6, [.int (nI k), v_maps, v_told, v_kinds, v_land, v_spades, v_part, .ref a_pad, .int (nI pm), .ref a_slips, .int (nI sm), v_made, v_queue, v_depth, v_by, v_from, v_come, v_offOf, v_parent, v_best, v_trees, v_least, v_sums, v_toward, v_kept, v_isKept, v_keptAt, v_isWriting])), (a_pad, .inl (gI G, 40, .inl fd)), (a_slips, .inl (gI G, 10, .inl g))]) [0, 1, 2] rfl)
                  have hD9 := (hD.sub (ws' := [(h1, .inr (6, [.int (nI k), v_maps, v_told, v_kinds, v_land, v_spades, v_part, .ref a_pad, .int (nI pm), .ref a_slips, .int (nI sm), v_made, v_queue, v_depth, v_by, v_from, v_come, v_offOf, v_parent, v_best, v_trees, v_least, v_sums, v_toward, v_kept, v_isKept, v_keptAt, v_isWriting])), (a_pad, .inl (gI G, 40, .inl fd)), (a_slips, .inl (gI G, 10, .inl g))]) [0, 1, 2] (by decide) rfl)
                  exact W.iret (v := (nI x)) hx hb hr (fun t9_ ht9_ hW9_ => ⟨⟨nI x, (sm, g), rfl, ⟨by omega, hsl, Or.inr ⟨x, by omega, rfl⟩⟩, by rw [ht9_]; exact hP9, hD9⟩, hS.F ht9_⟩) hS.2.2 dX10_faultOfSlips_162
          · have c159 : ¬ kd = 1 := fun h9_ => c159 ((nI_eq (a := kd) (b := 1) (by omega) (by omega)).mpr h9_)
            refine lv_iload_n hx hb dX10_faultOfSlips_84 rfl (lv_at hl 4 rfl) ?_
            refine lv_iconst (v := 2) hx hb dX10_faultOfSlips_85 (by decide) ?_
            refine lv_icmp_ne (tgt := 99) hx hb dX10_faultOfSlips_86 (by decide) (fun c197 => ?_) (fun c197 => ?_)
            · have c197 : ¬ kd = 2 := fun h9_ => c197 ((nI_eq (a := kd) (b := 2) (by omega) (by omega)).mpr h9_)
              refine lv_aload_n hx hb dX10_faultOfSlips_99 rfl (lv_at hl 6 rfl) ?_
              refine va_get (D := G.1) (ci := 6) (v := .int (nI k)) (C := RX10) (T := TX10) (N := 28) hx hb hts (fun _ h => List.mem_cons_of_mem _ (List.mem_append_right _ h)) hown E.K hP 0 rfl rfl 0 (by decide) (hts (.fieldLink RX10 67 "LastMapModel" "sites" "I") (by decide +kernel)) (fun _ h9 => h9) rfl dX10_faultOfSlips_100 ?_
              refine lv_iconst (v := 1) hx hb dX10_faultOfSlips_103 (by decide) ?_
              refine lv_isub hx hb dX10_faultOfSlips_104 ?_
              refine lv_topi (fun x198 ex198 => ?_)
              obtain rfl : x198 = nI (k - 1) := by rw [ex198]; exact pk_sub (show 1 ≤ k by omega)
              refine lv_i2l hx hb dX10_faultOfSlips_105 rfl ?_
              refine lv_topl (fun x199 ex199 => ?_)
              refine ca_iR (va_runS (As := [.long x158, .long 0, .long x199]) (rest := []) ⟨hx, hb, hml, hown, hts⟩ (m_in l G H.size x158 0 x199 x157 0 (nI (k - 1)) ex158 (by decide) ex199) (va_cwS 3 hts gX10_faultOfSlips_X10_in rfl rfl rfl (by decide +kernel) ⟨by decide +kernel, by decide +kernel⟩) (pre_S E hP hD hS hA [] (by decide) rfl) rfl rfl hl.1 rfl (lv_room (Nat.le_of_ble_eq_true rfl)) dX10_faultOfSlips_106 ⟨by decide +kernel, by decide +kernel⟩) hS hP hD hA [] rfl (fun r201 _ H locs w200 hP hS => ?_)
              rcases w200 with ⟨rfl, b202⟩ | ⟨rfl, b202⟩
              · refine lv_if_eq (tgt := 134) hx hb dX10_faultOfSlips_109 (by decide) (fun c203 => False.elim (by revert c203; decide)) (fun _ => ?_)
                refine lv_iload hx hb dX10_faultOfSlips_112 (lv_at hl 1 rfl) ?_
                refine lv_bipush (v := 48) hx hb dX10_faultOfSlips_114 (by decide) ?_
                refine lv_isub hx hb dX10_faultOfSlips_116 ?_
                refine lv_topi (fun x204 ex204 => ?_)
                obtain ⟨si9, hsi9, esi9⟩ := inRn (by omega) b202
                obtain rfl : x204 = nI si9 := by rw [ex204, ← ex157]; exact esi9
                refine lv_istore_n (lv' := [(3, .int (nI si9)), (6, .int 0), (5, .int x3), (4, .int (nI x)), (2, .int (nI kd)), (1, .int (nI sa)), (0, .ref h1)]) hx hb dX10_faultOfSlips_117 rfl hl (by decide) rfl (fun ls hl => ?_)
                refine lv_iconst (v := 2) hx hb dX10_faultOfSlips_118 (by decide) ?_
                refine lv_istore_n (lv' := [(1, .int 2), (3, .int (nI si9)), (6, .int 0), (5, .int x3), (4, .int (nI x)), (2, .int (nI kd)), (0, .ref h1)]) hx hb dX10_faultOfSlips_119 rfl hl (by decide) rfl (fun ls hl => ?_)
                refine lv_iload_n hx hb dX10_faultOfSlips_120 rfl (lv_at hl 5 rfl) ?_
                refine lv_if_eq (tgt := 128) hx hb dX10_faultOfSlips_121 (by decide) (fun c205 => ?_) (fun c205 => ?_)
                · have c205 : kd = 0 := (nI_eq (a := kd) (b := 0) (by omega) (by omega)).mp c205
                  refine lv_iconst (v := 0) hx hb dX10_faultOfSlips_128 (by decide) ?_
                  refine lv_istore (lv' := [(6, .int 0), (1, .int 2), (3, .int (nI si9)), (5, .int x3), (4, .int (nI x)), (2, .int (nI kd)), (0, .ref h1)]) hx hb dX10_faultOfSlips_129 hl (by decide) rfl (fun ls hl => ?_)
                  refine lv_goto (tgt := 163) hx hb dX10_faultOfSlips_131 (by decide) ?_
                  refine lv_iload hx hb dX10_faultOfSlips_163 (lv_at hl 0 rfl) ?_
                  refine lv_if_eq (tgt := 212) hx hb dX10_faultOfSlips_165 (by decide) (fun _ => ?_) (fun c206 => False.elim (by revert c206; decide))
                  obtain ⟨x207, ex207⟩ : ∃ yy_ : Int32, yy_ = (nI x) + 1 := ⟨_, rfl⟩
                  refine lv_iinc (v := x207) (lv' := [(4, .int x207), (6, .int 0), (1, .int 2), (3, .int (nI si9)), (5, .int x3), (2, .int (nI kd)), (0, .ref h1)]) hx hb dX10_faultOfSlips_212 hl (k := 4) rfl (by rw [ex207]; rfl) (by decide) rfl (fun ls hl => ?_)
                  obtain rfl : x207 = nI (x + 1) := by rw [ex207]; exact nI_add x 1
                  refine lv_goto (tgt := 14) hx hb dX10_faultOfSlips_215 (by decide) ?_
                  refine ih14 ((x + 1), 2, kd, si9, sm, g) ⟨?_, ?_, ?_, ?_, ?_, ?_⟩ (by first | omega | (dsimp only; omega)) H locs ls (hP.sub [0, 1, 2] rfl) (hD.sub [0, 1, 2] (by decide) rfl) hS (lv_sub hl [0, 3, 5, 2, 6] rfl)
                  · try dsimp only
                    omega
                  · try dsimp only
                    omega
                  · try dsimp only
                    omega
                  · try dsimp only
                    omega
                  · try dsimp only
                    omega
                  · try dsimp only
                    exact hsl
                · have c205 : ¬ kd = 0 := fun h9_ => c205 ((nI_eq (a := kd) (b := 0) (by omega) (by omega)).mpr h9_)
                  refine lv_iconst (v := 1) hx hb dX10_faultOfSlips_124 (by decide) ?_
                  refine lv_goto (tgt := 129) hx hb dX10_faultOfSlips_125 (by decide) ?_
                  refine lv_istore (lv' := [(6, .int 1), (1, .int 2), (3, .int (nI si9)), (5, .int x3), (4, .int (nI x)), (2, .int (nI kd)), (0, .ref h1)]) hx hb dX10_faultOfSlips_129 hl (by decide) rfl (fun ls hl => ?_)
                  refine lv_goto (tgt := 163) hx hb dX10_faultOfSlips_131 (by decide) ?_
                  refine lv_iload hx hb dX10_faultOfSlips_163 (lv_at hl 0 rfl) ?_
                  refine lv_if_eq (tgt := 212) hx hb dX10_faultOfSlips_165 (by decide) (fun c208 => False.elim (by revert c208; decide)) (fun _ => ?_)
                  refine lv_aload_n hx hb dX10_faultOfSlips_168 rfl (lv_at hl 6 rfl) ?_
                  refine va_get (D := G.1) (ci := 6) (v := .ref a_slips) (C := RX10) (T := TX10) (N := 28) hx hb hts (fun _ h => List.mem_cons_of_mem _ (List.mem_append_right _ h)) hown E.K hP 0 rfl rfl 9 (by decide) (hts (.fieldLink RX10 22 "LastMapModel" "slips" "[I") (by decide +kernel)) (fun _ h9 => h9) rfl dX10_faultOfSlips_169 ?_
                  refine lv_aload_n hx hb dX10_faultOfSlips_172 rfl (lv_at hl 6 rfl) ?_
                  refine va_get (D := G.1) (ci := 6) (v := .int (nI sm)) (C := RX10) (T := TX10) (N := 28) hx hb hts (fun _ h => List.mem_cons_of_mem _ (List.mem_append_right _ h)) hown E.K hP 0 rfl rfl 10 (by decide) (hts (.fieldLink RX10 110 "LastMapModel" "slipMany" "I") (by decide +kernel)) (fun _ h9 => h9) rfl dX10_faultOfSlips_173 ?_
                  refine lv_bipush (v := 100) hx hb dX10_faultOfSlips_176 (by decide) ?_
                  refine lv_iload_n hx hb dX10_faultOfSlips_178 rfl (lv_at hl 5 rfl) ?_
                  refine lv_imul hx hb dX10_faultOfSlips_179 ?_
                  refine lv_topi (fun x209 ex209 => ?_)
                  obtain rfl : x209 = nI (100 * kd) := by rw [ex209]; exact pk_mul 100 kd
                  refine lv_bipush (v := 10) hx hb dX10_faultOfSlips_180 (by decide) ?_
                  refine lv_iload_n hx hb dX10_faultOfSlips_182 rfl (lv_at hl 2 rfl) ?_
                  refine lv_imul hx hb dX10_faultOfSlips_183 ?_
                  refine lv_topi (fun x210 ex210 => ?_)
                  obtain rfl : x210 = nI (10 * si9) := by rw [ex210]; exact pk_mul 10 si9
                  refine lv_iadd hx hb dX10_faultOfSlips_184 ?_
                  refine lv_topi (fun x211 ex211 => ?_)
                  obtain rfl : x211 = nI ((100 * kd) + (10 * si9)) := by rw [ex211]; exact nI_add (100 * kd) (10 * si9)
                  refine lv_iload_n hx hb dX10_faultOfSlips_185 rfl (lv_at hl 5 rfl) ?_
                  refine lv_if_ne (tgt := 197) hx hb dX10_faultOfSlips_186 (by decide) (fun c212 => ?_) (fun c212 => False.elim (by have q := (nI_eq (a := kd) (b := 0) (by omega) (by omega)).mp c212; omega))
                  refine lv_iconst (v := 0) hx hb dX10_faultOfSlips_197 (by decide) ?_
                  refine lv_iadd hx hb dX10_faultOfSlips_198 ?_
                  refine lv_topi (fun x213 ex213 => ?_)
                  obtain rfl : x213 = nI (((100 * kd) + (10 * si9)) + 0) := by rw [ex213]; exact nI_add ((100 * kd) + (10 * si9)) 0
                  have hput : slipOK k (nI ((((100 * kd) + (10 * si9)) + 0))) := ⟨kd, si9, 0, by unfold okV; omega, rfl⟩
                  refine va_iast hx hb E.K hP hD hS 2 1 rfl rfl (i := nI sm) (vp_in_nI (by omega) (by decide)) dX10_faultOfSlips_199 (fun H locs hP hD hS => ?_)
                  obtain ⟨f214, ef214⟩ : ∃ yy_ : Nat → Int32, yy_ = upd g (nI sm).toNatClampNeg (nI (((100 * kd) + (10 * si9)) + 0)) := ⟨_, rfl⟩
                  have hP : va_P G.1 vwCl ([(h1, .inr (6, [.int (nI k), v_maps, v_told, v_kinds, v_land, v_spades, v_part, .ref a_pad, .int (nI pm), .ref a_slips, .int (nI sm), v_made, v_queue, v_depth, v_by, v_from, v_come, v_offOf, v_parent, v_best, v_trees, v_least, v_sums, v_toward, v_kept, v_isKept, v_keptAt, v_isWriting])), (a_pad, .inl (gI G, 40, .inl fd)), (a_slips, .inl (gI G, 10, .inl f214))]) H := by rw [ef214]; exact hP
                  have hD : va_D A ([(h1, .inr (6, [.int (nI k), v_maps, v_told, v_kinds, v_land, v_spades, v_part, .ref a_pad, .int (nI pm), .ref a_slips, .int (nI sm), v_made, v_queue, v_depth, v_by, v_from, v_come, v_offOf, v_parent, v_best, v_trees, v_least, v_sums, v_toward, v_kept, v_isKept, v_keptAt, v_isWriting])), (a_pad, .inl (gI G, 40, .inl fd)), (a_slips, .inl (gI G, 10, .inl f214))]) := by rw [ef214]; exact hD
                  refine lv_aload_n hx hb dX10_faultOfSlips_200 rfl (lv_at hl 6 rfl) ?_
                  refine lv_dup hx hb dX10_faultOfSlips_201 rfl ?_
                  refine va_get (D := G.1) (ci := 6) (v := .int (nI sm)) (C := RX10) (T := TX10) (N := 28) hx hb hts (fun _ h => List.mem_cons_of_mem _ (List.mem_append_right _ h)) hown E.K hP 0 rfl rfl 10 (by decide) (hts (.fieldLink RX10 110 "LastMapModel" "slipMany" "I") (by decide +kernel)) (fun _ h9 => h9) rfl dX10_faultOfSlips_202 ?_
                  refine lv_iconst (v := 1) hx hb dX10_faultOfSlips_205 (by decide) ?_
                  refine lv_iadd hx hb dX10_faultOfSlips_206 ?_
                  refine lv_topi (fun x215 ex215 => ?_)
                  obtain rfl : x215 = nI (sm + 1) := by rw [ex215]; exact nI_add sm 1
                  refine va_put (D := G.1) (ci := 6) (v := .int (nI (sm + 1))) (ty := .int) (C := RX10) (T := TX10) (N := 28) hx hb hts (fun _ h => List.mem_cons_of_mem _ (List.mem_append_right _ h)) tyX10 tyX10_ok nmX10 hown E.K hP hD hS 0 rfl rfl 10 (by decide) (hts (.fieldLink RX10 110 "LastMapModel" "slipMany" "I") (by decide +kernel)) (fun _ h9 => h9) rfl (by decide +kernel) rfl rfl (Nat.le_of_ble_eq_true rfl) dX10_faultOfSlips_207 (fun H locs hP hD hS => ?_)
                  have hP : va_P G.1 vwCl ([(h1, .inr (6, [.int (nI k), v_maps, v_told, v_kinds, v_land, v_spades, v_part, .ref a_pad, .int (nI pm), .ref a_slips, .int (nI (sm + 1)), v_made, v_queue, v_depth, v_by, v_from, v_come, v_offOf, v_parent, v_best, v_trees, v_least, v_sums, v_toward, v_kept, v_isKept, v_keptAt, v_isWriting])), (a_pad, .inl (gI G, 40, .inl fd)), (a_slips, .inl (gI G, 10, .inl f214))]) H := hP
                  have hD : va_D A ([(h1, .inr (6, [.int (nI k), v_maps, v_told, v_kinds, v_land, v_spades, v_part, .ref a_pad, .int (nI pm), .ref a_slips, .int (nI (sm + 1)), v_made, v_queue, v_depth, v_by, v_from, v_come, v_offOf, v_parent, v_best, v_trees, v_least, v_sums, v_toward, v_kept, v_isKept, v_keptAt, v_isWriting])), (a_pad, .inl (gI G, 40, .inl fd)), (a_slips, .inl (gI G, 10, .inl f214))]) := hD
                  refine lv_iconst (v := 0) hx hb dX10_faultOfSlips_210 (by decide) ?_
                  refine lv_istore_n (lv' := [(1, .int 0), (6, .int 1), (3, .int (nI si9)), (5, .int x3), (4, .int (nI x)), (2, .int (nI kd)), (0, .ref h1)]) hx hb dX10_faultOfSlips_211 rfl hl (by decide) rfl (fun ls hl => ?_)
                  obtain ⟨x216, ex216⟩ : ∃ yy_ : Int32, yy_ = (nI x) + 1 := ⟨_, rfl⟩
                  refine lv_iinc (v := x216) (lv' := [(4, .int x216), (1, .int 0), (6, .int 1), (3, .int (nI si9)), (5, .int x3), (2, .int (nI kd)), (0, .ref h1)]) hx hb dX10_faultOfSlips_212 hl (k := 4) rfl (by rw [ex216]; rfl) (by decide) rfl (fun ls hl => ?_)
                  obtain rfl : x216 = nI (x + 1) := by rw [ex216]; exact nI_add x 1
                  refine lv_goto (tgt := 14) hx hb dX10_faultOfSlips_215 (by decide) ?_
                  refine ih14 ((x + 1), 0, kd, si9, (sm + 1), f214) ⟨?_, ?_, ?_, ?_, ?_, ?_⟩ (by first | omega | (dsimp only; omega)) H locs ls (hP.sub [0, 1, 2] rfl) (hD.sub [0, 1, 2] (by decide) rfl) hS (lv_sub hl [0, 3, 5, 1, 6] rfl)
                  · try dsimp only
                    omega
                  · try dsimp only
                    omega
                  · try dsimp only
                    omega
                  · try dsimp only
                    omega
                  · try dsimp only
                    omega
                  · try dsimp only
                    rw [ef214, nI_clamp (by omega)]; exact slips_upd hsl hput
              · refine lv_if_eq (tgt := 134) hx hb dX10_faultOfSlips_109 (by decide) (fun _ => ?_) (fun c217 => False.elim (by revert c217; decide))
                refine lv_iload_n hx hb dX10_faultOfSlips_134 rfl (lv_at hl 5 rfl) ?_
                refine lv_iconst (v := 2) hx hb dX10_faultOfSlips_135 (by decide) ?_
                refine lv_icmp_ne (tgt := 160) hx hb dX10_faultOfSlips_136 (by decide) (fun c218 => ?_) (fun c218 => ?_)
                · have c218 : ¬ sa = 2 := fun h9_ => c218 ((nI_eq (a := sa) (b := 2) (by omega) (by omega)).mpr h9_)
                  refine lv_iload hx hb dX10_faultOfSlips_160 (lv_at hl 2 rfl) ?_
                  have hP9 := (hP.sub (ws' := [(h1, .inr (6, [.int (nI k), v_maps, v_told, v_kinds, v_land, v_spades, v_part, .ref a_pad, .int (nI pm), .ref a_slips, .int (nI sm), v_made, v_queue, v_depth, v_by, v_from, v_come, v_offOf, v_parent, v_best, v_trees, v_least, v_sums, v_toward, v_kept, v_isKept, v_keptAt, v_isWriting])), (a_pad, .inl (gI G, 40, .inl fd)), (a_slips, .inl (gI G, 10, .inl g))]) [0, 1, 2] rfl)
                  have hD9 := (hD.sub (ws' := [(h1, .inr (6, [.int (nI k), v_maps, v_told, v_kinds, v_land, v_spades, v_part, .ref a_pad, .int (nI pm), .ref a_slips, .int (nI sm), v_made, v_queue, v_depth, v_by, v_from, v_come, v_offOf, v_parent, v_best, v_trees, v_least, v_sums, v_toward, v_kept, v_isKept, v_keptAt, v_isWriting])), (a_pad, .inl (gI G, 40, .inl fd)), (a_slips, .inl (gI G, 10, .inl g))]) [0, 1, 2] (by decide) rfl)
                  exact W.iret (v := (nI x)) hx hb hr (fun t9_ ht9_ hW9_ => ⟨⟨nI x, (sm, g), rfl, ⟨by omega, hsl, Or.inr ⟨x, by omega, rfl⟩⟩, by rw [ht9_]; exact hP9, hD9⟩, hS.F ht9_⟩) hS.2.2 dX10_faultOfSlips_162
                · have c218 : sa = 2 := (nI_eq (a := sa) (b := 2) (by omega) (by omega)).mp c218
                  refine lv_iload hx hb dX10_faultOfSlips_139 (lv_at hl 1 rfl) ?_
                  refine lv_i2l hx hb dX10_faultOfSlips_141 rfl ?_
                  refine lv_topl (fun x219 ex219 => ?_)
                  refine lv_ldc2 (v := 97) hx hb hown (hts (.constantLong RX10 95 (97)) (by decide +kernel)) dX10_faultOfSlips_142 ?_
                  refine lv_ldc2 (v := 100) hx hb hown (hts (.constantLong RX10 97 (100)) (by decide +kernel)) dX10_faultOfSlips_145 ?_
                  refine ca_iR (va_runS (As := [.long x219, .long 97, .long 100]) (rest := []) ⟨hx, hb, hml, hown, hts⟩ (m_in l G H.size x219 97 100 x3 97 100 ex219 (by decide) (by decide)) (va_cwS 3 hts gX10_faultOfSlips_X10_in rfl rfl rfl (by decide +kernel) ⟨by decide +kernel, by decide +kernel⟩) (pre_S E hP hD hS hA [] (by decide) rfl) rfl rfl hl.1 rfl (lv_room (Nat.le_of_ble_eq_true rfl)) dX10_faultOfSlips_148 ⟨by decide +kernel, by decide +kernel⟩) hS hP hD hA [] rfl (fun r221 _ H locs w220 hP hS => ?_)
                  rcases w220 with ⟨rfl, b222⟩ | ⟨rfl, b222⟩
                  · refine lv_if_eq (tgt := 160) hx hb dX10_faultOfSlips_151 (by decide) (fun c223 => False.elim (by revert c223; decide)) (fun _ => ?_)
                    refine lv_iconst (v := 1) hx hb dX10_faultOfSlips_154 (by decide) ?_
                    refine lv_istore (lv' := [(6, .int 1), (5, .int x3), (4, .int (nI x)), (3, .int (nI si)), (2, .int (nI kd)), (1, .int (nI sa)), (0, .ref h1)]) hx hb dX10_faultOfSlips_155 hl (by decide) rfl (fun ls hl => ?_)
                    refine lv_goto (tgt := 163) hx hb dX10_faultOfSlips_157 (by decide) ?_
                    refine lv_iload hx hb dX10_faultOfSlips_163 (lv_at hl 0 rfl) ?_
                    refine lv_if_eq (tgt := 212) hx hb dX10_faultOfSlips_165 (by decide) (fun c224 => False.elim (by revert c224; decide)) (fun _ => ?_)
                    refine lv_aload_n hx hb dX10_faultOfSlips_168 rfl (lv_at hl 6 rfl) ?_
                    refine va_get (D := G.1) (ci := 6) (v := .ref a_slips) (C := RX10) (T := TX10) (N := 28) hx hb hts (fun _ h => List.mem_cons_of_mem _ (List.mem_append_right _ h)) hown E.K hP 0 rfl rfl 9 (by decide) (hts (.fieldLink RX10 22 "LastMapModel" "slips" "[I") (by decide +kernel)) (fun _ h9 => h9) rfl dX10_faultOfSlips_169 ?_
                    refine lv_aload_n hx hb dX10_faultOfSlips_172 rfl (lv_at hl 6 rfl) ?_
                    refine va_get (D := G.1) (ci := 6) (v := .int (nI sm)) (C := RX10) (T := TX10) (N := 28) hx hb hts (fun _ h => List.mem_cons_of_mem _ (List.mem_append_right _ h)) hown E.K hP 0 rfl rfl 10 (by decide) (hts (.fieldLink RX10 110 "LastMapModel" "slipMany" "I") (by decide +kernel)) (fun _ h9 => h9) rfl dX10_faultOfSlips_173 ?_
                    refine lv_bipush (v := 100) hx hb dX10_faultOfSlips_176 (by decide) ?_
                    refine lv_iload_n hx hb dX10_faultOfSlips_178 rfl (lv_at hl 4 rfl) ?_
                    refine lv_imul hx hb dX10_faultOfSlips_179 ?_
                    refine lv_topi (fun x225 ex225 => ?_)
                    obtain rfl : x225 = nI (100 * kd) := by rw [ex225]; exact pk_mul 100 kd
                    refine lv_bipush (v := 10) hx hb dX10_faultOfSlips_180 (by decide) ?_
                    refine lv_iload_n hx hb dX10_faultOfSlips_182 rfl (lv_at hl 3 rfl) ?_
                    refine lv_imul hx hb dX10_faultOfSlips_183 ?_
                    refine lv_topi (fun x226 ex226 => ?_)
                    obtain rfl : x226 = nI (10 * si) := by rw [ex226]; exact pk_mul 10 si
                    refine lv_iadd hx hb dX10_faultOfSlips_184 ?_
                    refine lv_topi (fun x227 ex227 => ?_)
                    obtain rfl : x227 = nI ((100 * kd) + (10 * si)) := by rw [ex227]; exact nI_add (100 * kd) (10 * si)
                    refine lv_iload_n hx hb dX10_faultOfSlips_185 rfl (lv_at hl 4 rfl) ?_
                    refine lv_if_ne (tgt := 197) hx hb dX10_faultOfSlips_186 (by decide) (fun c228 => absurd (show nI kd = 0 by rw [(hsi (by omega)).1]; rfl) c228) (fun c228 => ?_)
                    refine lv_iload hx hb dX10_faultOfSlips_189 (lv_at hl 1 rfl) ?_
                    refine lv_bipush (v := 97) hx hb dX10_faultOfSlips_191 (by decide) ?_
                    refine lv_isub hx hb dX10_faultOfSlips_193 ?_
                    refine lv_topi (fun x229 ex229 => ?_)
                    obtain ⟨mg9, hmg9, emg9⟩ := sub97 b222
                    obtain rfl : x229 = nI mg9 := by rw [ex229]; exact emg9
                    refine lv_goto (tgt := 198) hx hb dX10_faultOfSlips_194 (by decide) ?_
                    refine lv_iadd hx hb dX10_faultOfSlips_198 ?_
                    refine lv_topi (fun x230 ex230 => ?_)
                    obtain rfl : x230 = nI (((100 * kd) + (10 * si)) + mg9) := by rw [ex230]; exact nI_add ((100 * kd) + (10 * si)) mg9
                    have hput : slipOK k (nI ((((100 * kd) + (10 * si)) + mg9))) := ⟨kd, si, mg9, by unfold okV; have q := hsi (by omega); omega, rfl⟩
                    refine va_iast hx hb E.K hP hD hS 2 1 rfl rfl (i := nI sm) (vp_in_nI (by omega) (by decide)) dX10_faultOfSlips_199 (fun H locs hP hD hS => ?_)
                    obtain ⟨f231, ef231⟩ : ∃ yy_ : Nat → Int32, yy_ = upd g (nI sm).toNatClampNeg (nI (((100 * kd) + (10 * si)) + mg9)) := ⟨_, rfl⟩
                    have hP : va_P G.1 vwCl ([(h1, .inr (6, [.int (nI k), v_maps, v_told, v_kinds, v_land, v_spades, v_part, .ref a_pad, .int (nI pm), .ref a_slips, .int (nI sm), v_made, v_queue, v_depth, v_by, v_from, v_come, v_offOf, v_parent, v_best, v_trees, v_least, v_sums, v_toward, v_kept, v_isKept, v_keptAt, v_isWriting])), (a_pad, .inl (gI G, 40, .inl fd)), (a_slips, .inl (gI G, 10, .inl f231))]) H := by rw [ef231]; exact hP
                    have hD : va_D A ([(h1, .inr (6, [.int (nI k), v_maps, v_told, v_kinds, v_land, v_spades, v_part, .ref a_pad, .int (nI pm), .ref a_slips, .int (nI sm), v_made, v_queue, v_depth, v_by, v_from, v_come, v_offOf, v_parent, v_best, v_trees, v_least, v_sums, v_toward, v_kept, v_isKept, v_keptAt, v_isWriting])), (a_pad, .inl (gI G, 40, .inl fd)), (a_slips, .inl (gI G, 10, .inl f231))]) := by rw [ef231]; exact hD
                    refine lv_aload_n hx hb dX10_faultOfSlips_200 rfl (lv_at hl 6 rfl) ?_
                    refine lv_dup hx hb dX10_faultOfSlips_201 rfl ?_
                    refine va_get (D := G.1) (ci := 6) (v := .int (nI sm)) (C := RX10) (T := TX10) (N := 28) hx hb hts (fun _ h => List.mem_cons_of_mem _ (List.mem_append_right _ h)) hown E.K hP 0 rfl rfl 10 (by decide) (hts (.fieldLink RX10 110 "LastMapModel" "slipMany" "I") (by decide +kernel)) (fun _ h9 => h9) rfl dX10_faultOfSlips_202 ?_
                    refine lv_iconst (v := 1) hx hb dX10_faultOfSlips_205 (by decide) ?_
                    refine lv_iadd hx hb dX10_faultOfSlips_206 ?_
                    refine lv_topi (fun x232 ex232 => ?_)
                    obtain rfl : x232 = nI (sm + 1) := by rw [ex232]; exact nI_add sm 1
                    refine va_put (D := G.1) (ci := 6) (v := .int (nI (sm + 1))) (ty := .int) (C := RX10) (T := TX10) (N := 28) hx hb hts (fun _ h => List.mem_cons_of_mem _ (List.mem_append_right _ h)) tyX10 tyX10_ok nmX10 hown E.K hP hD hS 0 rfl rfl 10 (by decide) (hts (.fieldLink RX10 110 "LastMapModel" "slipMany" "I") (by decide +kernel)) (fun _ h9 => h9) rfl (by decide +kernel) rfl rfl (Nat.le_of_ble_eq_true rfl) dX10_faultOfSlips_207 (fun H locs hP hD hS => ?_)
                    have hP : va_P G.1 vwCl ([(h1, .inr (6, [.int (nI k), v_maps, v_told, v_kinds, v_land, v_spades, v_part, .ref a_pad, .int (nI pm), .ref a_slips, .int (nI (sm + 1)), v_made, v_queue, v_depth, v_by, v_from, v_come, v_offOf, v_parent, v_best, v_trees, v_least, v_sums, v_toward, v_kept, v_isKept, v_keptAt, v_isWriting])), (a_pad, .inl (gI G, 40, .inl fd)), (a_slips, .inl (gI G, 10, .inl f231))]) H := hP
                    have hD : va_D A ([(h1, .inr (6, [.int (nI k), v_maps, v_told, v_kinds, v_land, v_spades, v_part, .ref a_pad, .int (nI pm), .ref a_slips, .int (nI (sm + 1)), v_made, v_queue, v_depth, v_by, v_from, v_come, v_offOf, v_parent, v_best, v_trees, v_least, v_sums, v_toward, v_kept, v_isKept, v_keptAt, v_isWriting])), (a_pad, .inl (gI G, 40, .inl fd)), (a_slips, .inl (gI G, 10, .inl f231))]) := hD
                    refine lv_iconst (v := 0) hx hb dX10_faultOfSlips_210 (by decide) ?_
                    refine lv_istore_n (lv' := [(1, .int 0), (6, .int 1), (5, .int x3), (4, .int (nI x)), (3, .int (nI si)), (2, .int (nI kd)), (0, .ref h1)]) hx hb dX10_faultOfSlips_211 rfl hl (by decide) rfl (fun ls hl => ?_)
                    obtain ⟨x233, ex233⟩ : ∃ yy_ : Int32, yy_ = (nI x) + 1 := ⟨_, rfl⟩
                    refine lv_iinc (v := x233) (lv' := [(4, .int x233), (1, .int 0), (6, .int 1), (5, .int x3), (3, .int (nI si)), (2, .int (nI kd)), (0, .ref h1)]) hx hb dX10_faultOfSlips_212 hl (k := 3) rfl (by rw [ex233]; rfl) (by decide) rfl (fun ls hl => ?_)
                    obtain rfl : x233 = nI (x + 1) := by rw [ex233]; exact nI_add x 1
                    refine lv_goto (tgt := 14) hx hb dX10_faultOfSlips_215 (by decide) ?_
                    refine ih14 ((x + 1), 0, kd, si, (sm + 1), f231) ⟨?_, ?_, ?_, ?_, ?_, ?_⟩ (by first | omega | (dsimp only; omega)) H locs ls (hP.sub [0, 1, 2] rfl) (hD.sub [0, 1, 2] (by decide) rfl) hS (lv_sub hl [0, 4, 5, 1, 6] rfl)
                    · try dsimp only
                      omega
                    · try dsimp only
                      omega
                    · try dsimp only
                      omega
                    · try dsimp only
                      omega
                    · try dsimp only
                      omega
                    · try dsimp only
                      rw [ef231, nI_clamp (by omega)]; exact slips_upd hsl hput
                  · refine lv_if_eq (tgt := 160) hx hb dX10_faultOfSlips_151 (by decide) (fun _ => ?_) (fun c234 => False.elim (by revert c234; decide))
                    refine lv_iload hx hb dX10_faultOfSlips_160 (lv_at hl 2 rfl) ?_
                    have hP9 := (hP.sub (ws' := [(h1, .inr (6, [.int (nI k), v_maps, v_told, v_kinds, v_land, v_spades, v_part, .ref a_pad, .int (nI pm), .ref a_slips, .int (nI sm), v_made, v_queue, v_depth, v_by, v_from, v_come, v_offOf, v_parent, v_best, v_trees, v_least, v_sums, v_toward, v_kept, v_isKept, v_keptAt, v_isWriting])), (a_pad, .inl (gI G, 40, .inl fd)), (a_slips, .inl (gI G, 10, .inl g))]) [0, 1, 2] rfl)
                    have hD9 := (hD.sub (ws' := [(h1, .inr (6, [.int (nI k), v_maps, v_told, v_kinds, v_land, v_spades, v_part, .ref a_pad, .int (nI pm), .ref a_slips, .int (nI sm), v_made, v_queue, v_depth, v_by, v_from, v_come, v_offOf, v_parent, v_best, v_trees, v_least, v_sums, v_toward, v_kept, v_isKept, v_keptAt, v_isWriting])), (a_pad, .inl (gI G, 40, .inl fd)), (a_slips, .inl (gI G, 10, .inl g))]) [0, 1, 2] (by decide) rfl)
                    exact W.iret (v := (nI x)) hx hb hr (fun t9_ ht9_ hW9_ => ⟨⟨nI x, (sm, g), rfl, ⟨by omega, hsl, Or.inr ⟨x, by omega, rfl⟩⟩, by rw [ht9_]; exact hP9, hD9⟩, hS.F ht9_⟩) hS.2.2 dX10_faultOfSlips_162
            · have c197 : kd = 2 := (nI_eq (a := kd) (b := 2) (by omega) (by omega)).mp c197
              refine lv_aload_n hx hb dX10_faultOfSlips_89 rfl (lv_at hl 6 rfl) ?_
              refine va_get (D := G.1) (ci := 6) (v := .int (nI k)) (C := RX10) (T := TX10) (N := 28) hx hb hts (fun _ h => List.mem_cons_of_mem _ (List.mem_append_right _ h)) hown E.K hP 0 rfl rfl 0 (by decide) (hts (.fieldLink RX10 67 "LastMapModel" "sites" "I") (by decide +kernel)) (fun _ h9 => h9) rfl dX10_faultOfSlips_90 ?_
              refine lv_iconst (v := 2) hx hb dX10_faultOfSlips_93 (by decide) ?_
              refine lv_isub hx hb dX10_faultOfSlips_94 ?_
              refine lv_topi (fun x235 ex235 => ?_)
              obtain rfl : x235 = nI (k - 2) := by rw [ex235]; exact pk_sub (show 2 ≤ k by omega)
              refine lv_i2l hx hb dX10_faultOfSlips_95 rfl ?_
              refine lv_topl (fun x236 ex236 => ?_)
              refine lv_goto (tgt := 106) hx hb dX10_faultOfSlips_96 (by decide) ?_
              refine ca_iR (va_runS (As := [.long x158, .long 0, .long x236]) (rest := []) ⟨hx, hb, hml, hown, hts⟩ (m_in l G H.size x158 0 x236 x157 0 (nI (k - 2)) ex158 (by decide) ex236) (va_cwS 3 hts gX10_faultOfSlips_X10_in rfl rfl rfl (by decide +kernel) ⟨by decide +kernel, by decide +kernel⟩) (pre_S E hP hD hS hA [] (by decide) rfl) rfl rfl hl.1 rfl (lv_room (Nat.le_of_ble_eq_true rfl)) dX10_faultOfSlips_106 ⟨by decide +kernel, by decide +kernel⟩) hS hP hD hA [] rfl (fun r238 _ H locs w237 hP hS => ?_)
              rcases w237 with ⟨rfl, b239⟩ | ⟨rfl, b239⟩
              · refine lv_if_eq (tgt := 134) hx hb dX10_faultOfSlips_109 (by decide) (fun c240 => False.elim (by revert c240; decide)) (fun _ => ?_)
                refine lv_iload hx hb dX10_faultOfSlips_112 (lv_at hl 1 rfl) ?_
                refine lv_bipush (v := 48) hx hb dX10_faultOfSlips_114 (by decide) ?_
                refine lv_isub hx hb dX10_faultOfSlips_116 ?_
                refine lv_topi (fun x241 ex241 => ?_)
                obtain ⟨si9, hsi9, esi9⟩ := inRn (by omega) b239
                obtain rfl : x241 = nI si9 := by rw [ex241, ← ex157]; exact esi9
                refine lv_istore_n (lv' := [(3, .int (nI si9)), (6, .int 0), (5, .int x3), (4, .int (nI x)), (2, .int (nI kd)), (1, .int (nI sa)), (0, .ref h1)]) hx hb dX10_faultOfSlips_117 rfl hl (by decide) rfl (fun ls hl => ?_)
                refine lv_iconst (v := 2) hx hb dX10_faultOfSlips_118 (by decide) ?_
                refine lv_istore_n (lv' := [(1, .int 2), (3, .int (nI si9)), (6, .int 0), (5, .int x3), (4, .int (nI x)), (2, .int (nI kd)), (0, .ref h1)]) hx hb dX10_faultOfSlips_119 rfl hl (by decide) rfl (fun ls hl => ?_)
                refine lv_iload_n hx hb dX10_faultOfSlips_120 rfl (lv_at hl 5 rfl) ?_
                refine lv_if_eq (tgt := 128) hx hb dX10_faultOfSlips_121 (by decide) (fun c242 => ?_) (fun c242 => ?_)
                · have c242 : kd = 0 := (nI_eq (a := kd) (b := 0) (by omega) (by omega)).mp c242
                  refine lv_iconst (v := 0) hx hb dX10_faultOfSlips_128 (by decide) ?_
                  refine lv_istore (lv' := [(6, .int 0), (1, .int 2), (3, .int (nI si9)), (5, .int x3), (4, .int (nI x)), (2, .int (nI kd)), (0, .ref h1)]) hx hb dX10_faultOfSlips_129 hl (by decide) rfl (fun ls hl => ?_)
                  refine lv_goto (tgt := 163) hx hb dX10_faultOfSlips_131 (by decide) ?_
                  refine lv_iload hx hb dX10_faultOfSlips_163 (lv_at hl 0 rfl) ?_
                  refine lv_if_eq (tgt := 212) hx hb dX10_faultOfSlips_165 (by decide) (fun _ => ?_) (fun c243 => False.elim (by revert c243; decide))
                  obtain ⟨x244, ex244⟩ : ∃ yy_ : Int32, yy_ = (nI x) + 1 := ⟨_, rfl⟩
                  refine lv_iinc (v := x244) (lv' := [(4, .int x244), (6, .int 0), (1, .int 2), (3, .int (nI si9)), (5, .int x3), (2, .int (nI kd)), (0, .ref h1)]) hx hb dX10_faultOfSlips_212 hl (k := 4) rfl (by rw [ex244]; rfl) (by decide) rfl (fun ls hl => ?_)
                  obtain rfl : x244 = nI (x + 1) := by rw [ex244]; exact nI_add x 1
                  refine lv_goto (tgt := 14) hx hb dX10_faultOfSlips_215 (by decide) ?_
                  refine ih14 ((x + 1), 2, kd, si9, sm, g) ⟨?_, ?_, ?_, ?_, ?_, ?_⟩ (by first | omega | (dsimp only; omega)) H locs ls (hP.sub [0, 1, 2] rfl) (hD.sub [0, 1, 2] (by decide) rfl) hS (lv_sub hl [0, 3, 5, 2, 6] rfl)
                  · try dsimp only
                    omega
                  · try dsimp only
                    omega
                  · try dsimp only
                    omega
                  · try dsimp only
                    omega
                  · try dsimp only
                    omega
                  · try dsimp only
                    exact hsl
                · have c242 : ¬ kd = 0 := fun h9_ => c242 ((nI_eq (a := kd) (b := 0) (by omega) (by omega)).mpr h9_)
                  refine lv_iconst (v := 1) hx hb dX10_faultOfSlips_124 (by decide) ?_
                  refine lv_goto (tgt := 129) hx hb dX10_faultOfSlips_125 (by decide) ?_
                  refine lv_istore (lv' := [(6, .int 1), (1, .int 2), (3, .int (nI si9)), (5, .int x3), (4, .int (nI x)), (2, .int (nI kd)), (0, .ref h1)]) hx hb dX10_faultOfSlips_129 hl (by decide) rfl (fun ls hl => ?_)
                  refine lv_goto (tgt := 163) hx hb dX10_faultOfSlips_131 (by decide) ?_
                  refine lv_iload hx hb dX10_faultOfSlips_163 (lv_at hl 0 rfl) ?_
                  refine lv_if_eq (tgt := 212) hx hb dX10_faultOfSlips_165 (by decide) (fun c245 => False.elim (by revert c245; decide)) (fun _ => ?_)
                  refine lv_aload_n hx hb dX10_faultOfSlips_168 rfl (lv_at hl 6 rfl) ?_
                  refine va_get (D := G.1) (ci := 6) (v := .ref a_slips) (C := RX10) (T := TX10) (N := 28) hx hb hts (fun _ h => List.mem_cons_of_mem _ (List.mem_append_right _ h)) hown E.K hP 0 rfl rfl 9 (by decide) (hts (.fieldLink RX10 22 "LastMapModel" "slips" "[I") (by decide +kernel)) (fun _ h9 => h9) rfl dX10_faultOfSlips_169 ?_
                  refine lv_aload_n hx hb dX10_faultOfSlips_172 rfl (lv_at hl 6 rfl) ?_
                  refine va_get (D := G.1) (ci := 6) (v := .int (nI sm)) (C := RX10) (T := TX10) (N := 28) hx hb hts (fun _ h => List.mem_cons_of_mem _ (List.mem_append_right _ h)) hown E.K hP 0 rfl rfl 10 (by decide) (hts (.fieldLink RX10 110 "LastMapModel" "slipMany" "I") (by decide +kernel)) (fun _ h9 => h9) rfl dX10_faultOfSlips_173 ?_
                  refine lv_bipush (v := 100) hx hb dX10_faultOfSlips_176 (by decide) ?_
                  refine lv_iload_n hx hb dX10_faultOfSlips_178 rfl (lv_at hl 5 rfl) ?_
                  refine lv_imul hx hb dX10_faultOfSlips_179 ?_
                  refine lv_topi (fun x246 ex246 => ?_)
                  obtain rfl : x246 = nI (100 * kd) := by rw [ex246]; exact pk_mul 100 kd
                  refine lv_bipush (v := 10) hx hb dX10_faultOfSlips_180 (by decide) ?_
                  refine lv_iload_n hx hb dX10_faultOfSlips_182 rfl (lv_at hl 2 rfl) ?_
                  refine lv_imul hx hb dX10_faultOfSlips_183 ?_
                  refine lv_topi (fun x247 ex247 => ?_)
                  obtain rfl : x247 = nI (10 * si9) := by rw [ex247]; exact pk_mul 10 si9
                  refine lv_iadd hx hb dX10_faultOfSlips_184 ?_
                  refine lv_topi (fun x248 ex248 => ?_)
                  obtain rfl : x248 = nI ((100 * kd) + (10 * si9)) := by rw [ex248]; exact nI_add (100 * kd) (10 * si9)
                  refine lv_iload_n hx hb dX10_faultOfSlips_185 rfl (lv_at hl 5 rfl) ?_
                  refine lv_if_ne (tgt := 197) hx hb dX10_faultOfSlips_186 (by decide) (fun c249 => ?_) (fun c249 => False.elim (by have q := (nI_eq (a := kd) (b := 0) (by omega) (by omega)).mp c249; omega))
                  refine lv_iconst (v := 0) hx hb dX10_faultOfSlips_197 (by decide) ?_
                  refine lv_iadd hx hb dX10_faultOfSlips_198 ?_
                  refine lv_topi (fun x250 ex250 => ?_)
                  obtain rfl : x250 = nI (((100 * kd) + (10 * si9)) + 0) := by rw [ex250]; exact nI_add ((100 * kd) + (10 * si9)) 0
                  have hput : slipOK k (nI ((((100 * kd) + (10 * si9)) + 0))) := ⟨kd, si9, 0, by unfold okV; omega, rfl⟩
                  refine va_iast hx hb E.K hP hD hS 2 1 rfl rfl (i := nI sm) (vp_in_nI (by omega) (by decide)) dX10_faultOfSlips_199 (fun H locs hP hD hS => ?_)
                  obtain ⟨f251, ef251⟩ : ∃ yy_ : Nat → Int32, yy_ = upd g (nI sm).toNatClampNeg (nI (((100 * kd) + (10 * si9)) + 0)) := ⟨_, rfl⟩
                  have hP : va_P G.1 vwCl ([(h1, .inr (6, [.int (nI k), v_maps, v_told, v_kinds, v_land, v_spades, v_part, .ref a_pad, .int (nI pm), .ref a_slips, .int (nI sm), v_made, v_queue, v_depth, v_by, v_from, v_come, v_offOf, v_parent, v_best, v_trees, v_least, v_sums, v_toward, v_kept, v_isKept, v_keptAt, v_isWriting])), (a_pad, .inl (gI G, 40, .inl fd)), (a_slips, .inl (gI G, 10, .inl f251))]) H := by rw [ef251]; exact hP
                  have hD : va_D A ([(h1, .inr (6, [.int (nI k), v_maps, v_told, v_kinds, v_land, v_spades, v_part, .ref a_pad, .int (nI pm), .ref a_slips, .int (nI sm), v_made, v_queue, v_depth, v_by, v_from, v_come, v_offOf, v_parent, v_best, v_trees, v_least, v_sums, v_toward, v_kept, v_isKept, v_keptAt, v_isWriting])), (a_pad, .inl (gI G, 40, .inl fd)), (a_slips, .inl (gI G, 10, .inl f251))]) := by rw [ef251]; exact hD
                  refine lv_aload_n hx hb dX10_faultOfSlips_200 rfl (lv_at hl 6 rfl) ?_
                  refine lv_dup hx hb dX10_faultOfSlips_201 rfl ?_
                  refine va_get (D := G.1) (ci := 6) (v := .int (nI sm)) (C := RX10) (T := TX10) (N := 28) hx hb hts (fun _ h => List.mem_cons_of_mem _ (List.mem_append_right _ h)) hown E.K hP 0 rfl rfl 10 (by decide) (hts (.fieldLink RX10 110 "LastMapModel" "slipMany" "I") (by decide +kernel)) (fun _ h9 => h9) rfl dX10_faultOfSlips_202 ?_
                  refine lv_iconst (v := 1) hx hb dX10_faultOfSlips_205 (by decide) ?_
                  refine lv_iadd hx hb dX10_faultOfSlips_206 ?_
                  refine lv_topi (fun x252 ex252 => ?_)
                  obtain rfl : x252 = nI (sm + 1) := by rw [ex252]; exact nI_add sm 1
                  refine va_put (D := G.1) (ci := 6) (v := .int (nI (sm + 1))) (ty := .int) (C := RX10) (T := TX10) (N := 28) hx hb hts (fun _ h => List.mem_cons_of_mem _ (List.mem_append_right _ h)) tyX10 tyX10_ok nmX10 hown E.K hP hD hS 0 rfl rfl 10 (by decide) (hts (.fieldLink RX10 110 "LastMapModel" "slipMany" "I") (by decide +kernel)) (fun _ h9 => h9) rfl (by decide +kernel) rfl rfl (Nat.le_of_ble_eq_true rfl) dX10_faultOfSlips_207 (fun H locs hP hD hS => ?_)
                  have hP : va_P G.1 vwCl ([(h1, .inr (6, [.int (nI k), v_maps, v_told, v_kinds, v_land, v_spades, v_part, .ref a_pad, .int (nI pm), .ref a_slips, .int (nI (sm + 1)), v_made, v_queue, v_depth, v_by, v_from, v_come, v_offOf, v_parent, v_best, v_trees, v_least, v_sums, v_toward, v_kept, v_isKept, v_keptAt, v_isWriting])), (a_pad, .inl (gI G, 40, .inl fd)), (a_slips, .inl (gI G, 10, .inl f251))]) H := hP
                  have hD : va_D A ([(h1, .inr (6, [.int (nI k), v_maps, v_told, v_kinds, v_land, v_spades, v_part, .ref a_pad, .int (nI pm), .ref a_slips, .int (nI (sm + 1)), v_made, v_queue, v_depth, v_by, v_from, v_come, v_offOf, v_parent, v_best, v_trees, v_least, v_sums, v_toward, v_kept, v_isKept, v_keptAt, v_isWriting])), (a_pad, .inl (gI G, 40, .inl fd)), (a_slips, .inl (gI G, 10, .inl f251))]) := hD
                  refine lv_iconst (v := 0) hx hb dX10_faultOfSlips_210 (by decide) ?_
                  refine lv_istore_n (lv' := [(1, .int 0), (6, .int 1), (3, .int (nI si9)), (5, .int x3), (4, .int (nI x)), (2, .int (nI kd)), (0, .ref h1)]) hx hb dX10_faultOfSlips_211 rfl hl (by decide) rfl (fun ls hl => ?_)
                  obtain ⟨x253, ex253⟩ : ∃ yy_ : Int32, yy_ = (nI x) + 1 := ⟨_, rfl⟩
                  refine lv_iinc (v := x253) (lv' := [(4, .int x253), (1, .int 0), (6, .int 1), (3, .int (nI si9)), (5, .int x3), (2, .int (nI kd)), (0, .ref h1)]) hx hb dX10_faultOfSlips_212 hl (k := 4) rfl (by rw [ex253]; rfl) (by decide) rfl (fun ls hl => ?_)
                  obtain rfl : x253 = nI (x + 1) := by rw [ex253]; exact nI_add x 1
                  refine lv_goto (tgt := 14) hx hb dX10_faultOfSlips_215 (by decide) ?_
                  refine ih14 ((x + 1), 0, kd, si9, (sm + 1), f251) ⟨?_, ?_, ?_, ?_, ?_, ?_⟩ (by first | omega | (dsimp only; omega)) H locs ls (hP.sub [0, 1, 2] rfl) (hD.sub [0, 1, 2] (by decide) rfl) hS (lv_sub hl [0, 3, 5, 1, 6] rfl)
                  · try dsimp only
                    omega
                  · try dsimp only
                    omega
                  · try dsimp only
                    omega
                  · try dsimp only
                    omega
                  · try dsimp only
                    omega
                  · try dsimp only
                    rw [ef251, nI_clamp (by omega)]; exact slips_upd hsl hput
              · refine lv_if_eq (tgt := 134) hx hb dX10_faultOfSlips_109 (by decide) (fun _ => ?_) (fun c254 => False.elim (by revert c254; decide))
                refine lv_iload_n hx hb dX10_faultOfSlips_134 rfl (lv_at hl 5 rfl) ?_
                refine lv_iconst (v := 2) hx hb dX10_faultOfSlips_135 (by decide) ?_
                refine lv_icmp_ne (tgt := 160) hx hb dX10_faultOfSlips_136 (by decide) (fun c255 => ?_) (fun c255 => ?_)
                · have c255 : ¬ sa = 2 := fun h9_ => c255 ((nI_eq (a := sa) (b := 2) (by omega) (by omega)).mpr h9_)
                  refine lv_iload hx hb dX10_faultOfSlips_160 (lv_at hl 2 rfl) ?_
                  have hP9 := (hP.sub (ws' := [(h1, .inr (6, [.int (nI k), v_maps, v_told, v_kinds, v_land, v_spades, v_part, .ref a_pad, .int (nI pm), .ref a_slips, .int (nI sm), v_made, v_queue, v_depth, v_by, v_from, v_come, v_offOf, v_parent, v_best, v_trees, v_least, v_sums, v_toward, v_kept, v_isKept, v_keptAt, v_isWriting])), (a_pad, .inl (gI G, 40, .inl fd)), (a_slips, .inl (gI G, 10, .inl g))]) [0, 1, 2] rfl)
                  have hD9 := (hD.sub (ws' := [(h1, .inr (6, [.int (nI k), v_maps, v_told, v_kinds, v_land, v_spades, v_part, .ref a_pad, .int (nI pm), .ref a_slips, .int (nI sm), v_made, v_queue, v_depth, v_by, v_from, v_come, v_offOf, v_parent, v_best, v_trees, v_least, v_sums, v_toward, v_kept, v_isKept, v_keptAt, v_isWriting])), (a_pad, .inl (gI G, 40, .inl fd)), (a_slips, .inl (gI G, 10, .inl g))]) [0, 1, 2] (by decide) rfl)
                  exact W.iret (v := (nI x)) hx hb hr (fun t9_ ht9_ hW9_ => ⟨⟨nI x, (sm, g), rfl, ⟨by omega, hsl, Or.inr ⟨x, by omega, rfl⟩⟩, by rw [ht9_]; exact hP9, hD9⟩, hS.F ht9_⟩) hS.2.2 dX10_faultOfSlips_162
                · have c255 : sa = 2 := (nI_eq (a := sa) (b := 2) (by omega) (by omega)).mp c255
                  refine lv_iload hx hb dX10_faultOfSlips_139 (lv_at hl 1 rfl) ?_
                  refine lv_i2l hx hb dX10_faultOfSlips_141 rfl ?_
                  refine lv_topl (fun x256 ex256 => ?_)
                  refine lv_ldc2 (v := 97) hx hb hown (hts (.constantLong RX10 95 (97)) (by decide +kernel)) dX10_faultOfSlips_142 ?_
                  refine lv_ldc2 (v := 100) hx hb hown (hts (.constantLong RX10 97 (100)) (by decide +kernel)) dX10_faultOfSlips_145 ?_
                  refine ca_iR (va_runS (As := [.long x256, .long 97, .long 100]) (rest := []) ⟨hx, hb, hml, hown, hts⟩ (m_in l G H.size x256 97 100 x3 97 100 ex256 (by decide) (by decide)) (va_cwS 3 hts gX10_faultOfSlips_X10_in rfl rfl rfl (by decide +kernel) ⟨by decide +kernel, by decide +kernel⟩) (pre_S E hP hD hS hA [] (by decide) rfl) rfl rfl hl.1 rfl (lv_room (Nat.le_of_ble_eq_true rfl)) dX10_faultOfSlips_148 ⟨by decide +kernel, by decide +kernel⟩) hS hP hD hA [] rfl (fun r258 _ H locs w257 hP hS => ?_)
                  rcases w257 with ⟨rfl, b259⟩ | ⟨rfl, b259⟩
                  · refine lv_if_eq (tgt := 160) hx hb dX10_faultOfSlips_151 (by decide) (fun c260 => False.elim (by revert c260; decide)) (fun _ => ?_)
                    refine lv_iconst (v := 1) hx hb dX10_faultOfSlips_154 (by decide) ?_
                    refine lv_istore (lv' := [(6, .int 1), (5, .int x3), (4, .int (nI x)), (3, .int (nI si)), (2, .int (nI kd)), (1, .int (nI sa)), (0, .ref h1)]) hx hb dX10_faultOfSlips_155 hl (by decide) rfl (fun ls hl => ?_)
                    refine lv_goto (tgt := 163) hx hb dX10_faultOfSlips_157 (by decide) ?_
                    refine lv_iload hx hb dX10_faultOfSlips_163 (lv_at hl 0 rfl) ?_
                    refine lv_if_eq (tgt := 212) hx hb dX10_faultOfSlips_165 (by decide) (fun c261 => False.elim (by revert c261; decide)) (fun _ => ?_)
                    refine lv_aload_n hx hb dX10_faultOfSlips_168 rfl (lv_at hl 6 rfl) ?_
                    refine va_get (D := G.1) (ci := 6) (v := .ref a_slips) (C := RX10) (T := TX10) (N := 28) hx hb hts (fun _ h => List.mem_cons_of_mem _ (List.mem_append_right _ h)) hown E.K hP 0 rfl rfl 9 (by decide) (hts (.fieldLink RX10 22 "LastMapModel" "slips" "[I") (by decide +kernel)) (fun _ h9 => h9) rfl dX10_faultOfSlips_169 ?_
                    refine lv_aload_n hx hb dX10_faultOfSlips_172 rfl (lv_at hl 6 rfl) ?_
                    refine va_get (D := G.1) (ci := 6) (v := .int (nI sm)) (C := RX10) (T := TX10) (N := 28) hx hb hts (fun _ h => List.mem_cons_of_mem _ (List.mem_append_right _ h)) hown E.K hP 0 rfl rfl 10 (by decide) (hts (.fieldLink RX10 110 "LastMapModel" "slipMany" "I") (by decide +kernel)) (fun _ h9 => h9) rfl dX10_faultOfSlips_173 ?_
                    refine lv_bipush (v := 100) hx hb dX10_faultOfSlips_176 (by decide) ?_
                    refine lv_iload_n hx hb dX10_faultOfSlips_178 rfl (lv_at hl 4 rfl) ?_
                    refine lv_imul hx hb dX10_faultOfSlips_179 ?_
                    refine lv_topi (fun x262 ex262 => ?_)
                    obtain rfl : x262 = nI (100 * kd) := by rw [ex262]; exact pk_mul 100 kd
                    refine lv_bipush (v := 10) hx hb dX10_faultOfSlips_180 (by decide) ?_
                    refine lv_iload_n hx hb dX10_faultOfSlips_182 rfl (lv_at hl 3 rfl) ?_
                    refine lv_imul hx hb dX10_faultOfSlips_183 ?_
                    refine lv_topi (fun x263 ex263 => ?_)
                    obtain rfl : x263 = nI (10 * si) := by rw [ex263]; exact pk_mul 10 si
                    refine lv_iadd hx hb dX10_faultOfSlips_184 ?_
                    refine lv_topi (fun x264 ex264 => ?_)
                    obtain rfl : x264 = nI ((100 * kd) + (10 * si)) := by rw [ex264]; exact nI_add (100 * kd) (10 * si)
                    refine lv_iload_n hx hb dX10_faultOfSlips_185 rfl (lv_at hl 4 rfl) ?_
                    refine lv_if_ne (tgt := 197) hx hb dX10_faultOfSlips_186 (by decide) (fun c265 => absurd (show nI kd = 0 by rw [(hsi (by omega)).1]; rfl) c265) (fun c265 => ?_)
                    refine lv_iload hx hb dX10_faultOfSlips_189 (lv_at hl 1 rfl) ?_
                    refine lv_bipush (v := 97) hx hb dX10_faultOfSlips_191 (by decide) ?_
                    refine lv_isub hx hb dX10_faultOfSlips_193 ?_
                    refine lv_topi (fun x266 ex266 => ?_)
                    obtain ⟨mg9, hmg9, emg9⟩ := sub97 b259
                    obtain rfl : x266 = nI mg9 := by rw [ex266]; exact emg9
                    refine lv_goto (tgt := 198) hx hb dX10_faultOfSlips_194 (by decide) ?_
                    refine lv_iadd hx hb dX10_faultOfSlips_198 ?_
                    refine lv_topi (fun x267 ex267 => ?_)
                    obtain rfl : x267 = nI (((100 * kd) + (10 * si)) + mg9) := by rw [ex267]; exact nI_add ((100 * kd) + (10 * si)) mg9
                    have hput : slipOK k (nI ((((100 * kd) + (10 * si)) + mg9))) := ⟨kd, si, mg9, by unfold okV; have q := hsi (by omega); omega, rfl⟩
                    refine va_iast hx hb E.K hP hD hS 2 1 rfl rfl (i := nI sm) (vp_in_nI (by omega) (by decide)) dX10_faultOfSlips_199 (fun H locs hP hD hS => ?_)
                    obtain ⟨f268, ef268⟩ : ∃ yy_ : Nat → Int32, yy_ = upd g (nI sm).toNatClampNeg (nI (((100 * kd) + (10 * si)) + mg9)) := ⟨_, rfl⟩
                    have hP : va_P G.1 vwCl ([(h1, .inr (6, [.int (nI k), v_maps, v_told, v_kinds, v_land, v_spades, v_part, .ref a_pad, .int (nI pm), .ref a_slips, .int (nI sm), v_made, v_queue, v_depth, v_by, v_from, v_come, v_offOf, v_parent, v_best, v_trees, v_least, v_sums, v_toward, v_kept, v_isKept, v_keptAt, v_isWriting])), (a_pad, .inl (gI G, 40, .inl fd)), (a_slips, .inl (gI G, 10, .inl f268))]) H := by rw [ef268]; exact hP
                    have hD : va_D A ([(h1, .inr (6, [.int (nI k), v_maps, v_told, v_kinds, v_land, v_spades, v_part, .ref a_pad, .int (nI pm), .ref a_slips, .int (nI sm), v_made, v_queue, v_depth, v_by, v_from, v_come, v_offOf, v_parent, v_best, v_trees, v_least, v_sums, v_toward, v_kept, v_isKept, v_keptAt, v_isWriting])), (a_pad, .inl (gI G, 40, .inl fd)), (a_slips, .inl (gI G, 10, .inl f268))]) := by rw [ef268]; exact hD
                    refine lv_aload_n hx hb dX10_faultOfSlips_200 rfl (lv_at hl 6 rfl) ?_
                    refine lv_dup hx hb dX10_faultOfSlips_201 rfl ?_
                    refine va_get (D := G.1) (ci := 6) (v := .int (nI sm)) (C := RX10) (T := TX10) (N := 28) hx hb hts (fun _ h => List.mem_cons_of_mem _ (List.mem_append_right _ h)) hown E.K hP 0 rfl rfl 10 (by decide) (hts (.fieldLink RX10 110 "LastMapModel" "slipMany" "I") (by decide +kernel)) (fun _ h9 => h9) rfl dX10_faultOfSlips_202 ?_
                    refine lv_iconst (v := 1) hx hb dX10_faultOfSlips_205 (by decide) ?_
                    refine lv_iadd hx hb dX10_faultOfSlips_206 ?_
                    refine lv_topi (fun x269 ex269 => ?_)
                    obtain rfl : x269 = nI (sm + 1) := by rw [ex269]; exact nI_add sm 1
                    refine va_put (D := G.1) (ci := 6) (v := .int (nI (sm + 1))) (ty := .int) (C := RX10) (T := TX10) (N := 28) hx hb hts (fun _ h => List.mem_cons_of_mem _ (List.mem_append_right _ h)) tyX10 tyX10_ok nmX10 hown E.K hP hD hS 0 rfl rfl 10 (by decide) (hts (.fieldLink RX10 110 "LastMapModel" "slipMany" "I") (by decide +kernel)) (fun _ h9 => h9) rfl (by decide +kernel) rfl rfl (Nat.le_of_ble_eq_true rfl) dX10_faultOfSlips_207 (fun H locs hP hD hS => ?_)
                    have hP : va_P G.1 vwCl ([(h1, .inr (6, [.int (nI k), v_maps, v_told, v_kinds, v_land, v_spades, v_part, .ref a_pad, .int (nI pm), .ref a_slips, .int (nI (sm + 1)), v_made, v_queue, v_depth, v_by, v_from, v_come, v_offOf, v_parent, v_best, v_trees, v_least, v_sums, v_toward, v_kept, v_isKept, v_keptAt, v_isWriting])), (a_pad, .inl (gI G, 40, .inl fd)), (a_slips, .inl (gI G, 10, .inl f268))]) H := hP
                    have hD : va_D A ([(h1, .inr (6, [.int (nI k), v_maps, v_told, v_kinds, v_land, v_spades, v_part, .ref a_pad, .int (nI pm), .ref a_slips, .int (nI (sm + 1)), v_made, v_queue, v_depth, v_by, v_from, v_come, v_offOf, v_parent, v_best, v_trees, v_least, v_sums, v_toward, v_kept, v_isKept, v_keptAt, v_isWriting])), (a_pad, .inl (gI G, 40, .inl fd)), (a_slips, .inl (gI G, 10, .inl f268))]) := hD
                    refine lv_iconst (v := 0) hx hb dX10_faultOfSlips_210 (by decide) ?_
                    refine lv_istore_n (lv' := [(1, .int 0), (6, .int 1), (5, .int x3), (4, .int (nI x)), (3, .int (nI si)), (2, .int (nI kd)), (0, .ref h1)]) hx hb dX10_faultOfSlips_211 rfl hl (by decide) rfl (fun ls hl => ?_)
                    obtain ⟨x270, ex270⟩ : ∃ yy_ : Int32, yy_ = (nI x) + 1 := ⟨_, rfl⟩
                    refine lv_iinc (v := x270) (lv' := [(4, .int x270), (1, .int 0), (6, .int 1), (5, .int x3), (3, .int (nI si)), (2, .int (nI kd)), (0, .ref h1)]) hx hb dX10_faultOfSlips_212 hl (k := 3) rfl (by rw [ex270]; rfl) (by decide) rfl (fun ls hl => ?_)
                    obtain rfl : x270 = nI (x + 1) := by rw [ex270]; exact nI_add x 1
                    refine lv_goto (tgt := 14) hx hb dX10_faultOfSlips_215 (by decide) ?_
                    refine ih14 ((x + 1), 0, kd, si, (sm + 1), f268) ⟨?_, ?_, ?_, ?_, ?_, ?_⟩ (by first | omega | (dsimp only; omega)) H locs ls (hP.sub [0, 1, 2] rfl) (hD.sub [0, 1, 2] (by decide) rfl) hS (lv_sub hl [0, 4, 5, 1, 6] rfl)
                    · try dsimp only
                      omega
                    · try dsimp only
                      omega
                    · try dsimp only
                      omega
                    · try dsimp only
                      omega
                    · try dsimp only
                      omega
                    · try dsimp only
                      rw [ef268, nI_clamp (by omega)]; exact slips_upd hsl hput
                  · refine lv_if_eq (tgt := 160) hx hb dX10_faultOfSlips_151 (by decide) (fun _ => ?_) (fun c271 => False.elim (by revert c271; decide))
                    refine lv_iload hx hb dX10_faultOfSlips_160 (lv_at hl 2 rfl) ?_
                    have hP9 := (hP.sub (ws' := [(h1, .inr (6, [.int (nI k), v_maps, v_told, v_kinds, v_land, v_spades, v_part, .ref a_pad, .int (nI pm), .ref a_slips, .int (nI sm), v_made, v_queue, v_depth, v_by, v_from, v_come, v_offOf, v_parent, v_best, v_trees, v_least, v_sums, v_toward, v_kept, v_isKept, v_keptAt, v_isWriting])), (a_pad, .inl (gI G, 40, .inl fd)), (a_slips, .inl (gI G, 10, .inl g))]) [0, 1, 2] rfl)
                    have hD9 := (hD.sub (ws' := [(h1, .inr (6, [.int (nI k), v_maps, v_told, v_kinds, v_land, v_spades, v_part, .ref a_pad, .int (nI pm), .ref a_slips, .int (nI sm), v_made, v_queue, v_depth, v_by, v_from, v_come, v_offOf, v_parent, v_best, v_trees, v_least, v_sums, v_toward, v_kept, v_isKept, v_keptAt, v_isWriting])), (a_pad, .inl (gI G, 40, .inl fd)), (a_slips, .inl (gI G, 10, .inl g))]) [0, 1, 2] (by decide) rfl)
                    exact W.iret (v := (nI x)) hx hb hr (fun t9_ ht9_ hW9_ => ⟨⟨nI x, (sm, g), rfl, ⟨by omega, hsl, Or.inr ⟨x, by omega, rfl⟩⟩, by rw [ht9_]; exact hP9, hD9⟩, hS.F ht9_⟩) hS.2.2 dX10_faultOfSlips_162
      · have c138 : ¬ 10 ≤ sm := fun h9_ => c138 ((nI_leI (a := 10) (b := sm) (by omega) (by omega)).mpr h9_)
        refine lv_iload hx hb dX10_faultOfSlips_48 (lv_at hl 1 rfl) ?_
        refine ca_iR (va_runS (As := [.int x3]) (rest := []) ⟨hx, hb, hml, hown, hts⟩ (m_kindOf l G H.size x3) (va_cwS 1 hts gX10_faultOfSlips_X10_kindOf rfl rfl rfl (by decide +kernel) ⟨by decide +kernel, by decide +kernel⟩) (pre_S E hP hD hS hA [] (by decide) rfl) rfl rfl hl.1 rfl (lv_room (Nat.le_of_ble_eq_true rfl)) dX10_faultOfSlips_50 ⟨by decide +kernel, by decide +kernel⟩) hS hP hD hA [] rfl (fun r273 _ H locs w272 hP hS => ?_)
        refine lv_if_lt (tgt := 67) hx hb dX10_faultOfSlips_53 (by decide) (fun c274 => ?_) (fun c274 => ?_)
        · refine lv_iload_n hx hb dX10_faultOfSlips_67 rfl (lv_at hl 5 rfl) ?_
          refine lv_iconst (v := 1) hx hb dX10_faultOfSlips_68 (by decide) ?_
          refine lv_icmp_ne (tgt := 134) hx hb dX10_faultOfSlips_69 (by decide) (fun c275 => ?_) (fun c275 => ?_)
          · have c275 : ¬ sa = 1 := fun h9_ => c275 ((nI_eq (a := sa) (b := 1) (by omega) (by omega)).mpr h9_)
            refine lv_iload_n hx hb dX10_faultOfSlips_134 rfl (lv_at hl 5 rfl) ?_
            refine lv_iconst (v := 2) hx hb dX10_faultOfSlips_135 (by decide) ?_
            refine lv_icmp_ne (tgt := 160) hx hb dX10_faultOfSlips_136 (by decide) (fun c276 => ?_) (fun c276 => ?_)
            · have c276 : ¬ sa = 2 := fun h9_ => c276 ((nI_eq (a := sa) (b := 2) (by omega) (by omega)).mpr h9_)
              refine lv_iload hx hb dX10_faultOfSlips_160 (lv_at hl 2 rfl) ?_
              have hP9 := (hP.sub (ws' := [(h1, .inr (6, [.int (nI k), v_maps, v_told, v_kinds, v_land, v_spades, v_part, .ref a_pad, .int (nI pm), .ref a_slips, .int (nI sm), v_made, v_queue, v_depth, v_by, v_from, v_come, v_offOf, v_parent, v_best, v_trees, v_least, v_sums, v_toward, v_kept, v_isKept, v_keptAt, v_isWriting])), (a_pad, .inl (gI G, 40, .inl fd)), (a_slips, .inl (gI G, 10, .inl g))]) [0, 1, 2] rfl)
              have hD9 := (hD.sub (ws' := [(h1, .inr (6, [.int (nI k), v_maps, v_told, v_kinds, v_land, v_spades, v_part, .ref a_pad, .int (nI pm), .ref a_slips, .int (nI sm), v_made, v_queue, v_depth, v_by, v_from, v_come, v_offOf, v_parent, v_best, v_trees, v_least, v_sums, v_toward, v_kept, v_isKept, v_keptAt, v_isWriting])), (a_pad, .inl (gI G, 40, .inl fd)), (a_slips, .inl (gI G, 10, .inl g))]) [0, 1, 2] (by decide) rfl)
              exact W.iret (v := (nI x)) hx hb hr (fun t9_ ht9_ hW9_ => ⟨⟨nI x, (sm, g), rfl, ⟨by omega, hsl, Or.inr ⟨x, by omega, rfl⟩⟩, by rw [ht9_]; exact hP9, hD9⟩, hS.F ht9_⟩) hS.2.2 dX10_faultOfSlips_162
            · have c276 : sa = 2 := (nI_eq (a := sa) (b := 2) (by omega) (by omega)).mp c276
              refine lv_iload hx hb dX10_faultOfSlips_139 (lv_at hl 1 rfl) ?_
              refine lv_i2l hx hb dX10_faultOfSlips_141 rfl ?_
              refine lv_topl (fun x277 ex277 => ?_)
              refine lv_ldc2 (v := 97) hx hb hown (hts (.constantLong RX10 95 (97)) (by decide +kernel)) dX10_faultOfSlips_142 ?_
              refine lv_ldc2 (v := 100) hx hb hown (hts (.constantLong RX10 97 (100)) (by decide +kernel)) dX10_faultOfSlips_145 ?_
              refine ca_iR (va_runS (As := [.long x277, .long 97, .long 100]) (rest := []) ⟨hx, hb, hml, hown, hts⟩ (m_in l G H.size x277 97 100 x3 97 100 ex277 (by decide) (by decide)) (va_cwS 3 hts gX10_faultOfSlips_X10_in rfl rfl rfl (by decide +kernel) ⟨by decide +kernel, by decide +kernel⟩) (pre_S E hP hD hS hA [] (by decide) rfl) rfl rfl hl.1 rfl (lv_room (Nat.le_of_ble_eq_true rfl)) dX10_faultOfSlips_148 ⟨by decide +kernel, by decide +kernel⟩) hS hP hD hA [] rfl (fun r279 _ H locs w278 hP hS => ?_)
              rcases w278 with ⟨rfl, b280⟩ | ⟨rfl, b280⟩
              · refine lv_if_eq (tgt := 160) hx hb dX10_faultOfSlips_151 (by decide) (fun c281 => False.elim (by revert c281; decide)) (fun _ => ?_)
                refine lv_iconst (v := 1) hx hb dX10_faultOfSlips_154 (by decide) ?_
                refine lv_istore (lv' := [(6, .int 1), (5, .int x3), (4, .int (nI x)), (3, .int (nI si)), (2, .int (nI kd)), (1, .int (nI sa)), (0, .ref h1)]) hx hb dX10_faultOfSlips_155 hl (by decide) rfl (fun ls hl => ?_)
                refine lv_goto (tgt := 163) hx hb dX10_faultOfSlips_157 (by decide) ?_
                refine lv_iload hx hb dX10_faultOfSlips_163 (lv_at hl 0 rfl) ?_
                refine lv_if_eq (tgt := 212) hx hb dX10_faultOfSlips_165 (by decide) (fun c282 => False.elim (by revert c282; decide)) (fun _ => ?_)
                refine lv_aload_n hx hb dX10_faultOfSlips_168 rfl (lv_at hl 6 rfl) ?_
                refine va_get (D := G.1) (ci := 6) (v := .ref a_slips) (C := RX10) (T := TX10) (N := 28) hx hb hts (fun _ h => List.mem_cons_of_mem _ (List.mem_append_right _ h)) hown E.K hP 0 rfl rfl 9 (by decide) (hts (.fieldLink RX10 22 "LastMapModel" "slips" "[I") (by decide +kernel)) (fun _ h9 => h9) rfl dX10_faultOfSlips_169 ?_
                refine lv_aload_n hx hb dX10_faultOfSlips_172 rfl (lv_at hl 6 rfl) ?_
                refine va_get (D := G.1) (ci := 6) (v := .int (nI sm)) (C := RX10) (T := TX10) (N := 28) hx hb hts (fun _ h => List.mem_cons_of_mem _ (List.mem_append_right _ h)) hown E.K hP 0 rfl rfl 10 (by decide) (hts (.fieldLink RX10 110 "LastMapModel" "slipMany" "I") (by decide +kernel)) (fun _ h9 => h9) rfl dX10_faultOfSlips_173 ?_
                refine lv_bipush (v := 100) hx hb dX10_faultOfSlips_176 (by decide) ?_
                refine lv_iload_n hx hb dX10_faultOfSlips_178 rfl (lv_at hl 4 rfl) ?_
                refine lv_imul hx hb dX10_faultOfSlips_179 ?_
                refine lv_topi (fun x283 ex283 => ?_)
                obtain rfl : x283 = nI (100 * kd) := by rw [ex283]; exact pk_mul 100 kd
                refine lv_bipush (v := 10) hx hb dX10_faultOfSlips_180 (by decide) ?_
                refine lv_iload_n hx hb dX10_faultOfSlips_182 rfl (lv_at hl 3 rfl) ?_
                refine lv_imul hx hb dX10_faultOfSlips_183 ?_
                refine lv_topi (fun x284 ex284 => ?_)
                obtain rfl : x284 = nI (10 * si) := by rw [ex284]; exact pk_mul 10 si
                refine lv_iadd hx hb dX10_faultOfSlips_184 ?_
                refine lv_topi (fun x285 ex285 => ?_)
                obtain rfl : x285 = nI ((100 * kd) + (10 * si)) := by rw [ex285]; exact nI_add (100 * kd) (10 * si)
                refine lv_iload_n hx hb dX10_faultOfSlips_185 rfl (lv_at hl 4 rfl) ?_
                refine lv_if_ne (tgt := 197) hx hb dX10_faultOfSlips_186 (by decide) (fun c286 => absurd (show nI kd = 0 by rw [(hsi (by omega)).1]; rfl) c286) (fun c286 => ?_)
                refine lv_iload hx hb dX10_faultOfSlips_189 (lv_at hl 1 rfl) ?_
                refine lv_bipush (v := 97) hx hb dX10_faultOfSlips_191 (by decide) ?_
                refine lv_isub hx hb dX10_faultOfSlips_193 ?_
                refine lv_topi (fun x287 ex287 => ?_)
                obtain ⟨mg9, hmg9, emg9⟩ := sub97 b280
                obtain rfl : x287 = nI mg9 := by rw [ex287]; exact emg9
                refine lv_goto (tgt := 198) hx hb dX10_faultOfSlips_194 (by decide) ?_
                refine lv_iadd hx hb dX10_faultOfSlips_198 ?_
                refine lv_topi (fun x288 ex288 => ?_)
                obtain rfl : x288 = nI (((100 * kd) + (10 * si)) + mg9) := by rw [ex288]; exact nI_add ((100 * kd) + (10 * si)) mg9
                have hput : slipOK k (nI ((((100 * kd) + (10 * si)) + mg9))) := ⟨kd, si, mg9, by unfold okV; have q := hsi (by omega); omega, rfl⟩
                refine va_iast hx hb E.K hP hD hS 2 1 rfl rfl (i := nI sm) (vp_in_nI (by omega) (by decide)) dX10_faultOfSlips_199 (fun H locs hP hD hS => ?_)
                obtain ⟨f289, ef289⟩ : ∃ yy_ : Nat → Int32, yy_ = upd g (nI sm).toNatClampNeg (nI (((100 * kd) + (10 * si)) + mg9)) := ⟨_, rfl⟩
                have hP : va_P G.1 vwCl ([(h1, .inr (6, [.int (nI k), v_maps, v_told, v_kinds, v_land, v_spades, v_part, .ref a_pad, .int (nI pm), .ref a_slips, .int (nI sm), v_made, v_queue, v_depth, v_by, v_from, v_come, v_offOf, v_parent, v_best, v_trees, v_least, v_sums, v_toward, v_kept, v_isKept, v_keptAt, v_isWriting])), (a_pad, .inl (gI G, 40, .inl fd)), (a_slips, .inl (gI G, 10, .inl f289))]) H := by rw [ef289]; exact hP
                have hD : va_D A ([(h1, .inr (6, [.int (nI k), v_maps, v_told, v_kinds, v_land, v_spades, v_part, .ref a_pad, .int (nI pm), .ref a_slips, .int (nI sm), v_made, v_queue, v_depth, v_by, v_from, v_come, v_offOf, v_parent, v_best, v_trees, v_least, v_sums, v_toward, v_kept, v_isKept, v_keptAt, v_isWriting])), (a_pad, .inl (gI G, 40, .inl fd)), (a_slips, .inl (gI G, 10, .inl f289))]) := by rw [ef289]; exact hD
                refine lv_aload_n hx hb dX10_faultOfSlips_200 rfl (lv_at hl 6 rfl) ?_
                refine lv_dup hx hb dX10_faultOfSlips_201 rfl ?_
                refine va_get (D := G.1) (ci := 6) (v := .int (nI sm)) (C := RX10) (T := TX10) (N := 28) hx hb hts (fun _ h => List.mem_cons_of_mem _ (List.mem_append_right _ h)) hown E.K hP 0 rfl rfl 10 (by decide) (hts (.fieldLink RX10 110 "LastMapModel" "slipMany" "I") (by decide +kernel)) (fun _ h9 => h9) rfl dX10_faultOfSlips_202 ?_
                refine lv_iconst (v := 1) hx hb dX10_faultOfSlips_205 (by decide) ?_
                refine lv_iadd hx hb dX10_faultOfSlips_206 ?_
                refine lv_topi (fun x290 ex290 => ?_)
                obtain rfl : x290 = nI (sm + 1) := by rw [ex290]; exact nI_add sm 1
                refine va_put (D := G.1) (ci := 6) (v := .int (nI (sm + 1))) (ty := .int) (C := RX10) (T := TX10) (N := 28) hx hb hts (fun _ h => List.mem_cons_of_mem _ (List.mem_append_right _ h)) tyX10 tyX10_ok nmX10 hown E.K hP hD hS 0 rfl rfl 10 (by decide) (hts (.fieldLink RX10 110 "LastMapModel" "slipMany" "I") (by decide +kernel)) (fun _ h9 => h9) rfl (by decide +kernel) rfl rfl (Nat.le_of_ble_eq_true rfl) dX10_faultOfSlips_207 (fun H locs hP hD hS => ?_)
                have hP : va_P G.1 vwCl ([(h1, .inr (6, [.int (nI k), v_maps, v_told, v_kinds, v_land, v_spades, v_part, .ref a_pad, .int (nI pm), .ref a_slips, .int (nI (sm + 1)), v_made, v_queue, v_depth, v_by, v_from, v_come, v_offOf, v_parent, v_best, v_trees, v_least, v_sums, v_toward, v_kept, v_isKept, v_keptAt, v_isWriting])), (a_pad, .inl (gI G, 40, .inl fd)), (a_slips, .inl (gI G, 10, .inl f289))]) H := hP
                have hD : va_D A ([(h1, .inr (6, [.int (nI k), v_maps, v_told, v_kinds, v_land, v_spades, v_part, .ref a_pad, .int (nI pm), .ref a_slips, .int (nI (sm + 1)), v_made, v_queue, v_depth, v_by, v_from, v_come, v_offOf, v_parent, v_best, v_trees, v_least, v_sums, v_toward, v_kept, v_isKept, v_keptAt, v_isWriting])), (a_pad, .inl (gI G, 40, .inl fd)), (a_slips, .inl (gI G, 10, .inl f289))]) := hD
                refine lv_iconst (v := 0) hx hb dX10_faultOfSlips_210 (by decide) ?_
                refine lv_istore_n (lv' := [(1, .int 0), (6, .int 1), (5, .int x3), (4, .int (nI x)), (3, .int (nI si)), (2, .int (nI kd)), (0, .ref h1)]) hx hb dX10_faultOfSlips_211 rfl hl (by decide) rfl (fun ls hl => ?_)
                obtain ⟨x291, ex291⟩ : ∃ yy_ : Int32, yy_ = (nI x) + 1 := ⟨_, rfl⟩
                refine lv_iinc (v := x291) (lv' := [(4, .int x291), (1, .int 0), (6, .int 1), (5, .int x3), (3, .int (nI si)), (2, .int (nI kd)), (0, .ref h1)]) hx hb dX10_faultOfSlips_212 hl (k := 3) rfl (by rw [ex291]; rfl) (by decide) rfl (fun ls hl => ?_)
                obtain rfl : x291 = nI (x + 1) := by rw [ex291]; exact nI_add x 1
                refine lv_goto (tgt := 14) hx hb dX10_faultOfSlips_215 (by decide) ?_
                refine ih14 ((x + 1), 0, kd, si, (sm + 1), f289) ⟨?_, ?_, ?_, ?_, ?_, ?_⟩ (by first | omega | (dsimp only; omega)) H locs ls (hP.sub [0, 1, 2] rfl) (hD.sub [0, 1, 2] (by decide) rfl) hS (lv_sub hl [0, 4, 5, 1, 6] rfl)
                · try dsimp only
                  omega
                · try dsimp only
                  omega
                · try dsimp only
                  omega
                · try dsimp only
                  omega
                · try dsimp only
                  omega
                · try dsimp only
                  rw [ef289, nI_clamp (by omega)]; exact slips_upd hsl hput
              · refine lv_if_eq (tgt := 160) hx hb dX10_faultOfSlips_151 (by decide) (fun _ => ?_) (fun c292 => False.elim (by revert c292; decide))
                refine lv_iload hx hb dX10_faultOfSlips_160 (lv_at hl 2 rfl) ?_
                have hP9 := (hP.sub (ws' := [(h1, .inr (6, [.int (nI k), v_maps, v_told, v_kinds, v_land, v_spades, v_part, .ref a_pad, .int (nI pm), .ref a_slips, .int (nI sm), v_made, v_queue, v_depth, v_by, v_from, v_come, v_offOf, v_parent, v_best, v_trees, v_least, v_sums, v_toward, v_kept, v_isKept, v_keptAt, v_isWriting])), (a_pad, .inl (gI G, 40, .inl fd)), (a_slips, .inl (gI G, 10, .inl g))]) [0, 1, 2] rfl)
                have hD9 := (hD.sub (ws' := [(h1, .inr (6, [.int (nI k), v_maps, v_told, v_kinds, v_land, v_spades, v_part, .ref a_pad, .int (nI pm), .ref a_slips, .int (nI sm), v_made, v_queue, v_depth, v_by, v_from, v_come, v_offOf, v_parent, v_best, v_trees, v_least, v_sums, v_toward, v_kept, v_isKept, v_keptAt, v_isWriting])), (a_pad, .inl (gI G, 40, .inl fd)), (a_slips, .inl (gI G, 10, .inl g))]) [0, 1, 2] (by decide) rfl)
                exact W.iret (v := (nI x)) hx hb hr (fun t9_ ht9_ hW9_ => ⟨⟨nI x, (sm, g), rfl, ⟨by omega, hsl, Or.inr ⟨x, by omega, rfl⟩⟩, by rw [ht9_]; exact hP9, hD9⟩, hS.F ht9_⟩) hS.2.2 dX10_faultOfSlips_162
          · have c275 : sa = 1 := (nI_eq (a := sa) (b := 1) (by omega) (by omega)).mp c275
            refine lv_iload hx hb dX10_faultOfSlips_72 (lv_at hl 1 rfl) ?_
            refine lv_bipush (v := 48) hx hb dX10_faultOfSlips_74 (by decide) ?_
            refine lv_isub hx hb dX10_faultOfSlips_76 ?_
            refine lv_topi (fun x293 ex293 => ?_)
            refine lv_i2l hx hb dX10_faultOfSlips_77 rfl ?_
            refine lv_topl (fun x294 ex294 => ?_)
            refine lv_lconst (v := 0) hx hb dX10_faultOfSlips_78 (by decide) ?_
            refine lv_iload_n hx hb dX10_faultOfSlips_79 rfl (lv_at hl 4 rfl) ?_
            refine lv_iconst (v := 1) hx hb dX10_faultOfSlips_80 (by decide) ?_
            refine lv_icmp_eq (tgt := 89) hx hb dX10_faultOfSlips_81 (by decide) (fun c295 => ?_) (fun c295 => ?_)
            · have c295 : kd = 1 := (nI_eq (a := kd) (b := 1) (by omega) (by omega)).mp c295
              refine lv_aload_n hx hb dX10_faultOfSlips_89 rfl (lv_at hl 6 rfl) ?_
              refine va_get (D := G.1) (ci := 6) (v := .int (nI k)) (C := RX10) (T := TX10) (N := 28) hx hb hts (fun _ h => List.mem_cons_of_mem _ (List.mem_append_right _ h)) hown E.K hP 0 rfl rfl 0 (by decide) (hts (.fieldLink RX10 67 "LastMapModel" "sites" "I") (by decide +kernel)) (fun _ h9 => h9) rfl dX10_faultOfSlips_90 ?_
              refine lv_iconst (v := 2) hx hb dX10_faultOfSlips_93 (by decide) ?_
              refine lv_isub hx hb dX10_faultOfSlips_94 ?_
              refine lv_topi (fun x296 ex296 => ?_)
              obtain rfl : x296 = nI (k - 2) := by rw [ex296]; exact pk_sub (show 2 ≤ k by omega)
              refine lv_i2l hx hb dX10_faultOfSlips_95 rfl ?_
              refine lv_topl (fun x297 ex297 => ?_)
              refine lv_goto (tgt := 106) hx hb dX10_faultOfSlips_96 (by decide) ?_
              refine ca_iR (va_runS (As := [.long x294, .long 0, .long x297]) (rest := []) ⟨hx, hb, hml, hown, hts⟩ (m_in l G H.size x294 0 x297 x293 0 (nI (k - 2)) ex294 (by decide) ex297) (va_cwS 3 hts gX10_faultOfSlips_X10_in rfl rfl rfl (by decide +kernel) ⟨by decide +kernel, by decide +kernel⟩) (pre_S E hP hD hS hA [] (by decide) rfl) rfl rfl hl.1 rfl (lv_room (Nat.le_of_ble_eq_true rfl)) dX10_faultOfSlips_106 ⟨by decide +kernel, by decide +kernel⟩) hS hP hD hA [] rfl (fun r299 _ H locs w298 hP hS => ?_)
              rcases w298 with ⟨rfl, b300⟩ | ⟨rfl, b300⟩
              · refine lv_if_eq (tgt := 134) hx hb dX10_faultOfSlips_109 (by decide) (fun c301 => False.elim (by revert c301; decide)) (fun _ => ?_)
                refine lv_iload hx hb dX10_faultOfSlips_112 (lv_at hl 1 rfl) ?_
                refine lv_bipush (v := 48) hx hb dX10_faultOfSlips_114 (by decide) ?_
                refine lv_isub hx hb dX10_faultOfSlips_116 ?_
                refine lv_topi (fun x302 ex302 => ?_)
                obtain ⟨si9, hsi9, esi9⟩ := inRn (by omega) b300
                obtain rfl : x302 = nI si9 := by rw [ex302, ← ex293]; exact esi9
                refine lv_istore_n (lv' := [(3, .int (nI si9)), (6, .int 0), (5, .int x3), (4, .int (nI x)), (2, .int (nI kd)), (1, .int (nI sa)), (0, .ref h1)]) hx hb dX10_faultOfSlips_117 rfl hl (by decide) rfl (fun ls hl => ?_)
                refine lv_iconst (v := 2) hx hb dX10_faultOfSlips_118 (by decide) ?_
                refine lv_istore_n (lv' := [(1, .int 2), (3, .int (nI si9)), (6, .int 0), (5, .int x3), (4, .int (nI x)), (2, .int (nI kd)), (0, .ref h1)]) hx hb dX10_faultOfSlips_119 rfl hl (by decide) rfl (fun ls hl => ?_)
                refine lv_iload_n hx hb dX10_faultOfSlips_120 rfl (lv_at hl 5 rfl) ?_
                refine lv_if_eq (tgt := 128) hx hb dX10_faultOfSlips_121 (by decide) (fun c303 => ?_) (fun c303 => ?_)
                · have c303 : kd = 0 := (nI_eq (a := kd) (b := 0) (by omega) (by omega)).mp c303
                  refine lv_iconst (v := 0) hx hb dX10_faultOfSlips_128 (by decide) ?_
                  refine lv_istore (lv' := [(6, .int 0), (1, .int 2), (3, .int (nI si9)), (5, .int x3), (4, .int (nI x)), (2, .int (nI kd)), (0, .ref h1)]) hx hb dX10_faultOfSlips_129 hl (by decide) rfl (fun ls hl => ?_)
                  refine lv_goto (tgt := 163) hx hb dX10_faultOfSlips_131 (by decide) ?_
                  refine lv_iload hx hb dX10_faultOfSlips_163 (lv_at hl 0 rfl) ?_
                  refine lv_if_eq (tgt := 212) hx hb dX10_faultOfSlips_165 (by decide) (fun _ => ?_) (fun c304 => False.elim (by revert c304; decide))
                  obtain ⟨x305, ex305⟩ : ∃ yy_ : Int32, yy_ = (nI x) + 1 := ⟨_, rfl⟩
                  refine lv_iinc (v := x305) (lv' := [(4, .int x305), (6, .int 0), (1, .int 2), (3, .int (nI si9)), (5, .int x3), (2, .int (nI kd)), (0, .ref h1)]) hx hb dX10_faultOfSlips_212 hl (k := 4) rfl (by rw [ex305]; rfl) (by decide) rfl (fun ls hl => ?_)
                  obtain rfl : x305 = nI (x + 1) := by rw [ex305]; exact nI_add x 1
                  refine lv_goto (tgt := 14) hx hb dX10_faultOfSlips_215 (by decide) ?_
                  refine ih14 ((x + 1), 2, kd, si9, sm, g) ⟨?_, ?_, ?_, ?_, ?_, ?_⟩ (by first | omega | (dsimp only; omega)) H locs ls (hP.sub [0, 1, 2] rfl) (hD.sub [0, 1, 2] (by decide) rfl) hS (lv_sub hl [0, 3, 5, 2, 6] rfl)
                  · try dsimp only
                    omega
                  · try dsimp only
                    omega
                  · try dsimp only
                    omega
                  · try dsimp only
                    omega
                  · try dsimp only
                    omega
                  · try dsimp only
                    exact hsl
                · have c303 : ¬ kd = 0 := fun h9_ => c303 ((nI_eq (a := kd) (b := 0) (by omega) (by omega)).mpr h9_)
                  refine lv_iconst (v := 1) hx hb dX10_faultOfSlips_124 (by decide) ?_
                  refine lv_goto (tgt := 129) hx hb dX10_faultOfSlips_125 (by decide) ?_
                  refine lv_istore (lv' := [(6, .int 1), (1, .int 2), (3, .int (nI si9)), (5, .int x3), (4, .int (nI x)), (2, .int (nI kd)), (0, .ref h1)]) hx hb dX10_faultOfSlips_129 hl (by decide) rfl (fun ls hl => ?_)
                  refine lv_goto (tgt := 163) hx hb dX10_faultOfSlips_131 (by decide) ?_
                  refine lv_iload hx hb dX10_faultOfSlips_163 (lv_at hl 0 rfl) ?_
                  refine lv_if_eq (tgt := 212) hx hb dX10_faultOfSlips_165 (by decide) (fun c306 => False.elim (by revert c306; decide)) (fun _ => ?_)
                  refine lv_aload_n hx hb dX10_faultOfSlips_168 rfl (lv_at hl 6 rfl) ?_
                  refine va_get (D := G.1) (ci := 6) (v := .ref a_slips) (C := RX10) (T := TX10) (N := 28) hx hb hts (fun _ h => List.mem_cons_of_mem _ (List.mem_append_right _ h)) hown E.K hP 0 rfl rfl 9 (by decide) (hts (.fieldLink RX10 22 "LastMapModel" "slips" "[I") (by decide +kernel)) (fun _ h9 => h9) rfl dX10_faultOfSlips_169 ?_
                  refine lv_aload_n hx hb dX10_faultOfSlips_172 rfl (lv_at hl 6 rfl) ?_
                  refine va_get (D := G.1) (ci := 6) (v := .int (nI sm)) (C := RX10) (T := TX10) (N := 28) hx hb hts (fun _ h => List.mem_cons_of_mem _ (List.mem_append_right _ h)) hown E.K hP 0 rfl rfl 10 (by decide) (hts (.fieldLink RX10 110 "LastMapModel" "slipMany" "I") (by decide +kernel)) (fun _ h9 => h9) rfl dX10_faultOfSlips_173 ?_
                  refine lv_bipush (v := 100) hx hb dX10_faultOfSlips_176 (by decide) ?_
                  refine lv_iload_n hx hb dX10_faultOfSlips_178 rfl (lv_at hl 5 rfl) ?_
                  refine lv_imul hx hb dX10_faultOfSlips_179 ?_
                  refine lv_topi (fun x307 ex307 => ?_)
                  obtain rfl : x307 = nI (100 * kd) := by rw [ex307]; exact pk_mul 100 kd
                  refine lv_bipush (v := 10) hx hb dX10_faultOfSlips_180 (by decide) ?_
                  refine lv_iload_n hx hb dX10_faultOfSlips_182 rfl (lv_at hl 2 rfl) ?_
                  refine lv_imul hx hb dX10_faultOfSlips_183 ?_
                  refine lv_topi (fun x308 ex308 => ?_)
                  obtain rfl : x308 = nI (10 * si9) := by rw [ex308]; exact pk_mul 10 si9
                  refine lv_iadd hx hb dX10_faultOfSlips_184 ?_
                  refine lv_topi (fun x309 ex309 => ?_)
                  obtain rfl : x309 = nI ((100 * kd) + (10 * si9)) := by rw [ex309]; exact nI_add (100 * kd) (10 * si9)
                  refine lv_iload_n hx hb dX10_faultOfSlips_185 rfl (lv_at hl 5 rfl) ?_
                  refine lv_if_ne (tgt := 197) hx hb dX10_faultOfSlips_186 (by decide) (fun c310 => ?_) (fun c310 => False.elim (by have q := (nI_eq (a := kd) (b := 0) (by omega) (by omega)).mp c310; omega))
                  refine lv_iconst (v := 0) hx hb dX10_faultOfSlips_197 (by decide) ?_
                  refine lv_iadd hx hb dX10_faultOfSlips_198 ?_
                  refine lv_topi (fun x311 ex311 => ?_)
                  obtain rfl : x311 = nI (((100 * kd) + (10 * si9)) + 0) := by rw [ex311]; exact nI_add ((100 * kd) + (10 * si9)) 0
                  have hput : slipOK k (nI ((((100 * kd) + (10 * si9)) + 0))) := ⟨kd, si9, 0, by unfold okV; omega, rfl⟩
                  refine va_iast hx hb E.K hP hD hS 2 1 rfl rfl (i := nI sm) (vp_in_nI (by omega) (by decide)) dX10_faultOfSlips_199 (fun H locs hP hD hS => ?_)
                  obtain ⟨f312, ef312⟩ : ∃ yy_ : Nat → Int32, yy_ = upd g (nI sm).toNatClampNeg (nI (((100 * kd) + (10 * si9)) + 0)) := ⟨_, rfl⟩
                  have hP : va_P G.1 vwCl ([(h1, .inr (6, [.int (nI k), v_maps, v_told, v_kinds, v_land, v_spades, v_part, .ref a_pad, .int (nI pm), .ref a_slips, .int (nI sm), v_made, v_queue, v_depth, v_by, v_from, v_come, v_offOf, v_parent, v_best, v_trees, v_least, v_sums, v_toward, v_kept, v_isKept, v_keptAt, v_isWriting])), (a_pad, .inl (gI G, 40, .inl fd)), (a_slips, .inl (gI G, 10, .inl f312))]) H := by rw [ef312]; exact hP
                  have hD : va_D A ([(h1, .inr (6, [.int (nI k), v_maps, v_told, v_kinds, v_land, v_spades, v_part, .ref a_pad, .int (nI pm), .ref a_slips, .int (nI sm), v_made, v_queue, v_depth, v_by, v_from, v_come, v_offOf, v_parent, v_best, v_trees, v_least, v_sums, v_toward, v_kept, v_isKept, v_keptAt, v_isWriting])), (a_pad, .inl (gI G, 40, .inl fd)), (a_slips, .inl (gI G, 10, .inl f312))]) := by rw [ef312]; exact hD
                  refine lv_aload_n hx hb dX10_faultOfSlips_200 rfl (lv_at hl 6 rfl) ?_
                  refine lv_dup hx hb dX10_faultOfSlips_201 rfl ?_
                  refine va_get (D := G.1) (ci := 6) (v := .int (nI sm)) (C := RX10) (T := TX10) (N := 28) hx hb hts (fun _ h => List.mem_cons_of_mem _ (List.mem_append_right _ h)) hown E.K hP 0 rfl rfl 10 (by decide) (hts (.fieldLink RX10 110 "LastMapModel" "slipMany" "I") (by decide +kernel)) (fun _ h9 => h9) rfl dX10_faultOfSlips_202 ?_
                  refine lv_iconst (v := 1) hx hb dX10_faultOfSlips_205 (by decide) ?_
                  refine lv_iadd hx hb dX10_faultOfSlips_206 ?_
                  refine lv_topi (fun x313 ex313 => ?_)
                  obtain rfl : x313 = nI (sm + 1) := by rw [ex313]; exact nI_add sm 1
                  refine va_put (D := G.1) (ci := 6) (v := .int (nI (sm + 1))) (ty := .int) (C := RX10) (T := TX10) (N := 28) hx hb hts (fun _ h => List.mem_cons_of_mem _ (List.mem_append_right _ h)) tyX10 tyX10_ok nmX10 hown E.K hP hD hS 0 rfl rfl 10 (by decide) (hts (.fieldLink RX10 110 "LastMapModel" "slipMany" "I") (by decide +kernel)) (fun _ h9 => h9) rfl (by decide +kernel) rfl rfl (Nat.le_of_ble_eq_true rfl) dX10_faultOfSlips_207 (fun H locs hP hD hS => ?_)
                  have hP : va_P G.1 vwCl ([(h1, .inr (6, [.int (nI k), v_maps, v_told, v_kinds, v_land, v_spades, v_part, .ref a_pad, .int (nI pm), .ref a_slips, .int (nI (sm + 1)), v_made, v_queue, v_depth, v_by, v_from, v_come, v_offOf, v_parent, v_best, v_trees, v_least, v_sums, v_toward, v_kept, v_isKept, v_keptAt, v_isWriting])), (a_pad, .inl (gI G, 40, .inl fd)), (a_slips, .inl (gI G, 10, .inl f312))]) H := hP
                  have hD : va_D A ([(h1, .inr (6, [.int (nI k), v_maps, v_told, v_kinds, v_land, v_spades, v_part, .ref a_pad, .int (nI pm), .ref a_slips, .int (nI (sm + 1)), v_made, v_queue, v_depth, v_by, v_from, v_come, v_offOf, v_parent, v_best, v_trees, v_least, v_sums, v_toward, v_kept, v_isKept, v_keptAt, v_isWriting])), (a_pad, .inl (gI G, 40, .inl fd)), (a_slips, .inl (gI G, 10, .inl f312))]) := hD
                  refine lv_iconst (v := 0) hx hb dX10_faultOfSlips_210 (by decide) ?_
                  refine lv_istore_n (lv' := [(1, .int 0), (6, .int 1), (3, .int (nI si9)), (5, .int x3), (4, .int (nI x)), (2, .int (nI kd)), (0, .ref h1)]) hx hb dX10_faultOfSlips_211 rfl hl (by decide) rfl (fun ls hl => ?_)
                  obtain ⟨x314, ex314⟩ : ∃ yy_ : Int32, yy_ = (nI x) + 1 := ⟨_, rfl⟩
                  refine lv_iinc (v := x314) (lv' := [(4, .int x314), (1, .int 0), (6, .int 1), (3, .int (nI si9)), (5, .int x3), (2, .int (nI kd)), (0, .ref h1)]) hx hb dX10_faultOfSlips_212 hl (k := 4) rfl (by rw [ex314]; rfl) (by decide) rfl (fun ls hl => ?_)
                  obtain rfl : x314 = nI (x + 1) := by rw [ex314]; exact nI_add x 1
                  refine lv_goto (tgt := 14) hx hb dX10_faultOfSlips_215 (by decide) ?_
                  refine ih14 ((x + 1), 0, kd, si9, (sm + 1), f312) ⟨?_, ?_, ?_, ?_, ?_, ?_⟩ (by first | omega | (dsimp only; omega)) H locs ls (hP.sub [0, 1, 2] rfl) (hD.sub [0, 1, 2] (by decide) rfl) hS (lv_sub hl [0, 3, 5, 1, 6] rfl)
                  · try dsimp only
                    omega
                  · try dsimp only
                    omega
                  · try dsimp only
                    omega
                  · try dsimp only
                    omega
                  · try dsimp only
                    omega
                  · try dsimp only
                    rw [ef312, nI_clamp (by omega)]; exact slips_upd hsl hput
              · refine lv_if_eq (tgt := 134) hx hb dX10_faultOfSlips_109 (by decide) (fun _ => ?_) (fun c315 => False.elim (by revert c315; decide))
                refine lv_iload_n hx hb dX10_faultOfSlips_134 rfl (lv_at hl 5 rfl) ?_
                refine lv_iconst (v := 2) hx hb dX10_faultOfSlips_135 (by decide) ?_
                refine lv_icmp_ne (tgt := 160) hx hb dX10_faultOfSlips_136 (by decide) (fun c316 => ?_) (fun c316 => ?_)
                · have c316 : ¬ sa = 2 := fun h9_ => c316 ((nI_eq (a := sa) (b := 2) (by omega) (by omega)).mpr h9_)
                  refine lv_iload hx hb dX10_faultOfSlips_160 (lv_at hl 2 rfl) ?_
                  have hP9 := (hP.sub (ws' := [(h1, .inr (6, [.int (nI k), v_maps, v_told, v_kinds, v_land, v_spades, v_part, .ref a_pad, .int (nI pm), .ref a_slips, .int (nI sm), v_made, v_queue, v_depth, v_by, v_from, v_come, v_offOf, v_parent, v_best, v_trees, v_least, v_sums, v_toward, v_kept, v_isKept, v_keptAt, v_isWriting])), (a_pad, .inl (gI G, 40, .inl fd)), (a_slips, .inl (gI G, 10, .inl g))]) [0, 1, 2] rfl)
                  have hD9 := (hD.sub (ws' := [(h1, .inr (6, [.int (nI k), v_maps, v_told, v_kinds, v_land, v_spades, v_part, .ref a_pad, .int (nI pm), .ref a_slips, .int (nI sm), v_made, v_queue, v_depth, v_by, v_from, v_come, v_offOf, v_parent, v_best, v_trees, v_least, v_sums, v_toward, v_kept, v_isKept, v_keptAt, v_isWriting])), (a_pad, .inl (gI G, 40, .inl fd)), (a_slips, .inl (gI G, 10, .inl g))]) [0, 1, 2] (by decide) rfl)
                  exact W.iret (v := (nI x)) hx hb hr (fun t9_ ht9_ hW9_ => ⟨⟨nI x, (sm, g), rfl, ⟨by omega, hsl, Or.inr ⟨x, by omega, rfl⟩⟩, by rw [ht9_]; exact hP9, hD9⟩, hS.F ht9_⟩) hS.2.2 dX10_faultOfSlips_162
                · have c316 : sa = 2 := (nI_eq (a := sa) (b := 2) (by omega) (by omega)).mp c316
                  refine lv_iload hx hb dX10_faultOfSlips_139 (lv_at hl 1 rfl) ?_
                  refine lv_i2l hx hb dX10_faultOfSlips_141 rfl ?_
                  refine lv_topl (fun x317 ex317 => ?_)
                  refine lv_ldc2 (v := 97) hx hb hown (hts (.constantLong RX10 95 (97)) (by decide +kernel)) dX10_faultOfSlips_142 ?_
                  refine lv_ldc2 (v := 100) hx hb hown (hts (.constantLong RX10 97 (100)) (by decide +kernel)) dX10_faultOfSlips_145 ?_
                  refine ca_iR (va_runS (As := [.long x317, .long 97, .long 100]) (rest := []) ⟨hx, hb, hml, hown, hts⟩ (m_in l G H.size x317 97 100 x3 97 100 ex317 (by decide) (by decide)) (va_cwS 3 hts gX10_faultOfSlips_X10_in rfl rfl rfl (by decide +kernel) ⟨by decide +kernel, by decide +kernel⟩) (pre_S E hP hD hS hA [] (by decide) rfl) rfl rfl hl.1 rfl (lv_room (Nat.le_of_ble_eq_true rfl)) dX10_faultOfSlips_148 ⟨by decide +kernel, by decide +kernel⟩) hS hP hD hA [] rfl (fun r319 _ H locs w318 hP hS => ?_)
                  rcases w318 with ⟨rfl, b320⟩ | ⟨rfl, b320⟩
                  · refine lv_if_eq (tgt := 160) hx hb dX10_faultOfSlips_151 (by decide) (fun c321 => False.elim (by revert c321; decide)) (fun _ => ?_)
                    refine lv_iconst (v := 1) hx hb dX10_faultOfSlips_154 (by decide) ?_
                    refine lv_istore (lv' := [(6, .int 1), (5, .int x3), (4, .int (nI x)), (3, .int (nI si)), (2, .int (nI kd)), (1, .int (nI sa)), (0, .ref h1)]) hx hb dX10_faultOfSlips_155 hl (by decide) rfl (fun ls hl => ?_)
                    refine lv_goto (tgt := 163) hx hb dX10_faultOfSlips_157 (by decide) ?_
                    refine lv_iload hx hb dX10_faultOfSlips_163 (lv_at hl 0 rfl) ?_
                    refine lv_if_eq (tgt := 212) hx hb dX10_faultOfSlips_165 (by decide) (fun c322 => False.elim (by revert c322; decide)) (fun _ => ?_)
                    refine lv_aload_n hx hb dX10_faultOfSlips_168 rfl (lv_at hl 6 rfl) ?_
                    refine va_get (D := G.1) (ci := 6) (v := .ref a_slips) (C := RX10) (T := TX10) (N := 28) hx hb hts (fun _ h => List.mem_cons_of_mem _ (List.mem_append_right _ h)) hown E.K hP 0 rfl rfl 9 (by decide) (hts (.fieldLink RX10 22 "LastMapModel" "slips" "[I") (by decide +kernel)) (fun _ h9 => h9) rfl dX10_faultOfSlips_169 ?_
                    refine lv_aload_n hx hb dX10_faultOfSlips_172 rfl (lv_at hl 6 rfl) ?_
                    refine va_get (D := G.1) (ci := 6) (v := .int (nI sm)) (C := RX10) (T := TX10) (N := 28) hx hb hts (fun _ h => List.mem_cons_of_mem _ (List.mem_append_right _ h)) hown E.K hP 0 rfl rfl 10 (by decide) (hts (.fieldLink RX10 110 "LastMapModel" "slipMany" "I") (by decide +kernel)) (fun _ h9 => h9) rfl dX10_faultOfSlips_173 ?_
                    refine lv_bipush (v := 100) hx hb dX10_faultOfSlips_176 (by decide) ?_
                    refine lv_iload_n hx hb dX10_faultOfSlips_178 rfl (lv_at hl 4 rfl) ?_
                    refine lv_imul hx hb dX10_faultOfSlips_179 ?_
                    refine lv_topi (fun x323 ex323 => ?_)
                    obtain rfl : x323 = nI (100 * kd) := by rw [ex323]; exact pk_mul 100 kd
                    refine lv_bipush (v := 10) hx hb dX10_faultOfSlips_180 (by decide) ?_
                    refine lv_iload_n hx hb dX10_faultOfSlips_182 rfl (lv_at hl 3 rfl) ?_
                    refine lv_imul hx hb dX10_faultOfSlips_183 ?_
                    refine lv_topi (fun x324 ex324 => ?_)
                    obtain rfl : x324 = nI (10 * si) := by rw [ex324]; exact pk_mul 10 si
                    refine lv_iadd hx hb dX10_faultOfSlips_184 ?_
                    refine lv_topi (fun x325 ex325 => ?_)
                    obtain rfl : x325 = nI ((100 * kd) + (10 * si)) := by rw [ex325]; exact nI_add (100 * kd) (10 * si)
                    refine lv_iload_n hx hb dX10_faultOfSlips_185 rfl (lv_at hl 4 rfl) ?_
                    refine lv_if_ne (tgt := 197) hx hb dX10_faultOfSlips_186 (by decide) (fun c326 => absurd (show nI kd = 0 by rw [(hsi (by omega)).1]; rfl) c326) (fun c326 => ?_)
                    refine lv_iload hx hb dX10_faultOfSlips_189 (lv_at hl 1 rfl) ?_
                    refine lv_bipush (v := 97) hx hb dX10_faultOfSlips_191 (by decide) ?_
                    refine lv_isub hx hb dX10_faultOfSlips_193 ?_
                    refine lv_topi (fun x327 ex327 => ?_)
                    obtain ⟨mg9, hmg9, emg9⟩ := sub97 b320
                    obtain rfl : x327 = nI mg9 := by rw [ex327]; exact emg9
                    refine lv_goto (tgt := 198) hx hb dX10_faultOfSlips_194 (by decide) ?_
                    refine lv_iadd hx hb dX10_faultOfSlips_198 ?_
                    refine lv_topi (fun x328 ex328 => ?_)
                    obtain rfl : x328 = nI (((100 * kd) + (10 * si)) + mg9) := by rw [ex328]; exact nI_add ((100 * kd) + (10 * si)) mg9
                    have hput : slipOK k (nI ((((100 * kd) + (10 * si)) + mg9))) := ⟨kd, si, mg9, by unfold okV; have q := hsi (by omega); omega, rfl⟩
                    refine va_iast hx hb E.K hP hD hS 2 1 rfl rfl (i := nI sm) (vp_in_nI (by omega) (by decide)) dX10_faultOfSlips_199 (fun H locs hP hD hS => ?_)
                    obtain ⟨f329, ef329⟩ : ∃ yy_ : Nat → Int32, yy_ = upd g (nI sm).toNatClampNeg (nI (((100 * kd) + (10 * si)) + mg9)) := ⟨_, rfl⟩
                    have hP : va_P G.1 vwCl ([(h1, .inr (6, [.int (nI k), v_maps, v_told, v_kinds, v_land, v_spades, v_part, .ref a_pad, .int (nI pm), .ref a_slips, .int (nI sm), v_made, v_queue, v_depth, v_by, v_from, v_come, v_offOf, v_parent, v_best, v_trees, v_least, v_sums, v_toward, v_kept, v_isKept, v_keptAt, v_isWriting])), (a_pad, .inl (gI G, 40, .inl fd)), (a_slips, .inl (gI G, 10, .inl f329))]) H := by rw [ef329]; exact hP
                    have hD : va_D A ([(h1, .inr (6, [.int (nI k), v_maps, v_told, v_kinds, v_land, v_spades, v_part, .ref a_pad, .int (nI pm), .ref a_slips, .int (nI sm), v_made, v_queue, v_depth, v_by, v_from, v_come, v_offOf, v_parent, v_best, v_trees, v_least, v_sums, v_toward, v_kept, v_isKept, v_keptAt, v_isWriting])), (a_pad, .inl (gI G, 40, .inl fd)), (a_slips, .inl (gI G, 10, .inl f329))]) := by rw [ef329]; exact hD
                    refine lv_aload_n hx hb dX10_faultOfSlips_200 rfl (lv_at hl 6 rfl) ?_
                    refine lv_dup hx hb dX10_faultOfSlips_201 rfl ?_
                    refine va_get (D := G.1) (ci := 6) (v := .int (nI sm)) (C := RX10) (T := TX10) (N := 28) hx hb hts (fun _ h => List.mem_cons_of_mem _ (List.mem_append_right _ h)) hown E.K hP 0 rfl rfl 10 (by decide) (hts (.fieldLink RX10 110 "LastMapModel" "slipMany" "I") (by decide +kernel)) (fun _ h9 => h9) rfl dX10_faultOfSlips_202 ?_
                    refine lv_iconst (v := 1) hx hb dX10_faultOfSlips_205 (by decide) ?_
                    refine lv_iadd hx hb dX10_faultOfSlips_206 ?_
                    refine lv_topi (fun x330 ex330 => ?_)
                    obtain rfl : x330 = nI (sm + 1) := by rw [ex330]; exact nI_add sm 1
                    refine va_put (D := G.1) (ci := 6) (v := .int (nI (sm + 1))) (ty := .int) (C := RX10) (T := TX10) (N := 28) hx hb hts (fun _ h => List.mem_cons_of_mem _ (List.mem_append_right _ h)) tyX10 tyX10_ok nmX10 hown E.K hP hD hS 0 rfl rfl 10 (by decide) (hts (.fieldLink RX10 110 "LastMapModel" "slipMany" "I") (by decide +kernel)) (fun _ h9 => h9) rfl (by decide +kernel) rfl rfl (Nat.le_of_ble_eq_true rfl) dX10_faultOfSlips_207 (fun H locs hP hD hS => ?_)
                    have hP : va_P G.1 vwCl ([(h1, .inr (6, [.int (nI k), v_maps, v_told, v_kinds, v_land, v_spades, v_part, .ref a_pad, .int (nI pm), .ref a_slips, .int (nI (sm + 1)), v_made, v_queue, v_depth, v_by, v_from, v_come, v_offOf, v_parent, v_best, v_trees, v_least, v_sums, v_toward, v_kept, v_isKept, v_keptAt, v_isWriting])), (a_pad, .inl (gI G, 40, .inl fd)), (a_slips, .inl (gI G, 10, .inl f329))]) H := hP
                    have hD : va_D A ([(h1, .inr (6, [.int (nI k), v_maps, v_told, v_kinds, v_land, v_spades, v_part, .ref a_pad, .int (nI pm), .ref a_slips, .int (nI (sm + 1)), v_made, v_queue, v_depth, v_by, v_from, v_come, v_offOf, v_parent, v_best, v_trees, v_least, v_sums, v_toward, v_kept, v_isKept, v_keptAt, v_isWriting])), (a_pad, .inl (gI G, 40, .inl fd)), (a_slips, .inl (gI G, 10, .inl f329))]) := hD
                    refine lv_iconst (v := 0) hx hb dX10_faultOfSlips_210 (by decide) ?_
                    refine lv_istore_n (lv' := [(1, .int 0), (6, .int 1), (5, .int x3), (4, .int (nI x)), (3, .int (nI si)), (2, .int (nI kd)), (0, .ref h1)]) hx hb dX10_faultOfSlips_211 rfl hl (by decide) rfl (fun ls hl => ?_)
                    obtain ⟨x331, ex331⟩ : ∃ yy_ : Int32, yy_ = (nI x) + 1 := ⟨_, rfl⟩
                    refine lv_iinc (v := x331) (lv' := [(4, .int x331), (1, .int 0), (6, .int 1), (5, .int x3), (3, .int (nI si)), (2, .int (nI kd)), (0, .ref h1)]) hx hb dX10_faultOfSlips_212 hl (k := 3) rfl (by rw [ex331]; rfl) (by decide) rfl (fun ls hl => ?_)
                    obtain rfl : x331 = nI (x + 1) := by rw [ex331]; exact nI_add x 1
                    refine lv_goto (tgt := 14) hx hb dX10_faultOfSlips_215 (by decide) ?_
                    refine ih14 ((x + 1), 0, kd, si, (sm + 1), f329) ⟨?_, ?_, ?_, ?_, ?_, ?_⟩ (by first | omega | (dsimp only; omega)) H locs ls (hP.sub [0, 1, 2] rfl) (hD.sub [0, 1, 2] (by decide) rfl) hS (lv_sub hl [0, 4, 5, 1, 6] rfl)
                    · try dsimp only
                      omega
                    · try dsimp only
                      omega
                    · try dsimp only
                      omega
                    · try dsimp only
                      omega
                    · try dsimp only
                      omega
                    · try dsimp only
                      rw [ef329, nI_clamp (by omega)]; exact slips_upd hsl hput
                  · refine lv_if_eq (tgt := 160) hx hb dX10_faultOfSlips_151 (by decide) (fun _ => ?_) (fun c332 => False.elim (by revert c332; decide))
                    refine lv_iload hx hb dX10_faultOfSlips_160 (lv_at hl 2 rfl) ?_
                    have hP9 := (hP.sub (ws' := [(h1, .inr (6, [.int (nI k), v_maps, v_told, v_kinds, v_land, v_spades, v_part, .ref a_pad, .int (nI pm), .ref a_slips, .int (nI sm), v_made, v_queue, v_depth, v_by, v_from, v_come, v_offOf, v_parent, v_best, v_trees, v_least, v_sums, v_toward, v_kept, v_isKept, v_keptAt, v_isWriting])), (a_pad, .inl (gI G, 40, .inl fd)), (a_slips, .inl (gI G, 10, .inl g))]) [0, 1, 2] rfl)
                    have hD9 := (hD.sub (ws' := [(h1, .inr (6, [.int (nI k), v_maps, v_told, v_kinds, v_land, v_spades, v_part, .ref a_pad, .int (nI pm), .ref a_slips, .int (nI sm), v_made, v_queue, v_depth, v_by, v_from, v_come, v_offOf, v_parent, v_best, v_trees, v_least, v_sums, v_toward, v_kept, v_isKept, v_keptAt, v_isWriting])), (a_pad, .inl (gI G, 40, .inl fd)), (a_slips, .inl (gI G, 10, .inl g))]) [0, 1, 2] (by decide) rfl)
                    exact W.iret (v := (nI x)) hx hb hr (fun t9_ ht9_ hW9_ => ⟨⟨nI x, (sm, g), rfl, ⟨by omega, hsl, Or.inr ⟨x, by omega, rfl⟩⟩, by rw [ht9_]; exact hP9, hD9⟩, hS.F ht9_⟩) hS.2.2 dX10_faultOfSlips_162
            · have c295 : ¬ kd = 1 := fun h9_ => c295 ((nI_eq (a := kd) (b := 1) (by omega) (by omega)).mpr h9_)
              refine lv_iload_n hx hb dX10_faultOfSlips_84 rfl (lv_at hl 4 rfl) ?_
              refine lv_iconst (v := 2) hx hb dX10_faultOfSlips_85 (by decide) ?_
              refine lv_icmp_ne (tgt := 99) hx hb dX10_faultOfSlips_86 (by decide) (fun c333 => ?_) (fun c333 => ?_)
              · have c333 : ¬ kd = 2 := fun h9_ => c333 ((nI_eq (a := kd) (b := 2) (by omega) (by omega)).mpr h9_)
                refine lv_aload_n hx hb dX10_faultOfSlips_99 rfl (lv_at hl 6 rfl) ?_
                refine va_get (D := G.1) (ci := 6) (v := .int (nI k)) (C := RX10) (T := TX10) (N := 28) hx hb hts (fun _ h => List.mem_cons_of_mem _ (List.mem_append_right _ h)) hown E.K hP 0 rfl rfl 0 (by decide) (hts (.fieldLink RX10 67 "LastMapModel" "sites" "I") (by decide +kernel)) (fun _ h9 => h9) rfl dX10_faultOfSlips_100 ?_
                refine lv_iconst (v := 1) hx hb dX10_faultOfSlips_103 (by decide) ?_
                refine lv_isub hx hb dX10_faultOfSlips_104 ?_
                refine lv_topi (fun x334 ex334 => ?_)
                obtain rfl : x334 = nI (k - 1) := by rw [ex334]; exact pk_sub (show 1 ≤ k by omega)
                refine lv_i2l hx hb dX10_faultOfSlips_105 rfl ?_
                refine lv_topl (fun x335 ex335 => ?_)
                refine ca_iR (va_runS (As := [.long x294, .long 0, .long x335]) (rest := []) ⟨hx, hb, hml, hown, hts⟩ (m_in l G H.size x294 0 x335 x293 0 (nI (k - 1)) ex294 (by decide) ex335) (va_cwS 3 hts gX10_faultOfSlips_X10_in rfl rfl rfl (by decide +kernel) ⟨by decide +kernel, by decide +kernel⟩) (pre_S E hP hD hS hA [] (by decide) rfl) rfl rfl hl.1 rfl (lv_room (Nat.le_of_ble_eq_true rfl)) dX10_faultOfSlips_106 ⟨by decide +kernel, by decide +kernel⟩) hS hP hD hA [] rfl (fun r337 _ H locs w336 hP hS => ?_)
                rcases w336 with ⟨rfl, b338⟩ | ⟨rfl, b338⟩
                · refine lv_if_eq (tgt := 134) hx hb dX10_faultOfSlips_109 (by decide) (fun c339 => False.elim (by revert c339; decide)) (fun _ => ?_)
                  refine lv_iload hx hb dX10_faultOfSlips_112 (lv_at hl 1 rfl) ?_
                  refine lv_bipush (v := 48) hx hb dX10_faultOfSlips_114 (by decide) ?_
                  refine lv_isub hx hb dX10_faultOfSlips_116 ?_
                  refine lv_topi (fun x340 ex340 => ?_)
                  obtain ⟨si9, hsi9, esi9⟩ := inRn (by omega) b338
                  obtain rfl : x340 = nI si9 := by rw [ex340, ← ex293]; exact esi9
                  refine lv_istore_n (lv' := [(3, .int (nI si9)), (6, .int 0), (5, .int x3), (4, .int (nI x)), (2, .int (nI kd)), (1, .int (nI sa)), (0, .ref h1)]) hx hb dX10_faultOfSlips_117 rfl hl (by decide) rfl (fun ls hl => ?_)
                  refine lv_iconst (v := 2) hx hb dX10_faultOfSlips_118 (by decide) ?_
                  refine lv_istore_n (lv' := [(1, .int 2), (3, .int (nI si9)), (6, .int 0), (5, .int x3), (4, .int (nI x)), (2, .int (nI kd)), (0, .ref h1)]) hx hb dX10_faultOfSlips_119 rfl hl (by decide) rfl (fun ls hl => ?_)
                  refine lv_iload_n hx hb dX10_faultOfSlips_120 rfl (lv_at hl 5 rfl) ?_
                  refine lv_if_eq (tgt := 128) hx hb dX10_faultOfSlips_121 (by decide) (fun c341 => ?_) (fun c341 => ?_)
                  · have c341 : kd = 0 := (nI_eq (a := kd) (b := 0) (by omega) (by omega)).mp c341
                    refine lv_iconst (v := 0) hx hb dX10_faultOfSlips_128 (by decide) ?_
                    refine lv_istore (lv' := [(6, .int 0), (1, .int 2), (3, .int (nI si9)), (5, .int x3), (4, .int (nI x)), (2, .int (nI kd)), (0, .ref h1)]) hx hb dX10_faultOfSlips_129 hl (by decide) rfl (fun ls hl => ?_)
                    refine lv_goto (tgt := 163) hx hb dX10_faultOfSlips_131 (by decide) ?_
                    refine lv_iload hx hb dX10_faultOfSlips_163 (lv_at hl 0 rfl) ?_
                    refine lv_if_eq (tgt := 212) hx hb dX10_faultOfSlips_165 (by decide) (fun _ => ?_) (fun c342 => False.elim (by revert c342; decide))
                    obtain ⟨x343, ex343⟩ : ∃ yy_ : Int32, yy_ = (nI x) + 1 := ⟨_, rfl⟩
                    refine lv_iinc (v := x343) (lv' := [(4, .int x343), (6, .int 0), (1, .int 2), (3, .int (nI si9)), (5, .int x3), (2, .int (nI kd)), (0, .ref h1)]) hx hb dX10_faultOfSlips_212 hl (k := 4) rfl (by rw [ex343]; rfl) (by decide) rfl (fun ls hl => ?_)
                    obtain rfl : x343 = nI (x + 1) := by rw [ex343]; exact nI_add x 1
                    refine lv_goto (tgt := 14) hx hb dX10_faultOfSlips_215 (by decide) ?_
                    refine ih14 ((x + 1), 2, kd, si9, sm, g) ⟨?_, ?_, ?_, ?_, ?_, ?_⟩ (by first | omega | (dsimp only; omega)) H locs ls (hP.sub [0, 1, 2] rfl) (hD.sub [0, 1, 2] (by decide) rfl) hS (lv_sub hl [0, 3, 5, 2, 6] rfl)
                    · try dsimp only
                      omega
                    · try dsimp only
                      omega
                    · try dsimp only
                      omega
                    · try dsimp only
                      omega
                    · try dsimp only
                      omega
                    · try dsimp only
                      exact hsl
                  · have c341 : ¬ kd = 0 := fun h9_ => c341 ((nI_eq (a := kd) (b := 0) (by omega) (by omega)).mpr h9_)
                    refine lv_iconst (v := 1) hx hb dX10_faultOfSlips_124 (by decide) ?_
                    refine lv_goto (tgt := 129) hx hb dX10_faultOfSlips_125 (by decide) ?_
                    refine lv_istore (lv' := [(6, .int 1), (1, .int 2), (3, .int (nI si9)), (5, .int x3), (4, .int (nI x)), (2, .int (nI kd)), (0, .ref h1)]) hx hb dX10_faultOfSlips_129 hl (by decide) rfl (fun ls hl => ?_)
                    refine lv_goto (tgt := 163) hx hb dX10_faultOfSlips_131 (by decide) ?_
                    refine lv_iload hx hb dX10_faultOfSlips_163 (lv_at hl 0 rfl) ?_
                    refine lv_if_eq (tgt := 212) hx hb dX10_faultOfSlips_165 (by decide) (fun c344 => False.elim (by revert c344; decide)) (fun _ => ?_)
                    refine lv_aload_n hx hb dX10_faultOfSlips_168 rfl (lv_at hl 6 rfl) ?_
                    refine va_get (D := G.1) (ci := 6) (v := .ref a_slips) (C := RX10) (T := TX10) (N := 28) hx hb hts (fun _ h => List.mem_cons_of_mem _ (List.mem_append_right _ h)) hown E.K hP 0 rfl rfl 9 (by decide) (hts (.fieldLink RX10 22 "LastMapModel" "slips" "[I") (by decide +kernel)) (fun _ h9 => h9) rfl dX10_faultOfSlips_169 ?_
                    refine lv_aload_n hx hb dX10_faultOfSlips_172 rfl (lv_at hl 6 rfl) ?_
                    refine va_get (D := G.1) (ci := 6) (v := .int (nI sm)) (C := RX10) (T := TX10) (N := 28) hx hb hts (fun _ h => List.mem_cons_of_mem _ (List.mem_append_right _ h)) hown E.K hP 0 rfl rfl 10 (by decide) (hts (.fieldLink RX10 110 "LastMapModel" "slipMany" "I") (by decide +kernel)) (fun _ h9 => h9) rfl dX10_faultOfSlips_173 ?_
                    refine lv_bipush (v := 100) hx hb dX10_faultOfSlips_176 (by decide) ?_
                    refine lv_iload_n hx hb dX10_faultOfSlips_178 rfl (lv_at hl 5 rfl) ?_
                    refine lv_imul hx hb dX10_faultOfSlips_179 ?_
                    refine lv_topi (fun x345 ex345 => ?_)
                    obtain rfl : x345 = nI (100 * kd) := by rw [ex345]; exact pk_mul 100 kd
                    refine lv_bipush (v := 10) hx hb dX10_faultOfSlips_180 (by decide) ?_
                    refine lv_iload_n hx hb dX10_faultOfSlips_182 rfl (lv_at hl 2 rfl) ?_
                    refine lv_imul hx hb dX10_faultOfSlips_183 ?_
                    refine lv_topi (fun x346 ex346 => ?_)
                    obtain rfl : x346 = nI (10 * si9) := by rw [ex346]; exact pk_mul 10 si9
                    refine lv_iadd hx hb dX10_faultOfSlips_184 ?_
                    refine lv_topi (fun x347 ex347 => ?_)
                    obtain rfl : x347 = nI ((100 * kd) + (10 * si9)) := by rw [ex347]; exact nI_add (100 * kd) (10 * si9)
                    refine lv_iload_n hx hb dX10_faultOfSlips_185 rfl (lv_at hl 5 rfl) ?_
                    refine lv_if_ne (tgt := 197) hx hb dX10_faultOfSlips_186 (by decide) (fun c348 => ?_) (fun c348 => False.elim (by have q := (nI_eq (a := kd) (b := 0) (by omega) (by omega)).mp c348; omega))
                    refine lv_iconst (v := 0) hx hb dX10_faultOfSlips_197 (by decide) ?_
                    refine lv_iadd hx hb dX10_faultOfSlips_198 ?_
                    refine lv_topi (fun x349 ex349 => ?_)
                    obtain rfl : x349 = nI (((100 * kd) + (10 * si9)) + 0) := by rw [ex349]; exact nI_add ((100 * kd) + (10 * si9)) 0
                    have hput : slipOK k (nI ((((100 * kd) + (10 * si9)) + 0))) := ⟨kd, si9, 0, by unfold okV; omega, rfl⟩
                    refine va_iast hx hb E.K hP hD hS 2 1 rfl rfl (i := nI sm) (vp_in_nI (by omega) (by decide)) dX10_faultOfSlips_199 (fun H locs hP hD hS => ?_)
                    obtain ⟨f350, ef350⟩ : ∃ yy_ : Nat → Int32, yy_ = upd g (nI sm).toNatClampNeg (nI (((100 * kd) + (10 * si9)) + 0)) := ⟨_, rfl⟩
                    have hP : va_P G.1 vwCl ([(h1, .inr (6, [.int (nI k), v_maps, v_told, v_kinds, v_land, v_spades, v_part, .ref a_pad, .int (nI pm), .ref a_slips, .int (nI sm), v_made, v_queue, v_depth, v_by, v_from, v_come, v_offOf, v_parent, v_best, v_trees, v_least, v_sums, v_toward, v_kept, v_isKept, v_keptAt, v_isWriting])), (a_pad, .inl (gI G, 40, .inl fd)), (a_slips, .inl (gI G, 10, .inl f350))]) H := by rw [ef350]; exact hP
                    have hD : va_D A ([(h1, .inr (6, [.int (nI k), v_maps, v_told, v_kinds, v_land, v_spades, v_part, .ref a_pad, .int (nI pm), .ref a_slips, .int (nI sm), v_made, v_queue, v_depth, v_by, v_from, v_come, v_offOf, v_parent, v_best, v_trees, v_least, v_sums, v_toward, v_kept, v_isKept, v_keptAt, v_isWriting])), (a_pad, .inl (gI G, 40, .inl fd)), (a_slips, .inl (gI G, 10, .inl f350))]) := by rw [ef350]; exact hD
                    refine lv_aload_n hx hb dX10_faultOfSlips_200 rfl (lv_at hl 6 rfl) ?_
                    refine lv_dup hx hb dX10_faultOfSlips_201 rfl ?_
                    refine va_get (D := G.1) (ci := 6) (v := .int (nI sm)) (C := RX10) (T := TX10) (N := 28) hx hb hts (fun _ h => List.mem_cons_of_mem _ (List.mem_append_right _ h)) hown E.K hP 0 rfl rfl 10 (by decide) (hts (.fieldLink RX10 110 "LastMapModel" "slipMany" "I") (by decide +kernel)) (fun _ h9 => h9) rfl dX10_faultOfSlips_202 ?_
                    refine lv_iconst (v := 1) hx hb dX10_faultOfSlips_205 (by decide) ?_
                    refine lv_iadd hx hb dX10_faultOfSlips_206 ?_
                    refine lv_topi (fun x351 ex351 => ?_)
                    obtain rfl : x351 = nI (sm + 1) := by rw [ex351]; exact nI_add sm 1
                    refine va_put (D := G.1) (ci := 6) (v := .int (nI (sm + 1))) (ty := .int) (C := RX10) (T := TX10) (N := 28) hx hb hts (fun _ h => List.mem_cons_of_mem _ (List.mem_append_right _ h)) tyX10 tyX10_ok nmX10 hown E.K hP hD hS 0 rfl rfl 10 (by decide) (hts (.fieldLink RX10 110 "LastMapModel" "slipMany" "I") (by decide +kernel)) (fun _ h9 => h9) rfl (by decide +kernel) rfl rfl (Nat.le_of_ble_eq_true rfl) dX10_faultOfSlips_207 (fun H locs hP hD hS => ?_)
                    have hP : va_P G.1 vwCl ([(h1, .inr (6, [.int (nI k), v_maps, v_told, v_kinds, v_land, v_spades, v_part, .ref a_pad, .int (nI pm), .ref a_slips, .int (nI (sm + 1)), v_made, v_queue, v_depth, v_by, v_from, v_come, v_offOf, v_parent, v_best, v_trees, v_least, v_sums, v_toward, v_kept, v_isKept, v_keptAt, v_isWriting])), (a_pad, .inl (gI G, 40, .inl fd)), (a_slips, .inl (gI G, 10, .inl f350))]) H := hP
                    have hD : va_D A ([(h1, .inr (6, [.int (nI k), v_maps, v_told, v_kinds, v_land, v_spades, v_part, .ref a_pad, .int (nI pm), .ref a_slips, .int (nI (sm + 1)), v_made, v_queue, v_depth, v_by, v_from, v_come, v_offOf, v_parent, v_best, v_trees, v_least, v_sums, v_toward, v_kept, v_isKept, v_keptAt, v_isWriting])), (a_pad, .inl (gI G, 40, .inl fd)), (a_slips, .inl (gI G, 10, .inl f350))]) := hD
                    refine lv_iconst (v := 0) hx hb dX10_faultOfSlips_210 (by decide) ?_
                    refine lv_istore_n (lv' := [(1, .int 0), (6, .int 1), (3, .int (nI si9)), (5, .int x3), (4, .int (nI x)), (2, .int (nI kd)), (0, .ref h1)]) hx hb dX10_faultOfSlips_211 rfl hl (by decide) rfl (fun ls hl => ?_)
                    obtain ⟨x352, ex352⟩ : ∃ yy_ : Int32, yy_ = (nI x) + 1 := ⟨_, rfl⟩
                    refine lv_iinc (v := x352) (lv' := [(4, .int x352), (1, .int 0), (6, .int 1), (3, .int (nI si9)), (5, .int x3), (2, .int (nI kd)), (0, .ref h1)]) hx hb dX10_faultOfSlips_212 hl (k := 4) rfl (by rw [ex352]; rfl) (by decide) rfl (fun ls hl => ?_)
                    obtain rfl : x352 = nI (x + 1) := by rw [ex352]; exact nI_add x 1
                    refine lv_goto (tgt := 14) hx hb dX10_faultOfSlips_215 (by decide) ?_
                    refine ih14 ((x + 1), 0, kd, si9, (sm + 1), f350) ⟨?_, ?_, ?_, ?_, ?_, ?_⟩ (by first | omega | (dsimp only; omega)) H locs ls (hP.sub [0, 1, 2] rfl) (hD.sub [0, 1, 2] (by decide) rfl) hS (lv_sub hl [0, 3, 5, 1, 6] rfl)
                    · try dsimp only
                      omega
                    · try dsimp only
                      omega
                    · try dsimp only
                      omega
                    · try dsimp only
                      omega
                    · try dsimp only
                      omega
                    · try dsimp only
                      rw [ef350, nI_clamp (by omega)]; exact slips_upd hsl hput
                · refine lv_if_eq (tgt := 134) hx hb dX10_faultOfSlips_109 (by decide) (fun _ => ?_) (fun c353 => False.elim (by revert c353; decide))
                  refine lv_iload_n hx hb dX10_faultOfSlips_134 rfl (lv_at hl 5 rfl) ?_
                  refine lv_iconst (v := 2) hx hb dX10_faultOfSlips_135 (by decide) ?_
                  refine lv_icmp_ne (tgt := 160) hx hb dX10_faultOfSlips_136 (by decide) (fun c354 => ?_) (fun c354 => ?_)
                  · have c354 : ¬ sa = 2 := fun h9_ => c354 ((nI_eq (a := sa) (b := 2) (by omega) (by omega)).mpr h9_)
                    refine lv_iload hx hb dX10_faultOfSlips_160 (lv_at hl 2 rfl) ?_
                    have hP9 := (hP.sub (ws' := [(h1, .inr (6, [.int (nI k), v_maps, v_told, v_kinds, v_land, v_spades, v_part, .ref a_pad, .int (nI pm), .ref a_slips, .int (nI sm), v_made, v_queue, v_depth, v_by, v_from, v_come, v_offOf, v_parent, v_best, v_trees, v_least, v_sums, v_toward, v_kept, v_isKept, v_keptAt, v_isWriting])), (a_pad, .inl (gI G, 40, .inl fd)), (a_slips, .inl (gI G, 10, .inl g))]) [0, 1, 2] rfl)
                    have hD9 := (hD.sub (ws' := [(h1, .inr (6, [.int (nI k), v_maps, v_told, v_kinds, v_land, v_spades, v_part, .ref a_pad, .int (nI pm), .ref a_slips, .int (nI sm), v_made, v_queue, v_depth, v_by, v_from, v_come, v_offOf, v_parent, v_best, v_trees, v_least, v_sums, v_toward, v_kept, v_isKept, v_keptAt, v_isWriting])), (a_pad, .inl (gI G, 40, .inl fd)), (a_slips, .inl (gI G, 10, .inl g))]) [0, 1, 2] (by decide) rfl)
                    exact W.iret (v := (nI x)) hx hb hr (fun t9_ ht9_ hW9_ => ⟨⟨nI x, (sm, g), rfl, ⟨by omega, hsl, Or.inr ⟨x, by omega, rfl⟩⟩, by rw [ht9_]; exact hP9, hD9⟩, hS.F ht9_⟩) hS.2.2 dX10_faultOfSlips_162
                  · have c354 : sa = 2 := (nI_eq (a := sa) (b := 2) (by omega) (by omega)).mp c354
                    refine lv_iload hx hb dX10_faultOfSlips_139 (lv_at hl 1 rfl) ?_
                    refine lv_i2l hx hb dX10_faultOfSlips_141 rfl ?_
                    refine lv_topl (fun x355 ex355 => ?_)
                    refine lv_ldc2 (v := 97) hx hb hown (hts (.constantLong RX10 95 (97)) (by decide +kernel)) dX10_faultOfSlips_142 ?_
                    refine lv_ldc2 (v := 100) hx hb hown (hts (.constantLong RX10 97 (100)) (by decide +kernel)) dX10_faultOfSlips_145 ?_
                    refine ca_iR (va_runS (As := [.long x355, .long 97, .long 100]) (rest := []) ⟨hx, hb, hml, hown, hts⟩ (m_in l G H.size x355 97 100 x3 97 100 ex355 (by decide) (by decide)) (va_cwS 3 hts gX10_faultOfSlips_X10_in rfl rfl rfl (by decide +kernel) ⟨by decide +kernel, by decide +kernel⟩) (pre_S E hP hD hS hA [] (by decide) rfl) rfl rfl hl.1 rfl (lv_room (Nat.le_of_ble_eq_true rfl)) dX10_faultOfSlips_148 ⟨by decide +kernel, by decide +kernel⟩) hS hP hD hA [] rfl (fun r357 _ H locs w356 hP hS => ?_)
                    rcases w356 with ⟨rfl, b358⟩ | ⟨rfl, b358⟩
                    · refine lv_if_eq (tgt := 160) hx hb dX10_faultOfSlips_151 (by decide) (fun c359 => False.elim (by revert c359; decide)) (fun _ => ?_)
                      refine lv_iconst (v := 1) hx hb dX10_faultOfSlips_154 (by decide) ?_
                      refine lv_istore (lv' := [(6, .int 1), (5, .int x3), (4, .int (nI x)), (3, .int (nI si)), (2, .int (nI kd)), (1, .int (nI sa)), (0, .ref h1)]) hx hb dX10_faultOfSlips_155 hl (by decide) rfl (fun ls hl => ?_)
                      refine lv_goto (tgt := 163) hx hb dX10_faultOfSlips_157 (by decide) ?_
                      refine lv_iload hx hb dX10_faultOfSlips_163 (lv_at hl 0 rfl) ?_
                      refine lv_if_eq (tgt := 212) hx hb dX10_faultOfSlips_165 (by decide) (fun c360 => False.elim (by revert c360; decide)) (fun _ => ?_)
                      refine lv_aload_n hx hb dX10_faultOfSlips_168 rfl (lv_at hl 6 rfl) ?_
                      refine va_get (D := G.1) (ci := 6) (v := .ref a_slips) (C := RX10) (T := TX10) (N := 28) hx hb hts (fun _ h => List.mem_cons_of_mem _ (List.mem_append_right _ h)) hown E.K hP 0 rfl rfl 9 (by decide) (hts (.fieldLink RX10 22 "LastMapModel" "slips" "[I") (by decide +kernel)) (fun _ h9 => h9) rfl dX10_faultOfSlips_169 ?_
                      refine lv_aload_n hx hb dX10_faultOfSlips_172 rfl (lv_at hl 6 rfl) ?_
                      refine va_get (D := G.1) (ci := 6) (v := .int (nI sm)) (C := RX10) (T := TX10) (N := 28) hx hb hts (fun _ h => List.mem_cons_of_mem _ (List.mem_append_right _ h)) hown E.K hP 0 rfl rfl 10 (by decide) (hts (.fieldLink RX10 110 "LastMapModel" "slipMany" "I") (by decide +kernel)) (fun _ h9 => h9) rfl dX10_faultOfSlips_173 ?_
                      refine lv_bipush (v := 100) hx hb dX10_faultOfSlips_176 (by decide) ?_
                      refine lv_iload_n hx hb dX10_faultOfSlips_178 rfl (lv_at hl 4 rfl) ?_
                      refine lv_imul hx hb dX10_faultOfSlips_179 ?_
                      refine lv_topi (fun x361 ex361 => ?_)
                      obtain rfl : x361 = nI (100 * kd) := by rw [ex361]; exact pk_mul 100 kd
                      refine lv_bipush (v := 10) hx hb dX10_faultOfSlips_180 (by decide) ?_
                      refine lv_iload_n hx hb dX10_faultOfSlips_182 rfl (lv_at hl 3 rfl) ?_
                      refine lv_imul hx hb dX10_faultOfSlips_183 ?_
                      refine lv_topi (fun x362 ex362 => ?_)
                      obtain rfl : x362 = nI (10 * si) := by rw [ex362]; exact pk_mul 10 si
                      refine lv_iadd hx hb dX10_faultOfSlips_184 ?_
                      refine lv_topi (fun x363 ex363 => ?_)
                      obtain rfl : x363 = nI ((100 * kd) + (10 * si)) := by rw [ex363]; exact nI_add (100 * kd) (10 * si)
                      refine lv_iload_n hx hb dX10_faultOfSlips_185 rfl (lv_at hl 4 rfl) ?_
                      refine lv_if_ne (tgt := 197) hx hb dX10_faultOfSlips_186 (by decide) (fun c364 => absurd (show nI kd = 0 by rw [(hsi (by omega)).1]; rfl) c364) (fun c364 => ?_)
                      refine lv_iload hx hb dX10_faultOfSlips_189 (lv_at hl 1 rfl) ?_
                      refine lv_bipush (v := 97) hx hb dX10_faultOfSlips_191 (by decide) ?_
                      refine lv_isub hx hb dX10_faultOfSlips_193 ?_
                      refine lv_topi (fun x365 ex365 => ?_)
                      obtain ⟨mg9, hmg9, emg9⟩ := sub97 b358
                      obtain rfl : x365 = nI mg9 := by rw [ex365]; exact emg9
                      refine lv_goto (tgt := 198) hx hb dX10_faultOfSlips_194 (by decide) ?_
                      refine lv_iadd hx hb dX10_faultOfSlips_198 ?_
                      refine lv_topi (fun x366 ex366 => ?_)
                      obtain rfl : x366 = nI (((100 * kd) + (10 * si)) + mg9) := by rw [ex366]; exact nI_add ((100 * kd) + (10 * si)) mg9
                      have hput : slipOK k (nI ((((100 * kd) + (10 * si)) + mg9))) := ⟨kd, si, mg9, by unfold okV; have q := hsi (by omega); omega, rfl⟩
                      refine va_iast hx hb E.K hP hD hS 2 1 rfl rfl (i := nI sm) (vp_in_nI (by omega) (by decide)) dX10_faultOfSlips_199 (fun H locs hP hD hS => ?_)
                      obtain ⟨f367, ef367⟩ : ∃ yy_ : Nat → Int32, yy_ = upd g (nI sm).toNatClampNeg (nI (((100 * kd) + (10 * si)) + mg9)) := ⟨_, rfl⟩
                      have hP : va_P G.1 vwCl ([(h1, .inr (6, [.int (nI k), v_maps, v_told, v_kinds, v_land, v_spades, v_part, .ref a_pad, .int (nI pm), .ref a_slips, .int (nI sm), v_made, v_queue, v_depth, v_by, v_from, v_come, v_offOf, v_parent, v_best, v_trees, v_least, v_sums, v_toward, v_kept, v_isKept, v_keptAt, v_isWriting])), (a_pad, .inl (gI G, 40, .inl fd)), (a_slips, .inl (gI G, 10, .inl f367))]) H := by rw [ef367]; exact hP
                      have hD : va_D A ([(h1, .inr (6, [.int (nI k), v_maps, v_told, v_kinds, v_land, v_spades, v_part, .ref a_pad, .int (nI pm), .ref a_slips, .int (nI sm), v_made, v_queue, v_depth, v_by, v_from, v_come, v_offOf, v_parent, v_best, v_trees, v_least, v_sums, v_toward, v_kept, v_isKept, v_keptAt, v_isWriting])), (a_pad, .inl (gI G, 40, .inl fd)), (a_slips, .inl (gI G, 10, .inl f367))]) := by rw [ef367]; exact hD
                      refine lv_aload_n hx hb dX10_faultOfSlips_200 rfl (lv_at hl 6 rfl) ?_
                      refine lv_dup hx hb dX10_faultOfSlips_201 rfl ?_
                      refine va_get (D := G.1) (ci := 6) (v := .int (nI sm)) (C := RX10) (T := TX10) (N := 28) hx hb hts (fun _ h => List.mem_cons_of_mem _ (List.mem_append_right _ h)) hown E.K hP 0 rfl rfl 10 (by decide) (hts (.fieldLink RX10 110 "LastMapModel" "slipMany" "I") (by decide +kernel)) (fun _ h9 => h9) rfl dX10_faultOfSlips_202 ?_
                      refine lv_iconst (v := 1) hx hb dX10_faultOfSlips_205 (by decide) ?_
                      refine lv_iadd hx hb dX10_faultOfSlips_206 ?_
                      refine lv_topi (fun x368 ex368 => ?_)
                      obtain rfl : x368 = nI (sm + 1) := by rw [ex368]; exact nI_add sm 1
                      refine va_put (D := G.1) (ci := 6) (v := .int (nI (sm + 1))) (ty := .int) (C := RX10) (T := TX10) (N := 28) hx hb hts (fun _ h => List.mem_cons_of_mem _ (List.mem_append_right _ h)) tyX10 tyX10_ok nmX10 hown E.K hP hD hS 0 rfl rfl 10 (by decide) (hts (.fieldLink RX10 110 "LastMapModel" "slipMany" "I") (by decide +kernel)) (fun _ h9 => h9) rfl (by decide +kernel) rfl rfl (Nat.le_of_ble_eq_true rfl) dX10_faultOfSlips_207 (fun H locs hP hD hS => ?_)
                      have hP : va_P G.1 vwCl ([(h1, .inr (6, [.int (nI k), v_maps, v_told, v_kinds, v_land, v_spades, v_part, .ref a_pad, .int (nI pm), .ref a_slips, .int (nI (sm + 1)), v_made, v_queue, v_depth, v_by, v_from, v_come, v_offOf, v_parent, v_best, v_trees, v_least, v_sums, v_toward, v_kept, v_isKept, v_keptAt, v_isWriting])), (a_pad, .inl (gI G, 40, .inl fd)), (a_slips, .inl (gI G, 10, .inl f367))]) H := hP
                      have hD : va_D A ([(h1, .inr (6, [.int (nI k), v_maps, v_told, v_kinds, v_land, v_spades, v_part, .ref a_pad, .int (nI pm), .ref a_slips, .int (nI (sm + 1)), v_made, v_queue, v_depth, v_by, v_from, v_come, v_offOf, v_parent, v_best, v_trees, v_least, v_sums, v_toward, v_kept, v_isKept, v_keptAt, v_isWriting])), (a_pad, .inl (gI G, 40, .inl fd)), (a_slips, .inl (gI G, 10, .inl f367))]) := hD
                      refine lv_iconst (v := 0) hx hb dX10_faultOfSlips_210 (by decide) ?_
                      refine lv_istore_n (lv' := [(1, .int 0), (6, .int 1), (5, .int x3), (4, .int (nI x)), (3, .int (nI si)), (2, .int (nI kd)), (0, .ref h1)]) hx hb dX10_faultOfSlips_211 rfl hl (by decide) rfl (fun ls hl => ?_)
                      obtain ⟨x369, ex369⟩ : ∃ yy_ : Int32, yy_ = (nI x) + 1 := ⟨_, rfl⟩
                      refine lv_iinc (v := x369) (lv' := [(4, .int x369), (1, .int 0), (6, .int 1), (5, .int x3), (3, .int (nI si)), (2, .int (nI kd)), (0, .ref h1)]) hx hb dX10_faultOfSlips_212 hl (k := 3) rfl (by rw [ex369]; rfl) (by decide) rfl (fun ls hl => ?_)
                      obtain rfl : x369 = nI (x + 1) := by rw [ex369]; exact nI_add x 1
                      refine lv_goto (tgt := 14) hx hb dX10_faultOfSlips_215 (by decide) ?_
                      refine ih14 ((x + 1), 0, kd, si, (sm + 1), f367) ⟨?_, ?_, ?_, ?_, ?_, ?_⟩ (by first | omega | (dsimp only; omega)) H locs ls (hP.sub [0, 1, 2] rfl) (hD.sub [0, 1, 2] (by decide) rfl) hS (lv_sub hl [0, 4, 5, 1, 6] rfl)
                      · try dsimp only
                        omega
                      · try dsimp only
                        omega
                      · try dsimp only
                        omega
                      · try dsimp only
                        omega
                      · try dsimp only
                        omega
                      · try dsimp only
                        rw [ef367, nI_clamp (by omega)]; exact slips_upd hsl hput
                    · refine lv_if_eq (tgt := 160) hx hb dX10_faultOfSlips_151 (by decide) (fun _ => ?_) (fun c370 => False.elim (by revert c370; decide))
                      refine lv_iload hx hb dX10_faultOfSlips_160 (lv_at hl 2 rfl) ?_
                      have hP9 := (hP.sub (ws' := [(h1, .inr (6, [.int (nI k), v_maps, v_told, v_kinds, v_land, v_spades, v_part, .ref a_pad, .int (nI pm), .ref a_slips, .int (nI sm), v_made, v_queue, v_depth, v_by, v_from, v_come, v_offOf, v_parent, v_best, v_trees, v_least, v_sums, v_toward, v_kept, v_isKept, v_keptAt, v_isWriting])), (a_pad, .inl (gI G, 40, .inl fd)), (a_slips, .inl (gI G, 10, .inl g))]) [0, 1, 2] rfl)
                      have hD9 := (hD.sub (ws' := [(h1, .inr (6, [.int (nI k), v_maps, v_told, v_kinds, v_land, v_spades, v_part, .ref a_pad, .int (nI pm), .ref a_slips, .int (nI sm), v_made, v_queue, v_depth, v_by, v_from, v_come, v_offOf, v_parent, v_best, v_trees, v_least, v_sums, v_toward, v_kept, v_isKept, v_keptAt, v_isWriting])), (a_pad, .inl (gI G, 40, .inl fd)), (a_slips, .inl (gI G, 10, .inl g))]) [0, 1, 2] (by decide) rfl)
                      exact W.iret (v := (nI x)) hx hb hr (fun t9_ ht9_ hW9_ => ⟨⟨nI x, (sm, g), rfl, ⟨by omega, hsl, Or.inr ⟨x, by omega, rfl⟩⟩, by rw [ht9_]; exact hP9, hD9⟩, hS.F ht9_⟩) hS.2.2 dX10_faultOfSlips_162
              · have c333 : kd = 2 := (nI_eq (a := kd) (b := 2) (by omega) (by omega)).mp c333
                refine lv_aload_n hx hb dX10_faultOfSlips_89 rfl (lv_at hl 6 rfl) ?_
                refine va_get (D := G.1) (ci := 6) (v := .int (nI k)) (C := RX10) (T := TX10) (N := 28) hx hb hts (fun _ h => List.mem_cons_of_mem _ (List.mem_append_right _ h)) hown E.K hP 0 rfl rfl 0 (by decide) (hts (.fieldLink RX10 67 "LastMapModel" "sites" "I") (by decide +kernel)) (fun _ h9 => h9) rfl dX10_faultOfSlips_90 ?_
                refine lv_iconst (v := 2) hx hb dX10_faultOfSlips_93 (by decide) ?_
                refine lv_isub hx hb dX10_faultOfSlips_94 ?_
                refine lv_topi (fun x371 ex371 => ?_)
                obtain rfl : x371 = nI (k - 2) := by rw [ex371]; exact pk_sub (show 2 ≤ k by omega)
                refine lv_i2l hx hb dX10_faultOfSlips_95 rfl ?_
                refine lv_topl (fun x372 ex372 => ?_)
                refine lv_goto (tgt := 106) hx hb dX10_faultOfSlips_96 (by decide) ?_
                refine ca_iR (va_runS (As := [.long x294, .long 0, .long x372]) (rest := []) ⟨hx, hb, hml, hown, hts⟩ (m_in l G H.size x294 0 x372 x293 0 (nI (k - 2)) ex294 (by decide) ex372) (va_cwS 3 hts gX10_faultOfSlips_X10_in rfl rfl rfl (by decide +kernel) ⟨by decide +kernel, by decide +kernel⟩) (pre_S E hP hD hS hA [] (by decide) rfl) rfl rfl hl.1 rfl (lv_room (Nat.le_of_ble_eq_true rfl)) dX10_faultOfSlips_106 ⟨by decide +kernel, by decide +kernel⟩) hS hP hD hA [] rfl (fun r374 _ H locs w373 hP hS => ?_)
                rcases w373 with ⟨rfl, b375⟩ | ⟨rfl, b375⟩
                · refine lv_if_eq (tgt := 134) hx hb dX10_faultOfSlips_109 (by decide) (fun c376 => False.elim (by revert c376; decide)) (fun _ => ?_)
                  refine lv_iload hx hb dX10_faultOfSlips_112 (lv_at hl 1 rfl) ?_
                  refine lv_bipush (v := 48) hx hb dX10_faultOfSlips_114 (by decide) ?_
                  refine lv_isub hx hb dX10_faultOfSlips_116 ?_
                  refine lv_topi (fun x377 ex377 => ?_)
                  obtain ⟨si9, hsi9, esi9⟩ := inRn (by omega) b375
                  obtain rfl : x377 = nI si9 := by rw [ex377, ← ex293]; exact esi9
                  refine lv_istore_n (lv' := [(3, .int (nI si9)), (6, .int 0), (5, .int x3), (4, .int (nI x)), (2, .int (nI kd)), (1, .int (nI sa)), (0, .ref h1)]) hx hb dX10_faultOfSlips_117 rfl hl (by decide) rfl (fun ls hl => ?_)
                  refine lv_iconst (v := 2) hx hb dX10_faultOfSlips_118 (by decide) ?_
                  refine lv_istore_n (lv' := [(1, .int 2), (3, .int (nI si9)), (6, .int 0), (5, .int x3), (4, .int (nI x)), (2, .int (nI kd)), (0, .ref h1)]) hx hb dX10_faultOfSlips_119 rfl hl (by decide) rfl (fun ls hl => ?_)
                  refine lv_iload_n hx hb dX10_faultOfSlips_120 rfl (lv_at hl 5 rfl) ?_
                  refine lv_if_eq (tgt := 128) hx hb dX10_faultOfSlips_121 (by decide) (fun c378 => ?_) (fun c378 => ?_)
                  · have c378 : kd = 0 := (nI_eq (a := kd) (b := 0) (by omega) (by omega)).mp c378
                    refine lv_iconst (v := 0) hx hb dX10_faultOfSlips_128 (by decide) ?_
                    refine lv_istore (lv' := [(6, .int 0), (1, .int 2), (3, .int (nI si9)), (5, .int x3), (4, .int (nI x)), (2, .int (nI kd)), (0, .ref h1)]) hx hb dX10_faultOfSlips_129 hl (by decide) rfl (fun ls hl => ?_)
                    refine lv_goto (tgt := 163) hx hb dX10_faultOfSlips_131 (by decide) ?_
                    refine lv_iload hx hb dX10_faultOfSlips_163 (lv_at hl 0 rfl) ?_
                    refine lv_if_eq (tgt := 212) hx hb dX10_faultOfSlips_165 (by decide) (fun _ => ?_) (fun c379 => False.elim (by revert c379; decide))
                    obtain ⟨x380, ex380⟩ : ∃ yy_ : Int32, yy_ = (nI x) + 1 := ⟨_, rfl⟩
                    refine lv_iinc (v := x380) (lv' := [(4, .int x380), (6, .int 0), (1, .int 2), (3, .int (nI si9)), (5, .int x3), (2, .int (nI kd)), (0, .ref h1)]) hx hb dX10_faultOfSlips_212 hl (k := 4) rfl (by rw [ex380]; rfl) (by decide) rfl (fun ls hl => ?_)
                    obtain rfl : x380 = nI (x + 1) := by rw [ex380]; exact nI_add x 1
                    refine lv_goto (tgt := 14) hx hb dX10_faultOfSlips_215 (by decide) ?_
                    refine ih14 ((x + 1), 2, kd, si9, sm, g) ⟨?_, ?_, ?_, ?_, ?_, ?_⟩ (by first | omega | (dsimp only; omega)) H locs ls (hP.sub [0, 1, 2] rfl) (hD.sub [0, 1, 2] (by decide) rfl) hS (lv_sub hl [0, 3, 5, 2, 6] rfl)
                    · try dsimp only
                      omega
                    · try dsimp only
                      omega
                    · try dsimp only
                      omega
                    · try dsimp only
                      omega
                    · try dsimp only
                      omega
                    · try dsimp only
                      exact hsl
                  · have c378 : ¬ kd = 0 := fun h9_ => c378 ((nI_eq (a := kd) (b := 0) (by omega) (by omega)).mpr h9_)
                    refine lv_iconst (v := 1) hx hb dX10_faultOfSlips_124 (by decide) ?_
                    refine lv_goto (tgt := 129) hx hb dX10_faultOfSlips_125 (by decide) ?_
                    refine lv_istore (lv' := [(6, .int 1), (1, .int 2), (3, .int (nI si9)), (5, .int x3), (4, .int (nI x)), (2, .int (nI kd)), (0, .ref h1)]) hx hb dX10_faultOfSlips_129 hl (by decide) rfl (fun ls hl => ?_)
                    refine lv_goto (tgt := 163) hx hb dX10_faultOfSlips_131 (by decide) ?_
                    refine lv_iload hx hb dX10_faultOfSlips_163 (lv_at hl 0 rfl) ?_
                    refine lv_if_eq (tgt := 212) hx hb dX10_faultOfSlips_165 (by decide) (fun c381 => False.elim (by revert c381; decide)) (fun _ => ?_)
                    refine lv_aload_n hx hb dX10_faultOfSlips_168 rfl (lv_at hl 6 rfl) ?_
                    refine va_get (D := G.1) (ci := 6) (v := .ref a_slips) (C := RX10) (T := TX10) (N := 28) hx hb hts (fun _ h => List.mem_cons_of_mem _ (List.mem_append_right _ h)) hown E.K hP 0 rfl rfl 9 (by decide) (hts (.fieldLink RX10 22 "LastMapModel" "slips" "[I") (by decide +kernel)) (fun _ h9 => h9) rfl dX10_faultOfSlips_169 ?_
                    refine lv_aload_n hx hb dX10_faultOfSlips_172 rfl (lv_at hl 6 rfl) ?_
                    refine va_get (D := G.1) (ci := 6) (v := .int (nI sm)) (C := RX10) (T := TX10) (N := 28) hx hb hts (fun _ h => List.mem_cons_of_mem _ (List.mem_append_right _ h)) hown E.K hP 0 rfl rfl 10 (by decide) (hts (.fieldLink RX10 110 "LastMapModel" "slipMany" "I") (by decide +kernel)) (fun _ h9 => h9) rfl dX10_faultOfSlips_173 ?_
                    refine lv_bipush (v := 100) hx hb dX10_faultOfSlips_176 (by decide) ?_
                    refine lv_iload_n hx hb dX10_faultOfSlips_178 rfl (lv_at hl 5 rfl) ?_
                    refine lv_imul hx hb dX10_faultOfSlips_179 ?_
                    refine lv_topi (fun x382 ex382 => ?_)
                    obtain rfl : x382 = nI (100 * kd) := by rw [ex382]; exact pk_mul 100 kd
                    refine lv_bipush (v := 10) hx hb dX10_faultOfSlips_180 (by decide) ?_
                    refine lv_iload_n hx hb dX10_faultOfSlips_182 rfl (lv_at hl 2 rfl) ?_
                    refine lv_imul hx hb dX10_faultOfSlips_183 ?_
                    refine lv_topi (fun x383 ex383 => ?_)
                    obtain rfl : x383 = nI (10 * si9) := by rw [ex383]; exact pk_mul 10 si9
                    refine lv_iadd hx hb dX10_faultOfSlips_184 ?_
                    refine lv_topi (fun x384 ex384 => ?_)
                    obtain rfl : x384 = nI ((100 * kd) + (10 * si9)) := by rw [ex384]; exact nI_add (100 * kd) (10 * si9)
                    refine lv_iload_n hx hb dX10_faultOfSlips_185 rfl (lv_at hl 5 rfl) ?_
                    refine lv_if_ne (tgt := 197) hx hb dX10_faultOfSlips_186 (by decide) (fun c385 => ?_) (fun c385 => False.elim (by have q := (nI_eq (a := kd) (b := 0) (by omega) (by omega)).mp c385; omega))
                    refine lv_iconst (v := 0) hx hb dX10_faultOfSlips_197 (by decide) ?_
                    refine lv_iadd hx hb dX10_faultOfSlips_198 ?_
                    refine lv_topi (fun x386 ex386 => ?_)
                    obtain rfl : x386 = nI (((100 * kd) + (10 * si9)) + 0) := by rw [ex386]; exact nI_add ((100 * kd) + (10 * si9)) 0
                    have hput : slipOK k (nI ((((100 * kd) + (10 * si9)) + 0))) := ⟨kd, si9, 0, by unfold okV; omega, rfl⟩
                    refine va_iast hx hb E.K hP hD hS 2 1 rfl rfl (i := nI sm) (vp_in_nI (by omega) (by decide)) dX10_faultOfSlips_199 (fun H locs hP hD hS => ?_)
                    obtain ⟨f387, ef387⟩ : ∃ yy_ : Nat → Int32, yy_ = upd g (nI sm).toNatClampNeg (nI (((100 * kd) + (10 * si9)) + 0)) := ⟨_, rfl⟩
                    have hP : va_P G.1 vwCl ([(h1, .inr (6, [.int (nI k), v_maps, v_told, v_kinds, v_land, v_spades, v_part, .ref a_pad, .int (nI pm), .ref a_slips, .int (nI sm), v_made, v_queue, v_depth, v_by, v_from, v_come, v_offOf, v_parent, v_best, v_trees, v_least, v_sums, v_toward, v_kept, v_isKept, v_keptAt, v_isWriting])), (a_pad, .inl (gI G, 40, .inl fd)), (a_slips, .inl (gI G, 10, .inl f387))]) H := by rw [ef387]; exact hP
                    have hD : va_D A ([(h1, .inr (6, [.int (nI k), v_maps, v_told, v_kinds, v_land, v_spades, v_part, .ref a_pad, .int (nI pm), .ref a_slips, .int (nI sm), v_made, v_queue, v_depth, v_by, v_from, v_come, v_offOf, v_parent, v_best, v_trees, v_least, v_sums, v_toward, v_kept, v_isKept, v_keptAt, v_isWriting])), (a_pad, .inl (gI G, 40, .inl fd)), (a_slips, .inl (gI G, 10, .inl f387))]) := by rw [ef387]; exact hD
                    refine lv_aload_n hx hb dX10_faultOfSlips_200 rfl (lv_at hl 6 rfl) ?_
                    refine lv_dup hx hb dX10_faultOfSlips_201 rfl ?_
                    refine va_get (D := G.1) (ci := 6) (v := .int (nI sm)) (C := RX10) (T := TX10) (N := 28) hx hb hts (fun _ h => List.mem_cons_of_mem _ (List.mem_append_right _ h)) hown E.K hP 0 rfl rfl 10 (by decide) (hts (.fieldLink RX10 110 "LastMapModel" "slipMany" "I") (by decide +kernel)) (fun _ h9 => h9) rfl dX10_faultOfSlips_202 ?_
                    refine lv_iconst (v := 1) hx hb dX10_faultOfSlips_205 (by decide) ?_
                    refine lv_iadd hx hb dX10_faultOfSlips_206 ?_
                    refine lv_topi (fun x388 ex388 => ?_)
                    obtain rfl : x388 = nI (sm + 1) := by rw [ex388]; exact nI_add sm 1
                    refine va_put (D := G.1) (ci := 6) (v := .int (nI (sm + 1))) (ty := .int) (C := RX10) (T := TX10) (N := 28) hx hb hts (fun _ h => List.mem_cons_of_mem _ (List.mem_append_right _ h)) tyX10 tyX10_ok nmX10 hown E.K hP hD hS 0 rfl rfl 10 (by decide) (hts (.fieldLink RX10 110 "LastMapModel" "slipMany" "I") (by decide +kernel)) (fun _ h9 => h9) rfl (by decide +kernel) rfl rfl (Nat.le_of_ble_eq_true rfl) dX10_faultOfSlips_207 (fun H locs hP hD hS => ?_)
                    have hP : va_P G.1 vwCl ([(h1, .inr (6, [.int (nI k), v_maps, v_told, v_kinds, v_land, v_spades, v_part, .ref a_pad, .int (nI pm), .ref a_slips, .int (nI (sm + 1)), v_made, v_queue, v_depth, v_by, v_from, v_come, v_offOf, v_parent, v_best, v_trees, v_least, v_sums, v_toward, v_kept, v_isKept, v_keptAt, v_isWriting])), (a_pad, .inl (gI G, 40, .inl fd)), (a_slips, .inl (gI G, 10, .inl f387))]) H := hP
                    have hD : va_D A ([(h1, .inr (6, [.int (nI k), v_maps, v_told, v_kinds, v_land, v_spades, v_part, .ref a_pad, .int (nI pm), .ref a_slips, .int (nI (sm + 1)), v_made, v_queue, v_depth, v_by, v_from, v_come, v_offOf, v_parent, v_best, v_trees, v_least, v_sums, v_toward, v_kept, v_isKept, v_keptAt, v_isWriting])), (a_pad, .inl (gI G, 40, .inl fd)), (a_slips, .inl (gI G, 10, .inl f387))]) := hD
                    refine lv_iconst (v := 0) hx hb dX10_faultOfSlips_210 (by decide) ?_
                    refine lv_istore_n (lv' := [(1, .int 0), (6, .int 1), (3, .int (nI si9)), (5, .int x3), (4, .int (nI x)), (2, .int (nI kd)), (0, .ref h1)]) hx hb dX10_faultOfSlips_211 rfl hl (by decide) rfl (fun ls hl => ?_)
                    obtain ⟨x389, ex389⟩ : ∃ yy_ : Int32, yy_ = (nI x) + 1 := ⟨_, rfl⟩
                    refine lv_iinc (v := x389) (lv' := [(4, .int x389), (1, .int 0), (6, .int 1), (3, .int (nI si9)), (5, .int x3), (2, .int (nI kd)), (0, .ref h1)]) hx hb dX10_faultOfSlips_212 hl (k := 4) rfl (by rw [ex389]; rfl) (by decide) rfl (fun ls hl => ?_)
                    obtain rfl : x389 = nI (x + 1) := by rw [ex389]; exact nI_add x 1
                    refine lv_goto (tgt := 14) hx hb dX10_faultOfSlips_215 (by decide) ?_
                    refine ih14 ((x + 1), 0, kd, si9, (sm + 1), f387) ⟨?_, ?_, ?_, ?_, ?_, ?_⟩ (by first | omega | (dsimp only; omega)) H locs ls (hP.sub [0, 1, 2] rfl) (hD.sub [0, 1, 2] (by decide) rfl) hS (lv_sub hl [0, 3, 5, 1, 6] rfl)
                    · try dsimp only
                      omega
                    · try dsimp only
                      omega
                    · try dsimp only
                      omega
                    · try dsimp only
                      omega
                    · try dsimp only
                      omega
                    · try dsimp only
                      rw [ef387, nI_clamp (by omega)]; exact slips_upd hsl hput
                · refine lv_if_eq (tgt := 134) hx hb dX10_faultOfSlips_109 (by decide) (fun _ => ?_) (fun c390 => False.elim (by revert c390; decide))
                  refine lv_iload_n hx hb dX10_faultOfSlips_134 rfl (lv_at hl 5 rfl) ?_
                  refine lv_iconst (v := 2) hx hb dX10_faultOfSlips_135 (by decide) ?_
                  refine lv_icmp_ne (tgt := 160) hx hb dX10_faultOfSlips_136 (by decide) (fun c391 => ?_) (fun c391 => ?_)
                  · have c391 : ¬ sa = 2 := fun h9_ => c391 ((nI_eq (a := sa) (b := 2) (by omega) (by omega)).mpr h9_)
                    refine lv_iload hx hb dX10_faultOfSlips_160 (lv_at hl 2 rfl) ?_
                    have hP9 := (hP.sub (ws' := [(h1, .inr (6, [.int (nI k), v_maps, v_told, v_kinds, v_land, v_spades, v_part, .ref a_pad, .int (nI pm), .ref a_slips, .int (nI sm), v_made, v_queue, v_depth, v_by, v_from, v_come, v_offOf, v_parent, v_best, v_trees, v_least, v_sums, v_toward, v_kept, v_isKept, v_keptAt, v_isWriting])), (a_pad, .inl (gI G, 40, .inl fd)), (a_slips, .inl (gI G, 10, .inl g))]) [0, 1, 2] rfl)
                    have hD9 := (hD.sub (ws' := [(h1, .inr (6, [.int (nI k), v_maps, v_told, v_kinds, v_land, v_spades, v_part, .ref a_pad, .int (nI pm), .ref a_slips, .int (nI sm), v_made, v_queue, v_depth, v_by, v_from, v_come, v_offOf, v_parent, v_best, v_trees, v_least, v_sums, v_toward, v_kept, v_isKept, v_keptAt, v_isWriting])), (a_pad, .inl (gI G, 40, .inl fd)), (a_slips, .inl (gI G, 10, .inl g))]) [0, 1, 2] (by decide) rfl)
                    exact W.iret (v := (nI x)) hx hb hr (fun t9_ ht9_ hW9_ => ⟨⟨nI x, (sm, g), rfl, ⟨by omega, hsl, Or.inr ⟨x, by omega, rfl⟩⟩, by rw [ht9_]; exact hP9, hD9⟩, hS.F ht9_⟩) hS.2.2 dX10_faultOfSlips_162
                  · have c391 : sa = 2 := (nI_eq (a := sa) (b := 2) (by omega) (by omega)).mp c391
                    refine lv_iload hx hb dX10_faultOfSlips_139 (lv_at hl 1 rfl) ?_
                    refine lv_i2l hx hb dX10_faultOfSlips_141 rfl ?_
                    refine lv_topl (fun x392 ex392 => ?_)
                    refine lv_ldc2 (v := 97) hx hb hown (hts (.constantLong RX10 95 (97)) (by decide +kernel)) dX10_faultOfSlips_142 ?_
                    refine lv_ldc2 (v := 100) hx hb hown (hts (.constantLong RX10 97 (100)) (by decide +kernel)) dX10_faultOfSlips_145 ?_
                    refine ca_iR (va_runS (As := [.long x392, .long 97, .long 100]) (rest := []) ⟨hx, hb, hml, hown, hts⟩ (m_in l G H.size x392 97 100 x3 97 100 ex392 (by decide) (by decide)) (va_cwS 3 hts gX10_faultOfSlips_X10_in rfl rfl rfl (by decide +kernel) ⟨by decide +kernel, by decide +kernel⟩) (pre_S E hP hD hS hA [] (by decide) rfl) rfl rfl hl.1 rfl (lv_room (Nat.le_of_ble_eq_true rfl)) dX10_faultOfSlips_148 ⟨by decide +kernel, by decide +kernel⟩) hS hP hD hA [] rfl (fun r394 _ H locs w393 hP hS => ?_)
                    rcases w393 with ⟨rfl, b395⟩ | ⟨rfl, b395⟩
                    · refine lv_if_eq (tgt := 160) hx hb dX10_faultOfSlips_151 (by decide) (fun c396 => False.elim (by revert c396; decide)) (fun _ => ?_)
                      refine lv_iconst (v := 1) hx hb dX10_faultOfSlips_154 (by decide) ?_
                      refine lv_istore (lv' := [(6, .int 1), (5, .int x3), (4, .int (nI x)), (3, .int (nI si)), (2, .int (nI kd)), (1, .int (nI sa)), (0, .ref h1)]) hx hb dX10_faultOfSlips_155 hl (by decide) rfl (fun ls hl => ?_)
                      refine lv_goto (tgt := 163) hx hb dX10_faultOfSlips_157 (by decide) ?_
                      refine lv_iload hx hb dX10_faultOfSlips_163 (lv_at hl 0 rfl) ?_
                      refine lv_if_eq (tgt := 212) hx hb dX10_faultOfSlips_165 (by decide) (fun c397 => False.elim (by revert c397; decide)) (fun _ => ?_)
                      refine lv_aload_n hx hb dX10_faultOfSlips_168 rfl (lv_at hl 6 rfl) ?_
                      refine va_get (D := G.1) (ci := 6) (v := .ref a_slips) (C := RX10) (T := TX10) (N := 28) hx hb hts (fun _ h => List.mem_cons_of_mem _ (List.mem_append_right _ h)) hown E.K hP 0 rfl rfl 9 (by decide) (hts (.fieldLink RX10 22 "LastMapModel" "slips" "[I") (by decide +kernel)) (fun _ h9 => h9) rfl dX10_faultOfSlips_169 ?_
                      refine lv_aload_n hx hb dX10_faultOfSlips_172 rfl (lv_at hl 6 rfl) ?_
                      refine va_get (D := G.1) (ci := 6) (v := .int (nI sm)) (C := RX10) (T := TX10) (N := 28) hx hb hts (fun _ h => List.mem_cons_of_mem _ (List.mem_append_right _ h)) hown E.K hP 0 rfl rfl 10 (by decide) (hts (.fieldLink RX10 110 "LastMapModel" "slipMany" "I") (by decide +kernel)) (fun _ h9 => h9) rfl dX10_faultOfSlips_173 ?_
                      refine lv_bipush (v := 100) hx hb dX10_faultOfSlips_176 (by decide) ?_
                      refine lv_iload_n hx hb dX10_faultOfSlips_178 rfl (lv_at hl 4 rfl) ?_
                      refine lv_imul hx hb dX10_faultOfSlips_179 ?_
                      refine lv_topi (fun x398 ex398 => ?_)
                      obtain rfl : x398 = nI (100 * kd) := by rw [ex398]; exact pk_mul 100 kd
                      refine lv_bipush (v := 10) hx hb dX10_faultOfSlips_180 (by decide) ?_
                      refine lv_iload_n hx hb dX10_faultOfSlips_182 rfl (lv_at hl 3 rfl) ?_
                      refine lv_imul hx hb dX10_faultOfSlips_183 ?_
                      refine lv_topi (fun x399 ex399 => ?_)
                      obtain rfl : x399 = nI (10 * si) := by rw [ex399]; exact pk_mul 10 si
                      refine lv_iadd hx hb dX10_faultOfSlips_184 ?_
                      refine lv_topi (fun x400 ex400 => ?_)
                      obtain rfl : x400 = nI ((100 * kd) + (10 * si)) := by rw [ex400]; exact nI_add (100 * kd) (10 * si)
                      refine lv_iload_n hx hb dX10_faultOfSlips_185 rfl (lv_at hl 4 rfl) ?_
                      refine lv_if_ne (tgt := 197) hx hb dX10_faultOfSlips_186 (by decide) (fun c401 => absurd (show nI kd = 0 by rw [(hsi (by omega)).1]; rfl) c401) (fun c401 => ?_)
                      refine lv_iload hx hb dX10_faultOfSlips_189 (lv_at hl 1 rfl) ?_
                      refine lv_bipush (v := 97) hx hb dX10_faultOfSlips_191 (by decide) ?_
                      refine lv_isub hx hb dX10_faultOfSlips_193 ?_
                      refine lv_topi (fun x402 ex402 => ?_)
                      obtain ⟨mg9, hmg9, emg9⟩ := sub97 b395
                      obtain rfl : x402 = nI mg9 := by rw [ex402]; exact emg9
                      refine lv_goto (tgt := 198) hx hb dX10_faultOfSlips_194 (by decide) ?_
                      refine lv_iadd hx hb dX10_faultOfSlips_198 ?_
                      refine lv_topi (fun x403 ex403 => ?_)
                      obtain rfl : x403 = nI (((100 * kd) + (10 * si)) + mg9) := by rw [ex403]; exact nI_add ((100 * kd) + (10 * si)) mg9
                      have hput : slipOK k (nI ((((100 * kd) + (10 * si)) + mg9))) := ⟨kd, si, mg9, by unfold okV; have q := hsi (by omega); omega, rfl⟩
                      refine va_iast hx hb E.K hP hD hS 2 1 rfl rfl (i := nI sm) (vp_in_nI (by omega) (by decide)) dX10_faultOfSlips_199 (fun H locs hP hD hS => ?_)
                      obtain ⟨f404, ef404⟩ : ∃ yy_ : Nat → Int32, yy_ = upd g (nI sm).toNatClampNeg (nI (((100 * kd) + (10 * si)) + mg9)) := ⟨_, rfl⟩
                      have hP : va_P G.1 vwCl ([(h1, .inr (6, [.int (nI k), v_maps, v_told, v_kinds, v_land, v_spades, v_part, .ref a_pad, .int (nI pm), .ref a_slips, .int (nI sm), v_made, v_queue, v_depth, v_by, v_from, v_come, v_offOf, v_parent, v_best, v_trees, v_least, v_sums, v_toward, v_kept, v_isKept, v_keptAt, v_isWriting])), (a_pad, .inl (gI G, 40, .inl fd)), (a_slips, .inl (gI G, 10, .inl f404))]) H := by rw [ef404]; exact hP
                      have hD : va_D A ([(h1, .inr (6, [.int (nI k), v_maps, v_told, v_kinds, v_land, v_spades, v_part, .ref a_pad, .int (nI pm), .ref a_slips, .int (nI sm), v_made, v_queue, v_depth, v_by, v_from, v_come, v_offOf, v_parent, v_best, v_trees, v_least, v_sums, v_toward, v_kept, v_isKept, v_keptAt, v_isWriting])), (a_pad, .inl (gI G, 40, .inl fd)), (a_slips, .inl (gI G, 10, .inl f404))]) := by rw [ef404]; exact hD
                      refine lv_aload_n hx hb dX10_faultOfSlips_200 rfl (lv_at hl 6 rfl) ?_
                      refine lv_dup hx hb dX10_faultOfSlips_201 rfl ?_
                      refine va_get (D := G.1) (ci := 6) (v := .int (nI sm)) (C := RX10) (T := TX10) (N := 28) hx hb hts (fun _ h => List.mem_cons_of_mem _ (List.mem_append_right _ h)) hown E.K hP 0 rfl rfl 10 (by decide) (hts (.fieldLink RX10 110 "LastMapModel" "slipMany" "I") (by decide +kernel)) (fun _ h9 => h9) rfl dX10_faultOfSlips_202 ?_
                      refine lv_iconst (v := 1) hx hb dX10_faultOfSlips_205 (by decide) ?_
                      refine lv_iadd hx hb dX10_faultOfSlips_206 ?_
                      refine lv_topi (fun x405 ex405 => ?_)
                      obtain rfl : x405 = nI (sm + 1) := by rw [ex405]; exact nI_add sm 1
                      refine va_put (D := G.1) (ci := 6) (v := .int (nI (sm + 1))) (ty := .int) (C := RX10) (T := TX10) (N := 28) hx hb hts (fun _ h => List.mem_cons_of_mem _ (List.mem_append_right _ h)) tyX10 tyX10_ok nmX10 hown E.K hP hD hS 0 rfl rfl 10 (by decide) (hts (.fieldLink RX10 110 "LastMapModel" "slipMany" "I") (by decide +kernel)) (fun _ h9 => h9) rfl (by decide +kernel) rfl rfl (Nat.le_of_ble_eq_true rfl) dX10_faultOfSlips_207 (fun H locs hP hD hS => ?_)
                      have hP : va_P G.1 vwCl ([(h1, .inr (6, [.int (nI k), v_maps, v_told, v_kinds, v_land, v_spades, v_part, .ref a_pad, .int (nI pm), .ref a_slips, .int (nI (sm + 1)), v_made, v_queue, v_depth, v_by, v_from, v_come, v_offOf, v_parent, v_best, v_trees, v_least, v_sums, v_toward, v_kept, v_isKept, v_keptAt, v_isWriting])), (a_pad, .inl (gI G, 40, .inl fd)), (a_slips, .inl (gI G, 10, .inl f404))]) H := hP
                      have hD : va_D A ([(h1, .inr (6, [.int (nI k), v_maps, v_told, v_kinds, v_land, v_spades, v_part, .ref a_pad, .int (nI pm), .ref a_slips, .int (nI (sm + 1)), v_made, v_queue, v_depth, v_by, v_from, v_come, v_offOf, v_parent, v_best, v_trees, v_least, v_sums, v_toward, v_kept, v_isKept, v_keptAt, v_isWriting])), (a_pad, .inl (gI G, 40, .inl fd)), (a_slips, .inl (gI G, 10, .inl f404))]) := hD
                      refine lv_iconst (v := 0) hx hb dX10_faultOfSlips_210 (by decide) ?_
                      refine lv_istore_n (lv' := [(1, .int 0), (6, .int 1), (5, .int x3), (4, .int (nI x)), (3, .int (nI si)), (2, .int (nI kd)), (0, .ref h1)]) hx hb dX10_faultOfSlips_211 rfl hl (by decide) rfl (fun ls hl => ?_)
                      obtain ⟨x406, ex406⟩ : ∃ yy_ : Int32, yy_ = (nI x) + 1 := ⟨_, rfl⟩
                      refine lv_iinc (v := x406) (lv' := [(4, .int x406), (1, .int 0), (6, .int 1), (5, .int x3), (3, .int (nI si)), (2, .int (nI kd)), (0, .ref h1)]) hx hb dX10_faultOfSlips_212 hl (k := 3) rfl (by rw [ex406]; rfl) (by decide) rfl (fun ls hl => ?_)
                      obtain rfl : x406 = nI (x + 1) := by rw [ex406]; exact nI_add x 1
                      refine lv_goto (tgt := 14) hx hb dX10_faultOfSlips_215 (by decide) ?_
                      refine ih14 ((x + 1), 0, kd, si, (sm + 1), f404) ⟨?_, ?_, ?_, ?_, ?_, ?_⟩ (by first | omega | (dsimp only; omega)) H locs ls (hP.sub [0, 1, 2] rfl) (hD.sub [0, 1, 2] (by decide) rfl) hS (lv_sub hl [0, 4, 5, 1, 6] rfl)
                      · try dsimp only
                        omega
                      · try dsimp only
                        omega
                      · try dsimp only
                        omega
                      · try dsimp only
                        omega
                      · try dsimp only
                        omega
                      · try dsimp only
                        rw [ef404, nI_clamp (by omega)]; exact slips_upd hsl hput
                    · refine lv_if_eq (tgt := 160) hx hb dX10_faultOfSlips_151 (by decide) (fun _ => ?_) (fun c407 => False.elim (by revert c407; decide))
                      refine lv_iload hx hb dX10_faultOfSlips_160 (lv_at hl 2 rfl) ?_
                      have hP9 := (hP.sub (ws' := [(h1, .inr (6, [.int (nI k), v_maps, v_told, v_kinds, v_land, v_spades, v_part, .ref a_pad, .int (nI pm), .ref a_slips, .int (nI sm), v_made, v_queue, v_depth, v_by, v_from, v_come, v_offOf, v_parent, v_best, v_trees, v_least, v_sums, v_toward, v_kept, v_isKept, v_keptAt, v_isWriting])), (a_pad, .inl (gI G, 40, .inl fd)), (a_slips, .inl (gI G, 10, .inl g))]) [0, 1, 2] rfl)
                      have hD9 := (hD.sub (ws' := [(h1, .inr (6, [.int (nI k), v_maps, v_told, v_kinds, v_land, v_spades, v_part, .ref a_pad, .int (nI pm), .ref a_slips, .int (nI sm), v_made, v_queue, v_depth, v_by, v_from, v_come, v_offOf, v_parent, v_best, v_trees, v_least, v_sums, v_toward, v_kept, v_isKept, v_keptAt, v_isWriting])), (a_pad, .inl (gI G, 40, .inl fd)), (a_slips, .inl (gI G, 10, .inl g))]) [0, 1, 2] (by decide) rfl)
                      exact W.iret (v := (nI x)) hx hb hr (fun t9_ ht9_ hW9_ => ⟨⟨nI x, (sm, g), rfl, ⟨by omega, hsl, Or.inr ⟨x, by omega, rfl⟩⟩, by rw [ht9_]; exact hP9, hD9⟩, hS.F ht9_⟩) hS.2.2 dX10_faultOfSlips_162
        · refine lv_iload hx hb dX10_faultOfSlips_56 (lv_at hl 1 rfl) ?_
          refine ca_iR (va_runS (As := [.int x3]) (rest := []) ⟨hx, hb, hml, hown, hts⟩ (m_kindOf l G H.size x3) (va_cwS 1 hts gX10_faultOfSlips_X10_kindOf rfl rfl rfl (by decide +kernel) ⟨by decide +kernel, by decide +kernel⟩) (pre_S E hP hD hS hA [] (by decide) rfl) rfl rfl hl.1 rfl (lv_room (Nat.le_of_ble_eq_true rfl)) dX10_faultOfSlips_58 ⟨by decide +kernel, by decide +kernel⟩) hS hP hD hA [] rfl (fun r409 _ H locs w408 hP hS => ?_)
          obtain ⟨kd9, hkd9, ekd9⟩ := kdO_nat (by rw [← w272]; exact c274)
          refine W.eq (g2 := F0 m 61 ls [.int (nI kd9)]) (by rw [w408, ekd9]) ?_
          refine lv_istore_n (lv' := [(2, .int (nI kd9)), (6, .int 0), (5, .int x3), (4, .int (nI x)), (3, .int (nI si)), (1, .int (nI sa)), (0, .ref h1)]) hx hb dX10_faultOfSlips_61 rfl hl (by decide) rfl (fun ls hl => ?_)
          refine lv_iconst (v := 1) hx hb dX10_faultOfSlips_62 (by decide) ?_
          refine lv_istore_n (lv' := [(1, .int 1), (2, .int (nI kd9)), (6, .int 0), (5, .int x3), (4, .int (nI x)), (3, .int (nI si)), (0, .ref h1)]) hx hb dX10_faultOfSlips_63 rfl hl (by decide) rfl (fun ls hl => ?_)
          refine lv_goto (tgt := 163) hx hb dX10_faultOfSlips_64 (by decide) ?_
          refine lv_iload hx hb dX10_faultOfSlips_163 (lv_at hl 2 rfl) ?_
          refine lv_if_eq (tgt := 212) hx hb dX10_faultOfSlips_165 (by decide) (fun _ => ?_) (fun c410 => False.elim (by revert c410; decide))
          obtain ⟨x411, ex411⟩ : ∃ yy_ : Int32, yy_ = (nI x) + 1 := ⟨_, rfl⟩
          refine lv_iinc (v := x411) (lv' := [(4, .int x411), (1, .int 1), (2, .int (nI kd9)), (6, .int 0), (5, .int x3), (3, .int (nI si)), (0, .ref h1)]) hx hb dX10_faultOfSlips_212 hl (k := 4) rfl (by rw [ex411]; rfl) (by decide) rfl (fun ls hl => ?_)
          obtain rfl : x411 = nI (x + 1) := by rw [ex411]; exact nI_add x 1
          refine lv_goto (tgt := 14) hx hb dX10_faultOfSlips_215 (by decide) ?_
          refine ih14 ((x + 1), 1, kd9, si, sm, g) ⟨?_, ?_, ?_, ?_, ?_, ?_⟩ (by first | omega | (dsimp only; omega)) H locs ls (hP.sub [0, 1, 2] rfl) (hD.sub [0, 1, 2] (by decide) rfl) hS (lv_sub hl [0, 5, 2, 1, 6] rfl)
          · try dsimp only
            omega
          · try dsimp only
            omega
          · try dsimp only
            omega
          · try dsimp only
            omega
          · try dsimp only
            omega
          · try dsimp only
            exact hsl
