set_option maxHeartbeats 1000000 in
set_option maxRecDepth 100000 in
theorem m_hand (l : Launch) (G : Gy) (sz : Nat) (h1 : Nat) (v_sites : Value) (v_maps : Value) (v_told : Value) (v_land : Value) (v_spades : Value) (v_part : Value) (v_pad : Value) (v_padMany : Value) (v_slips : Value) (v_slipMany : Value) (v_made : Value) (v_queue : Value) (v_depth : Value) (v_by : Value) (v_from : Value) (v_come : Value) (v_offOf : Value) (v_parent : Value) (v_best : Value) (v_trees : Value) (v_least : Value) (v_sums : Value) (v_toward : Value) (v_kept : Value) (v_isKept : Value) (v_keptAt : Value) (v_isWriting : Value) (a_kinds : Nat) (fk : Nat → Int32) (p0 : Int32) (p1 : Int32)  : Ci l G yX10_hand wsX10_hand ({ frames := 2, cells := 0, slots := 0, locals := 45 }) [.ref h1, .int p0, .int p1] ([(h1, .inr (6, [v_sites, v_maps, v_told, .ref a_kinds, v_land, v_spades, v_part, v_pad, v_padMany, v_slips, v_slipMany, v_made, v_queue, v_depth, v_by, v_from, v_come, v_offOf, v_parent, v_best, v_trees, v_least, v_sums, v_toward, v_kept, v_isKept, v_keptAt, v_isWriting])), (a_kinds, .inl (gI G, 4, .inl fk))]) sz (fun (r : Int32) (fk1 : Nat → Int32) => (inR p0 0 3 ∧ inR p1 0 15 ∧ r = fk p0.toNatClampNeg ∧ fk1 = upd fk p0.toNatClampNeg p1) ∨ (¬ (inR p0 0 3 ∧ inR p1 0 15) ∧ fk1 = fk ∧ r = cIf (inR p0 0 3) (-2) (-1))) (fun (fk1 : Nat → Int32) => [(h1, .inr (6, [v_sites, v_maps, v_told, .ref a_kinds, v_land, v_spades, v_part, v_pad, v_padMany, v_slips, v_slipMany, v_made, v_queue, v_depth, v_by, v_from, v_come, v_offOf, v_parent, v_best, v_trees, v_least, v_sums, v_toward, v_kept, v_isKept, v_keptAt, v_isWriting])), (a_kinds, .inl (gI G, 4, .inl fk1))]) 0 0 := by
  refine Met.ofW (cc := cX10_hand) (maxL := 4) (ret := (some .int)) (by decide) rfl ?_
  intro p e s m args below meth c s₁ B hml hv
  obtain ⟨rfl, hsz, hP, hD0, E0⟩ := hv
  have hx := B.exec
  have hb := B.bytes
  have hr := B.returns
  have hts := atoms_spec (ws := wsX10_hand) B.pre
  have hown : s.vm.findClass RX10 = some m.cls := findClass_of_methodNamed B.named
  have hlocks := B.notSynchronized
  subst hsz
  have hD := hD0.self (sz := s.heap.size)
  generalize hAe : va_A ([(h1, .inr (6, [v_sites, v_maps, v_told, .ref a_kinds, v_land, v_spades, v_part, v_pad, v_padMany, v_slips, v_slipMany, v_made, v_queue, v_depth, v_by, v_from, v_come, v_offOf, v_parent, v_best, v_trees, v_least, v_sums, v_toward, v_kept, v_isKept, v_keptAt, v_isWriting])), (a_kinds, .inl (gI G, 4, .inl fk))]) s.heap.size = A at hD E0 ⊢
  have E : EV G A s s.heap := E0
  have hA : ∀ q : Nat, s.heap.size ≤ q → A q := fun q h => by rw [← hAe]; exact Or.inr h
  have hS : va_S A s.heap s.heap [] := va_S.rf
  have hl := lv_entry ([.ref h1, .int p0, .int p1]) (n := 4) (Nat.le_of_ble_eq_true rfl)
  rw [lg_entry_eq]
  generalize (lg_sl ([.ref h1, .int p0, .int p1]) ++ List.replicate (4 - (lg_sl ([.ref h1, .int p0, .int p1])).length) Slot.unset).toArray = ls at hl ⊢
  have hl : lv_has ls 4 [(0, .ref h1), (1, .int p0), (2, .int p1)] := hl
  have hP : va_P G.1 vwCl ([(h1, .inr (6, [v_sites, v_maps, v_told, .ref a_kinds, v_land, v_spades, v_part, v_pad, v_padMany, v_slips, v_slipMany, v_made, v_queue, v_depth, v_by, v_from, v_come, v_offOf, v_parent, v_best, v_trees, v_least, v_sums, v_toward, v_kept, v_isKept, v_keptAt, v_isWriting])), (a_kinds, .inl (gI G, 4, .inl fk))]) s.heap := hP
  refine lv_iload_n hx hb dX10_hand_0 rfl (lv_at hl 1 rfl) ?_
  refine ca_iR (va_runS (As := [.int p0]) (rest := []) ⟨hx, hb, hml, hown, hts⟩ (m_isHand l G s.heap.size p0) (va_cwS 1 hts gX10_hand_X10_isHand rfl rfl rfl (by decide +kernel) ⟨by decide +kernel, by decide +kernel⟩) (pre_S E hP hD hS hA [] (by decide) rfl) rfl rfl hl.1 rfl (lv_room (Nat.le_of_ble_eq_true rfl)) dX10_hand_1 ⟨by decide +kernel, by decide +kernel⟩) hS hP hD hA [] rfl (fun r2 _ H locs w1 hP hS => ?_)
  rcases w1 with ⟨rfl, b3⟩ | ⟨rfl, b3⟩
  · refine lv_if_ne (tgt := 9) hx hb dX10_hand_4 (by decide) (fun _ => ?_) (fun c4 => False.elim (by revert c4; decide))
    refine lv_iload_n hx hb dX10_hand_9 rfl (lv_at hl 2 rfl) ?_
    refine lv_i2l hx hb dX10_hand_10 rfl ?_
    refine lv_topl (fun x5 ex5 => ?_)
    refine lv_lconst (v := 0) hx hb dX10_hand_11 (by decide) ?_
    refine lv_ldc2 (v := 15) hx hb hown (hts (.constantLong RX10 140 (15)) (by decide +kernel)) dX10_hand_12 ?_
    refine ca_iR (va_runS (As := [.long x5, .long 0, .long 15]) (rest := []) ⟨hx, hb, hml, hown, hts⟩ (m_in l G H.size x5 0 15 p1 0 15 ex5 (by decide) (by decide)) (va_cwS 3 hts gX10_hand_X10_in rfl rfl rfl (by decide +kernel) ⟨by decide +kernel, by decide +kernel⟩) (pre_S E hP hD hS hA [] (by decide) rfl) rfl rfl hl.1 rfl (lv_room (Nat.le_of_ble_eq_true rfl)) dX10_hand_15 ⟨by decide +kernel, by decide +kernel⟩) hS hP hD hA [] rfl (fun r7 _ H locs w6 hP hS => ?_)
    rcases w6 with ⟨rfl, b8⟩ | ⟨rfl, b8⟩
    · refine lv_if_ne (tgt := 24) hx hb dX10_hand_18 (by decide) (fun _ => ?_) (fun c9 => False.elim (by revert c9; decide))
      refine lv_aload_n hx hb dX10_hand_24 rfl (lv_at hl 0 rfl) ?_
      refine va_get (D := G.1) (ci := 6) (v := .ref a_kinds) (C := RX10) (T := TX10) (N := 28) hx hb hts (fun _ h => List.mem_cons_of_mem _ (List.mem_append_right _ h)) hown E.K hP 0 rfl rfl 3 (by decide) (hts (.fieldLink RX10 13 "LastMapModel" "kinds" "[I") (by decide +kernel)) (fun _ h9 => h9) rfl dX10_hand_25 ?_
      refine lv_iload_n hx hb dX10_hand_28 rfl (lv_at hl 1 rfl) ?_
      refine va_iald hx hb E.K hP 1 1 rfl rfl (i := p0) (vp_in_iff.mpr (by ((try simp only [inR, inS, i3_lt, i3_le, i3_eq, i6_lt, i6_le, Int32.toInt_toInt64, lg_cmp_lt, lg_cmp_gt, lg_cmp_ge, lg_cmp_le, Int32.reduceToInt, Int64.reduceToInt] at b3 b8 ⊢); omega))) dX10_hand_29 ?_
      refine lv_topi (fun x10 ex10 => ?_)
      refine lv_istore_n (lv' := [(3, .int x10), (0, .ref h1), (1, .int p0), (2, .int p1)]) hx hb dX10_hand_30 rfl hl (by decide) rfl (fun ls hl => ?_)
      refine lv_aload_n hx hb dX10_hand_31 rfl (lv_at hl 1 rfl) ?_
      refine va_get (D := G.1) (ci := 6) (v := .ref a_kinds) (C := RX10) (T := TX10) (N := 28) hx hb hts (fun _ h => List.mem_cons_of_mem _ (List.mem_append_right _ h)) hown E.K hP 0 rfl rfl 3 (by decide) (hts (.fieldLink RX10 13 "LastMapModel" "kinds" "[I") (by decide +kernel)) (fun _ h9 => h9) rfl dX10_hand_32 ?_
      refine lv_iload_n hx hb dX10_hand_35 rfl (lv_at hl 2 rfl) ?_
      refine lv_iload_n hx hb dX10_hand_36 rfl (lv_at hl 3 rfl) ?_
      refine va_iast hx hb E.K hP hD hS 1 1 rfl rfl (i := p0) (vp_in_iff.mpr (by ((try simp only [inR, inS, i3_lt, i3_le, i3_eq, i6_lt, i6_le, Int32.toInt_toInt64, lg_cmp_lt, lg_cmp_gt, lg_cmp_ge, lg_cmp_le, Int32.reduceToInt, Int64.reduceToInt] at b3 b8 ⊢); omega))) dX10_hand_37 (fun H locs hP hD hS => ?_)
      obtain ⟨f11, ef11⟩ : ∃ yy_ : Nat → Int32, yy_ = upd fk p0.toNatClampNeg p1 := ⟨_, rfl⟩
      have hP : va_P G.1 vwCl ([(h1, .inr (6, [v_sites, v_maps, v_told, .ref a_kinds, v_land, v_spades, v_part, v_pad, v_padMany, v_slips, v_slipMany, v_made, v_queue, v_depth, v_by, v_from, v_come, v_offOf, v_parent, v_best, v_trees, v_least, v_sums, v_toward, v_kept, v_isKept, v_keptAt, v_isWriting])), (a_kinds, .inl (gI G, 4, .inl f11))]) H := by rw [ef11]; exact hP
      have hD : va_D A ([(h1, .inr (6, [v_sites, v_maps, v_told, .ref a_kinds, v_land, v_spades, v_part, v_pad, v_padMany, v_slips, v_slipMany, v_made, v_queue, v_depth, v_by, v_from, v_come, v_offOf, v_parent, v_best, v_trees, v_least, v_sums, v_toward, v_kept, v_isKept, v_keptAt, v_isWriting])), (a_kinds, .inl (gI G, 4, .inl f11))]) := by rw [ef11]; exact hD
      refine lv_iload_n hx hb dX10_hand_38 rfl (lv_at hl 0 rfl) ?_
      have hP9 := (hP.sub (ws' := [(h1, .inr (6, [v_sites, v_maps, v_told, .ref a_kinds, v_land, v_spades, v_part, v_pad, v_padMany, v_slips, v_slipMany, v_made, v_queue, v_depth, v_by, v_from, v_come, v_offOf, v_parent, v_best, v_trees, v_least, v_sums, v_toward, v_kept, v_isKept, v_keptAt, v_isWriting])), (a_kinds, .inl (gI G, 4, .inl f11))]) [0, 1] rfl)
      have hD9 := (hD.sub (ws' := [(h1, .inr (6, [v_sites, v_maps, v_told, .ref a_kinds, v_land, v_spades, v_part, v_pad, v_padMany, v_slips, v_slipMany, v_made, v_queue, v_depth, v_by, v_from, v_come, v_offOf, v_parent, v_best, v_trees, v_least, v_sums, v_toward, v_kept, v_isKept, v_keptAt, v_isWriting])), (a_kinds, .inl (gI G, 4, .inl f11))]) [0, 1] (by decide) rfl)
      exact W.iret (v := x10) hx hb hr (fun t9_ ht9_ hW9_ => ⟨⟨x10, f11, rfl, Or.inl ⟨b3, b8, ex10, ef11⟩, by rw [ht9_]; exact hP9, hD9⟩, hS.F ht9_⟩) hS.2.2 dX10_hand_39
    · refine lv_if_ne (tgt := 24) hx hb dX10_hand_18 (by decide) (fun c12 => False.elim (by revert c12; decide)) (fun _ => ?_)
      refine lv_bipush (v := (-2)) hx hb dX10_hand_21 (by decide) ?_
      have hP9 := (hP.sub (ws' := [(h1, .inr (6, [v_sites, v_maps, v_told, .ref a_kinds, v_land, v_spades, v_part, v_pad, v_padMany, v_slips, v_slipMany, v_made, v_queue, v_depth, v_by, v_from, v_come, v_offOf, v_parent, v_best, v_trees, v_least, v_sums, v_toward, v_kept, v_isKept, v_keptAt, v_isWriting])), (a_kinds, .inl (gI G, 4, .inl fk))]) [0, 1] rfl)
      have hD9 := (hD.sub (ws' := [(h1, .inr (6, [v_sites, v_maps, v_told, .ref a_kinds, v_land, v_spades, v_part, v_pad, v_padMany, v_slips, v_slipMany, v_made, v_queue, v_depth, v_by, v_from, v_come, v_offOf, v_parent, v_best, v_trees, v_least, v_sums, v_toward, v_kept, v_isKept, v_keptAt, v_isWriting])), (a_kinds, .inl (gI G, 4, .inl fk))]) [0, 1] (by decide) rfl)
      exact W.iret (v := (-2)) hx hb hr (fun t9_ ht9_ hW9_ => ⟨⟨(-2), fk, rfl, Or.inr ⟨fun h => b8 h.2, rfl, (cIf_t b3).symm⟩, by rw [ht9_]; exact hP9, hD9⟩, hS.F ht9_⟩) hS.2.2 dX10_hand_23
  · refine lv_if_ne (tgt := 9) hx hb dX10_hand_4 (by decide) (fun c13 => False.elim (by revert c13; decide)) (fun _ => ?_)
    refine lv_iconst (v := (-1)) hx hb dX10_hand_7 (by decide) ?_
    have hP9 := (hP.sub (ws' := [(h1, .inr (6, [v_sites, v_maps, v_told, .ref a_kinds, v_land, v_spades, v_part, v_pad, v_padMany, v_slips, v_slipMany, v_made, v_queue, v_depth, v_by, v_from, v_come, v_offOf, v_parent, v_best, v_trees, v_least, v_sums, v_toward, v_kept, v_isKept, v_keptAt, v_isWriting])), (a_kinds, .inl (gI G, 4, .inl fk))]) [0, 1] rfl)
    have hD9 := (hD.sub (ws' := [(h1, .inr (6, [v_sites, v_maps, v_told, .ref a_kinds, v_land, v_spades, v_part, v_pad, v_padMany, v_slips, v_slipMany, v_made, v_queue, v_depth, v_by, v_from, v_come, v_offOf, v_parent, v_best, v_trees, v_least, v_sums, v_toward, v_kept, v_isKept, v_keptAt, v_isWriting])), (a_kinds, .inl (gI G, 4, .inl fk))]) [0, 1] (by decide) rfl)
    exact W.iret (v := (-1)) hx hb hr (fun t9_ ht9_ hW9_ => ⟨⟨(-1), fk, rfl, Or.inr ⟨fun h => b3 h.1, rfl, (cIf_f b3).symm⟩, by rw [ht9_]; exact hP9, hD9⟩, hS.F ht9_⟩) hS.2.2 dX10_hand_8
