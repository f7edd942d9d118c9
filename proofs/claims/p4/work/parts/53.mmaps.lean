theorem or_neg {P : Prop} {r : Int32} (h : P ∨ ∃ i, i ≤ 40 ∧ r = nI i) (hr : r < 0) : P := by
  rcases h with h | ⟨i, h1, h2⟩
  · exact h
  · rw [h2] at hr; exact absurd hr (nI_pos (by omega))

set_option maxHeartbeats 1000000 in
set_option maxRecDepth 100000 in
theorem m_fault (l : Launch) (G : Gy) (sz : Nat) (h1 : Nat) (v_maps : Value) (v_told : Value) (v_kinds : Value) (v_land : Value) (v_spades : Value) (v_part : Value) (v_made : Value) (v_queue : Value) (v_depth : Value) (v_by : Value) (v_from : Value) (v_come : Value) (v_offOf : Value) (v_parent : Value) (v_best : Value) (v_trees : Value) (v_least : Value) (v_sums : Value) (v_toward : Value) (v_kept : Value) (v_isKept : Value) (v_keptAt : Value) (v_isWriting : Value) (a_pad : Nat) (pm : Nat) (fd : Nat → Int32) (a_slips : Nat) (k : Nat) (fs : Nat → Int32) (sm0 : Int32) (p0 : Int32) (hk2 : 2 ≤ k) (hk6 : k ≤ 6) (hpm : pm ≤ 40) : Ci l G yX10_fault wsX10_fault ({ frames := 3, cells := 0, slots := 0, locals := 68 }) [.ref h1, .int p0] ([(h1, .inr (6, [.int (nI k), v_maps, v_told, v_kinds, v_land, v_spades, v_part, .ref a_pad, .int (nI pm), .ref a_slips, .int sm0, v_made, v_queue, v_depth, v_by, v_from, v_come, v_offOf, v_parent, v_best, v_trees, v_least, v_sums, v_toward, v_kept, v_isKept, v_keptAt, v_isWriting])), (a_pad, .inl (gI G, 40, .inl fd)), (a_slips, .inl (gI G, 10, .inl fs))]) sz (fun (r : Int32) (u : Int32 × (Nat → Int32)) => match u with | (sm1, fs1) => True) (fun (u : Int32 × (Nat → Int32)) => match u with | (sm1, fs1) => [(h1, .inr (6, [.int (nI k), v_maps, v_told, v_kinds, v_land, v_spades, v_part, .ref a_pad, .int (nI pm), .ref a_slips, .int sm1, v_made, v_queue, v_depth, v_by, v_from, v_come, v_offOf, v_parent, v_best, v_trees, v_least, v_sums, v_toward, v_kept, v_isKept, v_keptAt, v_isWriting])), (a_pad, .inl (gI G, 40, .inl fd)), (a_slips, .inl (gI G, 10, .inl fs1))]) 0 0 := by
  refine Met.ofW (cc := cX10_fault) (maxL := 2) (ret := (some .int)) (by decide) rfl ?_
  intro p e s m args below meth c s₁ B hml hv
  obtain ⟨rfl, hsz, hP, hD0, E0⟩ := hv
  have hx := B.exec
  have hb := B.bytes
  have hr := B.returns
  have hts := atoms_spec (ws := wsX10_fault) B.pre
  have hown : s.vm.findClass RX10 = some m.cls := findClass_of_methodNamed B.named
  have hlocks := B.notSynchronized
  subst hsz
  have hD := hD0.self (sz := s.heap.size)
  generalize hAe : va_A ([(h1, .inr (6, [.int (nI k), v_maps, v_told, v_kinds, v_land, v_spades, v_part, .ref a_pad, .int (nI pm), .ref a_slips, .int sm0, v_made, v_queue, v_depth, v_by, v_from, v_come, v_offOf, v_parent, v_best, v_trees, v_least, v_sums, v_toward, v_kept, v_isKept, v_keptAt, v_isWriting])), (a_pad, .inl (gI G, 40, .inl fd)), (a_slips, .inl (gI G, 10, .inl fs))]) s.heap.size = A at hD E0 ⊢
  have E : EV G A s s.heap := E0
  have hA : ∀ q : Nat, s.heap.size ≤ q → A q := fun q h => by rw [← hAe]; exact Or.inr h
  have hS : va_S A s.heap s.heap [] := va_S.rf
  have hl := lv_entry ([.ref h1, .int p0]) (n := 2) (Nat.le_of_ble_eq_true rfl)
  rw [lg_entry_eq]
  generalize (lg_sl ([.ref h1, .int p0]) ++ List.replicate (2 - (lg_sl ([.ref h1, .int p0])).length) Slot.unset).toArray = ls at hl ⊢
  have hl : lv_has ls 2 [(0, .ref h1), (1, .int p0)] := hl
  have hP : va_P G.1 vwCl ([(h1, .inr (6, [.int (nI k), v_maps, v_told, v_kinds, v_land, v_spades, v_part, .ref a_pad, .int (nI pm), .ref a_slips, .int sm0, v_made, v_queue, v_depth, v_by, v_from, v_come, v_offOf, v_parent, v_best, v_trees, v_least, v_sums, v_toward, v_kept, v_isKept, v_keptAt, v_isWriting])), (a_pad, .inl (gI G, 40, .inl fd)), (a_slips, .inl (gI G, 10, .inl fs))]) s.heap := hP
  refine lv_iload_n hx hb dX10_fault_0 rfl (lv_at hl 1 rfl) ?_
  refine lv_if_ne (tgt := 12) hx hb dX10_fault_1 (by decide) (fun c1 => ?_) (fun c1 => ?_)
  · refine lv_iload_n hx hb dX10_fault_12 rfl (lv_at hl 1 rfl) ?_
    refine lv_iconst (v := 1) hx hb dX10_fault_13 (by decide) ?_
    refine lv_icmp_ne (tgt := 24) hx hb dX10_fault_14 (by decide) (fun c2 => ?_) (fun c2 => ?_)
    · refine lv_iload_n hx hb dX10_fault_24 rfl (lv_at hl 1 rfl) ?_
      refine lv_iconst (v := 2) hx hb dX10_fault_25 (by decide) ?_
      refine lv_icmp_ne (tgt := 37) hx hb dX10_fault_26 (by decide) (fun c3 => ?_) (fun c3 => ?_)
      · refine lv_bipush (v := (-2)) hx hb dX10_fault_37 (by decide) ?_
        have hP9 := (hP.sub (ws' := [(h1, .inr (6, [.int (nI k), v_maps, v_told, v_kinds, v_land, v_spades, v_part, .ref a_pad, .int (nI pm), .ref a_slips, .int sm0, v_made, v_queue, v_depth, v_by, v_from, v_come, v_offOf, v_parent, v_best, v_trees, v_least, v_sums, v_toward, v_kept, v_isKept, v_keptAt, v_isWriting])), (a_pad, .inl (gI G, 40, .inl fd)), (a_slips, .inl (gI G, 10, .inl fs))]) [0, 1, 2] rfl)
        have hD9 := (hD.sub (ws' := [(h1, .inr (6, [.int (nI k), v_maps, v_told, v_kinds, v_land, v_spades, v_part, .ref a_pad, .int (nI pm), .ref a_slips, .int sm0, v_made, v_queue, v_depth, v_by, v_from, v_come, v_offOf, v_parent, v_best, v_trees, v_least, v_sums, v_toward, v_kept, v_isKept, v_keptAt, v_isWriting])), (a_pad, .inl (gI G, 40, .inl fd)), (a_slips, .inl (gI G, 10, .inl fs))]) [0, 1, 2] (by decide) rfl)
        exact W.iret (v := (-2)) hx hb hr (fun t9_ ht9_ hW9_ => ⟨⟨(-2), (sm0, fs), rfl, trivial, by rw [ht9_]; exact hP9, hD9⟩, hS.F ht9_⟩) hS.2.2 dX10_fault_39
      · refine lv_aload_n hx hb dX10_fault_29 rfl (lv_at hl 0 rfl) ?_
        refine lv_iconst (v := 1) hx hb dX10_fault_30 (by decide) ?_
        refine ca_iR (va_runV (As := [.int 1]) (rest := []) ⟨hx, hb, hml, hown, hts⟩ (m_faultOfMap l G s.heap.size h1 v_maps v_told v_kinds v_land v_spades v_part (.ref a_slips) (.int sm0) v_made v_queue v_depth v_by v_from v_come v_offOf v_parent v_best v_trees v_least v_sums v_toward v_kept v_isKept v_keptAt v_isWriting a_pad pm fd k 1 hk2 hk6 (by omega)) (cwV 1 hts gX10_fault_X10_faultOfMap rfl rfl rfl (by decide +kernel) ⟨by decide +kernel, by decide +kernel⟩) (pre_V E hP hD hS hA [0, 1] (by decide) rfl 0 6 rfl rfl) rfl rfl hl.1 rfl (lv_room (Nat.le_of_ble_eq_true rfl)) dX10_fault_31 ⟨by decide +kernel, by decide +kernel⟩) hS hP hD hA [0, 1] rfl (fun r5 _ H locs w4 hP hS => ?_)
        refine lv_goto (tgt := 39) hx hb dX10_fault_34 (by decide) ?_
        have hP9 := (hP.sub (ws' := [(h1, .inr (6, [.int (nI k), v_maps, v_told, v_kinds, v_land, v_spades, v_part, .ref a_pad, .int (nI pm), .ref a_slips, .int sm0, v_made, v_queue, v_depth, v_by, v_from, v_come, v_offOf, v_parent, v_best, v_trees, v_least, v_sums, v_toward, v_kept, v_isKept, v_keptAt, v_isWriting])), (a_pad, .inl (gI G, 40, .inl fd)), (a_slips, .inl (gI G, 10, .inl fs))]) [0, 1, 2] rfl)
        have hD9 := (hD.sub (ws' := [(h1, .inr (6, [.int (nI k), v_maps, v_told, v_kinds, v_land, v_spades, v_part, .ref a_pad, .int (nI pm), .ref a_slips, .int sm0, v_made, v_queue, v_depth, v_by, v_from, v_come, v_offOf, v_parent, v_best, v_trees, v_least, v_sums, v_toward, v_kept, v_isKept, v_keptAt, v_isWriting])), (a_pad, .inl (gI G, 40, .inl fd)), (a_slips, .inl (gI G, 10, .inl fs))]) [0, 1, 2] (by decide) rfl)
        exact W.iret (v := r5) hx hb hr (fun t9_ ht9_ hW9_ => ⟨⟨r5, (sm0, fs), rfl, trivial, by rw [ht9_]; exact hP9, hD9⟩, hS.F ht9_⟩) hS.2.2 dX10_fault_39
    · refine lv_aload_n hx hb dX10_fault_17 rfl (lv_at hl 0 rfl) ?_
      refine ca_i (wr := []) (va_runV (As := []) (rest := []) ⟨hx, hb, hml, hown, hts⟩ (m_faultOfSlips l G s.heap.size h1 v_maps v_told v_kinds v_land v_spades v_part v_made v_queue v_depth v_by v_from v_come v_offOf v_parent v_best v_trees v_least v_sums v_toward v_kept v_isKept v_keptAt v_isWriting a_pad pm fd a_slips k fs sm0 hk2 hk6 (by omega)) (cwV 0 hts gX10_fault_X10_faultOfSlips rfl rfl rfl (by decide +kernel) ⟨by decide +kernel, by decide +kernel⟩) (pre_V E hP hD hS hA [0, 1, 2] (by decide) rfl 0 6 rfl rfl) rfl rfl hl.1 rfl (lv_room (Nat.le_of_ble_eq_true rfl)) dX10_fault_18 ⟨by decide +kernel, by decide +kernel⟩) hS hP hD hA [0, 1, 2] [] rfl rfl (by decide) (by decide) (fun r7 u8 H locs w6 hP hD hS => ?_)
      obtain ⟨sm1_9, fs1_10⟩ := u8
      try dsimp only at w6 hP hD
      have hP := (hP.sub (ws' := [(h1, .inr (6, [.int (nI k), v_maps, v_told, v_kinds, v_land, v_spades, v_part, .ref a_pad, .int (nI pm), .ref a_slips, .int (nI sm1_9), v_made, v_queue, v_depth, v_by, v_from, v_come, v_offOf, v_parent, v_best, v_trees, v_least, v_sums, v_toward, v_kept, v_isKept, v_keptAt, v_isWriting])), (a_pad, .inl (gI G, 40, .inl fd)), (a_slips, .inl (gI G, 10, .inl fs1_10))]) [0, 1, 2] rfl)
      have hD := (hD.sub (ws' := [(h1, .inr (6, [.int (nI k), v_maps, v_told, v_kinds, v_land, v_spades, v_part, .ref a_pad, .int (nI pm), .ref a_slips, .int (nI sm1_9), v_made, v_queue, v_depth, v_by, v_from, v_come, v_offOf, v_parent, v_best, v_trees, v_least, v_sums, v_toward, v_kept, v_isKept, v_keptAt, v_isWriting])), (a_pad, .inl (gI G, 40, .inl fd)), (a_slips, .inl (gI G, 10, .inl fs1_10))]) [0, 1, 2] (by decide) rfl)
      refine lv_goto (tgt := 39) hx hb dX10_fault_21 (by decide) ?_
      have hP9 := (hP.sub (ws' := [(h1, .inr (6, [.int (nI k), v_maps, v_told, v_kinds, v_land, v_spades, v_part, .ref a_pad, .int (nI pm), .ref a_slips, .int (nI sm1_9), v_made, v_queue, v_depth, v_by, v_from, v_come, v_offOf, v_parent, v_best, v_trees, v_least, v_sums, v_toward, v_kept, v_isKept, v_keptAt, v_isWriting])), (a_pad, .inl (gI G, 40, .inl fd)), (a_slips, .inl (gI G, 10, .inl fs1_10))]) [0, 1, 2] rfl)
      have hD9 := (hD.sub (ws' := [(h1, .inr (6, [.int (nI k), v_maps, v_told, v_kinds, v_land, v_spades, v_part, .ref a_pad, .int (nI pm), .ref a_slips, .int (nI sm1_9), v_made, v_queue, v_depth, v_by, v_from, v_come, v_offOf, v_parent, v_best, v_trees, v_least, v_sums, v_toward, v_kept, v_isKept, v_keptAt, v_isWriting])), (a_pad, .inl (gI G, 40, .inl fd)), (a_slips, .inl (gI G, 10, .inl fs1_10))]) [0, 1, 2] (by decide) rfl)
      exact W.iret (v := r7) hx hb hr (fun t9_ ht9_ hW9_ => ⟨⟨r7, (nI sm1_9, fs1_10), rfl, trivial, by rw [ht9_]; exact hP9, hD9⟩, hS.F ht9_⟩) hS.2.2 dX10_fault_39
  · refine lv_aload_n hx hb dX10_fault_4 rfl (lv_at hl 0 rfl) ?_
    refine lv_iconst (v := 0) hx hb dX10_fault_5 (by decide) ?_
    refine ca_iR (va_runV (As := [.int 0]) (rest := []) ⟨hx, hb, hml, hown, hts⟩ (m_faultOfMap l G s.heap.size h1 v_maps v_told v_kinds v_land v_spades v_part (.ref a_slips) (.int sm0) v_made v_queue v_depth v_by v_from v_come v_offOf v_parent v_best v_trees v_least v_sums v_toward v_kept v_isKept v_keptAt v_isWriting a_pad pm fd k 0 hk2 hk6 (by omega)) (cwV 1 hts gX10_fault_X10_faultOfMap rfl rfl rfl (by decide +kernel) ⟨by decide +kernel, by decide +kernel⟩) (pre_V E hP hD hS hA [0, 1] (by decide) rfl 0 6 rfl rfl) rfl rfl hl.1 rfl (lv_room (Nat.le_of_ble_eq_true rfl)) dX10_fault_6 ⟨by decide +kernel, by decide +kernel⟩) hS hP hD hA [0, 1] rfl (fun r12 _ H locs w11 hP hS => ?_)
    refine lv_goto (tgt := 39) hx hb dX10_fault_9 (by decide) ?_
    have hP9 := (hP.sub (ws' := [(h1, .inr (6, [.int (nI k), v_maps, v_told, v_kinds, v_land, v_spades, v_part, .ref a_pad, .int (nI pm), .ref a_slips, .int sm0, v_made, v_queue, v_depth, v_by, v_from, v_come, v_offOf, v_parent, v_best, v_trees, v_least, v_sums, v_toward, v_kept, v_isKept, v_keptAt, v_isWriting])), (a_pad, .inl (gI G, 40, .inl fd)), (a_slips, .inl (gI G, 10, .inl fs))]) [0, 1, 2] rfl)
    have hD9 := (hD.sub (ws' := [(h1, .inr (6, [.int (nI k), v_maps, v_told, v_kinds, v_land, v_spades, v_part, .ref a_pad, .int (nI pm), .ref a_slips, .int sm0, v_made, v_queue, v_depth, v_by, v_from, v_come, v_offOf, v_parent, v_best, v_trees, v_least, v_sums, v_toward, v_kept, v_isKept, v_keptAt, v_isWriting])), (a_pad, .inl (gI G, 40, .inl fd)), (a_slips, .inl (gI G, 10, .inl fs))]) [0, 1, 2] (by decide) rfl)
    exact W.iret (v := r12) hx hb hr (fun t9_ ht9_ hW9_ => ⟨⟨r12, (sm0, fs), rfl, trivial, by rw [ht9_]; exact hP9, hD9⟩, hS.F ht9_⟩) hS.2.2 dX10_fault_39

set_option maxHeartbeats 1000000 in
set_option maxRecDepth 100000 in
theorem m_map (l : Launch) (G : Gy) (sz : Nat) (h1 : Nat) (v_kinds : Value) (v_land : Value) (v_spades : Value) (v_part : Value) (v_slips : Value) (v_slipMany : Value) (v_made : Value) (v_queue : Value) (v_depth : Value) (v_by : Value) (v_from : Value) (v_come : Value) (v_offOf : Value) (v_parent : Value) (v_best : Value) (v_trees : Value) (v_least : Value) (v_sums : Value) (v_toward : Value) (v_kept : Value) (v_isKept : Value) (v_keptAt : Value) (v_isWriting : Value) (a_maps : Nat) (fm : Nat → Int32) (a_pad : Nat) (pm : Nat) (fd : Nat → Int32) (k : Nat) (told : Int32) (p0 : Int32) (hk2 : 2 ≤ k) (hk6 : k ≤ 6) (hpm : pm ≤ 40) (hfm : mapsOK k fm) : Ci l G yX10_map wsX10_map ({ frames := 3, cells := 0, slots := 0, locals := 68 }) [.ref h1, .int p0] ([(h1, .inr (6, [.int (nI k), .ref a_maps, .int told, v_kinds, v_land, v_spades, v_part, .ref a_pad, .int (nI pm), v_slips, v_slipMany, v_made, v_queue, v_depth, v_by, v_from, v_come, v_offOf, v_parent, v_best, v_trees, v_least, v_sums, v_toward, v_kept, v_isKept, v_keptAt, v_isWriting])), (a_maps, .inl (gI G, 6, .inl fm)), (a_pad, .inl (gI G, 40, .inl fd))]) sz (fun (r : Int32) (u : Int32 × Nat × (Nat → Int32)) => match u with | (told1, pm1, fm1) => pm1 ≤ 40 ∧ mapsOK k fm1) (fun (u : Int32 × Nat × (Nat → Int32)) => match u with | (told1, pm1, fm1) => [(h1, .inr (6, [.int (nI k), .ref a_maps, .int told1, v_kinds, v_land, v_spades, v_part, .ref a_pad, .int (nI pm1), v_slips, v_slipMany, v_made, v_queue, v_depth, v_by, v_from, v_come, v_offOf, v_parent, v_best, v_trees, v_least, v_sums, v_toward, v_kept, v_isKept, v_keptAt, v_isWriting])), (a_maps, .inl (gI G, 6, .inl fm1)), (a_pad, .inl (gI G, 40, .inl fd))]) 0 0 := by
  refine Met.ofW (cc := cX10_map) (maxL := 4) (ret := (some .int)) (by decide) rfl ?_
  intro p e s m args below meth c s₁ B hml hv
  obtain ⟨rfl, hsz, hP, hD0, E0⟩ := hv
  have hx := B.exec
  have hb := B.bytes
  have hr := B.returns
  have hts := atoms_spec (ws := wsX10_map) B.pre
  have hown : s.vm.findClass RX10 = some m.cls := findClass_of_methodNamed B.named
  have hlocks := B.notSynchronized
  subst hsz
  have hD := hD0.self (sz := s.heap.size)
  generalize hAe : va_A ([(h1, .inr (6, [.int (nI k), .ref a_maps, .int told, v_kinds, v_land, v_spades, v_part, .ref a_pad, .int (nI pm), v_slips, v_slipMany, v_made, v_queue, v_depth, v_by, v_from, v_come, v_offOf, v_parent, v_best, v_trees, v_least, v_sums, v_toward, v_kept, v_isKept, v_keptAt, v_isWriting])), (a_maps, .inl (gI G, 6, .inl fm)), (a_pad, .inl (gI G, 40, .inl fd))]) s.heap.size = A at hD E0 ⊢
  have E : EV G A s s.heap := E0
  have hA : ∀ q : Nat, s.heap.size ≤ q → A q := fun q h => by rw [← hAe]; exact Or.inr h
  have hS : va_S A s.heap s.heap [] := va_S.rf
  have hl := lv_entry ([.ref h1, .int p0]) (n := 4) (Nat.le_of_ble_eq_true rfl)
  rw [lg_entry_eq]
  generalize (lg_sl ([.ref h1, .int p0]) ++ List.replicate (4 - (lg_sl ([.ref h1, .int p0])).length) Slot.unset).toArray = ls at hl ⊢
  have hl : lv_has ls 4 [(0, .ref h1), (1, .int p0)] := hl
  have hP : va_P G.1 vwCl ([(h1, .inr (6, [.int (nI k), .ref a_maps, .int told, v_kinds, v_land, v_spades, v_part, .ref a_pad, .int (nI pm), v_slips, v_slipMany, v_made, v_queue, v_depth, v_by, v_from, v_come, v_offOf, v_parent, v_best, v_trees, v_least, v_sums, v_toward, v_kept, v_isKept, v_keptAt, v_isWriting])), (a_maps, .inl (gI G, 6, .inl fm)), (a_pad, .inl (gI G, 40, .inl fd))]) s.heap := hP
  have hal := p5le hk6
  refine lv_iload_n hx hb dX10_map_0 rfl (lv_at hl 1 rfl) ?_
  refine ca_iR (va_runS (As := [.int p0]) (rest := []) ⟨hx, hb, hml, hown, hts⟩ (m_isMap l G s.heap.size p0) (va_cwS 1 hts gX10_map_X10_isMap rfl rfl rfl (by decide +kernel) ⟨by decide +kernel, by decide +kernel⟩) (pre_S E hP hD hS hA [] (by decide) rfl) rfl rfl hl.1 rfl (lv_room (Nat.le_of_ble_eq_true rfl)) dX10_map_1 ⟨by decide +kernel, by decide +kernel⟩) hS hP hD hA [] rfl (fun r2 _ H locs w1 hP hS => ?_)
  rcases w1 with ⟨rfl, b3⟩ | ⟨rfl, b3⟩
  · refine lv_if_ne (tgt := 9) hx hb dX10_map_4 (by decide) (fun _ => ?_) (fun c4 => False.elim (by revert c4; decide))
    obtain ⟨j_p0, hj_p0, ej_p0⟩ := inR6 b3
    have hl : lv_has ls 4 [(0, .ref h1), (1, .int (nI j_p0))] := by have q := hl; rw [ej_p0] at q; exact q
    refine lv_aload_n hx hb dX10_map_9 rfl (lv_at hl 0 rfl) ?_
    refine lv_iconst (v := 0) hx hb dX10_map_10 (by decide) ?_
    refine ca_iR (va_runV (As := [.int 0]) (rest := []) ⟨hx, hb, hml, hown, hts⟩ (m_faultOfMap l G H.size h1 (.ref a_maps) (.int told) v_kinds v_land v_spades v_part v_slips v_slipMany v_made v_queue v_depth v_by v_from v_come v_offOf v_parent v_best v_trees v_least v_sums v_toward v_kept v_isKept v_keptAt v_isWriting a_pad pm fd k 0 hk2 hk6 (by omega)) (cwV 1 hts gX10_map_X10_faultOfMap rfl rfl rfl (by decide +kernel) ⟨by decide +kernel, by decide +kernel⟩) (pre_V E hP hD hS hA [0, 2] (by decide) rfl 0 6 rfl rfl) rfl rfl hl.1 rfl (lv_room (Nat.le_of_ble_eq_true rfl)) dX10_map_11 ⟨by decide +kernel, by decide +kernel⟩) hS hP hD hA [0, 2] rfl (fun r6 _ H locs w5 hP hS => ?_)
    refine lv_if_lt (tgt := 20) hx hb dX10_map_14 (by decide) (fun c7 => ?_) (fun c7 => ?_)
    · obtain ⟨-, hpk, hcan⟩ := or_neg w5 c7
      refine lv_iconst (v := 0) hx hb dX10_map_20 (by decide) ?_
      refine lv_istore_n (lv' := [(2, .int 0), (0, .ref h1), (1, .int (nI j_p0))]) hx hb dX10_map_21 rfl hl (by decide) rfl (fun ls hl => ?_)
      refine lv_iconst (v := 0) hx hb dX10_map_22 (by decide) ?_
      refine lv_istore_n (lv' := [(3, .int 0), (2, .int 0), (0, .ref h1), (1, .int (nI j_p0))]) hx hb dX10_map_23 rfl hl (by decide) rfl (fun ls hl => ?_)
      refine lp_run (x0 := (0, 0)) (fun xx_ : Nat × Nat => match xx_ with | (x, q) => [(h1, .inr (6, [.int (nI k), .ref a_maps, .int told, v_kinds, v_land, v_spades, v_part, .ref a_pad, .int (nI pm), v_slips, v_slipMany, v_made, v_queue, v_depth, v_by, v_from, v_come, v_offOf, v_parent, v_best, v_trees, v_least, v_sums, v_toward, v_kept, v_isKept, v_keptAt, v_isWriting])), (a_maps, .inl (gI G, 6, .inl fm)), (a_pad, .inl (gI G, 40, .inl fd))]) (fun xx_ : Nat × Nat => match xx_ with | (x, q) => [(3, .int (nI x)), (2, .int (nI q)), (0, .ref h1), (1, .int (nI j_p0))]) (fun xx_ : Nat × Nat => match xx_ with | (x, q) => (x ≤ k) ∧ (q < 5 ^ x)) (fun xx_ : Nat × Nat => match xx_ with | (x, q) => k - x) (hP.sub [0, 1, 2] rfl) (hD.sub [0, 1, 2] (by decide) rfl) hS (lv_sub hl [0, 1, 2, 3] rfl) ⟨(by omega), (by decide)⟩ ?_
      intro xx_ hI ih24 H locs ls hP hD hS hl
      obtain ⟨x, q⟩ := xx_
      dsimp only at hI ih24 hP hD hl
      obtain ⟨hx0, hq⟩ := hI
      have hl : lv_has ls 4 [(3, .int (nI x)), (2, .int (nI q)), (0, .ref h1), (1, .int (nI j_p0))] := hl
      have hP : va_P G.1 vwCl ([(h1, .inr (6, [.int (nI k), .ref a_maps, .int told, v_kinds, v_land, v_spades, v_part, .ref a_pad, .int (nI pm), v_slips, v_slipMany, v_made, v_queue, v_depth, v_by, v_from, v_come, v_offOf, v_parent, v_best, v_trees, v_least, v_sums, v_toward, v_kept, v_isKept, v_keptAt, v_isWriting])), (a_maps, .inl (gI G, 6, .inl fm)), (a_pad, .inl (gI G, 40, .inl fd))]) H := hP
      have hD : va_D A ([(h1, .inr (6, [.int (nI k), .ref a_maps, .int told, v_kinds, v_land, v_spades, v_part, .ref a_pad, .int (nI pm), v_slips, v_slipMany, v_made, v_queue, v_depth, v_by, v_from, v_come, v_offOf, v_parent, v_best, v_trees, v_least, v_sums, v_toward, v_kept, v_isKept, v_keptAt, v_isWriting])), (a_maps, .inl (gI G, 6, .inl fm)), (a_pad, .inl (gI G, 40, .inl fd))]) := hD
      refine lv_iload_n hx hb dX10_map_24 rfl (lv_at hl 0 rfl) ?_
      refine lv_aload_n hx hb dX10_map_25 rfl (lv_at hl 2 rfl) ?_
      refine va_get (D := G.1) (ci := 6) (v := .int (nI k)) (C := RX10) (T := TX10) (N := 28) hx hb hts (fun _ h => List.mem_cons_of_mem _ (List.mem_append_right _ h)) hown E.K hP 0 rfl rfl 0 (by decide) (hts (.fieldLink RX10 67 "LastMapModel" "sites" "I") (by decide +kernel)) (fun _ h9 => h9) rfl dX10_map_26 ?_
      refine lv_icmp_ge (tgt := 52) hx hb dX10_map_29 (by decide) (fun c8 => ?_) (fun c8 => ?_)
      · have c8 : k ≤ x := (nI_leI (a := k) (b := x) (by omega) (by omega)).mp c8
        refine lv_aload_n hx hb dX10_map_52 rfl (lv_at hl 2 rfl) ?_
        refine va_get (D := G.1) (ci := 6) (v := .ref a_maps) (C := RX10) (T := TX10) (N := 28) hx hb hts (fun _ h => List.mem_cons_of_mem _ (List.mem_append_right _ h)) hown E.K hP 0 rfl rfl 1 (by decide) (hts (.fieldLink RX10 7 "LastMapModel" "maps" "[I") (by decide +kernel)) (fun _ h9 => h9) rfl dX10_map_53 ?_
        refine lv_iload_n hx hb dX10_map_56 rfl (lv_at hl 3 rfl) ?_
        refine lv_iload_n hx hb dX10_map_57 rfl (lv_at hl 1 rfl) ?_
        refine va_iast hx hb E.K hP hD hS 1 1 rfl rfl (i := nI j_p0) (vp_in_nI (by omega) (by decide)) dX10_map_58 (fun H locs hP hD hS => ?_)
        obtain ⟨f9, ef9⟩ : ∃ yy_ : Nat → Int32, yy_ = upd fm (nI j_p0).toNatClampNeg (nI q) := ⟨_, rfl⟩
        have hP : va_P G.1 vwCl ([(h1, .inr (6, [.int (nI k), .ref a_maps, .int told, v_kinds, v_land, v_spades, v_part, .ref a_pad, .int (nI pm), v_slips, v_slipMany, v_made, v_queue, v_depth, v_by, v_from, v_come, v_offOf, v_parent, v_best, v_trees, v_least, v_sums, v_toward, v_kept, v_isKept, v_keptAt, v_isWriting])), (a_maps, .inl (gI G, 6, .inl f9)), (a_pad, .inl (gI G, 40, .inl fd))]) H := by rw [ef9]; exact hP
        have hD : va_D A ([(h1, .inr (6, [.int (nI k), .ref a_maps, .int told, v_kinds, v_land, v_spades, v_part, .ref a_pad, .int (nI pm), v_slips, v_slipMany, v_made, v_queue, v_depth, v_by, v_from, v_come, v_offOf, v_parent, v_best, v_trees, v_least, v_sums, v_toward, v_kept, v_isKept, v_keptAt, v_isWriting])), (a_maps, .inl (gI G, 6, .inl f9)), (a_pad, .inl (gI G, 40, .inl fd))]) := by rw [ef9]; exact hD
        refine lv_aload_n hx hb dX10_map_59 rfl (lv_at hl 2 rfl) ?_
        refine lv_dup hx hb dX10_map_60 rfl ?_
        refine va_get (D := G.1) (ci := 6) (v := .int told) (C := RX10) (T := TX10) (N := 28) hx hb hts (fun _ h => List.mem_cons_of_mem _ (List.mem_append_right _ h)) hown E.K hP 0 rfl rfl 2 (by decide) (hts (.fieldLink RX10 70 "LastMapModel" "told" "I") (by decide +kernel)) (fun _ h9 => h9) rfl dX10_map_61 ?_
        refine lv_iconst (v := 1) hx hb dX10_map_64 (by decide) ?_
        refine lv_iload_n hx hb dX10_map_65 rfl (lv_at hl 3 rfl) ?_
        refine lv_ishl hx hb dX10_map_66 ?_
        refine lv_topi (fun x10 ex10 => ?_)
        refine lv_ior hx hb dX10_map_67 ?_
        refine lv_topi (fun x11 ex11 => ?_)
        refine va_put (D := G.1) (ci := 6) (v := .int x11) (ty := .int) (C := RX10) (T := TX10) (N := 28) hx hb hts (fun _ h => List.mem_cons_of_mem _ (List.mem_append_right _ h)) tyX10 tyX10_ok nmX10 hown E.K hP hD hS 0 rfl rfl 2 (by decide) (hts (.fieldLink RX10 70 "LastMapModel" "told" "I") (by decide +kernel)) (fun _ h9 => h9) rfl (by decide +kernel) rfl rfl (Nat.le_of_ble_eq_true rfl) dX10_map_68 (fun H locs hP hD hS => ?_)
        have hP : va_P G.1 vwCl ([(h1, .inr (6, [.int (nI k), .ref a_maps, .int x11, v_kinds, v_land, v_spades, v_part, .ref a_pad, .int (nI pm), v_slips, v_slipMany, v_made, v_queue, v_depth, v_by, v_from, v_come, v_offOf, v_parent, v_best, v_trees, v_least, v_sums, v_toward, v_kept, v_isKept, v_keptAt, v_isWriting])), (a_maps, .inl (gI G, 6, .inl f9)), (a_pad, .inl (gI G, 40, .inl fd))]) H := hP
        have hD : va_D A ([(h1, .inr (6, [.int (nI k), .ref a_maps, .int x11, v_kinds, v_land, v_spades, v_part, .ref a_pad, .int (nI pm), v_slips, v_slipMany, v_made, v_queue, v_depth, v_by, v_from, v_come, v_offOf, v_parent, v_best, v_trees, v_least, v_sums, v_toward, v_kept, v_isKept, v_keptAt, v_isWriting])), (a_maps, .inl (gI G, 6, .inl f9)), (a_pad, .inl (gI G, 40, .inl fd))]) := hD
        refine lv_aload_n hx hb dX10_map_71 rfl (lv_at hl 2 rfl) ?_
        refine lv_iconst (v := 0) hx hb dX10_map_72 (by decide) ?_
        refine va_put (D := G.1) (ci := 6) (v := .int 0) (ty := .int) (C := RX10) (T := TX10) (N := 28) hx hb hts (fun _ h => List.mem_cons_of_mem _ (List.mem_append_right _ h)) tyX10 tyX10_ok nmX10 hown E.K hP hD hS 0 rfl rfl 8 (by decide) (hts (.fieldLink RX10 103 "LastMapModel" "padMany" "I") (by decide +kernel)) (fun _ h9 => h9) rfl (by decide +kernel) rfl rfl (Nat.le_of_ble_eq_true rfl) dX10_map_73 (fun H locs hP hD hS => ?_)
        have hP : va_P G.1 vwCl ([(h1, .inr (6, [.int (nI k), .ref a_maps, .int x11, v_kinds, v_land, v_spades, v_part, .ref a_pad, .int 0, v_slips, v_slipMany, v_made, v_queue, v_depth, v_by, v_from, v_come, v_offOf, v_parent, v_best, v_trees, v_least, v_sums, v_toward, v_kept, v_isKept, v_keptAt, v_isWriting])), (a_maps, .inl (gI G, 6, .inl f9)), (a_pad, .inl (gI G, 40, .inl fd))]) H := hP
        have hD : va_D A ([(h1, .inr (6, [.int (nI k), .ref a_maps, .int x11, v_kinds, v_land, v_spades, v_part, .ref a_pad, .int 0, v_slips, v_slipMany, v_made, v_queue, v_depth, v_by, v_from, v_come, v_offOf, v_parent, v_best, v_trees, v_least, v_sums, v_toward, v_kept, v_isKept, v_keptAt, v_isWriting])), (a_maps, .inl (gI G, 6, .inl f9)), (a_pad, .inl (gI G, 40, .inl fd))]) := hD
        refine lv_iconst (v := 1) hx hb dX10_map_76 (by decide) ?_
        have hP9 := (hP.sub (ws' := [(h1, .inr (6, [.int (nI k), .ref a_maps, .int x11, v_kinds, v_land, v_spades, v_part, .ref a_pad, .int 0, v_slips, v_slipMany, v_made, v_queue, v_depth, v_by, v_from, v_come, v_offOf, v_parent, v_best, v_trees, v_least, v_sums, v_toward, v_kept, v_isKept, v_keptAt, v_isWriting])), (a_maps, .inl (gI G, 6, .inl f9)), (a_pad, .inl (gI G, 40, .inl fd))]) [0, 1, 2] rfl)
        have hD9 := (hD.sub (ws' := [(h1, .inr (6, [.int (nI k), .ref a_maps, .int x11, v_kinds, v_land, v_spades, v_part, .ref a_pad, .int 0, v_slips, v_slipMany, v_made, v_queue, v_depth, v_by, v_from, v_come, v_offOf, v_parent, v_best, v_trees, v_least, v_sums, v_toward, v_kept, v_isKept, v_keptAt, v_isWriting])), (a_maps, .inl (gI G, 6, .inl f9)), (a_pad, .inl (gI G, 40, .inl fd))]) [0, 1, 2] (by decide) rfl)
        exact W.iret (v := 1) hx hb hr (fun t9_ ht9_ hW9_ => ⟨⟨1, (x11, 0, f9), rfl, ⟨by omega, by rw [ef9, nI_clamp (by omega)]; exact mapsOK_upd hfm (by (rw [show k = x by omega]; exact hq))⟩, by rw [ht9_]; exact hP9, hD9⟩, hS.F ht9_⟩) hS.2.2 dX10_map_77
      · have c8 : ¬ k ≤ x := fun h9_ => c8 ((nI_leI (a := k) (b := x) (by omega) (by omega)).mpr h9_)
        refine lv_iconst (v := 5) hx hb dX10_map_32 (by decide) ?_
        refine lv_iload_n hx hb dX10_map_33 rfl (lv_at hl 1 rfl) ?_
        refine lv_imul hx hb dX10_map_34 ?_
        refine lv_topi (fun x12 ex12 => ?_)
        obtain rfl : x12 = nI (5 * q) := by rw [ex12]; exact pk_mul 5 q
        refine lv_aload_n hx hb dX10_map_35 rfl (lv_at hl 2 rfl) ?_
        refine va_get (D := G.1) (ci := 6) (v := .ref a_pad) (C := RX10) (T := TX10) (N := 28) hx hb hts (fun _ h => List.mem_cons_of_mem _ (List.mem_append_right _ h)) hown E.K hP 0 rfl rfl 7 (by decide) (hts (.fieldLink RX10 19 "LastMapModel" "pad" "[I") (by decide +kernel)) (fun _ h9 => h9) rfl dX10_map_36 ?_
        refine lv_iload_n hx hb dX10_map_39 rfl (lv_at hl 0 rfl) ?_
        refine va_iald hx hb E.K hP 2 1 rfl rfl (i := nI x) (vp_in_nI (by omega) (by decide)) dX10_map_40 ?_
        refine lv_topi (fun x13 ex13 => ?_)
        refine ca_iR (va_runS (As := [.int x13]) (rest := [.int (nI (5 * q))]) ⟨hx, hb, hml, hown, hts⟩ (m_signOf l G H.size x13) (va_cwS 1 hts gX10_map_X10_signOf rfl rfl rfl (by decide +kernel) ⟨by decide +kernel, by decide +kernel⟩) (pre_S E hP hD hS hA [] (by decide) rfl) rfl rfl hl.1 rfl (lv_room (Nat.le_of_ble_eq_true rfl)) dX10_map_41 ⟨by decide +kernel, by decide +kernel⟩) hS hP hD hA [] rfl (fun r15 _ H locs w14 hP hS => ?_)
        obtain ⟨g9, hg9, eg9⟩ := sgO_nat (c := fd x) (Or.elim (hcan x (by omega)) id (fun q9 => absurd rfl q9.1))
        obtain rfl : r15 = nI g9 := by rw [w14, ex13, nI_clamp (by omega), eg9]
        refine lv_iadd hx hb dX10_map_44 ?_
        refine lv_topi (fun x16 ex16 => ?_)
        obtain rfl : x16 = nI ((5 * q) + g9) := by rw [ex16]; exact nI_add (5 * q) g9
        refine lv_istore_n (lv' := [(2, .int (nI ((5 * q) + g9))), (3, .int (nI x)), (0, .ref h1), (1, .int (nI j_p0))]) hx hb dX10_map_45 rfl hl (by decide) rfl (fun ls hl => ?_)
        obtain ⟨x17, ex17⟩ : ∃ yy_ : Int32, yy_ = (nI x) + 1 := ⟨_, rfl⟩
        refine lv_iinc (v := x17) (lv' := [(3, .int x17), (2, .int (nI ((5 * q) + g9))), (0, .ref h1), (1, .int (nI j_p0))]) hx hb dX10_map_46 hl (k := 1) rfl (by rw [ex17]; rfl) (by decide) rfl (fun ls hl => ?_)
        obtain rfl : x17 = nI (x + 1) := by rw [ex17]; exact nI_add x 1
        refine lv_goto (tgt := 24) hx hb dX10_map_49 (by decide) ?_
        refine ih24 ((x + 1), ((5 * q) + g9)) ⟨?_, ?_⟩ (by first | omega | (dsimp only; omega)) H locs ls (hP.sub [0, 1, 2] rfl) (hD.sub [0, 1, 2] (by decide) rfl) hS (lv_sub hl [0, 1, 2, 3] rfl)
        · try dsimp only
          omega
        · try dsimp only
          rw [Nat.pow_succ]; omega
    · refine lv_bipush (v := (-5)) hx hb dX10_map_17 (by decide) ?_
      have hP9 := (hP.sub (ws' := [(h1, .inr (6, [.int (nI k), .ref a_maps, .int told, v_kinds, v_land, v_spades, v_part, .ref a_pad, .int (nI pm), v_slips, v_slipMany, v_made, v_queue, v_depth, v_by, v_from, v_come, v_offOf, v_parent, v_best, v_trees, v_least, v_sums, v_toward, v_kept, v_isKept, v_keptAt, v_isWriting])), (a_maps, .inl (gI G, 6, .inl fm)), (a_pad, .inl (gI G, 40, .inl fd))]) [0, 1, 2] rfl)
      have hD9 := (hD.sub (ws' := [(h1, .inr (6, [.int (nI k), .ref a_maps, .int told, v_kinds, v_land, v_spades, v_part, .ref a_pad, .int (nI pm), v_slips, v_slipMany, v_made, v_queue, v_depth, v_by, v_from, v_come, v_offOf, v_parent, v_best, v_trees, v_least, v_sums, v_toward, v_kept, v_isKept, v_keptAt, v_isWriting])), (a_maps, .inl (gI G, 6, .inl fm)), (a_pad, .inl (gI G, 40, .inl fd))]) [0, 1, 2] (by decide) rfl)
      exact W.iret (v := (-5)) hx hb hr (fun t9_ ht9_ hW9_ => ⟨⟨(-5), (told, pm, fm), rfl, ⟨hpm, hfm⟩, by rw [ht9_]; exact hP9, hD9⟩, hS.F ht9_⟩) hS.2.2 dX10_map_19
  · refine lv_if_ne (tgt := 9) hx hb dX10_map_4 (by decide) (fun c18 => False.elim (by revert c18; decide)) (fun _ => ?_)
    refine lv_iconst (v := (-1)) hx hb dX10_map_7 (by decide) ?_
    have hP9 := (hP.sub (ws' := [(h1, .inr (6, [.int (nI k), .ref a_maps, .int told, v_kinds, v_land, v_spades, v_part, .ref a_pad, .int (nI pm), v_slips, v_slipMany, v_made, v_queue, v_depth, v_by, v_from, v_come, v_offOf, v_parent, v_best, v_trees, v_least, v_sums, v_toward, v_kept, v_isKept, v_keptAt, v_isWriting])), (a_maps, .inl (gI G, 6, .inl fm)), (a_pad, .inl (gI G, 40, .inl fd))]) [0, 1, 2] rfl)
    have hD9 := (hD.sub (ws' := [(h1, .inr (6, [.int (nI k), .ref a_maps, .int told, v_kinds, v_land, v_spades, v_part, .ref a_pad, .int (nI pm), v_slips, v_slipMany, v_made, v_queue, v_depth, v_by, v_from, v_come, v_offOf, v_parent, v_best, v_trees, v_least, v_sums, v_toward, v_kept, v_isKept, v_keptAt, v_isWriting])), (a_maps, .inl (gI G, 6, .inl fm)), (a_pad, .inl (gI G, 40, .inl fd))]) [0, 1, 2] (by decide) rfl)
    exact W.iret (v := (-1)) hx hb hr (fun t9_ ht9_ hW9_ => ⟨⟨(-1), (told, pm, fm), rfl, ⟨hpm, hfm⟩, by rw [ht9_]; exact hP9, hD9⟩, hS.F ht9_⟩) hS.2.2 dX10_map_8

set_option maxHeartbeats 1000000 in
set_option maxRecDepth 100000 in
theorem m_at (l : Launch) (G : Gy) (sz : Nat) (h1 : Nat) (v_kinds : Value) (v_land : Value) (v_spades : Value) (v_pad : Value) (v_padMany : Value) (v_slips : Value) (v_slipMany : Value) (v_made : Value) (v_queue : Value) (v_depth : Value) (v_by : Value) (v_from : Value) (v_come : Value) (v_offOf : Value) (v_parent : Value) (v_best : Value) (v_trees : Value) (v_least : Value) (v_sums : Value) (v_toward : Value) (v_kept : Value) (v_isKept : Value) (v_keptAt : Value) (v_isWriting : Value) (a_maps : Nat) (fm : Nat → Int32) (a_part : Nat) (fp : Nat → Int32) (k : Nat) (told : Int32) (p0 : Int32) (p1 : Int32) (hk2 : 2 ≤ k) (hk6 : k ≤ 6) (hp : pOK k fp) (hfm : mapsOK k fm) : Ci l G yX10_at wsX10_at ({ frames := 2, cells := 0, slots := 0, locals := 46 }) [.ref h1, .int p0, .int p1] ([(h1, .inr (6, [.int (nI k), .ref a_maps, .int told, v_kinds, v_land, v_spades, .ref a_part, v_pad, v_padMany, v_slips, v_slipMany, v_made, v_queue, v_depth, v_by, v_from, v_come, v_offOf, v_parent, v_best, v_trees, v_least, v_sums, v_toward, v_kept, v_isKept, v_keptAt, v_isWriting])), (a_maps, .inl (gI G, 6, .inl fm)), (a_part, .inl (gI G, 6, .inl fp))]) sz (fun (r : Int32) (_ : Unit) => True) (fun (_ : Unit) => [(h1, .inr (6, [.int (nI k), .ref a_maps, .int told, v_kinds, v_land, v_spades, .ref a_part, v_pad, v_padMany, v_slips, v_slipMany, v_made, v_queue, v_depth, v_by, v_from, v_come, v_offOf, v_parent, v_best, v_trees, v_least, v_sums, v_toward, v_kept, v_isKept, v_keptAt, v_isWriting])), (a_maps, .inl (gI G, 6, .inl fm)), (a_part, .inl (gI G, 6, .inl fp))]) 0 0 := by
  refine Met.ofW (cc := cX10_at) (maxL := 3) (ret := (some .int)) (by decide) rfl ?_
  intro p e s m args below meth c s₁ B hml hv
  obtain ⟨rfl, hsz, hP, hD0, E0⟩ := hv
  have hx := B.exec
  have hb := B.bytes
  have hr := B.returns
  have hts := atoms_spec (ws := wsX10_at) B.pre
  have hown : s.vm.findClass RX10 = some m.cls := findClass_of_methodNamed B.named
  have hlocks := B.notSynchronized
  subst hsz
  have hD := hD0.self (sz := s.heap.size)
  generalize hAe : va_A ([(h1, .inr (6, [.int (nI k), .ref a_maps, .int told, v_kinds, v_land, v_spades, .ref a_part, v_pad, v_padMany, v_slips, v_slipMany, v_made, v_queue, v_depth, v_by, v_from, v_come, v_offOf, v_parent, v_best, v_trees, v_least, v_sums, v_toward, v_kept, v_isKept, v_keptAt, v_isWriting])), (a_maps, .inl (gI G, 6, .inl fm)), (a_part, .inl (gI G, 6, .inl fp))]) s.heap.size = A at hD E0 ⊢
  have E : EV G A s s.heap := E0
  have hA : ∀ q : Nat, s.heap.size ≤ q → A q := fun q h => by rw [← hAe]; exact Or.inr h
  have hS : va_S A s.heap s.heap [] := va_S.rf
  have hl := lv_entry ([.ref h1, .int p0, .int p1]) (n := 3) (Nat.le_of_ble_eq_true rfl)
  rw [lg_entry_eq]
  generalize (lg_sl ([.ref h1, .int p0, .int p1]) ++ List.replicate (3 - (lg_sl ([.ref h1, .int p0, .int p1])).length) Slot.unset).toArray = ls at hl ⊢
  have hl : lv_has ls 3 [(0, .ref h1), (1, .int p0), (2, .int p1)] := hl
  have hP : va_P G.1 vwCl ([(h1, .inr (6, [.int (nI k), .ref a_maps, .int told, v_kinds, v_land, v_spades, .ref a_part, v_pad, v_padMany, v_slips, v_slipMany, v_made, v_queue, v_depth, v_by, v_from, v_come, v_offOf, v_parent, v_best, v_trees, v_least, v_sums, v_toward, v_kept, v_isKept, v_keptAt, v_isWriting])), (a_maps, .inl (gI G, 6, .inl fm)), (a_part, .inl (gI G, 6, .inl fp))]) s.heap := hP
  have hal := p5le hk6
  refine lv_iload_n hx hb dX10_at_0 rfl (lv_at hl 1 rfl) ?_
  refine ca_iR (va_runS (As := [.int p0]) (rest := []) ⟨hx, hb, hml, hown, hts⟩ (m_isMap l G s.heap.size p0) (va_cwS 1 hts gX10_at_X10_isMap rfl rfl rfl (by decide +kernel) ⟨by decide +kernel, by decide +kernel⟩) (pre_S E hP hD hS hA [] (by decide) rfl) rfl rfl hl.1 rfl (lv_room (Nat.le_of_ble_eq_true rfl)) dX10_at_1 ⟨by decide +kernel, by decide +kernel⟩) hS hP hD hA [] rfl (fun r2 _ H locs w1 hP hS => ?_)
  rcases w1 with ⟨rfl, b3⟩ | ⟨rfl, b3⟩
  · refine lv_if_eq (tgt := 15) hx hb dX10_at_4 (by decide) (fun c4 => False.elim (by revert c4; decide)) (fun _ => ?_)
    refine lv_aload_n hx hb dX10_at_7 rfl (lv_at hl 0 rfl) ?_
    refine lv_iload_n hx hb dX10_at_8 rfl (lv_at hl 2 rfl) ?_
    refine ca_iR (va_runV (As := [.int p1]) (rest := []) ⟨hx, hb, hml, hown, hts⟩ (m_isSite l G H.size h1 (.ref a_maps) (.int told) v_kinds v_land v_spades (.ref a_part) v_pad v_padMany v_slips v_slipMany v_made v_queue v_depth v_by v_from v_come v_offOf v_parent v_best v_trees v_least v_sums v_toward v_kept v_isKept v_keptAt v_isWriting k p1 hk2 hk6) (cwV 1 hts gX10_at_X10_isSite rfl rfl rfl (by decide +kernel) ⟨by decide +kernel, by decide +kernel⟩) (pre_V E hP hD hS hA [0] (by decide) rfl 0 6 rfl rfl) rfl rfl hl.1 rfl (lv_room (Nat.le_of_ble_eq_true rfl)) dX10_at_9 ⟨by decide +kernel, by decide +kernel⟩) hS hP hD hA [0] rfl (fun r6 _ H locs w5 hP hS => ?_)
    rcases w5 with ⟨rfl, b7⟩ | ⟨rfl, b7⟩
    · refine lv_if_ne (tgt := 17) hx hb dX10_at_12 (by decide) (fun _ => ?_) (fun c8 => False.elim (by revert c8; decide))
      obtain ⟨j_p0, hj_p0, ej_p0⟩ := inR6 b3
      have hl : lv_has ls 3 [(0, .ref h1), (1, .int (nI j_p0)), (2, .int p1)] := by have q := hl; rw [ej_p0] at q; exact q
      obtain ⟨j_p1, hj_p1, ej_p1⟩ := b7
      have hl : lv_has ls 3 [(0, .ref h1), (1, .int (nI j_p0)), (2, .int (nI j_p1))] := by have q := hl; rw [ej_p1] at q; exact q
      refine lv_aload_n hx hb dX10_at_17 rfl (lv_at hl 0 rfl) ?_
      refine lv_iload_n hx hb dX10_at_18 rfl (lv_at hl 1 rfl) ?_
      refine ca_iR (va_runV (As := [.int (nI j_p0)]) (rest := []) ⟨hx, hb, hml, hown, hts⟩ (m_isTold l G H.size h1 (.int (nI k)) (.ref a_maps) v_kinds v_land v_spades (.ref a_part) v_pad v_padMany v_slips v_slipMany v_made v_queue v_depth v_by v_from v_come v_offOf v_parent v_best v_trees v_least v_sums v_toward v_kept v_isKept v_keptAt v_isWriting told (nI j_p0)) (cwV 1 hts gX10_at_X10_isTold rfl rfl rfl (by decide +kernel) ⟨by decide +kernel, by decide +kernel⟩) (pre_V E hP hD hS hA [0] (by decide) rfl 0 6 rfl rfl) rfl rfl hl.1 rfl (lv_room (Nat.le_of_ble_eq_true rfl)) dX10_at_19 ⟨by decide +kernel, by decide +kernel⟩) hS hP hD hA [0] rfl (fun r10 _ H locs w9 hP hS => ?_)
      rcases w9 with ⟨rfl, b11⟩ | ⟨rfl, b11⟩
      · refine lv_if_eq (tgt := 42) hx hb dX10_at_22 (by decide) (fun c12 => False.elim (by revert c12; decide)) (fun _ => ?_)
        refine lv_aload_n hx hb dX10_at_25 rfl (lv_at hl 0 rfl) ?_
        refine lv_aload_n hx hb dX10_at_26 rfl (lv_at hl 0 rfl) ?_
        refine va_get (D := G.1) (ci := 6) (v := .ref a_maps) (C := RX10) (T := TX10) (N := 28) hx hb hts (fun _ h => List.mem_cons_of_mem _ (List.mem_append_right _ h)) hown E.K hP 0 rfl rfl 1 (by decide) (hts (.fieldLink RX10 7 "LastMapModel" "maps" "[I") (by decide +kernel)) (fun _ h9 => h9) rfl dX10_at_27 ?_
        refine lv_iload_n hx hb dX10_at_30 rfl (lv_at hl 1 rfl) ?_
        refine va_iald hx hb E.K hP 1 1 rfl rfl (i := nI j_p0) (vp_in_nI (by omega) (by decide)) dX10_at_31 ?_
        refine lv_topi (fun x13 ex13 => ?_)
        obtain ⟨a_x13, ha_x13, hvx13⟩ := hfm j_p0 (by omega)
        obtain rfl : x13 = nI a_x13 := by rw [ex13, nI_clamp (by omega)]; exact hvx13
        refine lv_iload_n hx hb dX10_at_32 rfl (lv_at hl 2 rfl) ?_
        refine ca_iR (va_runV (As := [.int (nI a_x13), .int (nI j_p1)]) (rest := []) ⟨hx, hb, hml, hown, hts⟩ (m_signAt l G H.size h1 (.int (nI k)) (.ref a_maps) (.int told) v_kinds v_land v_spades v_pad v_padMany v_slips v_slipMany v_made v_queue v_depth v_by v_from v_come v_offOf v_parent v_best v_trees v_least v_sums v_toward v_kept v_isKept v_keptAt v_isWriting a_part fp k a_x13 j_p1 hk6 hp (by omega) (by omega)) (cwV 2 hts gX10_at_X10_signAt rfl rfl rfl (by decide +kernel) ⟨by decide +kernel, by decide +kernel⟩) (pre_V E hP hD hS hA [0, 2] (by decide) rfl 0 6 rfl rfl) rfl rfl hl.1 rfl (lv_room (Nat.le_of_ble_eq_true rfl)) dX10_at_33 ⟨by decide +kernel, by decide +kernel⟩) hS hP hD hA [0, 2] rfl (fun r15 _ H locs w14 hP hS => ?_)
        rw [w14]
        refine ca_iR (va_runS (As := [.int (nI (dg k a_x13 j_p1))]) (rest := []) ⟨hx, hb, hml, hown, hts⟩ (m_codeOf l G H.size (nI (dg k a_x13 j_p1))) (va_cwS 1 hts gX10_at_X10_codeOf rfl rfl rfl (by decide +kernel) ⟨by decide +kernel, by decide +kernel⟩) (pre_S E hP hD hS hA [] (by decide) rfl) rfl rfl hl.1 rfl (lv_room (Nat.le_of_ble_eq_true rfl)) dX10_at_36 ⟨by decide +kernel, by decide +kernel⟩) hS hP hD hA [] rfl (fun r17 _ H locs w16 hP hS => ?_)
        refine lv_goto (tgt := 44) hx hb dX10_at_39 (by decide) ?_
        have hP9 := (hP.sub (ws' := [(h1, .inr (6, [.int (nI k), .ref a_maps, .int told, v_kinds, v_land, v_spades, .ref a_part, v_pad, v_padMany, v_slips, v_slipMany, v_made, v_queue, v_depth, v_by, v_from, v_come, v_offOf, v_parent, v_best, v_trees, v_least, v_sums, v_toward, v_kept, v_isKept, v_keptAt, v_isWriting])), (a_maps, .inl (gI G, 6, .inl fm)), (a_part, .inl (gI G, 6, .inl fp))]) [0, 1, 2] rfl)
        have hD9 := (hD.sub (ws' := [(h1, .inr (6, [.int (nI k), .ref a_maps, .int told, v_kinds, v_land, v_spades, .ref a_part, v_pad, v_padMany, v_slips, v_slipMany, v_made, v_queue, v_depth, v_by, v_from, v_come, v_offOf, v_parent, v_best, v_trees, v_least, v_sums, v_toward, v_kept, v_isKept, v_keptAt, v_isWriting])), (a_maps, .inl (gI G, 6, .inl fm)), (a_part, .inl (gI G, 6, .inl fp))]) [0, 1, 2] (by decide) rfl)
        exact W.iret (v := r17) hx hb hr (fun t9_ ht9_ hW9_ => ⟨⟨r17, (), rfl, trivial, by rw [ht9_]; exact hP9, hD9⟩, hS.F ht9_⟩) hS.2.2 dX10_at_44
      · refine lv_if_eq (tgt := 42) hx hb dX10_at_22 (by decide) (fun _ => ?_) (fun c18 => False.elim (by revert c18; decide))
        refine lv_bipush (v := (-3)) hx hb dX10_at_42 (by decide) ?_
        have hP9 := (hP.sub (ws' := [(h1, .inr (6, [.int (nI k), .ref a_maps, .int told, v_kinds, v_land, v_spades, .ref a_part, v_pad, v_padMany, v_slips, v_slipMany, v_made, v_queue, v_depth, v_by, v_from, v_come, v_offOf, v_parent, v_best, v_trees, v_least, v_sums, v_toward, v_kept, v_isKept, v_keptAt, v_isWriting])), (a_maps, .inl (gI G, 6, .inl fm)), (a_part, .inl (gI G, 6, .inl fp))]) [0, 1, 2] rfl)
        have hD9 := (hD.sub (ws' := [(h1, .inr (6, [.int (nI k), .ref a_maps, .int told, v_kinds, v_land, v_spades, .ref a_part, v_pad, v_padMany, v_slips, v_slipMany, v_made, v_queue, v_depth, v_by, v_from, v_come, v_offOf, v_parent, v_best, v_trees, v_least, v_sums, v_toward, v_kept, v_isKept, v_keptAt, v_isWriting])), (a_maps, .inl (gI G, 6, .inl fm)), (a_part, .inl (gI G, 6, .inl fp))]) [0, 1, 2] (by decide) rfl)
        exact W.iret (v := (-3)) hx hb hr (fun t9_ ht9_ hW9_ => ⟨⟨(-3), (), rfl, trivial, by rw [ht9_]; exact hP9, hD9⟩, hS.F ht9_⟩) hS.2.2 dX10_at_44
    · refine lv_if_ne (tgt := 17) hx hb dX10_at_12 (by decide) (fun c19 => False.elim (by revert c19; decide)) (fun _ => ?_)
      refine lv_iconst (v := (-1)) hx hb dX10_at_15 (by decide) ?_
      have hP9 := (hP.sub (ws' := [(h1, .inr (6, [.int (nI k), .ref a_maps, .int told, v_kinds, v_land, v_spades, .ref a_part, v_pad, v_padMany, v_slips, v_slipMany, v_made, v_queue, v_depth, v_by, v_from, v_come, v_offOf, v_parent, v_best, v_trees, v_least, v_sums, v_toward, v_kept, v_isKept, v_keptAt, v_isWriting])), (a_maps, .inl (gI G, 6, .inl fm)), (a_part, .inl (gI G, 6, .inl fp))]) [0, 1, 2] rfl)
      have hD9 := (hD.sub (ws' := [(h1, .inr (6, [.int (nI k), .ref a_maps, .int told, v_kinds, v_land, v_spades, .ref a_part, v_pad, v_padMany, v_slips, v_slipMany, v_made, v_queue, v_depth, v_by, v_from, v_come, v_offOf, v_parent, v_best, v_trees, v_least, v_sums, v_toward, v_kept, v_isKept, v_keptAt, v_isWriting])), (a_maps, .inl (gI G, 6, .inl fm)), (a_part, .inl (gI G, 6, .inl fp))]) [0, 1, 2] (by decide) rfl)
      exact W.iret (v := (-1)) hx hb hr (fun t9_ ht9_ hW9_ => ⟨⟨(-1), (), rfl, trivial, by rw [ht9_]; exact hP9, hD9⟩, hS.F ht9_⟩) hS.2.2 dX10_at_16
  · refine lv_if_eq (tgt := 15) hx hb dX10_at_4 (by decide) (fun _ => ?_) (fun c20 => False.elim (by revert c20; decide))
    refine lv_iconst (v := (-1)) hx hb dX10_at_15 (by decide) ?_
    have hP9 := (hP.sub (ws' := [(h1, .inr (6, [.int (nI k), .ref a_maps, .int told, v_kinds, v_land, v_spades, .ref a_part, v_pad, v_padMany, v_slips, v_slipMany, v_made, v_queue, v_depth, v_by, v_from, v_come, v_offOf, v_parent, v_best, v_trees, v_least, v_sums, v_toward, v_kept, v_isKept, v_keptAt, v_isWriting])), (a_maps, .inl (gI G, 6, .inl fm)), (a_part, .inl (gI G, 6, .inl fp))]) [0, 1, 2] rfl)
    have hD9 := (hD.sub (ws' := [(h1, .inr (6, [.int (nI k), .ref a_maps, .int told, v_kinds, v_land, v_spades, .ref a_part, v_pad, v_padMany, v_slips, v_slipMany, v_made, v_queue, v_depth, v_by, v_from, v_come, v_offOf, v_parent, v_best, v_trees, v_least, v_sums, v_toward, v_kept, v_isKept, v_keptAt, v_isWriting])), (a_maps, .inl (gI G, 6, .inl fm)), (a_part, .inl (gI G, 6, .inl fp))]) [0, 1, 2] (by decide) rfl)
    exact W.iret (v := (-1)) hx hb hr (fun t9_ ht9_ hW9_ => ⟨⟨(-1), (), rfl, trivial, by rw [ht9_]; exact hP9, hD9⟩, hS.F ht9_⟩) hS.2.2 dX10_at_16

set_option maxHeartbeats 1000000 in
set_option maxRecDepth 100000 in
theorem m_hand (l : Launch) (G : Gy) (sz : Nat) (h1 : Nat) (v_sites : Value) (v_maps : Value) (v_told : Value) (v_land : Value) (v_spades : Value) (v_part : Value) (v_pad : Value) (v_padMany : Value) (v_slips : Value) (v_slipMany : Value) (v_made : Value) (v_queue : Value) (v_depth : Value) (v_by : Value) (v_from : Value) (v_come : Value) (v_offOf : Value) (v_parent : Value) (v_best : Value) (v_trees : Value) (v_least : Value) (v_sums : Value) (v_toward : Value) (v_kept : Value) (v_isKept : Value) (v_keptAt : Value) (v_isWriting : Value) (a_kinds : Nat) (fk : Nat → Int32) (p0 : Int32) (p1 : Int32)  : Ci l G yX10_hand wsX10_hand ({ frames := 2, cells := 0, slots := 0, locals := 45 }) [.ref h1, .int p0, .int p1] ([(h1, .inr (6, [v_sites, v_maps, v_told, .ref a_kinds, v_land, v_spades, v_part, v_pad, v_padMany, v_slips, v_slipMany, v_made, v_queue, v_depth, v_by, v_from, v_come, v_offOf, v_parent, v_best, v_trees, v_least, v_sums, v_toward, v_kept, v_isKept, v_keptAt, v_isWriting])), (a_kinds, .inl (gI G, 4, .inl fk))]) sz (fun (r : Int32) (fk1 : Nat → Int32) => (inR p0 0 3 ∧ inR p1 0 15 ∧ r = fk p0.toNatClampNeg ∧ fk1 = upd fk p0.toNatClampNeg p1) ∨ (¬ (inR p0 0 3 ∧ inR p1 0 15) ∧ fk1 = fk ∧ r = cIf (inR p0 0 3) (-2) (-1))) (fun (fk1 : Nat → Int32) => [(h1, .inr (6, [v_sites, v_maps, v_told, .ref a_kinds, v_land, v_spades, v_part, v_pad, v_padMany, v_slips, v_slipMany, v_made, v_queue, v_depth, v_by, v_from, v_come, v_offOf, v_parent, v_best, v_trees, v_least, v_sums, v_toward, v_kept, v_isKept, v_keptAt, v_isWriting])), (a_kinds, .inl (gI G, 4, .inl fk1))]) 0 0 := by
  refine Met.ofW (cc := cX10_hand) (maxL := 4) (ret := (some .int)) (by decide) rfl ?_
  intro p e s m args below meth c s₁ B hml hv
  obtain ⟨rfl, hsz, hP, hD0, E0⟩ := hv
  have hx := B.exec
  have hb := B.bytes
  have hr := B.returns
  have hts := atoms_spec (ws := wsX10_hand) B.pre
  have hown : s.vm.findClass RX10 = some m.cls := findClass_of_methodNamed B.named
  have hlocks := B.notSynchronized
  subst hsz
  have hD := hD0.self (sz := s.heap.size)
  generalize hAe : va_A ([(h1, .inr (6, [v_sites, v_maps, v_told, .ref a_kinds, v_land, v_spades, v_part, v_pad, v_padMany, v_slips, v_slipMany, v_made, v_queue, v_depth, v_by, v_from, v_come, v_offOf, v_parent, v_best, v_trees, v_least, v_sums, v_toward, v_kept, v_isKept, v_keptAt, v_isWriting])), (a_kinds, .inl (gI G, 4, .inl fk))]) s.heap.size = A at hD E0 ⊢
  have E : EV G A s s.heap := E0
  have hA : ∀ q : Nat, s.heap.size ≤ q → A q := fun q h => by rw [← hAe]; exact Or.inr h
  have hS : va_S A s.heap s.heap [] := va_S.rf
  have hl := lv_entry ([.ref h1, .int p0, .int p1]) (n := 4) (Nat.le_of_ble_eq_true rfl)
  rw [lg_entry_eq]
  generalize (lg_sl ([.ref h1, .int p0, .int p1]) ++ List.replicate (4 - (lg_sl ([.ref h1, .int p0, .int p1])).length) Slot.unset).toArray = ls at hl ⊢
  have hl : lv_has ls 4 [(0, .ref h1), (1, .int p0), (2, .int p1)] := hl
  have hP : va_P G.1 vwCl ([(h1, .inr (6, [v_sites, v_maps, v_told, .ref a_kinds, v_land, v_spades, v_part, v_pad, v_padMany, v_slips, v_slipMany, v_made, v_queue, v_depth, v_by, v_from, v_come, v_offOf, v_parent, v_best, v_trees, v_least, v_sums, v_toward, v_kept, v_isKept, v_keptAt, v_isWriting])), (a_kinds, .inl (gI G, 4, .inl fk))]) s.heap := hP
  refine lv_iload_n hx hb dX10_hand_0 rfl (lv_at hl 1 rfl) ?_
  refine ca_iR (va_runS (As := [.int p0]) (rest := []) ⟨hx, hb, hml, hown, hts⟩ (m_isHand l G s.heap.size p0) (va_cwS 1 hts gX10_hand_X10_isHand rfl rfl rfl (by decide +kernel) ⟨by decide +kernel, by decide +kernel⟩) (pre_S E hP hD hS hA [] (by decide) rfl) rfl rfl hl.1 rfl (lv_room (Nat.le_of_ble_eq_true rfl)) dX10_hand_1 ⟨by decide +kernel, by decide +kernel⟩) hS hP hD hA [] rfl (fun r2 _ H locs w1 hP hS => ?_)
  rcases w1 with ⟨rfl, b3⟩ | ⟨rfl, b3⟩
  · refine lv_if_ne (tgt := 9) hx hb dX10_hand_4 (by decide) (fun _ => ?_) (fun c4 => False.elim (by revert c4; decide))
    refine lv_iload_n hx hb dX10_hand_9 rfl (lv_at hl 2 rfl) ?_
    refine lv_i2l hx hb dX10_hand_10 rfl ?_
    refine lv_topl (fun x5 ex5 => ?_)
    refine lv_lconst (v := 0) hx hb dX10_hand_11 (by decide) ?_
    refine lv_ldc2 (v := 15) hx hb hown (hts (.constantLong RX10 140 (15)) (by decide +kernel)) dX10_hand_12 ?_
    refine ca_iR (va_runS (As := [.long x5, .long 0, .long 15]) (rest := []) ⟨hx, hb, hml, hown, hts⟩ (m_in l G H.size x5 0 15 p1 0 15 ex5 (by decide) (by decide)) (va_cwS 3 hts gX10_hand_X10_in rfl rfl rfl (by decide +kernel) ⟨by decide +kernel, by decide +kernel⟩) (pre_S E hP hD hS hA [] (by decide) rfl) rfl rfl hl.1 rfl (lv_room (Nat.le_of_ble_eq_true rfl)) dX10_hand_15 ⟨by decide +kernel, by decide +kernel⟩) hS hP hD hA [] rfl (fun r7 _ H locs w6 hP hS => ?_)
    rcases w6 with ⟨rfl, b8⟩ | ⟨rfl, b8⟩
    · refine lv_if_ne (tgt := 24) hx hb dX10_hand_18 (by decide) (fun _ => ?_) (fun c9 => False.elim (by revert c9; decide))
      refine lv_aload_n hx hb dX10_hand_24 rfl (lv_at hl 0 rfl) ?_
      refine va_get (D := G.1) (ci := 6) (v := .ref a_kinds) (C := RX10) (T := TX10) (N := 28) hx hb hts (fun _ h => List.mem_cons_of_mem _ (List.mem_append_right _ h)) hown E.K hP 0 rfl rfl 3 (by decide) (hts (.fieldLink RX10 13 "LastMapModel" "kinds" "[I") (by decide +kernel)) (fun _ h9 => h9) rfl dX10_hand_25 ?_
      refine lv_iload_n hx hb dX10_hand_28 rfl (lv_at hl 1 rfl) ?_
      refine va_iald hx hb E.K hP 1 1 rfl rfl (i := p0) (vp_in_iff.mpr (by ((try simp only [inR, inS, i3_lt, i3_le, i3_eq, i6_lt, i6_le, Int32.toInt_toInt64, lg_cmp_lt, lg_cmp_gt, lg_cmp_ge, lg_cmp_le, Int32.reduceToInt, Int64.reduceToInt] at b3 b8 ⊢); omega))) dX10_hand_29 ?_
      refine lv_topi (fun x10 ex10 => ?_)
      refine lv_istore_n (lv' := [(3, .int x10), (0, .ref h1), (1, .int p0), (2, .int p1)]) hx hb dX10_hand_30 rfl hl (by decide) rfl (fun ls hl => ?_)
      refine lv_aload_n hx hb dX10_hand_31 rfl (lv_at hl 1 rfl) ?_
      refine va_get (D := G.1) (ci := 6) (v := .ref a_kinds) (C := RX10) (T := TX10) (N := 28) hx hb hts (fun _ h => List.mem_cons_of_mem _ (List.mem_append_right _ h)) hown E.K hP 0 rfl rfl 3 (by decide) (hts (.fieldLink RX10 13 "LastMapModel" "kinds" "[I") (by decide +kernel)) (fun _ h9 => h9) rfl dX10_hand_32 ?_
      refine lv_iload_n hx hb dX10_hand_35 rfl (lv_at hl 2 rfl) ?_
      refine lv_iload_n hx hb dX10_hand_36 rfl (lv_at hl 3 rfl) ?_
      refine va_iast hx hb E.K hP hD hS 1 1 rfl rfl (i := p0) (vp_in_iff.mpr (by ((try simp only [inR, inS, i3_lt, i3_le, i3_eq, i6_lt, i6_le, Int32.toInt_toInt64, lg_cmp_lt, lg_cmp_gt, lg_cmp_ge, lg_cmp_le, Int32.reduceToInt, Int64.reduceToInt] at b3 b8 ⊢); omega))) dX10_hand_37 (fun H locs hP hD hS => ?_)
      obtain ⟨f11, ef11⟩ : ∃ yy_ : Nat → Int32, yy_ = upd fk p0.toNatClampNeg p1 := ⟨_, rfl⟩
      have hP : va_P G.1 vwCl ([(h1, .inr (6, [v_sites, v_maps, v_told, .ref a_kinds, v_land, v_spades, v_part, v_pad, v_padMany, v_slips, v_slipMany, v_made, v_queue, v_depth, v_by, v_from, v_come, v_offOf, v_parent, v_best, v_trees, v_least, v_sums, v_toward, v_kept, v_isKept, v_keptAt, v_isWriting])), (a_kinds, .inl (gI G, 4, .inl f11))]) H := by rw [ef11]; exact hP
      have hD : va_D A ([(h1, .inr (6, [v_sites, v_maps, v_told, .ref a_kinds, v_land, v_spades, v_part, v_pad, v_padMany, v_slips, v_slipMany, v_made, v_queue, v_depth, v_by, v_from, v_come, v_offOf, v_parent, v_best, v_trees, v_least, v_sums, v_toward, v_kept, v_isKept, v_keptAt, v_isWriting])), (a_kinds, .inl (gI G, 4, .inl f11))]) := by rw [ef11]; exact hD
      refine lv_iload_n hx hb dX10_hand_38 rfl (lv_at hl 0 rfl) ?_
      have hP9 := (hP.sub (ws' := [(h1, .inr (6, [v_sites, v_maps, v_told, .ref a_kinds, v_land, v_spades, v_part, v_pad, v_padMany, v_slips, v_slipMany, v_made, v_queue, v_depth, v_by, v_from, v_come, v_offOf, v_parent, v_best, v_trees, v_least, v_sums, v_toward, v_kept, v_isKept, v_keptAt, v_isWriting])), (a_kinds, .inl (gI G, 4, .inl f11))]) [0, 1] rfl)
      have hD9 := (hD.sub (ws' := [(h1, .inr (6, [v_sites, v_maps, v_told, .ref a_kinds, v_land, v_spades, v_part, v_pad, v_padMany, v_slips, v_slipMany, v_made, v_queue, v_depth, v_by, v_from, v_come, v_offOf, v_parent, v_best, v_trees, v_least, v_sums, v_toward, v_kept, v_isKept, v_keptAt, v_isWriting])), (a_kinds, .inl (gI G, 4, .inl f11))]) [0, 1] (by decide) rfl)
      exact W.iret (v := x10) hx hb hr (fun t9_ ht9_ hW9_ => ⟨⟨x10, f11, rfl, Or.inl ⟨b3, b8, ex10, ef11⟩, by rw [ht9_]; exact hP9, hD9⟩, hS.F ht9_⟩) hS.2.2 dX10_hand_39
    · refine lv_if_ne (tgt := 24) hx hb dX10_hand_18 (by decide) (fun c12 => False.elim (by revert c12; decide)) (fun _ => ?_)
      refine lv_bipush (v := (-2)) hx hb dX10_hand_21 (by decide) ?_
      have hP9 := (hP.sub (ws' := [(h1, .inr (6, [v_sites, v_maps, v_told, .ref a_kinds, v_land, v_spades, v_part, v_pad, v_padMany, v_slips, v_slipMany, v_made, v_queue, v_depth, v_by, v_from, v_come, v_offOf, v_parent, v_best, v_trees, v_least, v_sums, v_toward, v_kept, v_isKept, v_keptAt, v_isWriting])), (a_kinds, .inl (gI G, 4, .inl fk))]) [0, 1] rfl)
      have hD9 := (hD.sub (ws' := [(h1, .inr (6, [v_sites, v_maps, v_told, .ref a_kinds, v_land, v_spades, v_part, v_pad, v_padMany, v_slips, v_slipMany, v_made, v_queue, v_depth, v_by, v_from, v_come, v_offOf, v_parent, v_best, v_trees, v_least, v_sums, v_toward, v_kept, v_isKept, v_keptAt, v_isWriting])), (a_kinds, .inl (gI G, 4, .inl fk))]) [0, 1] (by decide) rfl)
      exact W.iret (v := (-2)) hx hb hr (fun t9_ ht9_ hW9_ => ⟨⟨(-2), fk, rfl, Or.inr ⟨fun h => b8 h.2, rfl, (cIf_t b3).symm⟩, by rw [ht9_]; exact hP9, hD9⟩, hS.F ht9_⟩) hS.2.2 dX10_hand_23
  · refine lv_if_ne (tgt := 9) hx hb dX10_hand_4 (by decide) (fun c13 => False.elim (by revert c13; decide)) (fun _ => ?_)
    refine lv_iconst (v := (-1)) hx hb dX10_hand_7 (by decide) ?_
    have hP9 := (hP.sub (ws' := [(h1, .inr (6, [v_sites, v_maps, v_told, .ref a_kinds, v_land, v_spades, v_part, v_pad, v_padMany, v_slips, v_slipMany, v_made, v_queue, v_depth, v_by, v_from, v_come, v_offOf, v_parent, v_best, v_trees, v_least, v_sums, v_toward, v_kept, v_isKept, v_keptAt, v_isWriting])), (a_kinds, .inl (gI G, 4, .inl fk))]) [0, 1] rfl)
    have hD9 := (hD.sub (ws' := [(h1, .inr (6, [v_sites, v_maps, v_told, .ref a_kinds, v_land, v_spades, v_part, v_pad, v_padMany, v_slips, v_slipMany, v_made, v_queue, v_depth, v_by, v_from, v_come, v_offOf, v_parent, v_best, v_trees, v_least, v_sums, v_toward, v_kept, v_isKept, v_keptAt, v_isWriting])), (a_kinds, .inl (gI G, 4, .inl fk))]) [0, 1] (by decide) rfl)
    exact W.iret (v := (-1)) hx hb hr (fun t9_ ht9_ hW9_ => ⟨⟨(-1), fk, rfl, Or.inr ⟨fun h => b3 h.1, rfl, (cIf_f b3).symm⟩, by rw [ht9_]; exact hP9, hD9⟩, hS.F ht9_⟩) hS.2.2 dX10_hand_8

set_option maxHeartbeats 1000000 in
set_option maxRecDepth 100000 in
theorem m_badFrom (l : Launch) (G : Gy) (sz : Nat) (h1 : Nat) (v_sites : Value) (v_maps : Value) (v_told : Value) (v_kinds : Value) (v_land : Value) (v_spades : Value) (v_pad : Value) (v_padMany : Value) (v_queue : Value) (v_depth : Value) (v_by : Value) (v_from : Value) (v_come : Value) (v_offOf : Value) (v_parent : Value) (v_best : Value) (v_trees : Value) (v_least : Value) (v_sums : Value) (v_toward : Value) (v_kept : Value) (v_isKept : Value) (v_keptAt : Value) (v_isWriting : Value) (a_part : Nat) (fp : Nat → Int32) (a_slips : Nat) (k : Nat) (sm : Nat) (a : Nat) (fs : Nat → Int32) (md0 : Int32) (hk6 : k ≤ 6) (hp : pOK k fp) (ha : a < 5 ^ k) (hsm : sm ≤ 10) (hsl : ∀ i : Nat, i < sm → slipOK k (fs i)) : Ci l G yX10_badFrom wsX10_badFrom ({ frames := 3, cells := 0, slots := 0, locals := 69 }) [.ref h1, .int (nI a)] ([(h1, .inr (6, [v_sites, v_maps, v_told, v_kinds, v_land, v_spades, .ref a_part, v_pad, v_padMany, .ref a_slips, .int (nI sm), .int md0, v_queue, v_depth, v_by, v_from, v_come, v_offOf, v_parent, v_best, v_trees, v_least, v_sums, v_toward, v_kept, v_isKept, v_keptAt, v_isWriting])), (a_part, .inl (gI G, 6, .inl fp)), (a_slips, .inl (gI G, 10, .inl fs))]) sz (fun (r : Int32) (md1 : Nat) => md1 < 5 ^ k) (fun (md1 : Nat) => [(h1, .inr (6, [v_sites, v_maps, v_told, v_kinds, v_land, v_spades, .ref a_part, v_pad, v_padMany, .ref a_slips, .int (nI sm), .int (nI md1), v_queue, v_depth, v_by, v_from, v_come, v_offOf, v_parent, v_best, v_trees, v_least, v_sums, v_toward, v_kept, v_isKept, v_keptAt, v_isWriting])), (a_part, .inl (gI G, 6, .inl fp)), (a_slips, .inl (gI G, 10, .inl fs))]) 0 0 := by
  refine Met.ofW (cc := cX10_badFrom) (maxL := 4) (ret := (some .int)) (by decide) rfl ?_
  intro p e s m args below meth c s₁ B hml hv
  obtain ⟨rfl, hsz, hP, hD0, E0⟩ := hv
  have hx := B.exec
  have hb := B.bytes
  have hr := B.returns
  have hts := atoms_spec (ws := wsX10_badFrom) B.pre
  have hown : s.vm.findClass RX10 = some m.cls := findClass_of_methodNamed B.named
  have hlocks := B.notSynchronized
  subst hsz
  have hD := hD0.self (sz := s.heap.size)
  generalize hAe : va_A ([(h1, .inr (6, [v_sites, v_maps, v_told, v_kinds, v_land, v_spades, .ref a_part, v_pad, v_padMany, .ref a_slips, .int (nI sm), .int md0, v_queue, v_depth, v_by, v_from, v_come, v_offOf, v_parent, v_best, v_trees, v_least, v_sums, v_toward, v_kept, v_isKept, v_keptAt, v_isWriting])), (a_part, .inl (gI G, 6, .inl fp)), (a_slips, .inl (gI G, 10, .inl fs))]) s.heap.size = A at hD E0 ⊢
  have E : EV G A s s.heap := E0
  have hA : ∀ q : Nat, s.heap.size ≤ q → A q := fun q h => by rw [← hAe]; exact Or.inr h
  have hS : va_S A s.heap s.heap [] := va_S.rf
  have hl := lv_entry ([.ref h1, .int (nI a)]) (n := 4) (Nat.le_of_ble_eq_true rfl)
  rw [lg_entry_eq]
  generalize (lg_sl ([.ref h1, .int (nI a)]) ++ List.replicate (4 - (lg_sl ([.ref h1, .int (nI a)])).length) Slot.unset).toArray = ls at hl ⊢
  have hl : lv_has ls 4 [(0, .ref h1), (1, .int (nI a))] := hl
  have hP : va_P G.1 vwCl ([(h1, .inr (6, [v_sites, v_maps, v_told, v_kinds, v_land, v_spades, .ref a_part, v_pad, v_padMany, .ref a_slips, .int (nI sm), .int md0, v_queue, v_depth, v_by, v_from, v_come, v_offOf, v_parent, v_best, v_trees, v_least, v_sums, v_toward, v_kept, v_isKept, v_keptAt, v_isWriting])), (a_part, .inl (gI G, 6, .inl fp)), (a_slips, .inl (gI G, 10, .inl fs))]) s.heap := hP
  have hal := p5le hk6
  refine lv_aload_n hx hb dX10_badFrom_0 rfl (lv_at hl 0 rfl) ?_
  refine lv_iload_n hx hb dX10_badFrom_1 rfl (lv_at hl 1 rfl) ?_
  refine va_put (D := G.1) (ci := 6) (v := .int (nI a)) (ty := .int) (C := RX10) (T := TX10) (N := 28) hx hb hts (fun _ h => List.mem_cons_of_mem _ (List.mem_append_right _ h)) tyX10 tyX10_ok nmX10 hown E.K hP hD hS 0 rfl rfl 11 (by decide) (hts (.fieldLink RX10 149 "LastMapModel" "made" "I") (by decide +kernel)) (fun _ h9 => h9) rfl (by decide +kernel) rfl rfl (Nat.le_of_ble_eq_true rfl) dX10_badFrom_2 (fun H locs hP hD hS => ?_)
  have hP : va_P G.1 vwCl ([(h1, .inr (6, [v_sites, v_maps, v_told, v_kinds, v_land, v_spades, .ref a_part, v_pad, v_padMany, .ref a_slips, .int (nI sm), .int (nI a), v_queue, v_depth, v_by, v_from, v_come, v_offOf, v_parent, v_best, v_trees, v_least, v_sums, v_toward, v_kept, v_isKept, v_keptAt, v_isWriting])), (a_part, .inl (gI G, 6, .inl fp)), (a_slips, .inl (gI G, 10, .inl fs))]) H := hP
  have hD : va_D A ([(h1, .inr (6, [v_sites, v_maps, v_told, v_kinds, v_land, v_spades, .ref a_part, v_pad, v_padMany, .ref a_slips, .int (nI sm), .int (nI a), v_queue, v_depth, v_by, v_from, v_come, v_offOf, v_parent, v_best, v_trees, v_least, v_sums, v_toward, v_kept, v_isKept, v_keptAt, v_isWriting])), (a_part, .inl (gI G, 6, .inl fp)), (a_slips, .inl (gI G, 10, .inl fs))]) := hD
  refine lv_iconst (v := 0) hx hb dX10_badFrom_5 (by decide) ?_
  refine lv_istore_n (lv' := [(2, .int 0), (0, .ref h1), (1, .int (nI a))]) hx hb dX10_badFrom_6 rfl hl (by decide) rfl (fun ls hl => ?_)
  refine lp_run (x0 := (0, a)) (fun xx_ : Nat × Nat => match xx_ with | (x, q) => [(h1, .inr (6, [v_sites, v_maps, v_told, v_kinds, v_land, v_spades, .ref a_part, v_pad, v_padMany, .ref a_slips, .int (nI sm), .int (nI q), v_queue, v_depth, v_by, v_from, v_come, v_offOf, v_parent, v_best, v_trees, v_least, v_sums, v_toward, v_kept, v_isKept, v_keptAt, v_isWriting])), (a_part, .inl (gI G, 6, .inl fp)), (a_slips, .inl (gI G, 10, .inl fs))]) (fun xx_ : Nat × Nat => match xx_ with | (x, q) => [(2, .int (nI x)), (0, .ref h1), (1, .int (nI a))]) (fun xx_ : Nat × Nat => match xx_ with | (x, q) => (x ≤ sm) ∧ (q < 5 ^ k)) (fun xx_ : Nat × Nat => match xx_ with | (x, q) => sm - x) (hP.sub [0, 1, 2] rfl) (hD.sub [0, 1, 2] (by decide) rfl) hS (lv_sub hl [0, 1, 2] rfl) ⟨(by omega), ha⟩ ?_
  intro xx_ hI ih7 H locs ls hP hD hS hl
  obtain ⟨x, q⟩ := xx_
  dsimp only at hI ih7 hP hD hl
  obtain ⟨hx0, hq⟩ := hI
  have hl : lv_has ls 4 [(2, .int (nI x)), (0, .ref h1), (1, .int (nI a))] := hl
  have hP : va_P G.1 vwCl ([(h1, .inr (6, [v_sites, v_maps, v_told, v_kinds, v_land, v_spades, .ref a_part, v_pad, v_padMany, .ref a_slips, .int (nI sm), .int (nI q), v_queue, v_depth, v_by, v_from, v_come, v_offOf, v_parent, v_best, v_trees, v_least, v_sums, v_toward, v_kept, v_isKept, v_keptAt, v_isWriting])), (a_part, .inl (gI G, 6, .inl fp)), (a_slips, .inl (gI G, 10, .inl fs))]) H := hP
  have hD : va_D A ([(h1, .inr (6, [v_sites, v_maps, v_told, v_kinds, v_land, v_spades, .ref a_part, v_pad, v_padMany, .ref a_slips, .int (nI sm), .int (nI q), v_queue, v_depth, v_by, v_from, v_come, v_offOf, v_parent, v_best, v_trees, v_least, v_sums, v_toward, v_kept, v_isKept, v_keptAt, v_isWriting])), (a_part, .inl (gI G, 6, .inl fp)), (a_slips, .inl (gI G, 10, .inl fs))]) := hD
  refine lv_iload_n hx hb dX10_badFrom_7 rfl (lv_at hl 0 rfl) ?_
  refine lv_aload_n hx hb dX10_badFrom_8 rfl (lv_at hl 1 rfl) ?_
  refine va_get (D := G.1) (ci := 6) (v := .int (nI sm)) (C := RX10) (T := TX10) (N := 28) hx hb hts (fun _ h => List.mem_cons_of_mem _ (List.mem_append_right _ h)) hown E.K hP 0 rfl rfl 10 (by decide) (hts (.fieldLink RX10 110 "LastMapModel" "slipMany" "I") (by decide +kernel)) (fun _ h9 => h9) rfl dX10_badFrom_9 ?_
  refine lv_icmp_ge (tgt := 51) hx hb dX10_badFrom_12 (by decide) (fun c1 => ?_) (fun c1 => ?_)
  · have c1 : sm ≤ x := (nI_leI (a := sm) (b := x) (by omega) (by omega)).mp c1
    refine lv_bipush (v := (-6)) hx hb dX10_badFrom_51 (by decide) ?_
    have hP9 := (hP.sub (ws' := [(h1, .inr (6, [v_sites, v_maps, v_told, v_kinds, v_land, v_spades, .ref a_part, v_pad, v_padMany, .ref a_slips, .int (nI sm), .int (nI q), v_queue, v_depth, v_by, v_from, v_come, v_offOf, v_parent, v_best, v_trees, v_least, v_sums, v_toward, v_kept, v_isKept, v_keptAt, v_isWriting])), (a_part, .inl (gI G, 6, .inl fp)), (a_slips, .inl (gI G, 10, .inl fs))]) [0, 1, 2] rfl)
    have hD9 := (hD.sub (ws' := [(h1, .inr (6, [v_sites, v_maps, v_told, v_kinds, v_land, v_spades, .ref a_part, v_pad, v_padMany, .ref a_slips, .int (nI sm), .int (nI q), v_queue, v_depth, v_by, v_from, v_come, v_offOf, v_parent, v_best, v_trees, v_least, v_sums, v_toward, v_kept, v_isKept, v_keptAt, v_isWriting])), (a_part, .inl (gI G, 6, .inl fp)), (a_slips, .inl (gI G, 10, .inl fs))]) [0, 1, 2] (by decide) rfl)
    exact W.iret (v := (-6)) hx hb hr (fun t9_ ht9_ hW9_ => ⟨⟨(-6), q, rfl, by omega, by rw [ht9_]; exact hP9, hD9⟩, hS.F ht9_⟩) hS.2.2 dX10_badFrom_53
  · have c1 : ¬ sm ≤ x := fun h9_ => c1 ((nI_leI (a := sm) (b := x) (by omega) (by omega)).mpr h9_)
    refine lv_aload_n hx hb dX10_badFrom_15 rfl (lv_at hl 1 rfl) ?_
    refine lv_aload_n hx hb dX10_badFrom_16 rfl (lv_at hl 1 rfl) ?_
    refine va_get (D := G.1) (ci := 6) (v := .int (nI q)) (C := RX10) (T := TX10) (N := 28) hx hb hts (fun _ h => List.mem_cons_of_mem _ (List.mem_append_right _ h)) hown E.K hP 0 rfl rfl 11 (by decide) (hts (.fieldLink RX10 149 "LastMapModel" "made" "I") (by decide +kernel)) (fun _ h9 => h9) rfl dX10_badFrom_17 ?_
    refine lv_aload_n hx hb dX10_badFrom_20 rfl (lv_at hl 1 rfl) ?_
    refine va_get (D := G.1) (ci := 6) (v := .ref a_slips) (C := RX10) (T := TX10) (N := 28) hx hb hts (fun _ h => List.mem_cons_of_mem _ (List.mem_append_right _ h)) hown E.K hP 0 rfl rfl 9 (by decide) (hts (.fieldLink RX10 22 "LastMapModel" "slips" "[I") (by decide +kernel)) (fun _ h9 => h9) rfl dX10_badFrom_21 ?_
    refine lv_iload_n hx hb dX10_badFrom_24 rfl (lv_at hl 0 rfl) ?_
    refine va_iald hx hb E.K hP 2 1 rfl rfl (i := nI x) (vp_in_nI (by omega) (by decide)) dX10_badFrom_25 ?_
    refine lv_topi (fun x2 ex2 => ?_)
    obtain ⟨m0, mj, mg, hok9, hv9⟩ := hsl x (by omega)
    obtain rfl : x2 = nI (100 * m0 + 10 * mj + mg) := by rw [ex2, nI_clamp (by omega)]; exact hv9
    refine ca_iR (va_runV (As := [.int (nI q), .int (nI (100 * m0 + 10 * mj + mg))]) (rest := []) ⟨hx, hb, hml, hown, hts⟩ (m_slipped l G H.size h1 v_sites v_maps v_told v_kinds v_land v_spades v_pad v_padMany (.ref a_slips) (.int (nI sm)) (.int (nI q)) v_queue v_depth v_by v_from v_come v_offOf v_parent v_best v_trees v_least v_sums v_toward v_kept v_isKept v_keptAt v_isWriting a_part fp k q (100 * m0 + 10 * mj + mg) m0 mj mg hk6 hp (by omega) rfl hok9) (cwV 2 hts gX10_badFrom_X10_slipped rfl rfl rfl (by decide +kernel) ⟨by decide +kernel, by decide +kernel⟩) (pre_V E hP hD hS hA [0, 1] (by decide) rfl 0 6 rfl rfl) rfl rfl hl.1 rfl (lv_room (Nat.le_of_ble_eq_true rfl)) dX10_badFrom_26 ⟨by decide +kernel, by decide +kernel⟩) hS hP hD hA [0, 1] rfl (fun r4 _ H locs w3 hP hS => ?_)
    rw [w3]
    have hb9 := slN_lt (k := k) hq hok9
    refine lv_istore_n (lv' := [(3, .int (nI (slN k q (m0, mj, mg)))), (2, .int (nI x)), (0, .ref h1), (1, .int (nI a))]) hx hb dX10_badFrom_29 rfl hl (by decide) rfl (fun ls hl => ?_)
    refine lv_iload_n hx hb dX10_badFrom_30 rfl (lv_at hl 0 rfl) ?_
    refine lv_aload_n hx hb dX10_badFrom_31 rfl (lv_at hl 2 rfl) ?_
    refine va_get (D := G.1) (ci := 6) (v := .int (nI q)) (C := RX10) (T := TX10) (N := 28) hx hb hts (fun _ h => List.mem_cons_of_mem _ (List.mem_append_right _ h)) hown E.K hP 0 rfl rfl 11 (by decide) (hts (.fieldLink RX10 149 "LastMapModel" "made" "I") (by decide +kernel)) (fun _ h9 => h9) rfl dX10_badFrom_32 ?_
    refine lv_icmp_ne (tgt := 40) hx hb dX10_badFrom_35 (by decide) (fun c5 => ?_) (fun c5 => ?_)
    · have c5 : ¬ (slN k q (m0, mj, mg)) = q := fun h9_ => c5 ((nI_eq (a := (slN k q (m0, mj, mg))) (b := q) (by omega) (by omega)).mpr h9_)
      refine lv_aload_n hx hb dX10_badFrom_40 rfl (lv_at hl 2 rfl) ?_
      refine lv_iload_n hx hb dX10_badFrom_41 rfl (lv_at hl 0 rfl) ?_
      refine va_put (D := G.1) (ci := 6) (v := .int (nI (slN k q (m0, mj, mg)))) (ty := .int) (C := RX10) (T := TX10) (N := 28) hx hb hts (fun _ h => List.mem_cons_of_mem _ (List.mem_append_right _ h)) tyX10 tyX10_ok nmX10 hown E.K hP hD hS 0 rfl rfl 11 (by decide) (hts (.fieldLink RX10 149 "LastMapModel" "made" "I") (by decide +kernel)) (fun _ h9 => h9) rfl (by decide +kernel) rfl rfl (Nat.le_of_ble_eq_true rfl) dX10_badFrom_42 (fun H locs hP hD hS => ?_)
      have hP : va_P G.1 vwCl ([(h1, .inr (6, [v_sites, v_maps, v_told, v_kinds, v_land, v_spades, .ref a_part, v_pad, v_padMany, .ref a_slips, .int (nI sm), .int (nI (slN k q (m0, mj, mg))), v_queue, v_depth, v_by, v_from, v_come, v_offOf, v_parent, v_best, v_trees, v_least, v_sums, v_toward, v_kept, v_isKept, v_keptAt, v_isWriting])), (a_part, .inl (gI G, 6, .inl fp)), (a_slips, .inl (gI G, 10, .inl fs))]) H := hP
      have hD : va_D A ([(h1, .inr (6, [v_sites, v_maps, v_told, v_kinds, v_land, v_spades, .ref a_part, v_pad, v_padMany, .ref a_slips, .int (nI sm), .int (nI (slN k q (m0, mj, mg))), v_queue, v_depth, v_by, v_from, v_come, v_offOf, v_parent, v_best, v_trees, v_least, v_sums, v_toward, v_kept, v_isKept, v_keptAt, v_isWriting])), (a_part, .inl (gI G, 6, .inl fp)), (a_slips, .inl (gI G, 10, .inl fs))]) := hD
      obtain ⟨x6, ex6⟩ : ∃ yy_ : Int32, yy_ = (nI x) + 1 := ⟨_, rfl⟩
      refine lv_iinc (v := x6) (lv' := [(2, .int x6), (3, .int (nI (slN k q (m0, mj, mg)))), (0, .ref h1), (1, .int (nI a))]) hx hb dX10_badFrom_45 hl (k := 1) rfl (by rw [ex6]; rfl) (by decide) rfl (fun ls hl => ?_)
      obtain rfl : x6 = nI (x + 1) := by rw [ex6]; exact nI_add x 1
      refine lv_goto (tgt := 7) hx hb dX10_badFrom_48 (by decide) ?_
      refine ih7 ((x + 1), (slN k q (m0, mj, mg))) ⟨?_, ?_⟩ (by first | omega | (dsimp only; omega)) H locs ls (hP.sub [0, 1, 2] rfl) (hD.sub [0, 1, 2] (by decide) rfl) hS (lv_sub hl [0, 2, 3] rfl)
      · try dsimp only
        omega
      · try dsimp only
        exact hb9
    · have c5 : (slN k q (m0, mj, mg)) = q := (nI_eq (a := (slN k q (m0, mj, mg))) (b := q) (by omega) (by omega)).mp c5
      refine lv_iload_n hx hb dX10_badFrom_38 rfl (lv_at hl 1 rfl) ?_
      have hP9 := (hP.sub (ws' := [(h1, .inr (6, [v_sites, v_maps, v_told, v_kinds, v_land, v_spades, .ref a_part, v_pad, v_padMany, .ref a_slips, .int (nI sm), .int (nI q), v_queue, v_depth, v_by, v_from, v_come, v_offOf, v_parent, v_best, v_trees, v_least, v_sums, v_toward, v_kept, v_isKept, v_keptAt, v_isWriting])), (a_part, .inl (gI G, 6, .inl fp)), (a_slips, .inl (gI G, 10, .inl fs))]) [0, 1, 2] rfl)
      have hD9 := (hD.sub (ws' := [(h1, .inr (6, [v_sites, v_maps, v_told, v_kinds, v_land, v_spades, .ref a_part, v_pad, v_padMany, .ref a_slips, .int (nI sm), .int (nI q), v_queue, v_depth, v_by, v_from, v_come, v_offOf, v_parent, v_best, v_trees, v_least, v_sums, v_toward, v_kept, v_isKept, v_keptAt, v_isWriting])), (a_part, .inl (gI G, 6, .inl fp)), (a_slips, .inl (gI G, 10, .inl fs))]) [0, 1, 2] (by decide) rfl)
      exact W.iret (v := (nI x)) hx hb hr (fun t9_ ht9_ hW9_ => ⟨⟨nI x, q, rfl, by omega, by rw [ht9_]; exact hP9, hD9⟩, hS.F ht9_⟩) hS.2.2 dX10_badFrom_39

set_option maxHeartbeats 1000000 in
set_option maxRecDepth 100000 in
theorem m_judge (l : Launch) (G : Gy) (sz : Nat) (h1 : Nat) (v_kinds : Value) (v_land : Value) (v_spades : Value) (v_queue : Value) (v_depth : Value) (v_by : Value) (v_from : Value) (v_come : Value) (v_offOf : Value) (v_parent : Value) (v_best : Value) (v_trees : Value) (v_least : Value) (v_sums : Value) (v_toward : Value) (v_kept : Value) (v_isKept : Value) (v_keptAt : Value) (v_isWriting : Value) (a_maps : Nat) (fm : Nat → Int32) (a_part : Nat) (fp : Nat → Int32) (a_pad : Nat) (pm : Nat) (fd : Nat → Int32) (a_slips : Nat) (k : Nat) (fs : Nat → Int32) (told : Int32) (sm0 : Int32) (md0 : Int32) (p0 : Int32) (hk2 : 2 ≤ k) (hk6 : k ≤ 6) (hp : pOK k fp) (hpm : pm ≤ 40) (hfm : mapsOK k fm) : Ci l G yX10_judge wsX10_judge ({ frames := 4, cells := 0, slots := 0, locals := 92 }) [.ref h1, .int p0] ([(h1, .inr (6, [.int (nI k), .ref a_maps, .int told, v_kinds, v_land, v_spades, .ref a_part, .ref a_pad, .int (nI pm), .ref a_slips, .int sm0, .int md0, v_queue, v_depth, v_by, v_from, v_come, v_offOf, v_parent, v_best, v_trees, v_least, v_sums, v_toward, v_kept, v_isKept, v_keptAt, v_isWriting])), (a_maps, .inl (gI G, 6, .inl fm)), (a_part, .inl (gI G, 6, .inl fp)), (a_pad, .inl (gI G, 40, .inl fd)), (a_slips, .inl (gI G, 10, .inl fs))]) sz (fun (r : Int32) (u : Int32 × Int32 × (Nat → Int32)) => match u with | (sm1, md1, fs1) => True) (fun (u : Int32 × Int32 × (Nat → Int32)) => match u with | (sm1, md1, fs1) => [(h1, .inr (6, [.int (nI k), .ref a_maps, .int told, v_kinds, v_land, v_spades, .ref a_part, .ref a_pad, .int (nI pm), .ref a_slips, .int sm1, .int md1, v_queue, v_depth, v_by, v_from, v_come, v_offOf, v_parent, v_best, v_trees, v_least, v_sums, v_toward, v_kept, v_isKept, v_keptAt, v_isWriting])), (a_maps, .inl (gI G, 6, .inl fm)), (a_part, .inl (gI G, 6, .inl fp)), (a_pad, .inl (gI G, 40, .inl fd)), (a_slips, .inl (gI G, 10, .inl fs1))]) 0 0 := by
  refine Met.ofW (cc := cX10_judge) (maxL := 2) (ret := (some .int)) (by decide) rfl ?_
  intro p e s m args below meth c s₁ B hml hv
  obtain ⟨rfl, hsz, hP, hD0, E0⟩ := hv
  have hx := B.exec
  have hb := B.bytes
  have hr := B.returns
  have hts := atoms_spec (ws := wsX10_judge) B.pre
  have hown : s.vm.findClass RX10 = some m.cls := findClass_of_methodNamed B.named
  have hlocks := B.notSynchronized
  subst hsz
  have hD := hD0.self (sz := s.heap.size)
  generalize hAe : va_A ([(h1, .inr (6, [.int (nI k), .ref a_maps, .int told, v_kinds, v_land, v_spades, .ref a_part, .ref a_pad, .int (nI pm), .ref a_slips, .int sm0, .int md0, v_queue, v_depth, v_by, v_from, v_come, v_offOf, v_parent, v_best, v_trees, v_least, v_sums, v_toward, v_kept, v_isKept, v_keptAt, v_isWriting])), (a_maps, .inl (gI G, 6, .inl fm)), (a_part, .inl (gI G, 6, .inl fp)), (a_pad, .inl (gI G, 40, .inl fd)), (a_slips, .inl (gI G, 10, .inl fs))]) s.heap.size = A at hD E0 ⊢
  have E : EV G A s s.heap := E0
  have hA : ∀ q : Nat, s.heap.size ≤ q → A q := fun q h => by rw [← hAe]; exact Or.inr h
  have hS : va_S A s.heap s.heap [] := va_S.rf
  have hl := lv_entry ([.ref h1, .int p0]) (n := 2) (Nat.le_of_ble_eq_true rfl)
  rw [lg_entry_eq]
  generalize (lg_sl ([.ref h1, .int p0]) ++ List.replicate (2 - (lg_sl ([.ref h1, .int p0])).length) Slot.unset).toArray = ls at hl ⊢
  have hl : lv_has ls 2 [(0, .ref h1), (1, .int p0)] := hl
  have hP : va_P G.1 vwCl ([(h1, .inr (6, [.int (nI k), .ref a_maps, .int told, v_kinds, v_land, v_spades, .ref a_part, .ref a_pad, .int (nI pm), .ref a_slips, .int sm0, .int md0, v_queue, v_depth, v_by, v_from, v_come, v_offOf, v_parent, v_best, v_trees, v_least, v_sums, v_toward, v_kept, v_isKept, v_keptAt, v_isWriting])), (a_maps, .inl (gI G, 6, .inl fm)), (a_part, .inl (gI G, 6, .inl fp)), (a_pad, .inl (gI G, 40, .inl fd)), (a_slips, .inl (gI G, 10, .inl fs))]) s.heap := hP
  have hal := p5le hk6
  refine lv_iload_n hx hb dX10_judge_0 rfl (lv_at hl 1 rfl) ?_
  refine ca_iR (va_runS (As := [.int p0]) (rest := []) ⟨hx, hb, hml, hown, hts⟩ (m_isMap l G s.heap.size p0) (va_cwS 1 hts gX10_judge_X10_isMap rfl rfl rfl (by decide +kernel) ⟨by decide +kernel, by decide +kernel⟩) (pre_S E hP hD hS hA [] (by decide) rfl) rfl rfl hl.1 rfl (lv_room (Nat.le_of_ble_eq_true rfl)) dX10_judge_1 ⟨by decide +kernel, by decide +kernel⟩) hS hP hD hA [] rfl (fun r2 _ H locs w1 hP hS => ?_)
  rcases w1 with ⟨rfl, b3⟩ | ⟨rfl, b3⟩
  · refine lv_if_ne (tgt := 9) hx hb dX10_judge_4 (by decide) (fun _ => ?_) (fun c4 => False.elim (by revert c4; decide))
    obtain ⟨j_p0, hj_p0, ej_p0⟩ := inR6 b3
    have hl : lv_has ls 2 [(0, .ref h1), (1, .int (nI j_p0))] := by have q := hl; rw [ej_p0] at q; exact q
    refine lv_aload_n hx hb dX10_judge_9 rfl (lv_at hl 0 rfl) ?_
    refine lv_iload_n hx hb dX10_judge_10 rfl (lv_at hl 1 rfl) ?_
    refine ca_iR (va_runV (As := [.int (nI j_p0)]) (rest := []) ⟨hx, hb, hml, hown, hts⟩ (m_isTold l G H.size h1 (.int (nI k)) (.ref a_maps) v_kinds v_land v_spades (.ref a_part) (.ref a_pad) (.int (nI pm)) (.ref a_slips) (.int sm0) (.int md0) v_queue v_depth v_by v_from v_come v_offOf v_parent v_best v_trees v_least v_sums v_toward v_kept v_isKept v_keptAt v_isWriting told (nI j_p0)) (cwV 1 hts gX10_judge_X10_isTold rfl rfl rfl (by decide +kernel) ⟨by decide +kernel, by decide +kernel⟩) (pre_V E hP hD hS hA [0] (by decide) rfl 0 6 rfl rfl) rfl rfl hl.1 rfl (lv_room (Nat.le_of_ble_eq_true rfl)) dX10_judge_11 ⟨by decide +kernel, by decide +kernel⟩) hS hP hD hA [0] rfl (fun r6 _ H locs w5 hP hS => ?_)
    rcases w5 with ⟨rfl, b7⟩ | ⟨rfl, b7⟩
    · refine lv_if_ne (tgt := 20) hx hb dX10_judge_14 (by decide) (fun _ => ?_) (fun c8 => False.elim (by revert c8; decide))
      refine lv_aload_n hx hb dX10_judge_20 rfl (lv_at hl 0 rfl) ?_
      refine ca_i (wr := [(a_maps, .inl (gI G, 6, .inl fm)), (a_part, .inl (gI G, 6, .inl fp))]) (va_runV (As := []) (rest := []) ⟨hx, hb, hml, hown, hts⟩ (m_faultOfSlips l G H.size h1 (.ref a_maps) (.int told) v_kinds v_land v_spades (.ref a_part) (.int md0) v_queue v_depth v_by v_from v_come v_offOf v_parent v_best v_trees v_least v_sums v_toward v_kept v_isKept v_keptAt v_isWriting a_pad pm fd a_slips k fs sm0 hk2 hk6 (by omega)) (cwV 0 hts gX10_judge_X10_faultOfSlips rfl rfl rfl (by decide +kernel) ⟨by decide +kernel, by decide +kernel⟩) (pre_V E hP hD hS hA [0, 3, 4] (by decide) rfl 0 6 rfl rfl) rfl rfl hl.1 rfl (lv_room (Nat.le_of_ble_eq_true rfl)) dX10_judge_21 ⟨by decide +kernel, by decide +kernel⟩) hS hP hD hA [0, 3, 4] [1, 2] rfl rfl (by decide) (by decide) (fun r10 u11 H locs w9 hP hD hS => ?_)
      obtain ⟨sm1_12, fs1_13⟩ := u11
      try dsimp only at w9 hP hD
      have hP := (hP.sub (ws' := [(h1, .inr (6, [.int (nI k), .ref a_maps, .int told, v_kinds, v_land, v_spades, .ref a_part, .ref a_pad, .int (nI pm), .ref a_slips, .int (nI sm1_12), .int md0, v_queue, v_depth, v_by, v_from, v_come, v_offOf, v_parent, v_best, v_trees, v_least, v_sums, v_toward, v_kept, v_isKept, v_keptAt, v_isWriting])), (a_maps, .inl (gI G, 6, .inl fm)), (a_part, .inl (gI G, 6, .inl fp)), (a_pad, .inl (gI G, 40, .inl fd)), (a_slips, .inl (gI G, 10, .inl fs1_13))]) [2, 0, 1, 3, 4] rfl)
      have hD := (hD.sub (ws' := [(h1, .inr (6, [.int (nI k), .ref a_maps, .int told, v_kinds, v_land, v_spades, .ref a_part, .ref a_pad, .int (nI pm), .ref a_slips, .int (nI sm1_12), .int md0, v_queue, v_depth, v_by, v_from, v_come, v_offOf, v_parent, v_best, v_trees, v_least, v_sums, v_toward, v_kept, v_isKept, v_keptAt, v_isWriting])), (a_maps, .inl (gI G, 6, .inl fm)), (a_part, .inl (gI G, 6, .inl fp)), (a_pad, .inl (gI G, 40, .inl fd)), (a_slips, .inl (gI G, 10, .inl fs1_13))]) [2, 0, 1, 3, 4] (by decide) rfl)
      refine lv_if_lt (tgt := 32) hx hb dX10_judge_24 (by decide) (fun c14 => ?_) (fun c14 => ?_)
      · refine lv_aload_n hx hb dX10_judge_32 rfl (lv_at hl 0 rfl) ?_
        refine lv_aload_n hx hb dX10_judge_33 rfl (lv_at hl 0 rfl) ?_
        refine va_get (D := G.1) (ci := 6) (v := .ref a_maps) (C := RX10) (T := TX10) (N := 28) hx hb hts (fun _ h => List.mem_cons_of_mem _ (List.mem_append_right _ h)) hown E.K hP 0 rfl rfl 1 (by decide) (hts (.fieldLink RX10 7 "LastMapModel" "maps" "[I") (by decide +kernel)) (fun _ h9 => h9) rfl dX10_judge_34 ?_
        refine lv_iload_n hx hb dX10_judge_37 rfl (lv_at hl 1 rfl) ?_
        refine va_iald hx hb E.K hP 1 1 rfl rfl (i := nI j_p0) (vp_in_nI (by omega) (by decide)) dX10_judge_38 ?_
        refine lv_topi (fun x15 ex15 => ?_)
        obtain ⟨a_x15, ha_x15, hvx15⟩ := hfm j_p0 (by omega)
        obtain rfl : x15 = nI a_x15 := by rw [ex15, nI_clamp (by omega)]; exact hvx15
        refine ca_i (wr := [(a_maps, .inl (gI G, 6, .inl fm)), (a_pad, .inl (gI G, 40, .inl fd))]) (va_runV (As := [.int (nI a_x15)]) (rest := []) ⟨hx, hb, hml, hown, hts⟩ (m_badFrom l G H.size h1 (.int (nI k)) (.ref a_maps) (.int told) v_kinds v_land v_spades (.ref a_pad) (.int (nI pm)) v_queue v_depth v_by v_from v_come v_offOf v_parent v_best v_trees v_least v_sums v_toward v_kept v_isKept v_keptAt v_isWriting a_part fp a_slips k sm1_12 a_x15 fs1_13 md0 hk6 hp (by omega) w9.1 w9.2.1) (cwV 1 hts gX10_judge_X10_badFrom rfl rfl rfl (by decide +kernel) ⟨by decide +kernel, by decide +kernel⟩) (pre_V E hP hD hS hA [0, 2, 4] (by decide) rfl 0 6 rfl rfl) rfl rfl hl.1 rfl (lv_room (Nat.le_of_ble_eq_true rfl)) dX10_judge_39 ⟨by decide +kernel, by decide +kernel⟩) hS hP hD hA [0, 2, 4] [1, 3] rfl rfl (by decide) (by decide) (fun r17 u18 H locs w16 hP hD hS => ?_)
        obtain ⟨md1_19, rfl⟩ : ∃ z, z = u18 := ⟨_, rfl⟩
        try dsimp only at w16 hP hD
        have hP := (hP.sub (ws' := [(h1, .inr (6, [.int (nI k), .ref a_maps, .int told, v_kinds, v_land, v_spades, .ref a_part, .ref a_pad, .int (nI pm), .ref a_slips, .int (nI sm1_12), .int (nI md1_19), v_queue, v_depth, v_by, v_from, v_come, v_offOf, v_parent, v_best, v_trees, v_least, v_sums, v_toward, v_kept, v_isKept, v_keptAt, v_isWriting])), (a_maps, .inl (gI G, 6, .inl fm)), (a_part, .inl (gI G, 6, .inl fp)), (a_pad, .inl (gI G, 40, .inl fd)), (a_slips, .inl (gI G, 10, .inl fs1_13))]) [2, 0, 3, 1, 4] rfl)
        have hD := (hD.sub (ws' := [(h1, .inr (6, [.int (nI k), .ref a_maps, .int told, v_kinds, v_land, v_spades, .ref a_part, .ref a_pad, .int (nI pm), .ref a_slips, .int (nI sm1_12), .int (nI md1_19), v_queue, v_depth, v_by, v_from, v_come, v_offOf, v_parent, v_best, v_trees, v_least, v_sums, v_toward, v_kept, v_isKept, v_keptAt, v_isWriting])), (a_maps, .inl (gI G, 6, .inl fm)), (a_part, .inl (gI G, 6, .inl fp)), (a_pad, .inl (gI G, 40, .inl fd)), (a_slips, .inl (gI G, 10, .inl fs1_13))]) [2, 0, 3, 1, 4] (by decide) rfl)
        have hP9 := (hP.sub (ws' := [(h1, .inr (6, [.int (nI k), .ref a_maps, .int told, v_kinds, v_land, v_spades, .ref a_part, .ref a_pad, .int (nI pm), .ref a_slips, .int (nI sm1_12), .int (nI md1_19), v_queue, v_depth, v_by, v_from, v_come, v_offOf, v_parent, v_best, v_trees, v_least, v_sums, v_toward, v_kept, v_isKept, v_keptAt, v_isWriting])), (a_maps, .inl (gI G, 6, .inl fm)), (a_part, .inl (gI G, 6, .inl fp)), (a_pad, .inl (gI G, 40, .inl fd)), (a_slips, .inl (gI G, 10, .inl fs1_13))]) [0, 1, 2, 3, 4] rfl)
        have hD9 := (hD.sub (ws' := [(h1, .inr (6, [.int (nI k), .ref a_maps, .int told, v_kinds, v_land, v_spades, .ref a_part, .ref a_pad, .int (nI pm), .ref a_slips, .int (nI sm1_12), .int (nI md1_19), v_queue, v_depth, v_by, v_from, v_come, v_offOf, v_parent, v_best, v_trees, v_least, v_sums, v_toward, v_kept, v_isKept, v_keptAt, v_isWriting])), (a_maps, .inl (gI G, 6, .inl fm)), (a_part, .inl (gI G, 6, .inl fp)), (a_pad, .inl (gI G, 40, .inl fd)), (a_slips, .inl (gI G, 10, .inl fs1_13))]) [0, 1, 2, 3, 4] (by decide) rfl)
        exact W.iret (v := r17) hx hb hr (fun t9_ ht9_ hW9_ => ⟨⟨r17, (nI sm1_12, nI md1_19, fs1_13), rfl, trivial, by rw [ht9_]; exact hP9, hD9⟩, hS.F ht9_⟩) hS.2.2 dX10_judge_42
      · refine lv_bipush (v := (-5)) hx hb dX10_judge_27 (by decide) ?_
        refine lv_goto (tgt := 42) hx hb dX10_judge_29 (by decide) ?_
        have hP9 := (hP.sub (ws' := [(h1, .inr (6, [.int (nI k), .ref a_maps, .int told, v_kinds, v_land, v_spades, .ref a_part, .ref a_pad, .int (nI pm), .ref a_slips, .int (nI sm1_12), .int md0, v_queue, v_depth, v_by, v_from, v_come, v_offOf, v_parent, v_best, v_trees, v_least, v_sums, v_toward, v_kept, v_isKept, v_keptAt, v_isWriting])), (a_maps, .inl (gI G, 6, .inl fm)), (a_part, .inl (gI G, 6, .inl fp)), (a_pad, .inl (gI G, 40, .inl fd)), (a_slips, .inl (gI G, 10, .inl fs1_13))]) [0, 1, 2, 3, 4] rfl)
        have hD9 := (hD.sub (ws' := [(h1, .inr (6, [.int (nI k), .ref a_maps, .int told, v_kinds, v_land, v_spades, .ref a_part, .ref a_pad, .int (nI pm), .ref a_slips, .int (nI sm1_12), .int md0, v_queue, v_depth, v_by, v_from, v_come, v_offOf, v_parent, v_best, v_trees, v_least, v_sums, v_toward, v_kept, v_isKept, v_keptAt, v_isWriting])), (a_maps, .inl (gI G, 6, .inl fm)), (a_part, .inl (gI G, 6, .inl fp)), (a_pad, .inl (gI G, 40, .inl fd)), (a_slips, .inl (gI G, 10, .inl fs1_13))]) [0, 1, 2, 3, 4] (by decide) rfl)
        exact W.iret (v := (-5)) hx hb hr (fun t9_ ht9_ hW9_ => ⟨⟨(-5), (nI sm1_12, md0, fs1_13), rfl, trivial, by rw [ht9_]; exact hP9, hD9⟩, hS.F ht9_⟩) hS.2.2 dX10_judge_42
    · refine lv_if_ne (tgt := 20) hx hb dX10_judge_14 (by decide) (fun c20 => False.elim (by revert c20; decide)) (fun _ => ?_)
      refine lv_bipush (v := (-3)) hx hb dX10_judge_17 (by decide) ?_
      have hP9 := (hP.sub (ws' := [(h1, .inr (6, [.int (nI k), .ref a_maps, .int told, v_kinds, v_land, v_spades, .ref a_part, .ref a_pad, .int (nI pm), .ref a_slips, .int sm0, .int md0, v_queue, v_depth, v_by, v_from, v_come, v_offOf, v_parent, v_best, v_trees, v_least, v_sums, v_toward, v_kept, v_isKept, v_keptAt, v_isWriting])), (a_maps, .inl (gI G, 6, .inl fm)), (a_part, .inl (gI G, 6, .inl fp)), (a_pad, .inl (gI G, 40, .inl fd)), (a_slips, .inl (gI G, 10, .inl fs))]) [0, 1, 2, 3, 4] rfl)
      have hD9 := (hD.sub (ws' := [(h1, .inr (6, [.int (nI k), .ref a_maps, .int told, v_kinds, v_land, v_spades, .ref a_part, .ref a_pad, .int (nI pm), .ref a_slips, .int sm0, .int md0, v_queue, v_depth, v_by, v_from, v_come, v_offOf, v_parent, v_best, v_trees, v_least, v_sums, v_toward, v_kept, v_isKept, v_keptAt, v_isWriting])), (a_maps, .inl (gI G, 6, .inl fm)), (a_part, .inl (gI G, 6, .inl fp)), (a_pad, .inl (gI G, 40, .inl fd)), (a_slips, .inl (gI G, 10, .inl fs))]) [0, 1, 2, 3, 4] (by decide) rfl)
      exact W.iret (v := (-3)) hx hb hr (fun t9_ ht9_ hW9_ => ⟨⟨(-3), (sm0, md0, fs), rfl, trivial, by rw [ht9_]; exact hP9, hD9⟩, hS.F ht9_⟩) hS.2.2 dX10_judge_19
  · refine lv_if_ne (tgt := 9) hx hb dX10_judge_4 (by decide) (fun c21 => False.elim (by revert c21; decide)) (fun _ => ?_)
    refine lv_iconst (v := (-1)) hx hb dX10_judge_7 (by decide) ?_
    have hP9 := (hP.sub (ws' := [(h1, .inr (6, [.int (nI k), .ref a_maps, .int told, v_kinds, v_land, v_spades, .ref a_part, .ref a_pad, .int (nI pm), .ref a_slips, .int sm0, .int md0, v_queue, v_depth, v_by, v_from, v_come, v_offOf, v_parent, v_best, v_trees, v_least, v_sums, v_toward, v_kept, v_isKept, v_keptAt, v_isWriting])), (a_maps, .inl (gI G, 6, .inl fm)), (a_part, .inl (gI G, 6, .inl fp)), (a_pad, .inl (gI G, 40, .inl fd)), (a_slips, .inl (gI G, 10, .inl fs))]) [0, 1, 2, 3, 4] rfl)
    have hD9 := (hD.sub (ws' := [(h1, .inr (6, [.int (nI k), .ref a_maps, .int told, v_kinds, v_land, v_spades, .ref a_part, .ref a_pad, .int (nI pm), .ref a_slips, .int sm0, .int md0, v_queue, v_depth, v_by, v_from, v_come, v_offOf, v_parent, v_best, v_trees, v_least, v_sums, v_toward, v_kept, v_isKept, v_keptAt, v_isWriting])), (a_maps, .inl (gI G, 6, .inl fm)), (a_part, .inl (gI G, 6, .inl fp)), (a_pad, .inl (gI G, 40, .inl fd)), (a_slips, .inl (gI G, 10, .inl fs))]) [0, 1, 2, 3, 4] (by decide) rfl)
    exact W.iret (v := (-1)) hx hb hr (fun t9_ ht9_ hW9_ => ⟨⟨(-1), (sm0, md0, fs), rfl, trivial, by rw [ht9_]; exact hP9, hD9⟩, hS.F ht9_⟩) hS.2.2 dX10_judge_8

set_option maxHeartbeats 1000000 in
set_option maxRecDepth 100000 in
theorem m_copy (l : Launch) (G : Gy) (sz : Nat) (h1 : Nat) (v_kinds : Value) (v_land : Value) (v_spades : Value) (v_queue : Value) (v_depth : Value) (v_by : Value) (v_from : Value) (v_come : Value) (v_offOf : Value) (v_parent : Value) (v_best : Value) (v_trees : Value) (v_least : Value) (v_sums : Value) (v_toward : Value) (v_kept : Value) (v_isKept : Value) (v_keptAt : Value) (v_isWriting : Value) (a_maps : Nat) (fm : Nat → Int32) (a_part : Nat) (fp : Nat → Int32) (a_pad : Nat) (pm : Nat) (fd : Nat → Int32) (a_slips : Nat) (k : Nat) (fs : Nat → Int32) (told : Int32) (sm0 : Int32) (md0 : Int32) (p0 : Int32) (p1 : Int32) (hk2 : 2 ≤ k) (hk6 : k ≤ 6) (hp : pOK k fp) (hpm : pm ≤ 40) (hfm : mapsOK k fm) : Ci l G yX10_copy wsX10_copy ({ frames := 4, cells := 0, slots := 0, locals := 92 }) [.ref h1, .int p0, .int p1] ([(h1, .inr (6, [.int (nI k), .ref a_maps, .int told, v_kinds, v_land, v_spades, .ref a_part, .ref a_pad, .int (nI pm), .ref a_slips, .int sm0, .int md0, v_queue, v_depth, v_by, v_from, v_come, v_offOf, v_parent, v_best, v_trees, v_least, v_sums, v_toward, v_kept, v_isKept, v_keptAt, v_isWriting])), (a_maps, .inl (gI G, 6, .inl fm)), (a_part, .inl (gI G, 6, .inl fp)), (a_pad, .inl (gI G, 40, .inl fd)), (a_slips, .inl (gI G, 10, .inl fs))]) sz (fun (r : Int32) (u : Int32 × Nat × Int32 × Int32 × (Nat → Int32) × (Nat → Int32)) => match u with | (told1, pm1, sm1, md1, fm1, fs1) => pm1 ≤ 40 ∧ mapsOK k fm1) (fun (u : Int32 × Nat × Int32 × Int32 × (Nat → Int32) × (Nat → Int32)) => match u with | (told1, pm1, sm1, md1, fm1, fs1) => [(h1, .inr (6, [.int (nI k), .ref a_maps, .int told1, v_kinds, v_land, v_spades, .ref a_part, .ref a_pad, .int (nI pm1), .ref a_slips, .int sm1, .int md1, v_queue, v_depth, v_by, v_from, v_come, v_offOf, v_parent, v_best, v_trees, v_least, v_sums, v_toward, v_kept, v_isKept, v_keptAt, v_isWriting])), (a_maps, .inl (gI G, 6, .inl fm1)), (a_part, .inl (gI G, 6, .inl fp)), (a_pad, .inl (gI G, 40, .inl fd)), (a_slips, .inl (gI G, 10, .inl fs1))]) 0 0 := by
  refine Met.ofW (cc := cX10_copy) (maxL := 3) (ret := (some .int)) (by decide) rfl ?_
  intro p e s m args below meth c s₁ B hml hv
  obtain ⟨rfl, hsz, hP, hD0, E0⟩ := hv
  have hx := B.exec
  have hb := B.bytes
  have hr := B.returns
  have hts := atoms_spec (ws := wsX10_copy) B.pre
  have hown : s.vm.findClass RX10 = some m.cls := findClass_of_methodNamed B.named
  have hlocks := B.notSynchronized
  subst hsz
  have hD := hD0.self (sz := s.heap.size)
  generalize hAe : va_A ([(h1, .inr (6, [.int (nI k), .ref a_maps, .int told, v_kinds, v_land, v_spades, .ref a_part, .ref a_pad, .int (nI pm), .ref a_slips, .int sm0, .int md0, v_queue, v_depth, v_by, v_from, v_come, v_offOf, v_parent, v_best, v_trees, v_least, v_sums, v_toward, v_kept, v_isKept, v_keptAt, v_isWriting])), (a_maps, .inl (gI G, 6, .inl fm)), (a_part, .inl (gI G, 6, .inl fp)), (a_pad, .inl (gI G, 40, .inl fd)), (a_slips, .inl (gI G, 10, .inl fs))]) s.heap.size = A at hD E0 ⊢
  have E : EV G A s s.heap := E0
  have hA : ∀ q : Nat, s.heap.size ≤ q → A q := fun q h => by rw [← hAe]; exact Or.inr h
  have hS : va_S A s.heap s.heap [] := va_S.rf
  have hl := lv_entry ([.ref h1, .int p0, .int p1]) (n := 3) (Nat.le_of_ble_eq_true rfl)
  rw [lg_entry_eq]
  generalize (lg_sl ([.ref h1, .int p0, .int p1]) ++ List.replicate (3 - (lg_sl ([.ref h1, .int p0, .int p1])).length) Slot.unset).toArray = ls at hl ⊢
  have hl : lv_has ls 3 [(0, .ref h1), (1, .int p0), (2, .int p1)] := hl
  have hP : va_P G.1 vwCl ([(h1, .inr (6, [.int (nI k), .ref a_maps, .int told, v_kinds, v_land, v_spades, .ref a_part, .ref a_pad, .int (nI pm), .ref a_slips, .int sm0, .int md0, v_queue, v_depth, v_by, v_from, v_come, v_offOf, v_parent, v_best, v_trees, v_least, v_sums, v_toward, v_kept, v_isKept, v_keptAt, v_isWriting])), (a_maps, .inl (gI G, 6, .inl fm)), (a_part, .inl (gI G, 6, .inl fp)), (a_pad, .inl (gI G, 40, .inl fd)), (a_slips, .inl (gI G, 10, .inl fs))]) s.heap := hP
  have hal := p5le hk6
  refine lv_iload_n hx hb dX10_copy_0 rfl (lv_at hl 1 rfl) ?_
  refine ca_iR (va_runS (As := [.int p0]) (rest := []) ⟨hx, hb, hml, hown, hts⟩ (m_isMap l G s.heap.size p0) (va_cwS 1 hts gX10_copy_X10_isMap rfl rfl rfl (by decide +kernel) ⟨by decide +kernel, by decide +kernel⟩) (pre_S E hP hD hS hA [] (by decide) rfl) rfl rfl hl.1 rfl (lv_room (Nat.le_of_ble_eq_true rfl)) dX10_copy_1 ⟨by decide +kernel, by decide +kernel⟩) hS hP hD hA [] rfl (fun r2 _ H locs w1 hP hS => ?_)
  rcases w1 with ⟨rfl, b3⟩ | ⟨rfl, b3⟩
  · refine lv_if_eq (tgt := 14) hx hb dX10_copy_4 (by decide) (fun c4 => False.elim (by revert c4; decide)) (fun _ => ?_)
    refine lv_iload_n hx hb dX10_copy_7 rfl (lv_at hl 2 rfl) ?_
    refine ca_iR (va_runS (As := [.int p1]) (rest := []) ⟨hx, hb, hml, hown, hts⟩ (m_isMap l G H.size p1) (va_cwS 1 hts gX10_copy_X10_isMap rfl rfl rfl (by decide +kernel) ⟨by decide +kernel, by decide +kernel⟩) (pre_S E hP hD hS hA [] (by decide) rfl) rfl rfl hl.1 rfl (lv_room (Nat.le_of_ble_eq_true rfl)) dX10_copy_8 ⟨by decide +kernel, by decide +kernel⟩) hS hP hD hA [] rfl (fun r6 _ H locs w5 hP hS => ?_)
    rcases w5 with ⟨rfl, b7⟩ | ⟨rfl, b7⟩
    · refine lv_if_ne (tgt := 16) hx hb dX10_copy_11 (by decide) (fun _ => ?_) (fun c8 => False.elim (by revert c8; decide))
      obtain ⟨j_p0, hj_p0, ej_p0⟩ := inR6 b3
      have hl : lv_has ls 3 [(0, .ref h1), (1, .int (nI j_p0)), (2, .int p1)] := by have q := hl; rw [ej_p0] at q; exact q
      obtain ⟨j_p1, hj_p1, ej_p1⟩ := inR6 b7
      have hl : lv_has ls 3 [(0, .ref h1), (1, .int (nI j_p0)), (2, .int (nI j_p1))] := by have q := hl; rw [ej_p1] at q; exact q
      refine lv_aload_n hx hb dX10_copy_16 rfl (lv_at hl 0 rfl) ?_
      refine lv_iload_n hx hb dX10_copy_17 rfl (lv_at hl 2 rfl) ?_
      refine ca_iR (va_runV (As := [.int (nI j_p1)]) (rest := []) ⟨hx, hb, hml, hown, hts⟩ (m_isTold l G H.size h1 (.int (nI k)) (.ref a_maps) v_kinds v_land v_spades (.ref a_part) (.ref a_pad) (.int (nI pm)) (.ref a_slips) (.int sm0) (.int md0) v_queue v_depth v_by v_from v_come v_offOf v_parent v_best v_trees v_least v_sums v_toward v_kept v_isKept v_keptAt v_isWriting told (nI j_p1)) (cwV 1 hts gX10_copy_X10_isTold rfl rfl rfl (by decide +kernel) ⟨by decide +kernel, by decide +kernel⟩) (pre_V E hP hD hS hA [0] (by decide) rfl 0 6 rfl rfl) rfl rfl hl.1 rfl (lv_room (Nat.le_of_ble_eq_true rfl)) dX10_copy_18 ⟨by decide +kernel, by decide +kernel⟩) hS hP hD hA [0] rfl (fun r10 _ H locs w9 hP hS => ?_)
      rcases w9 with ⟨rfl, b11⟩ | ⟨rfl, b11⟩
      · refine lv_if_ne (tgt := 27) hx hb dX10_copy_21 (by decide) (fun _ => ?_) (fun c12 => False.elim (by revert c12; decide))
        refine lv_aload_n hx hb dX10_copy_27 rfl (lv_at hl 0 rfl) ?_
        refine ca_i (wr := [(a_maps, .inl (gI G, 6, .inl fm)), (a_part, .inl (gI G, 6, .inl fp))]) (va_runV (As := []) (rest := []) ⟨hx, hb, hml, hown, hts⟩ (m_faultOfSlips l G H.size h1 (.ref a_maps) (.int told) v_kinds v_land v_spades (.ref a_part) (.int md0) v_queue v_depth v_by v_from v_come v_offOf v_parent v_best v_trees v_least v_sums v_toward v_kept v_isKept v_keptAt v_isWriting a_pad pm fd a_slips k fs sm0 hk2 hk6 (by omega)) (cwV 0 hts gX10_copy_X10_faultOfSlips rfl rfl rfl (by decide +kernel) ⟨by decide +kernel, by decide +kernel⟩) (pre_V E hP hD hS hA [0, 3, 4] (by decide) rfl 0 6 rfl rfl) rfl rfl hl.1 rfl (lv_room (Nat.le_of_ble_eq_true rfl)) dX10_copy_28 ⟨by decide +kernel, by decide +kernel⟩) hS hP hD hA [0, 3, 4] [1, 2] rfl rfl (by decide) (by decide) (fun r14 u15 H locs w13 hP hD hS => ?_)
        obtain ⟨sm1_16, fs1_17⟩ := u15
        try dsimp only at w13 hP hD
        have hP := (hP.sub (ws' := [(h1, .inr (6, [.int (nI k), .ref a_maps, .int told, v_kinds, v_land, v_spades, .ref a_part, .ref a_pad, .int (nI pm), .ref a_slips, .int (nI sm1_16), .int md0, v_queue, v_depth, v_by, v_from, v_come, v_offOf, v_parent, v_best, v_trees, v_least, v_sums, v_toward, v_kept, v_isKept, v_keptAt, v_isWriting])), (a_maps, .inl (gI G, 6, .inl fm)), (a_part, .inl (gI G, 6, .inl fp)), (a_pad, .inl (gI G, 40, .inl fd)), (a_slips, .inl (gI G, 10, .inl fs1_17))]) [2, 0, 1, 3, 4] rfl)
        have hD := (hD.sub (ws' := [(h1, .inr (6, [.int (nI k), .ref a_maps, .int told, v_kinds, v_land, v_spades, .ref a_part, .ref a_pad, .int (nI pm), .ref a_slips, .int (nI sm1_16), .int md0, v_queue, v_depth, v_by, v_from, v_come, v_offOf, v_parent, v_best, v_trees, v_least, v_sums, v_toward, v_kept, v_isKept, v_keptAt, v_isWriting])), (a_maps, .inl (gI G, 6, .inl fm)), (a_part, .inl (gI G, 6, .inl fp)), (a_pad, .inl (gI G, 40, .inl fd)), (a_slips, .inl (gI G, 10, .inl fs1_17))]) [2, 0, 1, 3, 4] (by decide) rfl)
        refine lv_if_ge (tgt := 47) hx hb dX10_copy_31 (by decide) (fun c18 => ?_) (fun c18 => ?_)
        · refine lv_bipush (v := (-5)) hx hb dX10_copy_47 (by decide) ?_
          have hP9 := (hP.sub (ws' := [(h1, .inr (6, [.int (nI k), .ref a_maps, .int told, v_kinds, v_land, v_spades, .ref a_part, .ref a_pad, .int (nI pm), .ref a_slips, .int (nI sm1_16), .int md0, v_queue, v_depth, v_by, v_from, v_come, v_offOf, v_parent, v_best, v_trees, v_least, v_sums, v_toward, v_kept, v_isKept, v_keptAt, v_isWriting])), (a_maps, .inl (gI G, 6, .inl fm)), (a_part, .inl (gI G, 6, .inl fp)), (a_pad, .inl (gI G, 40, .inl fd)), (a_slips, .inl (gI G, 10, .inl fs1_17))]) [0, 1, 2, 3, 4] rfl)
          have hD9 := (hD.sub (ws' := [(h1, .inr (6, [.int (nI k), .ref a_maps, .int told, v_kinds, v_land, v_spades, .ref a_part, .ref a_pad, .int (nI pm), .ref a_slips, .int (nI sm1_16), .int md0, v_queue, v_depth, v_by, v_from, v_come, v_offOf, v_parent, v_best, v_trees, v_least, v_sums, v_toward, v_kept, v_isKept, v_keptAt, v_isWriting])), (a_maps, .inl (gI G, 6, .inl fm)), (a_part, .inl (gI G, 6, .inl fp)), (a_pad, .inl (gI G, 40, .inl fd)), (a_slips, .inl (gI G, 10, .inl fs1_17))]) [0, 1, 2, 3, 4] (by decide) rfl)
          exact W.iret (v := (-5)) hx hb hr (fun t9_ ht9_ hW9_ => ⟨⟨(-5), (told, pm, nI sm1_16, md0, fm, fs1_17), rfl, ⟨hpm, hfm⟩, by rw [ht9_]; exact hP9, hD9⟩, hS.F ht9_⟩) hS.2.2 dX10_copy_49
        · refine lv_aload_n hx hb dX10_copy_34 rfl (lv_at hl 0 rfl) ?_
          refine lv_aload_n hx hb dX10_copy_35 rfl (lv_at hl 0 rfl) ?_
          refine va_get (D := G.1) (ci := 6) (v := .ref a_maps) (C := RX10) (T := TX10) (N := 28) hx hb hts (fun _ h => List.mem_cons_of_mem _ (List.mem_append_right _ h)) hown E.K hP 0 rfl rfl 1 (by decide) (hts (.fieldLink RX10 7 "LastMapModel" "maps" "[I") (by decide +kernel)) (fun _ h9 => h9) rfl dX10_copy_36 ?_
          refine lv_iload_n hx hb dX10_copy_39 rfl (lv_at hl 2 rfl) ?_
          refine va_iald hx hb E.K hP 1 1 rfl rfl (i := nI j_p1) (vp_in_nI (by omega) (by decide)) dX10_copy_40 ?_
          refine lv_topi (fun x19 ex19 => ?_)
          obtain ⟨a_x19, ha_x19, hvx19⟩ := hfm j_p1 (by omega)
          obtain rfl : x19 = nI a_x19 := by rw [ex19, nI_clamp (by omega)]; exact hvx19
          refine ca_i (wr := [(a_maps, .inl (gI G, 6, .inl fm)), (a_pad, .inl (gI G, 40, .inl fd))]) (va_runV (As := [.int (nI a_x19)]) (rest := []) ⟨hx, hb, hml, hown, hts⟩ (m_badFrom l G H.size h1 (.int (nI k)) (.ref a_maps) (.int told) v_kinds v_land v_spades (.ref a_pad) (.int (nI pm)) v_queue v_depth v_by v_from v_come v_offOf v_parent v_best v_trees v_least v_sums v_toward v_kept v_isKept v_keptAt v_isWriting a_part fp a_slips k sm1_16 a_x19 fs1_17 md0 hk6 hp (by omega) w13.1 w13.2.1) (cwV 1 hts gX10_copy_X10_badFrom rfl rfl rfl (by decide +kernel) ⟨by decide +kernel, by decide +kernel⟩) (pre_V E hP hD hS hA [0, 2, 4] (by decide) rfl 0 6 rfl rfl) rfl rfl hl.1 rfl (lv_room (Nat.le_of_ble_eq_true rfl)) dX10_copy_41 ⟨by decide +kernel, by decide +kernel⟩) hS hP hD hA [0, 2, 4] [1, 3] rfl rfl (by decide) (by decide) (fun r21 u22 H locs w20 hP hD hS => ?_)
          obtain ⟨md1_23, rfl⟩ : ∃ z, z = u22 := ⟨_, rfl⟩
          try dsimp only at w20 hP hD
          have hP := (hP.sub (ws' := [(h1, .inr (6, [.int (nI k), .ref a_maps, .int told, v_kinds, v_land, v_spades, .ref a_part, .ref a_pad, .int (nI pm), .ref a_slips, .int (nI sm1_16), .int (nI md1_23), v_queue, v_depth, v_by, v_from, v_come, v_offOf, v_parent, v_best, v_trees, v_least, v_sums, v_toward, v_kept, v_isKept, v_keptAt, v_isWriting])), (a_maps, .inl (gI G, 6, .inl fm)), (a_part, .inl (gI G, 6, .inl fp)), (a_pad, .inl (gI G, 40, .inl fd)), (a_slips, .inl (gI G, 10, .inl fs1_17))]) [2, 0, 3, 1, 4] rfl)
          have hD := (hD.sub (ws' := [(h1, .inr (6, [.int (nI k), .ref a_maps, .int told, v_kinds, v_land, v_spades, .ref a_part, .ref a_pad, .int (nI pm), .ref a_slips, .int (nI sm1_16), .int (nI md1_23), v_queue, v_depth, v_by, v_from, v_come, v_offOf, v_parent, v_best, v_trees, v_least, v_sums, v_toward, v_kept, v_isKept, v_keptAt, v_isWriting])), (a_maps, .inl (gI G, 6, .inl fm)), (a_part, .inl (gI G, 6, .inl fp)), (a_pad, .inl (gI G, 40, .inl fd)), (a_slips, .inl (gI G, 10, .inl fs1_17))]) [2, 0, 3, 1, 4] (by decide) rfl)
          refine lv_if_lt (tgt := 50) hx hb dX10_copy_44 (by decide) (fun c24 => ?_) (fun c24 => ?_)
          · refine lv_aload_n hx hb dX10_copy_50 rfl (lv_at hl 0 rfl) ?_
            refine va_get (D := G.1) (ci := 6) (v := .ref a_maps) (C := RX10) (T := TX10) (N := 28) hx hb hts (fun _ h => List.mem_cons_of_mem _ (List.mem_append_right _ h)) hown E.K hP 0 rfl rfl 1 (by decide) (hts (.fieldLink RX10 7 "LastMapModel" "maps" "[I") (by decide +kernel)) (fun _ h9 => h9) rfl dX10_copy_51 ?_
            refine lv_iload_n hx hb dX10_copy_54 rfl (lv_at hl 1 rfl) ?_
            refine lv_aload_n hx hb dX10_copy_55 rfl (lv_at hl 0 rfl) ?_
            refine va_get (D := G.1) (ci := 6) (v := .int (nI md1_23)) (C := RX10) (T := TX10) (N := 28) hx hb hts (fun _ h => List.mem_cons_of_mem _ (List.mem_append_right _ h)) hown E.K hP 0 rfl rfl 11 (by decide) (hts (.fieldLink RX10 149 "LastMapModel" "made" "I") (by decide +kernel)) (fun _ h9 => h9) rfl dX10_copy_56 ?_
            refine va_iast hx hb E.K hP hD hS 1 1 rfl rfl (i := nI j_p0) (vp_in_nI (by omega) (by decide)) dX10_copy_59 (fun H locs hP hD hS => ?_)
            obtain ⟨f25, ef25⟩ : ∃ yy_ : Nat → Int32, yy_ = upd fm (nI j_p0).toNatClampNeg (nI md1_23) := ⟨_, rfl⟩
            have hP : va_P G.1 vwCl ([(h1, .inr (6, [.int (nI k), .ref a_maps, .int told, v_kinds, v_land, v_spades, .ref a_part, .ref a_pad, .int (nI pm), .ref a_slips, .int (nI sm1_16), .int (nI md1_23), v_queue, v_depth, v_by, v_from, v_come, v_offOf, v_parent, v_best, v_trees, v_least, v_sums, v_toward, v_kept, v_isKept, v_keptAt, v_isWriting])), (a_maps, .inl (gI G, 6, .inl f25)), (a_part, .inl (gI G, 6, .inl fp)), (a_pad, .inl (gI G, 40, .inl fd)), (a_slips, .inl (gI G, 10, .inl fs1_17))]) H := by rw [ef25]; exact hP
            have hD : va_D A ([(h1, .inr (6, [.int (nI k), .ref a_maps, .int told, v_kinds, v_land, v_spades, .ref a_part, .ref a_pad, .int (nI pm), .ref a_slips, .int (nI sm1_16), .int (nI md1_23), v_queue, v_depth, v_by, v_from, v_come, v_offOf, v_parent, v_best, v_trees, v_least, v_sums, v_toward, v_kept, v_isKept, v_keptAt, v_isWriting])), (a_maps, .inl (gI G, 6, .inl f25)), (a_part, .inl (gI G, 6, .inl fp)), (a_pad, .inl (gI G, 40, .inl fd)), (a_slips, .inl (gI G, 10, .inl fs1_17))]) := by rw [ef25]; exact hD
            refine lv_aload_n hx hb dX10_copy_60 rfl (lv_at hl 0 rfl) ?_
            refine lv_dup hx hb dX10_copy_61 rfl ?_
            refine va_get (D := G.1) (ci := 6) (v := .int told) (C := RX10) (T := TX10) (N := 28) hx hb hts (fun _ h => List.mem_cons_of_mem _ (List.mem_append_right _ h)) hown E.K hP 0 rfl rfl 2 (by decide) (hts (.fieldLink RX10 70 "LastMapModel" "told" "I") (by decide +kernel)) (fun _ h9 => h9) rfl dX10_copy_62 ?_
            refine lv_iconst (v := 1) hx hb dX10_copy_65 (by decide) ?_
            refine lv_iload_n hx hb dX10_copy_66 rfl (lv_at hl 1 rfl) ?_
            refine lv_ishl hx hb dX10_copy_67 ?_
            refine lv_topi (fun x26 ex26 => ?_)
            refine lv_ior hx hb dX10_copy_68 ?_
            refine lv_topi (fun x27 ex27 => ?_)
            refine va_put (D := G.1) (ci := 6) (v := .int x27) (ty := .int) (C := RX10) (T := TX10) (N := 28) hx hb hts (fun _ h => List.mem_cons_of_mem _ (List.mem_append_right _ h)) tyX10 tyX10_ok nmX10 hown E.K hP hD hS 0 rfl rfl 2 (by decide) (hts (.fieldLink RX10 70 "LastMapModel" "told" "I") (by decide +kernel)) (fun _ h9 => h9) rfl (by decide +kernel) rfl rfl (Nat.le_of_ble_eq_true rfl) dX10_copy_69 (fun H locs hP hD hS => ?_)
            have hP : va_P G.1 vwCl ([(h1, .inr (6, [.int (nI k), .ref a_maps, .int x27, v_kinds, v_land, v_spades, .ref a_part, .ref a_pad, .int (nI pm), .ref a_slips, .int (nI sm1_16), .int (nI md1_23), v_queue, v_depth, v_by, v_from, v_come, v_offOf, v_parent, v_best, v_trees, v_least, v_sums, v_toward, v_kept, v_isKept, v_keptAt, v_isWriting])), (a_maps, .inl (gI G, 6, .inl f25)), (a_part, .inl (gI G, 6, .inl fp)), (a_pad, .inl (gI G, 40, .inl fd)), (a_slips, .inl (gI G, 10, .inl fs1_17))]) H := hP
            have hD : va_D A ([(h1, .inr (6, [.int (nI k), .ref a_maps, .int x27, v_kinds, v_land, v_spades, .ref a_part, .ref a_pad, .int (nI pm), .ref a_slips, .int (nI sm1_16), .int (nI md1_23), v_queue, v_depth, v_by, v_from, v_come, v_offOf, v_parent, v_best, v_trees, v_least, v_sums, v_toward, v_kept, v_isKept, v_keptAt, v_isWriting])), (a_maps, .inl (gI G, 6, .inl f25)), (a_part, .inl (gI G, 6, .inl fp)), (a_pad, .inl (gI G, 40, .inl fd)), (a_slips, .inl (gI G, 10, .inl fs1_17))]) := hD
            refine lv_aload_n hx hb dX10_copy_72 rfl (lv_at hl 0 rfl) ?_
            refine lv_iconst (v := 0) hx hb dX10_copy_73 (by decide) ?_
            refine va_put (D := G.1) (ci := 6) (v := .int 0) (ty := .int) (C := RX10) (T := TX10) (N := 28) hx hb hts (fun _ h => List.mem_cons_of_mem _ (List.mem_append_right _ h)) tyX10 tyX10_ok nmX10 hown E.K hP hD hS 0 rfl rfl 8 (by decide) (hts (.fieldLink RX10 103 "LastMapModel" "padMany" "I") (by decide +kernel)) (fun _ h9 => h9) rfl (by decide +kernel) rfl rfl (Nat.le_of_ble_eq_true rfl) dX10_copy_74 (fun H locs hP hD hS => ?_)
            have hP : va_P G.1 vwCl ([(h1, .inr (6, [.int (nI k), .ref a_maps, .int x27, v_kinds, v_land, v_spades, .ref a_part, .ref a_pad, .int 0, .ref a_slips, .int (nI sm1_16), .int (nI md1_23), v_queue, v_depth, v_by, v_from, v_come, v_offOf, v_parent, v_best, v_trees, v_least, v_sums, v_toward, v_kept, v_isKept, v_keptAt, v_isWriting])), (a_maps, .inl (gI G, 6, .inl f25)), (a_part, .inl (gI G, 6, .inl fp)), (a_pad, .inl (gI G, 40, .inl fd)), (a_slips, .inl (gI G, 10, .inl fs1_17))]) H := hP
            have hD : va_D A ([(h1, .inr (6, [.int (nI k), .ref a_maps, .int x27, v_kinds, v_land, v_spades, .ref a_part, .ref a_pad, .int 0, .ref a_slips, .int (nI sm1_16), .int (nI md1_23), v_queue, v_depth, v_by, v_from, v_come, v_offOf, v_parent, v_best, v_trees, v_least, v_sums, v_toward, v_kept, v_isKept, v_keptAt, v_isWriting])), (a_maps, .inl (gI G, 6, .inl f25)), (a_part, .inl (gI G, 6, .inl fp)), (a_pad, .inl (gI G, 40, .inl fd)), (a_slips, .inl (gI G, 10, .inl fs1_17))]) := hD
            refine lv_aload_n hx hb dX10_copy_77 rfl (lv_at hl 0 rfl) ?_
            refine va_get (D := G.1) (ci := 6) (v := .int (nI sm1_16)) (C := RX10) (T := TX10) (N := 28) hx hb hts (fun _ h => List.mem_cons_of_mem _ (List.mem_append_right _ h)) hown E.K hP 0 rfl rfl 10 (by decide) (hts (.fieldLink RX10 110 "LastMapModel" "slipMany" "I") (by decide +kernel)) (fun _ h9 => h9) rfl dX10_copy_78 ?_
            have hP9 := (hP.sub (ws' := [(h1, .inr (6, [.int (nI k), .ref a_maps, .int x27, v_kinds, v_land, v_spades, .ref a_part, .ref a_pad, .int 0, .ref a_slips, .int (nI sm1_16), .int (nI md1_23), v_queue, v_depth, v_by, v_from, v_come, v_offOf, v_parent, v_best, v_trees, v_least, v_sums, v_toward, v_kept, v_isKept, v_keptAt, v_isWriting])), (a_maps, .inl (gI G, 6, .inl f25)), (a_part, .inl (gI G, 6, .inl fp)), (a_pad, .inl (gI G, 40, .inl fd)), (a_slips, .inl (gI G, 10, .inl fs1_17))]) [0, 1, 2, 3, 4] rfl)
            have hD9 := (hD.sub (ws' := [(h1, .inr (6, [.int (nI k), .ref a_maps, .int x27, v_kinds, v_land, v_spades, .ref a_part, .ref a_pad, .int 0, .ref a_slips, .int (nI sm1_16), .int (nI md1_23), v_queue, v_depth, v_by, v_from, v_come, v_offOf, v_parent, v_best, v_trees, v_least, v_sums, v_toward, v_kept, v_isKept, v_keptAt, v_isWriting])), (a_maps, .inl (gI G, 6, .inl f25)), (a_part, .inl (gI G, 6, .inl fp)), (a_pad, .inl (gI G, 40, .inl fd)), (a_slips, .inl (gI G, 10, .inl fs1_17))]) [0, 1, 2, 3, 4] (by decide) rfl)
            exact W.iret (v := (nI sm1_16)) hx hb hr (fun t9_ ht9_ hW9_ => ⟨⟨nI sm1_16, (x27, 0, nI sm1_16, nI md1_23, f25, fs1_17), rfl, ⟨by omega, by rw [ef25, nI_clamp (by omega)]; exact mapsOK_upd hfm w20⟩, by rw [ht9_]; exact hP9, hD9⟩, hS.F ht9_⟩) hS.2.2 dX10_copy_81
          · refine lv_bipush (v := (-5)) hx hb dX10_copy_47 (by decide) ?_
            have hP9 := (hP.sub (ws' := [(h1, .inr (6, [.int (nI k), .ref a_maps, .int told, v_kinds, v_land, v_spades, .ref a_part, .ref a_pad, .int (nI pm), .ref a_slips, .int (nI sm1_16), .int (nI md1_23), v_queue, v_depth, v_by, v_from, v_come, v_offOf, v_parent, v_best, v_trees, v_least, v_sums, v_toward, v_kept, v_isKept, v_keptAt, v_isWriting])), (a_maps, .inl (gI G, 6, .inl fm)), (a_part, .inl (gI G, 6, .inl fp)), (a_pad, .inl (gI G, 40, .inl fd)), (a_slips, .inl (gI G, 10, .inl fs1_17))]) [0, 1, 2, 3, 4] rfl)
            have hD9 := (hD.sub (ws' := [(h1, .inr (6, [.int (nI k), .ref a_maps, .int told, v_kinds, v_land, v_spades, .ref a_part, .ref a_pad, .int (nI pm), .ref a_slips, .int (nI sm1_16), .int (nI md1_23), v_queue, v_depth, v_by, v_from, v_come, v_offOf, v_parent, v_best, v_trees, v_least, v_sums, v_toward, v_kept, v_isKept, v_keptAt, v_isWriting])), (a_maps, .inl (gI G, 6, .inl fm)), (a_part, .inl (gI G, 6, .inl fp)), (a_pad, .inl (gI G, 40, .inl fd)), (a_slips, .inl (gI G, 10, .inl fs1_17))]) [0, 1, 2, 3, 4] (by decide) rfl)
            exact W.iret (v := (-5)) hx hb hr (fun t9_ ht9_ hW9_ => ⟨⟨(-5), (told, pm, nI sm1_16, nI md1_23, fm, fs1_17), rfl, ⟨hpm, hfm⟩, by rw [ht9_]; exact hP9, hD9⟩, hS.F ht9_⟩) hS.2.2 dX10_copy_49
      · refine lv_if_ne (tgt := 27) hx hb dX10_copy_21 (by decide) (fun c28 => False.elim (by revert c28; decide)) (fun _ => ?_)
        refine lv_bipush (v := (-3)) hx hb dX10_copy_24 (by decide) ?_
        have hP9 := (hP.sub (ws' := [(h1, .inr (6, [.int (nI k), .ref a_maps, .int told, v_kinds, v_land, v_spades, .ref a_part, .ref a_pad, .int (nI pm), .ref a_slips, .int sm0, .int md0, v_queue, v_depth, v_by, v_from, v_come, v_offOf, v_parent, v_best, v_trees, v_least, v_sums, v_toward, v_kept, v_isKept, v_keptAt, v_isWriting])), (a_maps, .inl (gI G, 6, .inl fm)), (a_part, .inl (gI G, 6, .inl fp)), (a_pad, .inl (gI G, 40, .inl fd)), (a_slips, .inl (gI G, 10, .inl fs))]) [0, 1, 2, 3, 4] rfl)
        have hD9 := (hD.sub (ws' := [(h1, .inr (6, [.int (nI k), .ref a_maps, .int told, v_kinds, v_land, v_spades, .ref a_part, .ref a_pad, .int (nI pm), .ref a_slips, .int sm0, .int md0, v_queue, v_depth, v_by, v_from, v_come, v_offOf, v_parent, v_best, v_trees, v_least, v_sums, v_toward, v_kept, v_isKept, v_keptAt, v_isWriting])), (a_maps, .inl (gI G, 6, .inl fm)), (a_part, .inl (gI G, 6, .inl fp)), (a_pad, .inl (gI G, 40, .inl fd)), (a_slips, .inl (gI G, 10, .inl fs))]) [0, 1, 2, 3, 4] (by decide) rfl)
        exact W.iret (v := (-3)) hx hb hr (fun t9_ ht9_ hW9_ => ⟨⟨(-3), (told, pm, sm0, md0, fm, fs), rfl, ⟨hpm, hfm⟩, by rw [ht9_]; exact hP9, hD9⟩, hS.F ht9_⟩) hS.2.2 dX10_copy_26
    · refine lv_if_ne (tgt := 16) hx hb dX10_copy_11 (by decide) (fun c29 => False.elim (by revert c29; decide)) (fun _ => ?_)
      refine lv_iconst (v := (-1)) hx hb dX10_copy_14 (by decide) ?_
      have hP9 := (hP.sub (ws' := [(h1, .inr (6, [.int (nI k), .ref a_maps, .int told, v_kinds, v_land, v_spades, .ref a_part, .ref a_pad, .int (nI pm), .ref a_slips, .int sm0, .int md0, v_queue, v_depth, v_by, v_from, v_come, v_offOf, v_parent, v_best, v_trees, v_least, v_sums, v_toward, v_kept, v_isKept, v_keptAt, v_isWriting])), (a_maps, .inl (gI G, 6, .inl fm)), (a_part, .inl (gI G, 6, .inl fp)), (a_pad, .inl (gI G, 40, .inl fd)), (a_slips, .inl (gI G, 10, .inl fs))]) [0, 1, 2, 3, 4] rfl)
      have hD9 := (hD.sub (ws' := [(h1, .inr (6, [.int (nI k), .ref a_maps, .int told, v_kinds, v_land, v_spades, .ref a_part, .ref a_pad, .int (nI pm), .ref a_slips, .int sm0, .int md0, v_queue, v_depth, v_by, v_from, v_come, v_offOf, v_parent, v_best, v_trees, v_least, v_sums, v_toward, v_kept, v_isKept, v_keptAt, v_isWriting])), (a_maps, .inl (gI G, 6, .inl fm)), (a_part, .inl (gI G, 6, .inl fp)), (a_pad, .inl (gI G, 40, .inl fd)), (a_slips, .inl (gI G, 10, .inl fs))]) [0, 1, 2, 3, 4] (by decide) rfl)
      exact W.iret (v := (-1)) hx hb hr (fun t9_ ht9_ hW9_ => ⟨⟨(-1), (told, pm, sm0, md0, fm, fs), rfl, ⟨hpm, hfm⟩, by rw [ht9_]; exact hP9, hD9⟩, hS.F ht9_⟩) hS.2.2 dX10_copy_15
  · refine lv_if_eq (tgt := 14) hx hb dX10_copy_4 (by decide) (fun _ => ?_) (fun c30 => False.elim (by revert c30; decide))
    refine lv_iconst (v := (-1)) hx hb dX10_copy_14 (by decide) ?_
    have hP9 := (hP.sub (ws' := [(h1, .inr (6, [.int (nI k), .ref a_maps, .int told, v_kinds, v_land, v_spades, .ref a_part, .ref a_pad, .int (nI pm), .ref a_slips, .int sm0, .int md0, v_queue, v_depth, v_by, v_from, v_come, v_offOf, v_parent, v_best, v_trees, v_least, v_sums, v_toward, v_kept, v_isKept, v_keptAt, v_isWriting])), (a_maps, .inl (gI G, 6, .inl fm)), (a_part, .inl (gI G, 6, .inl fp)), (a_pad, .inl (gI G, 40, .inl fd)), (a_slips, .inl (gI G, 10, .inl fs))]) [0, 1, 2, 3, 4] rfl)
    have hD9 := (hD.sub (ws' := [(h1, .inr (6, [.int (nI k), .ref a_maps, .int told, v_kinds, v_land, v_spades, .ref a_part, .ref a_pad, .int (nI pm), .ref a_slips, .int sm0, .int md0, v_queue, v_depth, v_by, v_from, v_come, v_offOf, v_parent, v_best, v_trees, v_least, v_sums, v_toward, v_kept, v_isKept, v_keptAt, v_isWriting])), (a_maps, .inl (gI G, 6, .inl fm)), (a_part, .inl (gI G, 6, .inl fp)), (a_pad, .inl (gI G, 40, .inl fd)), (a_slips, .inl (gI G, 10, .inl fs))]) [0, 1, 2, 3, 4] (by decide) rfl)
    exact W.iret (v := (-1)) hx hb hr (fun t9_ ht9_ hW9_ => ⟨⟨(-1), (told, pm, sm0, md0, fm, fs), rfl, ⟨hpm, hfm⟩, by rw [ht9_]; exact hP9, hD9⟩, hS.F ht9_⟩) hS.2.2 dX10_copy_15
