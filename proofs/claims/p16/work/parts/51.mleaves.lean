set_option maxHeartbeats 1000000 in
set_option maxRecDepth 100000 in
theorem m_in (l : Launch) (G : Gy) (sz : Nat) (v : Int64) (lo : Int64) (hi : Int64) (x : Int32) (xl : Int32) (xh : Int32) (hv : v = x.toInt64) (hlo : lo = xl.toInt64) (hhi : hi = xh.toInt64) : Ci l G yX10_in wsX10_in ({ frames := 0, cells := 0, slots := 0, locals := 0 }) [.long v, .long lo, .long hi] ([]) sz (fun (r : Int32) (_ : Unit) => (r = 1 ∧ inR x xl xh) ∨ (r = 0 ∧ ¬ inR x xl xh)) (fun (_ : Unit) => []) 0 0 := by
  refine Met.ofW (cc := cX10_in) (maxL := 6) (ret := (some .boolean)) (by decide) rfl ?_
  intro p e s m args below meth c s₁ B hml hv
  obtain ⟨rfl, hsz, hP, hD0, E0⟩ := hv
  have hx := B.exec
  have hb := B.bytes
  have hr := B.returns
  have hts := atoms_spec (ws := wsX10_in) B.pre
  have hown : s.vm.findClass RX10 = some m.cls := findClass_of_methodNamed B.named
  have hlocks := B.notSynchronized
  subst hsz
  have hD := hD0.self (sz := s.heap.size)
  generalize hAe : va_A ([]) s.heap.size = A at hD E0 ⊢
  have E : EV G A s s.heap := E0
  have hA : ∀ q : Nat, s.heap.size ≤ q → A q := fun q h => by rw [← hAe]; exact Or.inr h
  have hS : va_S A s.heap s.heap [] := va_S.rf
  have hl := lv_entry ([.long v, .long lo, .long hi]) (n := 6) (Nat.le_of_ble_eq_true rfl)
  rw [lg_entry_eq]
  generalize (lg_sl ([.long v, .long lo, .long hi]) ++ List.replicate (6 - (lg_sl ([.long v, .long lo, .long hi])).length) Slot.unset).toArray = ls at hl ⊢
  have hl : lv_has ls 6 [(0, .long v), (2, .long lo), (4, .long hi)] := hl
  have hP : va_P G.1 vwCl ([]) s.heap := hP
  refine lv_lload_n hx hb dX10_in_0 rfl (lv_at hl 0 rfl) ?_
  refine lv_lload_n hx hb dX10_in_1 rfl (lv_at hl 1 rfl) ?_
  refine W.lcmp hx hb dX10_in_2 ?_
  refine lv_topi (fun x1 ex1 => ?_)
  refine lv_if_lt (tgt := 17) hx hb dX10_in_3 (by decide) (fun c2 => ?_) (fun c2 => ?_)
  · refine lv_iconst (v := 0) hx hb dX10_in_17 (by decide) ?_
    have hP9 := (hP.sub (ws' := []) [] rfl)
    have hD9 := (hD.sub (ws' := []) [] (by decide) rfl)
    exact W.zret (v := 0) hx hb hr (by decide) (fun t9_ ht9_ hW9_ => ⟨⟨0, (), rfl, Or.inr ⟨rfl, by subst_vars; (try simp only [lg_cmp_lt, lg_cmp_gt, lg_cmp_ge, lg_cmp_le] at c2); ((try simp only [inR, inS, i3_lt, i3_le, i3_eq, i6_lt, i6_le, Int32.toInt_toInt64, lg_cmp_lt, lg_cmp_gt, lg_cmp_ge, lg_cmp_le, Int32.reduceToInt, Int64.reduceToInt] at c2 ⊢); omega)⟩, by rw [ht9_]; exact hP9, hD9⟩, hS.F ht9_⟩) hS.2.2 dX10_in_18
  · refine lv_lload_n hx hb dX10_in_6 rfl (lv_at hl 0 rfl) ?_
    refine lv_lload hx hb dX10_in_7 (lv_at hl 2 rfl) ?_
    refine W.lcmp hx hb dX10_in_9 ?_
    refine lv_topi (fun x3 ex3 => ?_)
    refine lv_if_gt (tgt := 17) hx hb dX10_in_10 (by decide) (fun c4 => ?_) (fun c4 => ?_)
    · refine lv_iconst (v := 0) hx hb dX10_in_17 (by decide) ?_
      have hP9 := (hP.sub (ws' := []) [] rfl)
      have hD9 := (hD.sub (ws' := []) [] (by decide) rfl)
      exact W.zret (v := 0) hx hb hr (by decide) (fun t9_ ht9_ hW9_ => ⟨⟨0, (), rfl, Or.inr ⟨rfl, by subst_vars; (try simp only [lg_cmp_lt, lg_cmp_gt, lg_cmp_ge, lg_cmp_le] at c2 c4); ((try simp only [inR, inS, i3_lt, i3_le, i3_eq, i6_lt, i6_le, Int32.toInt_toInt64, lg_cmp_lt, lg_cmp_gt, lg_cmp_ge, lg_cmp_le, Int32.reduceToInt, Int64.reduceToInt] at c2 c4 ⊢); omega)⟩, by rw [ht9_]; exact hP9, hD9⟩, hS.F ht9_⟩) hS.2.2 dX10_in_18
    · refine lv_iconst (v := 1) hx hb dX10_in_13 (by decide) ?_
      refine lv_goto (tgt := 18) hx hb dX10_in_14 (by decide) ?_
      have hP9 := (hP.sub (ws' := []) [] rfl)
      have hD9 := (hD.sub (ws' := []) [] (by decide) rfl)
      exact W.zret (v := 1) hx hb hr (by decide) (fun t9_ ht9_ hW9_ => ⟨⟨1, (), rfl, Or.inl ⟨rfl, by subst_vars; (try simp only [lg_cmp_lt, lg_cmp_gt, lg_cmp_ge, lg_cmp_le] at c2 c4); ((try simp only [inR, inS, i3_lt, i3_le, i3_eq, i6_lt, i6_le, Int32.toInt_toInt64, lg_cmp_lt, lg_cmp_gt, lg_cmp_ge, lg_cmp_le, Int32.reduceToInt, Int64.reduceToInt] at c2 c4 ⊢); omega)⟩, by rw [ht9_]; exact hP9, hD9⟩, hS.F ht9_⟩) hS.2.2 dX10_in_18

set_option maxHeartbeats 1000000 in
set_option maxRecDepth 100000 in
theorem m_isMap (l : Launch) (G : Gy) (sz : Nat) (p0 : Int32)  : Ci l G yX10_isMap wsX10_isMap ({ frames := 1, cells := 0, slots := 0, locals := 25 }) [.int p0] ([]) sz (fun (r : Int32) (_ : Unit) => (r = 1 ∧ inR p0 0 5) ∨ (r = 0 ∧ ¬ inR p0 0 5)) (fun (_ : Unit) => []) 0 0 := by
  refine Met.ofW (cc := cX10_isMap) (maxL := 1) (ret := (some .boolean)) (by decide) rfl ?_
  intro p e s m args below meth c s₁ B hml hv
  obtain ⟨rfl, hsz, hP, hD0, E0⟩ := hv
  have hx := B.exec
  have hb := B.bytes
  have hr := B.returns
  have hts := atoms_spec (ws := wsX10_isMap) B.pre
  have hown : s.vm.findClass RX10 = some m.cls := findClass_of_methodNamed B.named
  have hlocks := B.notSynchronized
  subst hsz
  have hD := hD0.self (sz := s.heap.size)
  generalize hAe : va_A ([]) s.heap.size = A at hD E0 ⊢
  have E : EV G A s s.heap := E0
  have hA : ∀ q : Nat, s.heap.size ≤ q → A q := fun q h => by rw [← hAe]; exact Or.inr h
  have hS : va_S A s.heap s.heap [] := va_S.rf
  have hl := lv_entry ([.int p0]) (n := 1) (Nat.le_of_ble_eq_true rfl)
  rw [lg_entry_eq]
  generalize (lg_sl ([.int p0]) ++ List.replicate (1 - (lg_sl ([.int p0])).length) Slot.unset).toArray = ls at hl ⊢
  have hl : lv_has ls 1 [(0, .int p0)] := hl
  have hP : va_P G.1 vwCl ([]) s.heap := hP
  refine lv_iload_n hx hb dX10_isMap_0 rfl (lv_at hl 0 rfl) ?_
  refine lv_i2l hx hb dX10_isMap_1 rfl ?_
  refine lv_topl (fun x1 ex1 => ?_)
  refine lv_lconst (v := 0) hx hb dX10_isMap_2 (by decide) ?_
  refine lv_ldc2 (v := 5) hx hb hown (hts (.constantLong RX10 83 (5)) (by decide +kernel)) dX10_isMap_3 ?_
  refine ca_iR (va_runS (As := [.long x1, .long 0, .long 5]) (rest := []) ⟨hx, hb, hml, hown, hts⟩ (m_in l G s.heap.size x1 0 5 p0 0 5 ex1 (by decide) (by decide)) (va_cwS 3 hts gX10_isMap_X10_in rfl rfl rfl (by decide +kernel) ⟨by decide +kernel, by decide +kernel⟩) (pre_S E hP hD hS hA [] (by decide) rfl) rfl rfl hl.1 rfl (lv_room (Nat.le_of_ble_eq_true rfl)) dX10_isMap_6 ⟨by decide +kernel, by decide +kernel⟩) hS hP hD hA [] rfl (fun r3 _ H locs w2 hP hS => ?_)
  rcases w2 with ⟨rfl, b4⟩ | ⟨rfl, b4⟩
  · have hP9 := (hP.sub (ws' := []) [] rfl)
    have hD9 := (hD.sub (ws' := []) [] (by decide) rfl)
    exact W.zret (v := 1) hx hb hr (by decide) (fun t9_ ht9_ hW9_ => ⟨⟨1, (), rfl, Or.inl ⟨rfl, b4⟩, by rw [ht9_]; exact hP9, hD9⟩, hS.F ht9_⟩) hS.2.2 dX10_isMap_9
  · have hP9 := (hP.sub (ws' := []) [] rfl)
    have hD9 := (hD.sub (ws' := []) [] (by decide) rfl)
    exact W.zret (v := 0) hx hb hr (by decide) (fun t9_ ht9_ hW9_ => ⟨⟨0, (), rfl, Or.inr ⟨rfl, b4⟩, by rw [ht9_]; exact hP9, hD9⟩, hS.F ht9_⟩) hS.2.2 dX10_isMap_9

set_option maxHeartbeats 1000000 in
set_option maxRecDepth 100000 in
theorem m_isHand (l : Launch) (G : Gy) (sz : Nat) (p0 : Int32)  : Ci l G yX10_isHand wsX10_isHand ({ frames := 1, cells := 0, slots := 0, locals := 25 }) [.int p0] ([]) sz (fun (r : Int32) (_ : Unit) => (r = 1 ∧ inR p0 0 3) ∨ (r = 0 ∧ ¬ inR p0 0 3)) (fun (_ : Unit) => []) 0 0 := by
  refine Met.ofW (cc := cX10_isHand) (maxL := 1) (ret := (some .boolean)) (by decide) rfl ?_
  intro p e s m args below meth c s₁ B hml hv
  obtain ⟨rfl, hsz, hP, hD0, E0⟩ := hv
  have hx := B.exec
  have hb := B.bytes
  have hr := B.returns
  have hts := atoms_spec (ws := wsX10_isHand) B.pre
  have hown : s.vm.findClass RX10 = some m.cls := findClass_of_methodNamed B.named
  have hlocks := B.notSynchronized
  subst hsz
  have hD := hD0.self (sz := s.heap.size)
  generalize hAe : va_A ([]) s.heap.size = A at hD E0 ⊢
  have E : EV G A s s.heap := E0
  have hA : ∀ q : Nat, s.heap.size ≤ q → A q := fun q h => by rw [← hAe]; exact Or.inr h
  have hS : va_S A s.heap s.heap [] := va_S.rf
  have hl := lv_entry ([.int p0]) (n := 1) (Nat.le_of_ble_eq_true rfl)
  rw [lg_entry_eq]
  generalize (lg_sl ([.int p0]) ++ List.replicate (1 - (lg_sl ([.int p0])).length) Slot.unset).toArray = ls at hl ⊢
  have hl : lv_has ls 1 [(0, .int p0)] := hl
  have hP : va_P G.1 vwCl ([]) s.heap := hP
  refine lv_iload_n hx hb dX10_isHand_0 rfl (lv_at hl 0 rfl) ?_
  refine lv_i2l hx hb dX10_isHand_1 rfl ?_
  refine lv_topl (fun x1 ex1 => ?_)
  refine lv_lconst (v := 0) hx hb dX10_isHand_2 (by decide) ?_
  refine lv_ldc2 (v := 3) hx hb hown (hts (.constantLong RX10 85 (3)) (by decide +kernel)) dX10_isHand_3 ?_
  refine ca_iR (va_runS (As := [.long x1, .long 0, .long 3]) (rest := []) ⟨hx, hb, hml, hown, hts⟩ (m_in l G s.heap.size x1 0 3 p0 0 3 ex1 (by decide) (by decide)) (va_cwS 3 hts gX10_isHand_X10_in rfl rfl rfl (by decide +kernel) ⟨by decide +kernel, by decide +kernel⟩) (pre_S E hP hD hS hA [] (by decide) rfl) rfl rfl hl.1 rfl (lv_room (Nat.le_of_ble_eq_true rfl)) dX10_isHand_6 ⟨by decide +kernel, by decide +kernel⟩) hS hP hD hA [] rfl (fun r3 _ H locs w2 hP hS => ?_)
  rcases w2 with ⟨rfl, b4⟩ | ⟨rfl, b4⟩
  · have hP9 := (hP.sub (ws' := []) [] rfl)
    have hD9 := (hD.sub (ws' := []) [] (by decide) rfl)
    exact W.zret (v := 1) hx hb hr (by decide) (fun t9_ ht9_ hW9_ => ⟨⟨1, (), rfl, Or.inl ⟨rfl, b4⟩, by rw [ht9_]; exact hP9, hD9⟩, hS.F ht9_⟩) hS.2.2 dX10_isHand_9
  · have hP9 := (hP.sub (ws' := []) [] rfl)
    have hD9 := (hD.sub (ws' := []) [] (by decide) rfl)
    exact W.zret (v := 0) hx hb hr (by decide) (fun t9_ ht9_ hW9_ => ⟨⟨0, (), rfl, Or.inr ⟨rfl, b4⟩, by rw [ht9_]; exact hP9, hD9⟩, hS.F ht9_⟩) hS.2.2 dX10_isHand_9

set_option maxHeartbeats 1000000 in
set_option maxRecDepth 100000 in
theorem m_isSite (l : Launch) (G : Gy) (sz : Nat) (h1 : Nat) (v_maps : Value) (v_told : Value) (v_kinds : Value) (v_land : Value) (v_spades : Value) (v_part : Value) (v_pad : Value) (v_padMany : Value) (v_slips : Value) (v_slipMany : Value) (v_made : Value) (v_queue : Value) (v_depth : Value) (v_by : Value) (v_from : Value) (v_come : Value) (v_offOf : Value) (v_parent : Value) (v_best : Value) (v_trees : Value) (v_least : Value) (v_sums : Value) (v_toward : Value) (v_kept : Value) (v_isKept : Value) (v_keptAt : Value) (v_isWriting : Value) (k : Nat) (p0 : Int32) (hk2 : 2 ≤ k) (hk6 : k ≤ 6) : Ci l G yX10_isSite wsX10_isSite ({ frames := 1, cells := 0, slots := 0, locals := 25 }) [.ref h1, .int p0] ([(h1, .inr (6, [.int (nI k), v_maps, v_told, v_kinds, v_land, v_spades, v_part, v_pad, v_padMany, v_slips, v_slipMany, v_made, v_queue, v_depth, v_by, v_from, v_come, v_offOf, v_parent, v_best, v_trees, v_least, v_sums, v_toward, v_kept, v_isKept, v_keptAt, v_isWriting]))]) sz (fun (r : Int32) (_ : Unit) => (r = 1 ∧ ∃ j, j < k ∧ p0 = nI j) ∨ (r = 0 ∧ ¬ ∃ j, j < k ∧ p0 = nI j)) (fun (_ : Unit) => [(h1, .inr (6, [.int (nI k), v_maps, v_told, v_kinds, v_land, v_spades, v_part, v_pad, v_padMany, v_slips, v_slipMany, v_made, v_queue, v_depth, v_by, v_from, v_come, v_offOf, v_parent, v_best, v_trees, v_least, v_sums, v_toward, v_kept, v_isKept, v_keptAt, v_isWriting]))]) 0 0 := by
  refine Met.ofW (cc := cX10_isSite) (maxL := 2) (ret := (some .boolean)) (by decide) rfl ?_
  intro p e s m args below meth c s₁ B hml hv
  obtain ⟨rfl, hsz, hP, hD0, E0⟩ := hv
  have hx := B.exec
  have hb := B.bytes
  have hr := B.returns
  have hts := atoms_spec (ws := wsX10_isSite) B.pre
  have hown : s.vm.findClass RX10 = some m.cls := findClass_of_methodNamed B.named
  have hlocks := B.notSynchronized
  subst hsz
  have hD := hD0.self (sz := s.heap.size)
  generalize hAe : va_A ([(h1, .inr (6, [.int (nI k), v_maps, v_told, v_kinds, v_land, v_spades, v_part, v_pad, v_padMany, v_slips, v_slipMany, v_made, v_queue, v_depth, v_by, v_from, v_come, v_offOf, v_parent, v_best, v_trees, v_least, v_sums, v_toward, v_kept, v_isKept, v_keptAt, v_isWriting]))]) s.heap.size = A at hD E0 ⊢
  have E : EV G A s s.heap := E0
  have hA : ∀ q : Nat, s.heap.size ≤ q → A q := fun q h => by rw [← hAe]; exact Or.inr h
  have hS : va_S A s.heap s.heap [] := va_S.rf
  have hl := lv_entry ([.ref h1, .int p0]) (n := 2) (Nat.le_of_ble_eq_true rfl)
  rw [lg_entry_eq]
  generalize (lg_sl ([.ref h1, .int p0]) ++ List.replicate (2 - (lg_sl ([.ref h1, .int p0])).length) Slot.unset).toArray = ls at hl ⊢
  have hl : lv_has ls 2 [(0, .ref h1), (1, .int p0)] := hl
  have hP : va_P G.1 vwCl ([(h1, .inr (6, [.int (nI k), v_maps, v_told, v_kinds, v_land, v_spades, v_part, v_pad, v_padMany, v_slips, v_slipMany, v_made, v_queue, v_depth, v_by, v_from, v_come, v_offOf, v_parent, v_best, v_trees, v_least, v_sums, v_toward, v_kept, v_isKept, v_keptAt, v_isWriting]))]) s.heap := hP
  refine lv_iload_n hx hb dX10_isSite_0 rfl (lv_at hl 1 rfl) ?_
  refine lv_i2l hx hb dX10_isSite_1 rfl ?_
  refine lv_topl (fun x1 ex1 => ?_)
  refine lv_lconst (v := 0) hx hb dX10_isSite_2 (by decide) ?_
  refine lv_aload_n hx hb dX10_isSite_3 rfl (lv_at hl 0 rfl) ?_
  refine va_get (D := G.1) (ci := 6) (v := .int (nI k)) (C := RX10) (T := TX10) (N := 28) hx hb hts (fun _ h => List.mem_cons_of_mem _ (List.mem_append_right _ h)) hown E.K hP 0 rfl rfl 0 (by decide) (hts (.fieldLink RX10 67 "LastMapModel" "sites" "I") (by decide +kernel)) (fun _ h9 => h9) rfl dX10_isSite_4 ?_
  refine lv_iconst (v := 1) hx hb dX10_isSite_7 (by decide) ?_
  refine lv_isub hx hb dX10_isSite_8 ?_
  refine lv_topi (fun x2 ex2 => ?_)
  obtain rfl : x2 = nI (k - 1) := by rw [ex2]; exact pk_sub (show 1 ≤ k by omega)
  refine lv_i2l hx hb dX10_isSite_9 rfl ?_
  refine lv_topl (fun x3 ex3 => ?_)
  refine ca_iR (va_runS (As := [.long x1, .long 0, .long x3]) (rest := []) ⟨hx, hb, hml, hown, hts⟩ (m_in l G s.heap.size x1 0 x3 p0 0 (nI (k - 1)) ex1 (by decide) ex3) (va_cwS 3 hts gX10_isSite_X10_in rfl rfl rfl (by decide +kernel) ⟨by decide +kernel, by decide +kernel⟩) (pre_S E hP hD hS hA [] (by decide) rfl) rfl rfl hl.1 rfl (lv_room (Nat.le_of_ble_eq_true rfl)) dX10_isSite_10 ⟨by decide +kernel, by decide +kernel⟩) hS hP hD hA [] rfl (fun r5 _ H locs w4 hP hS => ?_)
  rcases w4 with ⟨rfl, b6⟩ | ⟨rfl, b6⟩
  · have hP9 := (hP.sub (ws' := [(h1, .inr (6, [.int (nI k), v_maps, v_told, v_kinds, v_land, v_spades, v_part, v_pad, v_padMany, v_slips, v_slipMany, v_made, v_queue, v_depth, v_by, v_from, v_come, v_offOf, v_parent, v_best, v_trees, v_least, v_sums, v_toward, v_kept, v_isKept, v_keptAt, v_isWriting]))]) [0] rfl)
    have hD9 := (hD.sub (ws' := [(h1, .inr (6, [.int (nI k), v_maps, v_told, v_kinds, v_land, v_spades, v_part, v_pad, v_padMany, v_slips, v_slipMany, v_made, v_queue, v_depth, v_by, v_from, v_come, v_offOf, v_parent, v_best, v_trees, v_least, v_sums, v_toward, v_kept, v_isKept, v_keptAt, v_isWriting]))]) [0] (by decide) rfl)
    exact W.zret (v := 1) hx hb hr (by decide) (fun t9_ ht9_ hW9_ => ⟨⟨1, (), rfl, Or.inl ⟨rfl, (siteE hk2 hk6).mp b6⟩, by rw [ht9_]; exact hP9, hD9⟩, hS.F ht9_⟩) hS.2.2 dX10_isSite_13
  · have hP9 := (hP.sub (ws' := [(h1, .inr (6, [.int (nI k), v_maps, v_told, v_kinds, v_land, v_spades, v_part, v_pad, v_padMany, v_slips, v_slipMany, v_made, v_queue, v_depth, v_by, v_from, v_come, v_offOf, v_parent, v_best, v_trees, v_least, v_sums, v_toward, v_kept, v_isKept, v_keptAt, v_isWriting]))]) [0] rfl)
    have hD9 := (hD.sub (ws' := [(h1, .inr (6, [.int (nI k), v_maps, v_told, v_kinds, v_land, v_spades, v_part, v_pad, v_padMany, v_slips, v_slipMany, v_made, v_queue, v_depth, v_by, v_from, v_come, v_offOf, v_parent, v_best, v_trees, v_least, v_sums, v_toward, v_kept, v_isKept, v_keptAt, v_isWriting]))]) [0] (by decide) rfl)
    exact W.zret (v := 0) hx hb hr (by decide) (fun t9_ ht9_ hW9_ => ⟨⟨0, (), rfl, Or.inr ⟨rfl, fun h => b6 ((siteE hk2 hk6).mpr h)⟩, by rw [ht9_]; exact hP9, hD9⟩, hS.F ht9_⟩) hS.2.2 dX10_isSite_13

set_option maxHeartbeats 1000000 in
set_option maxRecDepth 100000 in
theorem m_isTold (l : Launch) (G : Gy) (sz : Nat) (h1 : Nat) (v_sites : Value) (v_maps : Value) (v_kinds : Value) (v_land : Value) (v_spades : Value) (v_part : Value) (v_pad : Value) (v_padMany : Value) (v_slips : Value) (v_slipMany : Value) (v_made : Value) (v_queue : Value) (v_depth : Value) (v_by : Value) (v_from : Value) (v_come : Value) (v_offOf : Value) (v_parent : Value) (v_best : Value) (v_trees : Value) (v_least : Value) (v_sums : Value) (v_toward : Value) (v_kept : Value) (v_isKept : Value) (v_keptAt : Value) (v_isWriting : Value) (told : Int32) (p0 : Int32)  : Ci l G yX10_isTold wsX10_isTold ({ frames := 0, cells := 0, slots := 0, locals := 0 }) [.ref h1, .int p0] ([(h1, .inr (6, [v_sites, v_maps, .int told, v_kinds, v_land, v_spades, v_part, v_pad, v_padMany, v_slips, v_slipMany, v_made, v_queue, v_depth, v_by, v_from, v_come, v_offOf, v_parent, v_best, v_trees, v_least, v_sums, v_toward, v_kept, v_isKept, v_keptAt, v_isWriting]))]) sz (fun (r : Int32) (_ : Unit) => (r = 1 ∧ tdP told p0) ∨ (r = 0 ∧ ¬ tdP told p0)) (fun (_ : Unit) => [(h1, .inr (6, [v_sites, v_maps, .int told, v_kinds, v_land, v_spades, v_part, v_pad, v_padMany, v_slips, v_slipMany, v_made, v_queue, v_depth, v_by, v_from, v_come, v_offOf, v_parent, v_best, v_trees, v_least, v_sums, v_toward, v_kept, v_isKept, v_keptAt, v_isWriting]))]) 0 0 := by
  refine Met.ofW (cc := cX10_isTold) (maxL := 2) (ret := (some .boolean)) (by decide) rfl ?_
  intro p e s m args below meth c s₁ B hml hv
  obtain ⟨rfl, hsz, hP, hD0, E0⟩ := hv
  have hx := B.exec
  have hb := B.bytes
  have hr := B.returns
  have hts := atoms_spec (ws := wsX10_isTold) B.pre
  have hown : s.vm.findClass RX10 = some m.cls := findClass_of_methodNamed B.named
  have hlocks := B.notSynchronized
  subst hsz
  have hD := hD0.self (sz := s.heap.size)
  generalize hAe : va_A ([(h1, .inr (6, [v_sites, v_maps, .int told, v_kinds, v_land, v_spades, v_part, v_pad, v_padMany, v_slips, v_slipMany, v_made, v_queue, v_depth, v_by, v_from, v_come, v_offOf, v_parent, v_best, v_trees, v_least, v_sums, v_toward, v_kept, v_isKept, v_keptAt, v_isWriting]))]) s.heap.size = A at hD E0 ⊢
  have E : EV G A s s.heap := E0
  have hA : ∀ q : Nat, s.heap.size ≤ q → A q := fun q h => by rw [← hAe]; exact Or.inr h
  have hS : va_S A s.heap s.heap [] := va_S.rf
  have hl := lv_entry ([.ref h1, .int p0]) (n := 2) (Nat.le_of_ble_eq_true rfl)
  rw [lg_entry_eq]
  generalize (lg_sl ([.ref h1, .int p0]) ++ List.replicate (2 - (lg_sl ([.ref h1, .int p0])).length) Slot.unset).toArray = ls at hl ⊢
  have hl : lv_has ls 2 [(0, .ref h1), (1, .int p0)] := hl
  have hP : va_P G.1 vwCl ([(h1, .inr (6, [v_sites, v_maps, .int told, v_kinds, v_land, v_spades, v_part, v_pad, v_padMany, v_slips, v_slipMany, v_made, v_queue, v_depth, v_by, v_from, v_come, v_offOf, v_parent, v_best, v_trees, v_least, v_sums, v_toward, v_kept, v_isKept, v_keptAt, v_isWriting]))]) s.heap := hP
  refine lv_aload_n hx hb dX10_isTold_0 rfl (lv_at hl 0 rfl) ?_
  refine va_get (D := G.1) (ci := 6) (v := .int told) (C := RX10) (T := TX10) (N := 28) hx hb hts (fun _ h => List.mem_cons_of_mem _ (List.mem_append_right _ h)) hown E.K hP 0 rfl rfl 2 (by decide) (hts (.fieldLink RX10 70 "LastMapModel" "told" "I") (by decide +kernel)) (fun _ h9 => h9) rfl dX10_isTold_1 ?_
  refine lv_iload_n hx hb dX10_isTold_4 rfl (lv_at hl 1 rfl) ?_
  refine lv_ishr hx hb dX10_isTold_5 ?_
  refine lv_topi (fun x1 ex1 => ?_)
  refine lv_iconst (v := 1) hx hb dX10_isTold_6 (by decide) ?_
  refine lv_iand hx hb dX10_isTold_7 ?_
  refine lv_topi (fun x2 ex2 => ?_)
  refine lv_iconst (v := 1) hx hb dX10_isTold_8 (by decide) ?_
  refine lv_icmp_ne (tgt := 16) hx hb dX10_isTold_9 (by decide) (fun c3 => ?_) (fun c3 => ?_)
  · refine lv_iconst (v := 0) hx hb dX10_isTold_16 (by decide) ?_
    have hP9 := (hP.sub (ws' := [(h1, .inr (6, [v_sites, v_maps, .int told, v_kinds, v_land, v_spades, v_part, v_pad, v_padMany, v_slips, v_slipMany, v_made, v_queue, v_depth, v_by, v_from, v_come, v_offOf, v_parent, v_best, v_trees, v_least, v_sums, v_toward, v_kept, v_isKept, v_keptAt, v_isWriting]))]) [0] rfl)
    have hD9 := (hD.sub (ws' := [(h1, .inr (6, [v_sites, v_maps, .int told, v_kinds, v_land, v_spades, v_part, v_pad, v_padMany, v_slips, v_slipMany, v_made, v_queue, v_depth, v_by, v_from, v_come, v_offOf, v_parent, v_best, v_trees, v_least, v_sums, v_toward, v_kept, v_isKept, v_keptAt, v_isWriting]))]) [0] (by decide) rfl)
    exact W.zret (v := 0) hx hb hr (by decide) (fun t9_ ht9_ hW9_ => ⟨⟨0, (), rfl, Or.inr ⟨rfl, by unfold tdP; rw [← ex1, ← ex2]; exact c3⟩, by rw [ht9_]; exact hP9, hD9⟩, hS.F ht9_⟩) hS.2.2 dX10_isTold_17
  · refine lv_iconst (v := 1) hx hb dX10_isTold_12 (by decide) ?_
    refine lv_goto (tgt := 17) hx hb dX10_isTold_13 (by decide) ?_
    have hP9 := (hP.sub (ws' := [(h1, .inr (6, [v_sites, v_maps, .int told, v_kinds, v_land, v_spades, v_part, v_pad, v_padMany, v_slips, v_slipMany, v_made, v_queue, v_depth, v_by, v_from, v_come, v_offOf, v_parent, v_best, v_trees, v_least, v_sums, v_toward, v_kept, v_isKept, v_keptAt, v_isWriting]))]) [0] rfl)
    have hD9 := (hD.sub (ws' := [(h1, .inr (6, [v_sites, v_maps, .int told, v_kinds, v_land, v_spades, v_part, v_pad, v_padMany, v_slips, v_slipMany, v_made, v_queue, v_depth, v_by, v_from, v_come, v_offOf, v_parent, v_best, v_trees, v_least, v_sums, v_toward, v_kept, v_isKept, v_keptAt, v_isWriting]))]) [0] (by decide) rfl)
    exact W.zret (v := 1) hx hb hr (by decide) (fun t9_ ht9_ hW9_ => ⟨⟨1, (), rfl, Or.inl ⟨rfl, by unfold tdP; rw [← ex1, ← ex2]; exact c3⟩, by rw [ht9_]; exact hP9, hD9⟩, hS.F ht9_⟩) hS.2.2 dX10_isTold_17

set_option maxHeartbeats 1000000 in
set_option maxRecDepth 100000 in
theorem m_areTold (l : Launch) (G : Gy) (sz : Nat) (h1 : Nat) (v_sites : Value) (v_maps : Value) (v_kinds : Value) (v_land : Value) (v_spades : Value) (v_part : Value) (v_pad : Value) (v_padMany : Value) (v_slips : Value) (v_slipMany : Value) (v_made : Value) (v_queue : Value) (v_depth : Value) (v_by : Value) (v_from : Value) (v_come : Value) (v_offOf : Value) (v_parent : Value) (v_best : Value) (v_trees : Value) (v_least : Value) (v_sums : Value) (v_toward : Value) (v_kept : Value) (v_isKept : Value) (v_keptAt : Value) (v_isWriting : Value) (told : Int32) (p0 : Int32)  : Ci l G yX10_areTold wsX10_areTold ({ frames := 0, cells := 0, slots := 0, locals := 0 }) [.ref h1, .int p0] ([(h1, .inr (6, [v_sites, v_maps, .int told, v_kinds, v_land, v_spades, v_part, v_pad, v_padMany, v_slips, v_slipMany, v_made, v_queue, v_depth, v_by, v_from, v_come, v_offOf, v_parent, v_best, v_trees, v_least, v_sums, v_toward, v_kept, v_isKept, v_keptAt, v_isWriting]))]) sz (fun (r : Int32) (_ : Unit) => (r = 1 ∧ p0 &&& (told ^^^ (-1)) = 0) ∨ (r = 0 ∧ ¬ p0 &&& (told ^^^ (-1)) = 0)) (fun (_ : Unit) => [(h1, .inr (6, [v_sites, v_maps, .int told, v_kinds, v_land, v_spades, v_part, v_pad, v_padMany, v_slips, v_slipMany, v_made, v_queue, v_depth, v_by, v_from, v_come, v_offOf, v_parent, v_best, v_trees, v_least, v_sums, v_toward, v_kept, v_isKept, v_keptAt, v_isWriting]))]) 0 0 := by
  refine Met.ofW (cc := cX10_areTold) (maxL := 2) (ret := (some .boolean)) (by decide) rfl ?_
  intro p e s m args below meth c s₁ B hml hv
  obtain ⟨rfl, hsz, hP, hD0, E0⟩ := hv
  have hx := B.exec
  have hb := B.bytes
  have hr := B.returns
  have hts := atoms_spec (ws := wsX10_areTold) B.pre
  have hown : s.vm.findClass RX10 = some m.cls := findClass_of_methodNamed B.named
  have hlocks := B.notSynchronized
  subst hsz
  have hD := hD0.self (sz := s.heap.size)
  generalize hAe : va_A ([(h1, .inr (6, [v_sites, v_maps, .int told, v_kinds, v_land, v_spades, v_part, v_pad, v_padMany, v_slips, v_slipMany, v_made, v_queue, v_depth, v_by, v_from, v_come, v_offOf, v_parent, v_best, v_trees, v_least, v_sums, v_toward, v_kept, v_isKept, v_keptAt, v_isWriting]))]) s.heap.size = A at hD E0 ⊢
  have E : EV G A s s.heap := E0
  have hA : ∀ q : Nat, s.heap.size ≤ q → A q := fun q h => by rw [← hAe]; exact Or.inr h
  have hS : va_S A s.heap s.heap [] := va_S.rf
  have hl := lv_entry ([.ref h1, .int p0]) (n := 2) (Nat.le_of_ble_eq_true rfl)
  rw [lg_entry_eq]
  generalize (lg_sl ([.ref h1, .int p0]) ++ List.replicate (2 - (lg_sl ([.ref h1, .int p0])).length) Slot.unset).toArray = ls at hl ⊢
  have hl : lv_has ls 2 [(0, .ref h1), (1, .int p0)] := hl
  have hP : va_P G.1 vwCl ([(h1, .inr (6, [v_sites, v_maps, .int told, v_kinds, v_land, v_spades, v_part, v_pad, v_padMany, v_slips, v_slipMany, v_made, v_queue, v_depth, v_by, v_from, v_come, v_offOf, v_parent, v_best, v_trees, v_least, v_sums, v_toward, v_kept, v_isKept, v_keptAt, v_isWriting]))]) s.heap := hP
  refine lv_iload_n hx hb dX10_areTold_0 rfl (lv_at hl 1 rfl) ?_
  refine lv_aload_n hx hb dX10_areTold_1 rfl (lv_at hl 0 rfl) ?_
  refine va_get (D := G.1) (ci := 6) (v := .int told) (C := RX10) (T := TX10) (N := 28) hx hb hts (fun _ h => List.mem_cons_of_mem _ (List.mem_append_right _ h)) hown E.K hP 0 rfl rfl 2 (by decide) (hts (.fieldLink RX10 70 "LastMapModel" "told" "I") (by decide +kernel)) (fun _ h9 => h9) rfl dX10_areTold_2 ?_
  refine lv_iconst (v := (-1)) hx hb dX10_areTold_5 (by decide) ?_
  refine lv_ixor hx hb dX10_areTold_6 ?_
  refine lv_topi (fun x1 ex1 => ?_)
  refine lv_iand hx hb dX10_areTold_7 ?_
  refine lv_topi (fun x2 ex2 => ?_)
  refine lv_if_ne (tgt := 15) hx hb dX10_areTold_8 (by decide) (fun c3 => ?_) (fun c3 => ?_)
  · refine lv_iconst (v := 0) hx hb dX10_areTold_15 (by decide) ?_
    have hP9 := (hP.sub (ws' := [(h1, .inr (6, [v_sites, v_maps, .int told, v_kinds, v_land, v_spades, v_part, v_pad, v_padMany, v_slips, v_slipMany, v_made, v_queue, v_depth, v_by, v_from, v_come, v_offOf, v_parent, v_best, v_trees, v_least, v_sums, v_toward, v_kept, v_isKept, v_keptAt, v_isWriting]))]) [0] rfl)
    have hD9 := (hD.sub (ws' := [(h1, .inr (6, [v_sites, v_maps, .int told, v_kinds, v_land, v_spades, v_part, v_pad, v_padMany, v_slips, v_slipMany, v_made, v_queue, v_depth, v_by, v_from, v_come, v_offOf, v_parent, v_best, v_trees, v_least, v_sums, v_toward, v_kept, v_isKept, v_keptAt, v_isWriting]))]) [0] (by decide) rfl)
    exact W.zret (v := 0) hx hb hr (by decide) (fun t9_ ht9_ hW9_ => ⟨⟨0, (), rfl, Or.inr ⟨rfl, by rw [← ex1, ← ex2]; exact c3⟩, by rw [ht9_]; exact hP9, hD9⟩, hS.F ht9_⟩) hS.2.2 dX10_areTold_16
  · refine lv_iconst (v := 1) hx hb dX10_areTold_11 (by decide) ?_
    refine lv_goto (tgt := 16) hx hb dX10_areTold_12 (by decide) ?_
    have hP9 := (hP.sub (ws' := [(h1, .inr (6, [v_sites, v_maps, .int told, v_kinds, v_land, v_spades, v_part, v_pad, v_padMany, v_slips, v_slipMany, v_made, v_queue, v_depth, v_by, v_from, v_come, v_offOf, v_parent, v_best, v_trees, v_least, v_sums, v_toward, v_kept, v_isKept, v_keptAt, v_isWriting]))]) [0] rfl)
    have hD9 := (hD.sub (ws' := [(h1, .inr (6, [v_sites, v_maps, .int told, v_kinds, v_land, v_spades, v_part, v_pad, v_padMany, v_slips, v_slipMany, v_made, v_queue, v_depth, v_by, v_from, v_come, v_offOf, v_parent, v_best, v_trees, v_least, v_sums, v_toward, v_kept, v_isKept, v_keptAt, v_isWriting]))]) [0] (by decide) rfl)
    exact W.zret (v := 1) hx hb hr (by decide) (fun t9_ ht9_ hW9_ => ⟨⟨1, (), rfl, Or.inl ⟨rfl, by rw [← ex1, ← ex2]; exact c3⟩, by rw [ht9_]; exact hP9, hD9⟩, hS.F ht9_⟩) hS.2.2 dX10_areTold_16

set_option maxHeartbeats 1000000 in
set_option maxRecDepth 100000 in
theorem m_codeOf (l : Launch) (G : Gy) (sz : Nat) (p0 : Int32)  : Ci l G yX10_codeOf wsX10_codeOf ({ frames := 0, cells := 0, slots := 0, locals := 0 }) [.int p0] ([]) sz (fun (r : Int32) (_ : Unit) => r = cIf (p0 = 4) 45 (97 + p0)) (fun (_ : Unit) => []) 0 0 := by
  refine Met.ofW (cc := cX10_codeOf) (maxL := 1) (ret := (some .int)) (by decide) rfl ?_
  intro p e s m args below meth c s₁ B hml hv
  obtain ⟨rfl, hsz, hP, hD0, E0⟩ := hv
  have hx := B.exec
  have hb := B.bytes
  have hr := B.returns
  have hts := atoms_spec (ws := wsX10_codeOf) B.pre
  have hown : s.vm.findClass RX10 = some m.cls := findClass_of_methodNamed B.named
  have hlocks := B.notSynchronized
  subst hsz
  have hD := hD0.self (sz := s.heap.size)
  generalize hAe : va_A ([]) s.heap.size = A at hD E0 ⊢
  have E : EV G A s s.heap := E0
  have hA : ∀ q : Nat, s.heap.size ≤ q → A q := fun q h => by rw [← hAe]; exact Or.inr h
  have hS : va_S A s.heap s.heap [] := va_S.rf
  have hl := lv_entry ([.int p0]) (n := 1) (Nat.le_of_ble_eq_true rfl)
  rw [lg_entry_eq]
  generalize (lg_sl ([.int p0]) ++ List.replicate (1 - (lg_sl ([.int p0])).length) Slot.unset).toArray = ls at hl ⊢
  have hl : lv_has ls 1 [(0, .int p0)] := hl
  have hP : va_P G.1 vwCl ([]) s.heap := hP
  refine lv_iload_n hx hb dX10_codeOf_0 rfl (lv_at hl 0 rfl) ?_
  refine lv_iconst (v := 4) hx hb dX10_codeOf_1 (by decide) ?_
  refine lv_icmp_ne (tgt := 10) hx hb dX10_codeOf_2 (by decide) (fun c1 => ?_) (fun c1 => ?_)
  · refine lv_bipush (v := 97) hx hb dX10_codeOf_10 (by decide) ?_
    refine lv_iload_n hx hb dX10_codeOf_12 rfl (lv_at hl 0 rfl) ?_
    refine lv_iadd hx hb dX10_codeOf_13 ?_
    refine lv_topi (fun x2 ex2 => ?_)
    have hP9 := (hP.sub (ws' := []) [] rfl)
    have hD9 := (hD.sub (ws' := []) [] (by decide) rfl)
    exact W.iret (v := x2) hx hb hr (fun t9_ ht9_ hW9_ => ⟨⟨x2, (), rfl, by rw [ex2]; exact (cIf_f (by ((try simp only [inR, inS, i3_lt, i3_le, i3_eq, i6_lt, i6_le, Int32.toInt_toInt64, lg_cmp_lt, lg_cmp_gt, lg_cmp_ge, lg_cmp_le, Int32.reduceToInt, Int64.reduceToInt] at c1 ⊢); omega))).symm, by rw [ht9_]; exact hP9, hD9⟩, hS.F ht9_⟩) hS.2.2 dX10_codeOf_14
  · refine lv_bipush (v := 45) hx hb dX10_codeOf_5 (by decide) ?_
    refine lv_goto (tgt := 14) hx hb dX10_codeOf_7 (by decide) ?_
    have hP9 := (hP.sub (ws' := []) [] rfl)
    have hD9 := (hD.sub (ws' := []) [] (by decide) rfl)
    exact W.iret (v := 45) hx hb hr (fun t9_ ht9_ hW9_ => ⟨⟨45, (), rfl, (cIf_t (by ((try simp only [inR, inS, i3_lt, i3_le, i3_eq, i6_lt, i6_le, Int32.toInt_toInt64, lg_cmp_lt, lg_cmp_gt, lg_cmp_ge, lg_cmp_le, Int32.reduceToInt, Int64.reduceToInt] at c1 ⊢); omega))).symm, by rw [ht9_]; exact hP9, hD9⟩, hS.F ht9_⟩) hS.2.2 dX10_codeOf_14

set_option maxHeartbeats 1000000 in
set_option maxRecDepth 100000 in
theorem m_signOf (l : Launch) (G : Gy) (sz : Nat) (p0 : Int32)  : Ci l G yX10_signOf wsX10_signOf ({ frames := 1, cells := 0, slots := 0, locals := 25 }) [.int p0] ([]) sz (fun (r : Int32) (_ : Unit) => r = sgO p0) (fun (_ : Unit) => []) 0 0 := by
  refine Met.ofW (cc := cX10_signOf) (maxL := 1) (ret := (some .int)) (by decide) rfl ?_
  intro p e s m args below meth c s₁ B hml hv
  obtain ⟨rfl, hsz, hP, hD0, E0⟩ := hv
  have hx := B.exec
  have hb := B.bytes
  have hr := B.returns
  have hts := atoms_spec (ws := wsX10_signOf) B.pre
  have hown : s.vm.findClass RX10 = some m.cls := findClass_of_methodNamed B.named
  have hlocks := B.notSynchronized
  subst hsz
  have hD := hD0.self (sz := s.heap.size)
  generalize hAe : va_A ([]) s.heap.size = A at hD E0 ⊢
  have E : EV G A s s.heap := E0
  have hA : ∀ q : Nat, s.heap.size ≤ q → A q := fun q h => by rw [← hAe]; exact Or.inr h
  have hS : va_S A s.heap s.heap [] := va_S.rf
  have hl := lv_entry ([.int p0]) (n := 1) (Nat.le_of_ble_eq_true rfl)
  rw [lg_entry_eq]
  generalize (lg_sl ([.int p0]) ++ List.replicate (1 - (lg_sl ([.int p0])).length) Slot.unset).toArray = ls at hl ⊢
  have hl : lv_has ls 1 [(0, .int p0)] := hl
  have hP : va_P G.1 vwCl ([]) s.heap := hP
  refine lv_iload_n hx hb dX10_signOf_0 rfl (lv_at hl 0 rfl) ?_
  refine lv_bipush (v := 45) hx hb dX10_signOf_1 (by decide) ?_
  refine lv_icmp_ne (tgt := 10) hx hb dX10_signOf_3 (by decide) (fun c1 => ?_) (fun c1 => ?_)
  · refine lv_iload_n hx hb dX10_signOf_10 rfl (lv_at hl 0 rfl) ?_
    refine lv_i2l hx hb dX10_signOf_11 rfl ?_
    refine lv_topl (fun x2 ex2 => ?_)
    refine lv_ldc2 (v := 97) hx hb hown (hts (.constantLong RX10 95 (97)) (by decide +kernel)) dX10_signOf_12 ?_
    refine lv_ldc2 (v := 100) hx hb hown (hts (.constantLong RX10 97 (100)) (by decide +kernel)) dX10_signOf_15 ?_
    refine ca_iR (va_runS (As := [.long x2, .long 97, .long 100]) (rest := []) ⟨hx, hb, hml, hown, hts⟩ (m_in l G s.heap.size x2 97 100 p0 97 100 ex2 (by decide) (by decide)) (va_cwS 3 hts gX10_signOf_X10_in rfl rfl rfl (by decide +kernel) ⟨by decide +kernel, by decide +kernel⟩) (pre_S E hP hD hS hA [] (by decide) rfl) rfl rfl hl.1 rfl (lv_room (Nat.le_of_ble_eq_true rfl)) dX10_signOf_18 ⟨by decide +kernel, by decide +kernel⟩) hS hP hD hA [] rfl (fun r4 _ H locs w3 hP hS => ?_)
    rcases w3 with ⟨rfl, b5⟩ | ⟨rfl, b5⟩
    · refine lv_if_eq (tgt := 31) hx hb dX10_signOf_21 (by decide) (fun c6 => False.elim (by revert c6; decide)) (fun _ => ?_)
      refine lv_iload_n hx hb dX10_signOf_24 rfl (lv_at hl 0 rfl) ?_
      refine lv_bipush (v := 97) hx hb dX10_signOf_25 (by decide) ?_
      refine lv_isub hx hb dX10_signOf_27 ?_
      refine lv_topi (fun x7 ex7 => ?_)
      refine lv_goto (tgt := 33) hx hb dX10_signOf_28 (by decide) ?_
      have hP9 := (hP.sub (ws' := []) [] rfl)
      have hD9 := (hD.sub (ws' := []) [] (by decide) rfl)
      exact W.iret (v := x7) hx hb hr (fun t9_ ht9_ hW9_ => ⟨⟨x7, (), rfl, by dsimp only; (try simp only [ex2, ex7]); symm; unfold sgO; (repeat (first | (refine Eq.trans (cIf_t ?_) ?_; · first | assumption | ((try simp only [inR, inS, i3_lt, i3_le, i3_eq, i6_lt, i6_le, Int32.toInt_toInt64, lg_cmp_lt, lg_cmp_gt, lg_cmp_ge, lg_cmp_le, Int32.reduceToInt, Int64.reduceToInt] at c1 b5 ⊢); omega)) | (refine Eq.trans (cIf_f ?_) ?_; · first | assumption | ((try simp only [inR, inS, i3_lt, i3_le, i3_eq, i6_lt, i6_le, Int32.toInt_toInt64, lg_cmp_lt, lg_cmp_gt, lg_cmp_ge, lg_cmp_le, Int32.reduceToInt, Int64.reduceToInt] at c1 b5 ⊢); omega)))); first | rfl | (exfalso; ((try simp only [inR, inS, i3_lt, i3_le, i3_eq, i6_lt, i6_le, Int32.toInt_toInt64, lg_cmp_lt, lg_cmp_gt, lg_cmp_ge, lg_cmp_le, Int32.reduceToInt, Int64.reduceToInt] at c1 b5); omega)), by rw [ht9_]; exact hP9, hD9⟩, hS.F ht9_⟩) hS.2.2 dX10_signOf_33
    · refine lv_if_eq (tgt := 31) hx hb dX10_signOf_21 (by decide) (fun _ => ?_) (fun c8 => False.elim (by revert c8; decide))
      refine lv_bipush (v := (-6)) hx hb dX10_signOf_31 (by decide) ?_
      have hP9 := (hP.sub (ws' := []) [] rfl)
      have hD9 := (hD.sub (ws' := []) [] (by decide) rfl)
      exact W.iret (v := (-6)) hx hb hr (fun t9_ ht9_ hW9_ => ⟨⟨(-6), (), rfl, by dsimp only; (try simp only [ex2]); symm; unfold sgO; (repeat (first | (refine Eq.trans (cIf_t ?_) ?_; · first | assumption | ((try simp only [inR, inS, i3_lt, i3_le, i3_eq, i6_lt, i6_le, Int32.toInt_toInt64, lg_cmp_lt, lg_cmp_gt, lg_cmp_ge, lg_cmp_le, Int32.reduceToInt, Int64.reduceToInt] at c1 b5 ⊢); omega)) | (refine Eq.trans (cIf_f ?_) ?_; · first | assumption | ((try simp only [inR, inS, i3_lt, i3_le, i3_eq, i6_lt, i6_le, Int32.toInt_toInt64, lg_cmp_lt, lg_cmp_gt, lg_cmp_ge, lg_cmp_le, Int32.reduceToInt, Int64.reduceToInt] at c1 b5 ⊢); omega)))); first | rfl | (exfalso; ((try simp only [inR, inS, i3_lt, i3_le, i3_eq, i6_lt, i6_le, Int32.toInt_toInt64, lg_cmp_lt, lg_cmp_gt, lg_cmp_ge, lg_cmp_le, Int32.reduceToInt, Int64.reduceToInt] at c1 b5); omega)), by rw [ht9_]; exact hP9, hD9⟩, hS.F ht9_⟩) hS.2.2 dX10_signOf_33
  · refine lv_iconst (v := 4) hx hb dX10_signOf_6 (by decide) ?_
    refine lv_goto (tgt := 33) hx hb dX10_signOf_7 (by decide) ?_
    have hP9 := (hP.sub (ws' := []) [] rfl)
    have hD9 := (hD.sub (ws' := []) [] (by decide) rfl)
    exact W.iret (v := 4) hx hb hr (fun t9_ ht9_ hW9_ => ⟨⟨4, (), rfl, by dsimp only; symm; unfold sgO; (repeat (first | (refine Eq.trans (cIf_t ?_) ?_; · first | assumption | ((try simp only [inR, inS, i3_lt, i3_le, i3_eq, i6_lt, i6_le, Int32.toInt_toInt64, lg_cmp_lt, lg_cmp_gt, lg_cmp_ge, lg_cmp_le, Int32.reduceToInt, Int64.reduceToInt] at c1 ⊢); omega)) | (refine Eq.trans (cIf_f ?_) ?_; · first | assumption | ((try simp only [inR, inS, i3_lt, i3_le, i3_eq, i6_lt, i6_le, Int32.toInt_toInt64, lg_cmp_lt, lg_cmp_gt, lg_cmp_ge, lg_cmp_le, Int32.reduceToInt, Int64.reduceToInt] at c1 ⊢); omega)))); first | rfl | (exfalso; ((try simp only [inR, inS, i3_lt, i3_le, i3_eq, i6_lt, i6_le, Int32.toInt_toInt64, lg_cmp_lt, lg_cmp_gt, lg_cmp_ge, lg_cmp_le, Int32.reduceToInt, Int64.reduceToInt] at c1); omega)), by rw [ht9_]; exact hP9, hD9⟩, hS.F ht9_⟩) hS.2.2 dX10_signOf_33

set_option maxHeartbeats 1000000 in
set_option maxRecDepth 100000 in
theorem m_kindOf (l : Launch) (G : Gy) (sz : Nat) (p0 : Int32)  : Ci l G yX10_kindOf wsX10_kindOf ({ frames := 0, cells := 0, slots := 0, locals := 0 }) [.int p0] ([]) sz (fun (r : Int32) (_ : Unit) => r = kdO p0) (fun (_ : Unit) => []) 0 0 := by
  refine Met.ofW (cc := cX10_kindOf) (maxL := 1) (ret := (some .int)) (by decide) rfl ?_
  intro p e s m args below meth c s₁ B hml hv
  obtain ⟨rfl, hsz, hP, hD0, E0⟩ := hv
  have hx := B.exec
  have hb := B.bytes
  have hr := B.returns
  have hts := atoms_spec (ws := wsX10_kindOf) B.pre
  have hown : s.vm.findClass RX10 = some m.cls := findClass_of_methodNamed B.named
  have hlocks := B.notSynchronized
  subst hsz
  have hD := hD0.self (sz := s.heap.size)
  generalize hAe : va_A ([]) s.heap.size = A at hD E0 ⊢
  have E : EV G A s s.heap := E0
  have hA : ∀ q : Nat, s.heap.size ≤ q → A q := fun q h => by rw [← hAe]; exact Or.inr h
  have hS : va_S A s.heap s.heap [] := va_S.rf
  have hl := lv_entry ([.int p0]) (n := 1) (Nat.le_of_ble_eq_true rfl)
  rw [lg_entry_eq]
  generalize (lg_sl ([.int p0]) ++ List.replicate (1 - (lg_sl ([.int p0])).length) Slot.unset).toArray = ls at hl ⊢
  have hl : lv_has ls 1 [(0, .int p0)] := hl
  have hP : va_P G.1 vwCl ([]) s.heap := hP
  refine lv_iload_n hx hb dX10_kindOf_0 rfl (lv_at hl 0 rfl) ?_
  refine lv_bipush (v := 99) hx hb dX10_kindOf_1 (by decide) ?_
  refine lv_icmp_ne (tgt := 10) hx hb dX10_kindOf_3 (by decide) (fun c1 => ?_) (fun c1 => ?_)
  · refine lv_iload_n hx hb dX10_kindOf_10 rfl (lv_at hl 0 rfl) ?_
    refine lv_bipush (v := 115) hx hb dX10_kindOf_11 (by decide) ?_
    refine lv_icmp_ne (tgt := 20) hx hb dX10_kindOf_13 (by decide) (fun c2 => ?_) (fun c2 => ?_)
    · refine lv_iload_n hx hb dX10_kindOf_20 rfl (lv_at hl 0 rfl) ?_
      refine lv_bipush (v := 116) hx hb dX10_kindOf_21 (by decide) ?_
      refine lv_icmp_ne (tgt := 30) hx hb dX10_kindOf_23 (by decide) (fun c3 => ?_) (fun c3 => ?_)
      · refine lv_iload_n hx hb dX10_kindOf_30 rfl (lv_at hl 0 rfl) ?_
        refine lv_bipush (v := 111) hx hb dX10_kindOf_31 (by decide) ?_
        refine lv_icmp_ne (tgt := 40) hx hb dX10_kindOf_33 (by decide) (fun c4 => ?_) (fun c4 => ?_)
        · refine lv_bipush (v := (-6)) hx hb dX10_kindOf_40 (by decide) ?_
          have hP9 := (hP.sub (ws' := []) [] rfl)
          have hD9 := (hD.sub (ws' := []) [] (by decide) rfl)
          exact W.iret (v := (-6)) hx hb hr (fun t9_ ht9_ hW9_ => ⟨⟨(-6), (), rfl, by dsimp only; symm; unfold kdO; (repeat (first | (refine Eq.trans (cIf_t ?_) ?_; · first | assumption | ((try simp only [inR, inS, i3_lt, i3_le, i3_eq, i6_lt, i6_le, Int32.toInt_toInt64, lg_cmp_lt, lg_cmp_gt, lg_cmp_ge, lg_cmp_le, Int32.reduceToInt, Int64.reduceToInt] at c1 c2 c3 c4 ⊢); omega)) | (refine Eq.trans (cIf_f ?_) ?_; · first | assumption | ((try simp only [inR, inS, i3_lt, i3_le, i3_eq, i6_lt, i6_le, Int32.toInt_toInt64, lg_cmp_lt, lg_cmp_gt, lg_cmp_ge, lg_cmp_le, Int32.reduceToInt, Int64.reduceToInt] at c1 c2 c3 c4 ⊢); omega)))); first | rfl | (exfalso; ((try simp only [inR, inS, i3_lt, i3_le, i3_eq, i6_lt, i6_le, Int32.toInt_toInt64, lg_cmp_lt, lg_cmp_gt, lg_cmp_ge, lg_cmp_le, Int32.reduceToInt, Int64.reduceToInt] at c1 c2 c3 c4); omega)), by rw [ht9_]; exact hP9, hD9⟩, hS.F ht9_⟩) hS.2.2 dX10_kindOf_42
        · refine lv_iconst (v := 3) hx hb dX10_kindOf_36 (by decide) ?_
          refine lv_goto (tgt := 42) hx hb dX10_kindOf_37 (by decide) ?_
          have hP9 := (hP.sub (ws' := []) [] rfl)
          have hD9 := (hD.sub (ws' := []) [] (by decide) rfl)
          exact W.iret (v := 3) hx hb hr (fun t9_ ht9_ hW9_ => ⟨⟨3, (), rfl, by dsimp only; symm; unfold kdO; (repeat (first | (refine Eq.trans (cIf_t ?_) ?_; · first | assumption | ((try simp only [inR, inS, i3_lt, i3_le, i3_eq, i6_lt, i6_le, Int32.toInt_toInt64, lg_cmp_lt, lg_cmp_gt, lg_cmp_ge, lg_cmp_le, Int32.reduceToInt, Int64.reduceToInt] at c1 c2 c3 c4 ⊢); omega)) | (refine Eq.trans (cIf_f ?_) ?_; · first | assumption | ((try simp only [inR, inS, i3_lt, i3_le, i3_eq, i6_lt, i6_le, Int32.toInt_toInt64, lg_cmp_lt, lg_cmp_gt, lg_cmp_ge, lg_cmp_le, Int32.reduceToInt, Int64.reduceToInt] at c1 c2 c3 c4 ⊢); omega)))); first | rfl | (exfalso; ((try simp only [inR, inS, i3_lt, i3_le, i3_eq, i6_lt, i6_le, Int32.toInt_toInt64, lg_cmp_lt, lg_cmp_gt, lg_cmp_ge, lg_cmp_le, Int32.reduceToInt, Int64.reduceToInt] at c1 c2 c3 c4); omega)), by rw [ht9_]; exact hP9, hD9⟩, hS.F ht9_⟩) hS.2.2 dX10_kindOf_42
      · refine lv_iconst (v := 2) hx hb dX10_kindOf_26 (by decide) ?_
        refine lv_goto (tgt := 42) hx hb dX10_kindOf_27 (by decide) ?_
        have hP9 := (hP.sub (ws' := []) [] rfl)
        have hD9 := (hD.sub (ws' := []) [] (by decide) rfl)
        exact W.iret (v := 2) hx hb hr (fun t9_ ht9_ hW9_ => ⟨⟨2, (), rfl, by dsimp only; symm; unfold kdO; (repeat (first | (refine Eq.trans (cIf_t ?_) ?_; · first | assumption | ((try simp only [inR, inS, i3_lt, i3_le, i3_eq, i6_lt, i6_le, Int32.toInt_toInt64, lg_cmp_lt, lg_cmp_gt, lg_cmp_ge, lg_cmp_le, Int32.reduceToInt, Int64.reduceToInt] at c1 c2 c3 ⊢); omega)) | (refine Eq.trans (cIf_f ?_) ?_; · first | assumption | ((try simp only [inR, inS, i3_lt, i3_le, i3_eq, i6_lt, i6_le, Int32.toInt_toInt64, lg_cmp_lt, lg_cmp_gt, lg_cmp_ge, lg_cmp_le, Int32.reduceToInt, Int64.reduceToInt] at c1 c2 c3 ⊢); omega)))); first | rfl | (exfalso; ((try simp only [inR, inS, i3_lt, i3_le, i3_eq, i6_lt, i6_le, Int32.toInt_toInt64, lg_cmp_lt, lg_cmp_gt, lg_cmp_ge, lg_cmp_le, Int32.reduceToInt, Int64.reduceToInt] at c1 c2 c3); omega)), by rw [ht9_]; exact hP9, hD9⟩, hS.F ht9_⟩) hS.2.2 dX10_kindOf_42
    · refine lv_iconst (v := 1) hx hb dX10_kindOf_16 (by decide) ?_
      refine lv_goto (tgt := 42) hx hb dX10_kindOf_17 (by decide) ?_
      have hP9 := (hP.sub (ws' := []) [] rfl)
      have hD9 := (hD.sub (ws' := []) [] (by decide) rfl)
      exact W.iret (v := 1) hx hb hr (fun t9_ ht9_ hW9_ => ⟨⟨1, (), rfl, by dsimp only; symm; unfold kdO; (repeat (first | (refine Eq.trans (cIf_t ?_) ?_; · first | assumption | ((try simp only [inR, inS, i3_lt, i3_le, i3_eq, i6_lt, i6_le, Int32.toInt_toInt64, lg_cmp_lt, lg_cmp_gt, lg_cmp_ge, lg_cmp_le, Int32.reduceToInt, Int64.reduceToInt] at c1 c2 ⊢); omega)) | (refine Eq.trans (cIf_f ?_) ?_; · first | assumption | ((try simp only [inR, inS, i3_lt, i3_le, i3_eq, i6_lt, i6_le, Int32.toInt_toInt64, lg_cmp_lt, lg_cmp_gt, lg_cmp_ge, lg_cmp_le, Int32.reduceToInt, Int64.reduceToInt] at c1 c2 ⊢); omega)))); first | rfl | (exfalso; ((try simp only [inR, inS, i3_lt, i3_le, i3_eq, i6_lt, i6_le, Int32.toInt_toInt64, lg_cmp_lt, lg_cmp_gt, lg_cmp_ge, lg_cmp_le, Int32.reduceToInt, Int64.reduceToInt] at c1 c2); omega)), by rw [ht9_]; exact hP9, hD9⟩, hS.F ht9_⟩) hS.2.2 dX10_kindOf_42
  · refine lv_iconst (v := 0) hx hb dX10_kindOf_6 (by decide) ?_
    refine lv_goto (tgt := 42) hx hb dX10_kindOf_7 (by decide) ?_
    have hP9 := (hP.sub (ws' := []) [] rfl)
    have hD9 := (hD.sub (ws' := []) [] (by decide) rfl)
    exact W.iret (v := 0) hx hb hr (fun t9_ ht9_ hW9_ => ⟨⟨0, (), rfl, by dsimp only; symm; unfold kdO; (repeat (first | (refine Eq.trans (cIf_t ?_) ?_; · first | assumption | ((try simp only [inR, inS, i3_lt, i3_le, i3_eq, i6_lt, i6_le, Int32.toInt_toInt64, lg_cmp_lt, lg_cmp_gt, lg_cmp_ge, lg_cmp_le, Int32.reduceToInt, Int64.reduceToInt] at c1 ⊢); omega)) | (refine Eq.trans (cIf_f ?_) ?_; · first | assumption | ((try simp only [inR, inS, i3_lt, i3_le, i3_eq, i6_lt, i6_le, Int32.toInt_toInt64, lg_cmp_lt, lg_cmp_gt, lg_cmp_ge, lg_cmp_le, Int32.reduceToInt, Int64.reduceToInt] at c1 ⊢); omega)))); first | rfl | (exfalso; ((try simp only [inR, inS, i3_lt, i3_le, i3_eq, i6_lt, i6_le, Int32.toInt_toInt64, lg_cmp_lt, lg_cmp_gt, lg_cmp_ge, lg_cmp_le, Int32.reduceToInt, Int64.reduceToInt] at c1); omega)), by rw [ht9_]; exact hP9, hD9⟩, hS.F ht9_⟩) hS.2.2 dX10_kindOf_42

set_option maxHeartbeats 1000000 in
set_option maxRecDepth 100000 in
theorem m_all (l : Launch) (G : Gy) (sz : Nat) (h1 : Nat) (v_sites : Value) (v_maps : Value) (v_told : Value) (v_kinds : Value) (v_land : Value) (v_spades : Value) (v_pad : Value) (v_padMany : Value) (v_slips : Value) (v_slipMany : Value) (v_made : Value) (v_queue : Value) (v_depth : Value) (v_by : Value) (v_from : Value) (v_come : Value) (v_offOf : Value) (v_parent : Value) (v_best : Value) (v_trees : Value) (v_least : Value) (v_sums : Value) (v_toward : Value) (v_kept : Value) (v_isKept : Value) (v_keptAt : Value) (v_isWriting : Value) (a_part : Nat) (fp : Nat → Int32) (k : Nat) (hk2 : 2 ≤ k) (hp : pOK k fp) : Ci l G yX10_all wsX10_all ({ frames := 0, cells := 0, slots := 0, locals := 0 }) [.ref h1] ([(h1, .inr (6, [v_sites, v_maps, v_told, v_kinds, v_land, v_spades, .ref a_part, v_pad, v_padMany, v_slips, v_slipMany, v_made, v_queue, v_depth, v_by, v_from, v_come, v_offOf, v_parent, v_best, v_trees, v_least, v_sums, v_toward, v_kept, v_isKept, v_keptAt, v_isWriting])), (a_part, .inl (gI G, 6, .inl fp))]) sz (fun (r : Int32) (_ : Unit) => r = nI (5 ^ k)) (fun (_ : Unit) => [(h1, .inr (6, [v_sites, v_maps, v_told, v_kinds, v_land, v_spades, .ref a_part, v_pad, v_padMany, v_slips, v_slipMany, v_made, v_queue, v_depth, v_by, v_from, v_come, v_offOf, v_parent, v_best, v_trees, v_least, v_sums, v_toward, v_kept, v_isKept, v_keptAt, v_isWriting])), (a_part, .inl (gI G, 6, .inl fp))]) 0 0 := by
  refine Met.ofW (cc := cX10_all) (maxL := 1) (ret := (some .int)) (by decide) rfl ?_
  intro p e s m args below meth c s₁ B hml hv
  obtain ⟨rfl, hsz, hP, hD0, E0⟩ := hv
  have hx := B.exec
  have hb := B.bytes
  have hr := B.returns
  have hts := atoms_spec (ws := wsX10_all) B.pre
  have hown : s.vm.findClass RX10 = some m.cls := findClass_of_methodNamed B.named
  have hlocks := B.notSynchronized
  subst hsz
  have hD := hD0.self (sz := s.heap.size)
  generalize hAe : va_A ([(h1, .inr (6, [v_sites, v_maps, v_told, v_kinds, v_land, v_spades, .ref a_part, v_pad, v_padMany, v_slips, v_slipMany, v_made, v_queue, v_depth, v_by, v_from, v_come, v_offOf, v_parent, v_best, v_trees, v_least, v_sums, v_toward, v_kept, v_isKept, v_keptAt, v_isWriting])), (a_part, .inl (gI G, 6, .inl fp))]) s.heap.size = A at hD E0 ⊢
  have E : EV G A s s.heap := E0
  have hA : ∀ q : Nat, s.heap.size ≤ q → A q := fun q h => by rw [← hAe]; exact Or.inr h
  have hS : va_S A s.heap s.heap [] := va_S.rf
  have hl := lv_entry ([.ref h1]) (n := 1) (Nat.le_of_ble_eq_true rfl)
  rw [lg_entry_eq]
  generalize (lg_sl ([.ref h1]) ++ List.replicate (1 - (lg_sl ([.ref h1])).length) Slot.unset).toArray = ls at hl ⊢
  have hl : lv_has ls 1 [(0, .ref h1)] := hl
  have hP : va_P G.1 vwCl ([(h1, .inr (6, [v_sites, v_maps, v_told, v_kinds, v_land, v_spades, .ref a_part, v_pad, v_padMany, v_slips, v_slipMany, v_made, v_queue, v_depth, v_by, v_from, v_come, v_offOf, v_parent, v_best, v_trees, v_least, v_sums, v_toward, v_kept, v_isKept, v_keptAt, v_isWriting])), (a_part, .inl (gI G, 6, .inl fp))]) s.heap := hP
  refine lv_iconst (v := 5) hx hb dX10_all_0 (by decide) ?_
  refine lv_aload_n hx hb dX10_all_1 rfl (lv_at hl 0 rfl) ?_
  refine va_get (D := G.1) (ci := 6) (v := .ref a_part) (C := RX10) (T := TX10) (N := 28) hx hb hts (fun _ h => List.mem_cons_of_mem _ (List.mem_append_right _ h)) hown E.K hP 0 rfl rfl 6 (by decide) (hts (.fieldLink RX10 16 "LastMapModel" "part" "[I") (by decide +kernel)) (fun _ h9 => h9) rfl dX10_all_2 ?_
  refine lv_iconst (v := 0) hx hb dX10_all_5 (by decide) ?_
  refine va_iald hx hb E.K hP 1 1 rfl rfl (i := 0) (by unfold vp_in; decide) dX10_all_6 ?_
  refine lv_topi (fun x1 ex1 => ?_)
  refine lv_imul hx hb dX10_all_7 ?_
  refine lv_topi (fun x2 ex2 => ?_)
  have hP9 := (hP.sub (ws' := [(h1, .inr (6, [v_sites, v_maps, v_told, v_kinds, v_land, v_spades, .ref a_part, v_pad, v_padMany, v_slips, v_slipMany, v_made, v_queue, v_depth, v_by, v_from, v_come, v_offOf, v_parent, v_best, v_trees, v_least, v_sums, v_toward, v_kept, v_isKept, v_keptAt, v_isWriting])), (a_part, .inl (gI G, 6, .inl fp))]) [0, 1] rfl)
  have hD9 := (hD.sub (ws' := [(h1, .inr (6, [v_sites, v_maps, v_told, v_kinds, v_land, v_spades, .ref a_part, v_pad, v_padMany, v_slips, v_slipMany, v_made, v_queue, v_depth, v_by, v_from, v_come, v_offOf, v_parent, v_best, v_trees, v_least, v_sums, v_toward, v_kept, v_isKept, v_keptAt, v_isWriting])), (a_part, .inl (gI G, 6, .inl fp))]) [0, 1] (by decide) rfl)
  exact W.iret (v := x2) hx hb hr (fun t9_ ht9_ hW9_ => ⟨⟨x2, (), rfl, by rw [ex2, ex1]; exact allE (by omega) hp, by rw [ht9_]; exact hP9, hD9⟩, hS.F ht9_⟩) hS.2.2 dX10_all_8

set_option maxHeartbeats 1000000 in
set_option maxRecDepth 100000 in
theorem m_signAt (l : Launch) (G : Gy) (sz : Nat) (h1 : Nat) (v_sites : Value) (v_maps : Value) (v_told : Value) (v_kinds : Value) (v_land : Value) (v_spades : Value) (v_pad : Value) (v_padMany : Value) (v_slips : Value) (v_slipMany : Value) (v_made : Value) (v_queue : Value) (v_depth : Value) (v_by : Value) (v_from : Value) (v_come : Value) (v_offOf : Value) (v_parent : Value) (v_best : Value) (v_trees : Value) (v_least : Value) (v_sums : Value) (v_toward : Value) (v_kept : Value) (v_isKept : Value) (v_keptAt : Value) (v_isWriting : Value) (a_part : Nat) (fp : Nat → Int32) (k : Nat) (a : Nat) (j : Nat) (hk6 : k ≤ 6) (hp : pOK k fp) (ha : a < 5 ^ k) (hj : j < k) : Ci l G yX10_signAt wsX10_signAt ({ frames := 0, cells := 0, slots := 0, locals := 0 }) [.ref h1, .int (nI a), .int (nI j)] ([(h1, .inr (6, [v_sites, v_maps, v_told, v_kinds, v_land, v_spades, .ref a_part, v_pad, v_padMany, v_slips, v_slipMany, v_made, v_queue, v_depth, v_by, v_from, v_come, v_offOf, v_parent, v_best, v_trees, v_least, v_sums, v_toward, v_kept, v_isKept, v_keptAt, v_isWriting])), (a_part, .inl (gI G, 6, .inl fp))]) sz (fun (r : Int32) (_ : Unit) => r = nI (dg k a j)) (fun (_ : Unit) => [(h1, .inr (6, [v_sites, v_maps, v_told, v_kinds, v_land, v_spades, .ref a_part, v_pad, v_padMany, v_slips, v_slipMany, v_made, v_queue, v_depth, v_by, v_from, v_come, v_offOf, v_parent, v_best, v_trees, v_least, v_sums, v_toward, v_kept, v_isKept, v_keptAt, v_isWriting])), (a_part, .inl (gI G, 6, .inl fp))]) 0 0 := by
  refine Met.ofW (cc := cX10_signAt) (maxL := 3) (ret := (some .int)) (by decide) rfl ?_
  intro p e s m args below meth c s₁ B hml hv
  obtain ⟨rfl, hsz, hP, hD0, E0⟩ := hv
  have hx := B.exec
  have hb := B.bytes
  have hr := B.returns
  have hts := atoms_spec (ws := wsX10_signAt) B.pre
  have hown : s.vm.findClass RX10 = some m.cls := findClass_of_methodNamed B.named
  have hlocks := B.notSynchronized
  subst hsz
  have hD := hD0.self (sz := s.heap.size)
  generalize hAe : va_A ([(h1, .inr (6, [v_sites, v_maps, v_told, v_kinds, v_land, v_spades, .ref a_part, v_pad, v_padMany, v_slips, v_slipMany, v_made, v_queue, v_depth, v_by, v_from, v_come, v_offOf, v_parent, v_best, v_trees, v_least, v_sums, v_toward, v_kept, v_isKept, v_keptAt, v_isWriting])), (a_part, .inl (gI G, 6, .inl fp))]) s.heap.size = A at hD E0 ⊢
  have E : EV G A s s.heap := E0
  have hA : ∀ q : Nat, s.heap.size ≤ q → A q := fun q h => by rw [← hAe]; exact Or.inr h
  have hS : va_S A s.heap s.heap [] := va_S.rf
  have hl := lv_entry ([.ref h1, .int (nI a), .int (nI j)]) (n := 3) (Nat.le_of_ble_eq_true rfl)
  rw [lg_entry_eq]
  generalize (lg_sl ([.ref h1, .int (nI a), .int (nI j)]) ++ List.replicate (3 - (lg_sl ([.ref h1, .int (nI a), .int (nI j)])).length) Slot.unset).toArray = ls at hl ⊢
  have hl : lv_has ls 3 [(0, .ref h1), (1, .int (nI a)), (2, .int (nI j))] := hl
  have hP : va_P G.1 vwCl ([(h1, .inr (6, [v_sites, v_maps, v_told, v_kinds, v_land, v_spades, .ref a_part, v_pad, v_padMany, v_slips, v_slipMany, v_made, v_queue, v_depth, v_by, v_from, v_come, v_offOf, v_parent, v_best, v_trees, v_least, v_sums, v_toward, v_kept, v_isKept, v_keptAt, v_isWriting])), (a_part, .inl (gI G, 6, .inl fp))]) s.heap := hP
  refine lv_iload_n hx hb dX10_signAt_0 rfl (lv_at hl 1 rfl) ?_
  refine lv_aload_n hx hb dX10_signAt_1 rfl (lv_at hl 0 rfl) ?_
  refine va_get (D := G.1) (ci := 6) (v := .ref a_part) (C := RX10) (T := TX10) (N := 28) hx hb hts (fun _ h => List.mem_cons_of_mem _ (List.mem_append_right _ h)) hown E.K hP 0 rfl rfl 6 (by decide) (hts (.fieldLink RX10 16 "LastMapModel" "part" "[I") (by decide +kernel)) (fun _ h9 => h9) rfl dX10_signAt_2 ?_
  refine lv_iload_n hx hb dX10_signAt_5 rfl (lv_at hl 2 rfl) ?_
  refine va_iald hx hb E.K hP 1 1 rfl rfl (i := nI j) (vp_in_nI (by omega) (by decide)) dX10_signAt_6 ?_
  refine lv_topi (fun x1 ex1 => ?_)
  refine lv_idiv hx hb dX10_signAt_7 (by rw [ex1, nI_clamp (by omega)]; exact pz hk6 hj hp) ?_
  refine lv_topi (fun x2 ex2 => ?_)
  refine lv_iconst (v := 5) hx hb dX10_signAt_8 (by decide) ?_
  refine lv_irem hx hb dX10_signAt_9 (by decide) ?_
  refine lv_topi (fun x3 ex3 => ?_)
  have hP9 := (hP.sub (ws' := [(h1, .inr (6, [v_sites, v_maps, v_told, v_kinds, v_land, v_spades, .ref a_part, v_pad, v_padMany, v_slips, v_slipMany, v_made, v_queue, v_depth, v_by, v_from, v_come, v_offOf, v_parent, v_best, v_trees, v_least, v_sums, v_toward, v_kept, v_isKept, v_keptAt, v_isWriting])), (a_part, .inl (gI G, 6, .inl fp))]) [0, 1] rfl)
  have hD9 := (hD.sub (ws' := [(h1, .inr (6, [v_sites, v_maps, v_told, v_kinds, v_land, v_spades, .ref a_part, v_pad, v_padMany, v_slips, v_slipMany, v_made, v_queue, v_depth, v_by, v_from, v_come, v_offOf, v_parent, v_best, v_trees, v_least, v_sums, v_toward, v_kept, v_isKept, v_keptAt, v_isWriting])), (a_part, .inl (gI G, 6, .inl fp))]) [0, 1] (by decide) rfl)
  exact W.iret (v := x3) hx hb hr (fun t9_ ht9_ hW9_ => ⟨⟨x3, (), rfl, by rw [ex3, ex2, ex1, nI_clamp (by omega)]; exact sgE hk6 ha hj hp, by rw [ht9_]; exact hP9, hD9⟩, hS.F ht9_⟩) hS.2.2 dX10_signAt_10

set_option maxHeartbeats 1000000 in
set_option maxRecDepth 100000 in
theorem m_with (l : Launch) (G : Gy) (sz : Nat) (h1 : Nat) (v_sites : Value) (v_maps : Value) (v_told : Value) (v_kinds : Value) (v_land : Value) (v_spades : Value) (v_pad : Value) (v_padMany : Value) (v_slips : Value) (v_slipMany : Value) (v_made : Value) (v_queue : Value) (v_depth : Value) (v_by : Value) (v_from : Value) (v_come : Value) (v_offOf : Value) (v_parent : Value) (v_best : Value) (v_trees : Value) (v_least : Value) (v_sums : Value) (v_toward : Value) (v_kept : Value) (v_isKept : Value) (v_keptAt : Value) (v_isWriting : Value) (a_part : Nat) (fp : Nat → Int32) (k : Nat) (a : Nat) (j : Nat) (g : Nat) (hk6 : k ≤ 6) (hp : pOK k fp) (ha : a < 5 ^ k) (hj : j < k) : Ci l G yX10_with wsX10_with ({ frames := 1, cells := 0, slots := 0, locals := 22 }) [.ref h1, .int (nI a), .int (nI j), .int (nI g)] ([(h1, .inr (6, [v_sites, v_maps, v_told, v_kinds, v_land, v_spades, .ref a_part, v_pad, v_padMany, v_slips, v_slipMany, v_made, v_queue, v_depth, v_by, v_from, v_come, v_offOf, v_parent, v_best, v_trees, v_least, v_sums, v_toward, v_kept, v_isKept, v_keptAt, v_isWriting])), (a_part, .inl (gI G, 6, .inl fp))]) sz (fun (r : Int32) (_ : Unit) => r = nI (wN k a j g)) (fun (_ : Unit) => [(h1, .inr (6, [v_sites, v_maps, v_told, v_kinds, v_land, v_spades, .ref a_part, v_pad, v_padMany, v_slips, v_slipMany, v_made, v_queue, v_depth, v_by, v_from, v_come, v_offOf, v_parent, v_best, v_trees, v_least, v_sums, v_toward, v_kept, v_isKept, v_keptAt, v_isWriting])), (a_part, .inl (gI G, 6, .inl fp))]) 0 0 := by
  refine Met.ofW (cc := cX10_with) (maxL := 4) (ret := (some .int)) (by decide) rfl ?_
  intro p e s m args below meth c s₁ B hml hv
  obtain ⟨rfl, hsz, hP, hD0, E0⟩ := hv
  have hx := B.exec
  have hb := B.bytes
  have hr := B.returns
  have hts := atoms_spec (ws := wsX10_with) B.pre
  have hown : s.vm.findClass RX10 = some m.cls := findClass_of_methodNamed B.named
  have hlocks := B.notSynchronized
  subst hsz
  have hD := hD0.self (sz := s.heap.size)
  generalize hAe : va_A ([(h1, .inr (6, [v_sites, v_maps, v_told, v_kinds, v_land, v_spades, .ref a_part, v_pad, v_padMany, v_slips, v_slipMany, v_made, v_queue, v_depth, v_by, v_from, v_come, v_offOf, v_parent, v_best, v_trees, v_least, v_sums, v_toward, v_kept, v_isKept, v_keptAt, v_isWriting])), (a_part, .inl (gI G, 6, .inl fp))]) s.heap.size = A at hD E0 ⊢
  have E : EV G A s s.heap := E0
  have hA : ∀ q : Nat, s.heap.size ≤ q → A q := fun q h => by rw [← hAe]; exact Or.inr h
  have hS : va_S A s.heap s.heap [] := va_S.rf
  have hl := lv_entry ([.ref h1, .int (nI a), .int (nI j), .int (nI g)]) (n := 4) (Nat.le_of_ble_eq_true rfl)
  rw [lg_entry_eq]
  generalize (lg_sl ([.ref h1, .int (nI a), .int (nI j), .int (nI g)]) ++ List.replicate (4 - (lg_sl ([.ref h1, .int (nI a), .int (nI j), .int (nI g)])).length) Slot.unset).toArray = ls at hl ⊢
  have hl : lv_has ls 4 [(0, .ref h1), (1, .int (nI a)), (2, .int (nI j)), (3, .int (nI g))] := hl
  have hP : va_P G.1 vwCl ([(h1, .inr (6, [v_sites, v_maps, v_told, v_kinds, v_land, v_spades, .ref a_part, v_pad, v_padMany, v_slips, v_slipMany, v_made, v_queue, v_depth, v_by, v_from, v_come, v_offOf, v_parent, v_best, v_trees, v_least, v_sums, v_toward, v_kept, v_isKept, v_keptAt, v_isWriting])), (a_part, .inl (gI G, 6, .inl fp))]) s.heap := hP
  refine lv_iload_n hx hb dX10_with_0 rfl (lv_at hl 1 rfl) ?_
  refine lv_iload_n hx hb dX10_with_1 rfl (lv_at hl 3 rfl) ?_
  refine lv_aload_n hx hb dX10_with_2 rfl (lv_at hl 0 rfl) ?_
  refine lv_iload_n hx hb dX10_with_3 rfl (lv_at hl 1 rfl) ?_
  refine lv_iload_n hx hb dX10_with_4 rfl (lv_at hl 2 rfl) ?_
  refine ca_iR (va_runV (As := [.int (nI a), .int (nI j)]) (rest := [.int (nI g), .int (nI a)]) ⟨hx, hb, hml, hown, hts⟩ (m_signAt l G s.heap.size h1 v_sites v_maps v_told v_kinds v_land v_spades v_pad v_padMany v_slips v_slipMany v_made v_queue v_depth v_by v_from v_come v_offOf v_parent v_best v_trees v_least v_sums v_toward v_kept v_isKept v_keptAt v_isWriting a_part fp k a j hk6 hp (by omega) (by omega)) (cwV 2 hts gX10_with_X10_signAt rfl rfl rfl (by decide +kernel) ⟨by decide +kernel, by decide +kernel⟩) (pre_V E hP hD hS hA [0, 1] (by decide) rfl 0 6 rfl rfl) rfl rfl hl.1 rfl (lv_room (Nat.le_of_ble_eq_true rfl)) dX10_with_5 ⟨by decide +kernel, by decide +kernel⟩) hS hP hD hA [0, 1] rfl (fun r2 _ H locs w1 hP hS => ?_)
  rw [w1]
  refine lv_isub hx hb dX10_with_8 ?_
  refine lv_topi (fun x3 ex3 => ?_)
  refine lv_aload_n hx hb dX10_with_9 rfl (lv_at hl 0 rfl) ?_
  refine va_get (D := G.1) (ci := 6) (v := .ref a_part) (C := RX10) (T := TX10) (N := 28) hx hb hts (fun _ h => List.mem_cons_of_mem _ (List.mem_append_right _ h)) hown E.K hP 0 rfl rfl 6 (by decide) (hts (.fieldLink RX10 16 "LastMapModel" "part" "[I") (by decide +kernel)) (fun _ h9 => h9) rfl dX10_with_10 ?_
  refine lv_iload_n hx hb dX10_with_13 rfl (lv_at hl 2 rfl) ?_
  refine va_iald hx hb E.K hP 1 1 rfl rfl (i := nI j) (vp_in_nI (by omega) (by decide)) dX10_with_14 ?_
  refine lv_topi (fun x4 ex4 => ?_)
  refine lv_imul hx hb dX10_with_15 ?_
  refine lv_topi (fun x5 ex5 => ?_)
  refine lv_iadd hx hb dX10_with_16 ?_
  refine lv_topi (fun x6 ex6 => ?_)
  have hP9 := (hP.sub (ws' := [(h1, .inr (6, [v_sites, v_maps, v_told, v_kinds, v_land, v_spades, .ref a_part, v_pad, v_padMany, v_slips, v_slipMany, v_made, v_queue, v_depth, v_by, v_from, v_come, v_offOf, v_parent, v_best, v_trees, v_least, v_sums, v_toward, v_kept, v_isKept, v_keptAt, v_isWriting])), (a_part, .inl (gI G, 6, .inl fp))]) [0, 1] rfl)
  have hD9 := (hD.sub (ws' := [(h1, .inr (6, [v_sites, v_maps, v_told, v_kinds, v_land, v_spades, .ref a_part, v_pad, v_padMany, v_slips, v_slipMany, v_made, v_queue, v_depth, v_by, v_from, v_come, v_offOf, v_parent, v_best, v_trees, v_least, v_sums, v_toward, v_kept, v_isKept, v_keptAt, v_isWriting])), (a_part, .inl (gI G, 6, .inl fp))]) [0, 1] (by decide) rfl)
  exact W.iret (v := x6) hx hb hr (fun t9_ ht9_ hW9_ => ⟨⟨x6, (), rfl, by rw [ex6, ex5, ex3, ex4, nI_clamp (by omega)]; exact wiE hj hp, by rw [ht9_]; exact hP9, hD9⟩, hS.F ht9_⟩) hS.2.2 dX10_with_17

set_option maxHeartbeats 1000000 in
set_option maxRecDepth 100000 in
theorem m_slipsThere (l : Launch) (G : Gy) (sz : Nat) (h1 : Nat) (v_maps : Value) (v_told : Value) (v_kinds : Value) (v_land : Value) (v_spades : Value) (v_part : Value) (v_pad : Value) (v_padMany : Value) (v_slips : Value) (v_slipMany : Value) (v_made : Value) (v_queue : Value) (v_depth : Value) (v_by : Value) (v_from : Value) (v_come : Value) (v_offOf : Value) (v_parent : Value) (v_best : Value) (v_trees : Value) (v_least : Value) (v_sums : Value) (v_toward : Value) (v_kept : Value) (v_isKept : Value) (v_keptAt : Value) (v_isWriting : Value) (k : Nat) (hk2 : 2 ≤ k) (hk6 : k ≤ 6) : Ci l G yX10_slipsThere wsX10_slipsThere ({ frames := 0, cells := 0, slots := 0, locals := 0 }) [.ref h1] ([(h1, .inr (6, [.int (nI k), v_maps, v_told, v_kinds, v_land, v_spades, v_part, v_pad, v_padMany, v_slips, v_slipMany, v_made, v_queue, v_depth, v_by, v_from, v_come, v_offOf, v_parent, v_best, v_trees, v_least, v_sums, v_toward, v_kept, v_isKept, v_keptAt, v_isWriting]))]) sz (fun (r : Int32) (_ : Unit) => r = nI (manyS k)) (fun (_ : Unit) => [(h1, .inr (6, [.int (nI k), v_maps, v_told, v_kinds, v_land, v_spades, v_part, v_pad, v_padMany, v_slips, v_slipMany, v_made, v_queue, v_depth, v_by, v_from, v_come, v_offOf, v_parent, v_best, v_trees, v_least, v_sums, v_toward, v_kept, v_isKept, v_keptAt, v_isWriting]))]) 0 0 := by
  refine Met.ofW (cc := cX10_slipsThere) (maxL := 1) (ret := (some .int)) (by decide) rfl ?_
  intro p e s m args below meth c s₁ B hml hv
  obtain ⟨rfl, hsz, hP, hD0, E0⟩ := hv
  have hx := B.exec
  have hb := B.bytes
  have hr := B.returns
  have hts := atoms_spec (ws := wsX10_slipsThere) B.pre
  have hown : s.vm.findClass RX10 = some m.cls := findClass_of_methodNamed B.named
  have hlocks := B.notSynchronized
  subst hsz
  have hD := hD0.self (sz := s.heap.size)
  generalize hAe : va_A ([(h1, .inr (6, [.int (nI k), v_maps, v_told, v_kinds, v_land, v_spades, v_part, v_pad, v_padMany, v_slips, v_slipMany, v_made, v_queue, v_depth, v_by, v_from, v_come, v_offOf, v_parent, v_best, v_trees, v_least, v_sums, v_toward, v_kept, v_isKept, v_keptAt, v_isWriting]))]) s.heap.size = A at hD E0 ⊢
  have E : EV G A s s.heap := E0
  have hA : ∀ q : Nat, s.heap.size ≤ q → A q := fun q h => by rw [← hAe]; exact Or.inr h
  have hS : va_S A s.heap s.heap [] := va_S.rf
  have hl := lv_entry ([.ref h1]) (n := 1) (Nat.le_of_ble_eq_true rfl)
  rw [lg_entry_eq]
  generalize (lg_sl ([.ref h1]) ++ List.replicate (1 - (lg_sl ([.ref h1])).length) Slot.unset).toArray = ls at hl ⊢
  have hl : lv_has ls 1 [(0, .ref h1)] := hl
  have hP : va_P G.1 vwCl ([(h1, .inr (6, [.int (nI k), v_maps, v_told, v_kinds, v_land, v_spades, v_part, v_pad, v_padMany, v_slips, v_slipMany, v_made, v_queue, v_depth, v_by, v_from, v_come, v_offOf, v_parent, v_best, v_trees, v_least, v_sums, v_toward, v_kept, v_isKept, v_keptAt, v_isWriting]))]) s.heap := hP
  refine lv_iconst (v := 4) hx hb dX10_slipsThere_0 (by decide) ?_
  refine lv_aload_n hx hb dX10_slipsThere_1 rfl (lv_at hl 0 rfl) ?_
  refine va_get (D := G.1) (ci := 6) (v := .int (nI k)) (C := RX10) (T := TX10) (N := 28) hx hb hts (fun _ h => List.mem_cons_of_mem _ (List.mem_append_right _ h)) hown E.K hP 0 rfl rfl 0 (by decide) (hts (.fieldLink RX10 67 "LastMapModel" "sites" "I") (by decide +kernel)) (fun _ h9 => h9) rfl dX10_slipsThere_2 ?_
  refine lv_imul hx hb dX10_slipsThere_5 ?_
  refine lv_topi (fun x1 ex1 => ?_)
  obtain rfl : x1 = nI (4 * k) := by rw [ex1]; exact pk_mul 4 k
  refine lv_iconst (v := 2) hx hb dX10_slipsThere_6 (by decide) ?_
  refine lv_aload_n hx hb dX10_slipsThere_7 rfl (lv_at hl 0 rfl) ?_
  refine va_get (D := G.1) (ci := 6) (v := .int (nI k)) (C := RX10) (T := TX10) (N := 28) hx hb hts (fun _ h => List.mem_cons_of_mem _ (List.mem_append_right _ h)) hown E.K hP 0 rfl rfl 0 (by decide) (hts (.fieldLink RX10 67 "LastMapModel" "sites" "I") (by decide +kernel)) (fun _ h9 => h9) rfl dX10_slipsThere_8 ?_
  refine lv_iconst (v := 1) hx hb dX10_slipsThere_11 (by decide) ?_
  refine lv_isub hx hb dX10_slipsThere_12 ?_
  refine lv_topi (fun x2 ex2 => ?_)
  obtain rfl : x2 = nI (k - 1) := by rw [ex2]; exact pk_sub (show 1 ≤ k by omega)
  refine lv_imul hx hb dX10_slipsThere_13 ?_
  refine lv_topi (fun x3 ex3 => ?_)
  obtain rfl : x3 = nI (2 * (k - 1)) := by rw [ex3]; exact pk_mul 2 (k - 1)
  refine lv_iadd hx hb dX10_slipsThere_14 ?_
  refine lv_topi (fun x4 ex4 => ?_)
  obtain rfl : x4 = nI ((4 * k) + (2 * (k - 1))) := by rw [ex4]; exact nI_add (4 * k) (2 * (k - 1))
  refine lv_aload_n hx hb dX10_slipsThere_15 rfl (lv_at hl 0 rfl) ?_
  refine va_get (D := G.1) (ci := 6) (v := .int (nI k)) (C := RX10) (T := TX10) (N := 28) hx hb hts (fun _ h => List.mem_cons_of_mem _ (List.mem_append_right _ h)) hown E.K hP 0 rfl rfl 0 (by decide) (hts (.fieldLink RX10 67 "LastMapModel" "sites" "I") (by decide +kernel)) (fun _ h9 => h9) rfl dX10_slipsThere_16 ?_
  refine lv_iadd hx hb dX10_slipsThere_19 ?_
  refine lv_topi (fun x5 ex5 => ?_)
  obtain rfl : x5 = nI (((4 * k) + (2 * (k - 1))) + k) := by rw [ex5]; exact nI_add ((4 * k) + (2 * (k - 1))) k
  have hP9 := (hP.sub (ws' := [(h1, .inr (6, [.int (nI k), v_maps, v_told, v_kinds, v_land, v_spades, v_part, v_pad, v_padMany, v_slips, v_slipMany, v_made, v_queue, v_depth, v_by, v_from, v_come, v_offOf, v_parent, v_best, v_trees, v_least, v_sums, v_toward, v_kept, v_isKept, v_keptAt, v_isWriting]))]) [0] rfl)
  have hD9 := (hD.sub (ws' := [(h1, .inr (6, [.int (nI k), v_maps, v_told, v_kinds, v_land, v_spades, v_part, v_pad, v_padMany, v_slips, v_slipMany, v_made, v_queue, v_depth, v_by, v_from, v_come, v_offOf, v_parent, v_best, v_trees, v_least, v_sums, v_toward, v_kept, v_isKept, v_keptAt, v_isWriting]))]) [0] (by decide) rfl)
  exact W.iret (v := (nI (((4 * k) + (2 * (k - 1))) + k))) hx hb hr (fun t9_ ht9_ hW9_ => ⟨⟨nI (((4 * k) + (2 * (k - 1))) + k), (), rfl, rfl, by rw [ht9_]; exact hP9, hD9⟩, hS.F ht9_⟩) hS.2.2 dX10_slipsThere_20

set_option maxHeartbeats 1000000 in
set_option maxRecDepth 100000 in
theorem m_slipAt (l : Launch) (G : Gy) (sz : Nat) (h1 : Nat) (v_maps : Value) (v_told : Value) (v_kinds : Value) (v_land : Value) (v_spades : Value) (v_part : Value) (v_pad : Value) (v_padMany : Value) (v_slips : Value) (v_slipMany : Value) (v_made : Value) (v_queue : Value) (v_depth : Value) (v_by : Value) (v_from : Value) (v_come : Value) (v_offOf : Value) (v_parent : Value) (v_best : Value) (v_trees : Value) (v_least : Value) (v_sums : Value) (v_toward : Value) (v_kept : Value) (v_isKept : Value) (v_keptAt : Value) (v_isWriting : Value) (k : Nat) (t : Nat) (hk2 : 2 ≤ k) (hk6 : k ≤ 6) (ht : t < manyS k) : Ci l G yX10_slipAt wsX10_slipAt ({ frames := 0, cells := 0, slots := 0, locals := 0 }) [.ref h1, .int (nI t)] ([(h1, .inr (6, [.int (nI k), v_maps, v_told, v_kinds, v_land, v_spades, v_part, v_pad, v_padMany, v_slips, v_slipMany, v_made, v_queue, v_depth, v_by, v_from, v_come, v_offOf, v_parent, v_best, v_trees, v_least, v_sums, v_toward, v_kept, v_isKept, v_keptAt, v_isWriting]))]) sz (fun (r : Int32) (_ : Unit) => r = nI (slv k t)) (fun (_ : Unit) => [(h1, .inr (6, [.int (nI k), v_maps, v_told, v_kinds, v_land, v_spades, v_part, v_pad, v_padMany, v_slips, v_slipMany, v_made, v_queue, v_depth, v_by, v_from, v_come, v_offOf, v_parent, v_best, v_trees, v_least, v_sums, v_toward, v_kept, v_isKept, v_keptAt, v_isWriting]))]) 0 0 := by
  refine Met.ofW (cc := cX10_slipAt) (maxL := 4) (ret := (some .int)) (by decide) rfl ?_
  intro p e s m args below meth c s₁ B hml hv
  obtain ⟨rfl, hsz, hP, hD0, E0⟩ := hv
  have hx := B.exec
  have hb := B.bytes
  have hr := B.returns
  have hts := atoms_spec (ws := wsX10_slipAt) B.pre
  have hown : s.vm.findClass RX10 = some m.cls := findClass_of_methodNamed B.named
  have hlocks := B.notSynchronized
  subst hsz
  have hD := hD0.self (sz := s.heap.size)
  generalize hAe : va_A ([(h1, .inr (6, [.int (nI k), v_maps, v_told, v_kinds, v_land, v_spades, v_part, v_pad, v_padMany, v_slips, v_slipMany, v_made, v_queue, v_depth, v_by, v_from, v_come, v_offOf, v_parent, v_best, v_trees, v_least, v_sums, v_toward, v_kept, v_isKept, v_keptAt, v_isWriting]))]) s.heap.size = A at hD E0 ⊢
  have E : EV G A s s.heap := E0
  have hA : ∀ q : Nat, s.heap.size ≤ q → A q := fun q h => by rw [← hAe]; exact Or.inr h
  have hS : va_S A s.heap s.heap [] := va_S.rf
  have hl := lv_entry ([.ref h1, .int (nI t)]) (n := 4) (Nat.le_of_ble_eq_true rfl)
  rw [lg_entry_eq]
  generalize (lg_sl ([.ref h1, .int (nI t)]) ++ List.replicate (4 - (lg_sl ([.ref h1, .int (nI t)])).length) Slot.unset).toArray = ls at hl ⊢
  have hl : lv_has ls 4 [(0, .ref h1), (1, .int (nI t))] := hl
  have hP : va_P G.1 vwCl ([(h1, .inr (6, [.int (nI k), v_maps, v_told, v_kinds, v_land, v_spades, v_part, v_pad, v_padMany, v_slips, v_slipMany, v_made, v_queue, v_depth, v_by, v_from, v_come, v_offOf, v_parent, v_best, v_trees, v_least, v_sums, v_toward, v_kept, v_isKept, v_keptAt, v_isWriting]))]) s.heap := hP
  have ht9 : t < 4 * k + 2 * (k - 1) + k := ht
  refine lv_iload_n hx hb dX10_slipAt_0 rfl (lv_at hl 1 rfl) ?_
  refine lv_iconst (v := 4) hx hb dX10_slipAt_1 (by decide) ?_
  refine lv_aload_n hx hb dX10_slipAt_2 rfl (lv_at hl 0 rfl) ?_
  refine va_get (D := G.1) (ci := 6) (v := .int (nI k)) (C := RX10) (T := TX10) (N := 28) hx hb hts (fun _ h => List.mem_cons_of_mem _ (List.mem_append_right _ h)) hown E.K hP 0 rfl rfl 0 (by decide) (hts (.fieldLink RX10 67 "LastMapModel" "sites" "I") (by decide +kernel)) (fun _ h9 => h9) rfl dX10_slipAt_3 ?_
  refine lv_imul hx hb dX10_slipAt_6 ?_
  refine lv_topi (fun x1 ex1 => ?_)
  obtain rfl : x1 = nI (4 * k) := by rw [ex1]; exact pk_mul 4 k
  refine lv_isub hx hb dX10_slipAt_7 ?_
  refine lv_topi (fun x2 ex2 => ?_)
  rcases Nat.lt_or_ge t (4 * k) with ht4 | ht4
  · have hxn : x2 < 0 := by rw [ex2]; exact pk_sneg (by omega) ht4
    refine lv_istore_n (lv' := [(2, .int x2), (0, .ref h1), (1, .int (nI t))]) hx hb dX10_slipAt_8 rfl hl (by decide) rfl (fun ls hl => ?_)
    refine lv_iload_n hx hb dX10_slipAt_9 rfl (lv_at hl 0 rfl) ?_
    refine lv_if_ge (tgt := 24) hx hb dX10_slipAt_10 (by decide) (fun c3 => False.elim (by simp only [i3_le, i3_lt, Int32.reduceToInt] at c3 hxn; omega)) (fun c3 => ?_)
    refine lv_bipush (v := 10) hx hb dX10_slipAt_13 (by decide) ?_
    refine lv_iload_n hx hb dX10_slipAt_15 rfl (lv_at hl 2 rfl) ?_
    refine lv_iconst (v := 4) hx hb dX10_slipAt_16 (by decide) ?_
    refine lv_idiv hx hb dX10_slipAt_17 (by decide) ?_
    refine lv_topi (fun x4 ex4 => ?_)
    obtain rfl : x4 = nI (t / 4) := by rw [ex4]; exact pk_div (show t < 2 ^ 31 by omega) (show 0 < 4 by decide) (by decide)
    refine lv_imul hx hb dX10_slipAt_18 ?_
    refine lv_topi (fun x5 ex5 => ?_)
    obtain rfl : x5 = nI (10 * (t / 4)) := by rw [ex5]; exact pk_mul 10 (t / 4)
    refine lv_iload_n hx hb dX10_slipAt_19 rfl (lv_at hl 2 rfl) ?_
    refine lv_iconst (v := 4) hx hb dX10_slipAt_20 (by decide) ?_
    refine lv_irem hx hb dX10_slipAt_21 (by decide) ?_
    refine lv_topi (fun x6 ex6 => ?_)
    obtain rfl : x6 = nI (t % 4) := by rw [ex6]; exact pk_rem (show t < 2 ^ 31 by omega) (show 0 < 4 by decide) (by decide)
    refine lv_iadd hx hb dX10_slipAt_22 ?_
    refine lv_topi (fun x7 ex7 => ?_)
    obtain rfl : x7 = nI ((10 * (t / 4)) + (t % 4)) := by rw [ex7]; exact nI_add (10 * (t / 4)) (t % 4)
    have hP9 := (hP.sub (ws' := [(h1, .inr (6, [.int (nI k), v_maps, v_told, v_kinds, v_land, v_spades, v_part, v_pad, v_padMany, v_slips, v_slipMany, v_made, v_queue, v_depth, v_by, v_from, v_come, v_offOf, v_parent, v_best, v_trees, v_least, v_sums, v_toward, v_kept, v_isKept, v_keptAt, v_isWriting]))]) [0] rfl)
    have hD9 := (hD.sub (ws' := [(h1, .inr (6, [.int (nI k), v_maps, v_told, v_kinds, v_land, v_spades, v_part, v_pad, v_padMany, v_slips, v_slipMany, v_made, v_queue, v_depth, v_by, v_from, v_come, v_offOf, v_parent, v_best, v_trees, v_least, v_sums, v_toward, v_kept, v_isKept, v_keptAt, v_isWriting]))]) [0] (by decide) rfl)
    exact W.iret (v := (nI ((10 * (t / 4)) + (t % 4)))) hx hb hr (fun t9_ ht9_ hW9_ => ⟨⟨nI ((10 * (t / 4)) + (t % 4)), (), rfl, by first | rw [slv_a ht4] | rw [slv_b ht4 (by omega)] | rw [slv_c ht4 (by omega) (by omega)] | rw [slv_d ht4 (by omega)], by rw [ht9_]; exact hP9, hD9⟩, hS.F ht9_⟩) hS.2.2 dX10_slipAt_23
  · obtain rfl : x2 = nI (t - 4 * k) := by rw [ex2]; exact pk_sub ht4
    refine lv_istore_n (lv' := [(2, .int (nI (t - 4 * k))), (0, .ref h1), (1, .int (nI t))]) hx hb dX10_slipAt_8 rfl hl (by decide) rfl (fun ls hl => ?_)
    refine lv_iload_n hx hb dX10_slipAt_9 rfl (lv_at hl 0 rfl) ?_
    refine lv_if_ge (tgt := 24) hx hb dX10_slipAt_10 (by decide) (fun c8 => ?_) (fun c8 => absurd (nI_pos' (by omega)) c8)
    refine lv_iconst (v := 2) hx hb dX10_slipAt_24 (by decide) ?_
    refine lv_aload_n hx hb dX10_slipAt_25 rfl (lv_at hl 1 rfl) ?_
    refine va_get (D := G.1) (ci := 6) (v := .int (nI k)) (C := RX10) (T := TX10) (N := 28) hx hb hts (fun _ h => List.mem_cons_of_mem _ (List.mem_append_right _ h)) hown E.K hP 0 rfl rfl 0 (by decide) (hts (.fieldLink RX10 67 "LastMapModel" "sites" "I") (by decide +kernel)) (fun _ h9 => h9) rfl dX10_slipAt_26 ?_
    refine lv_iconst (v := 1) hx hb dX10_slipAt_29 (by decide) ?_
    refine lv_isub hx hb dX10_slipAt_30 ?_
    refine lv_topi (fun x9 ex9 => ?_)
    obtain rfl : x9 = nI (k - 1) := by rw [ex9]; exact pk_sub (show 1 ≤ k by omega)
    refine lv_imul hx hb dX10_slipAt_31 ?_
    refine lv_topi (fun x10 ex10 => ?_)
    obtain rfl : x10 = nI (2 * (k - 1)) := by rw [ex10]; exact pk_mul 2 (k - 1)
    refine lv_istore_n (lv' := [(3, .int (nI (2 * (k - 1)))), (2, .int (nI (t - 4 * k))), (0, .ref h1), (1, .int (nI t))]) hx hb dX10_slipAt_32 rfl hl (by decide) rfl (fun ls hl => ?_)
    refine lv_iload_n hx hb dX10_slipAt_33 rfl (lv_at hl 1 rfl) ?_
    refine lv_aload_n hx hb dX10_slipAt_34 rfl (lv_at hl 2 rfl) ?_
    refine va_get (D := G.1) (ci := 6) (v := .int (nI k)) (C := RX10) (T := TX10) (N := 28) hx hb hts (fun _ h => List.mem_cons_of_mem _ (List.mem_append_right _ h)) hown E.K hP 0 rfl rfl 0 (by decide) (hts (.fieldLink RX10 67 "LastMapModel" "sites" "I") (by decide +kernel)) (fun _ h9 => h9) rfl dX10_slipAt_35 ?_
    refine lv_iconst (v := 1) hx hb dX10_slipAt_38 (by decide) ?_
    refine lv_isub hx hb dX10_slipAt_39 ?_
    refine lv_topi (fun x11 ex11 => ?_)
    obtain rfl : x11 = nI (k - 1) := by rw [ex11]; exact pk_sub (show 1 ≤ k by omega)
    refine lv_icmp_ge (tgt := 53) hx hb dX10_slipAt_40 (by decide) (fun c12 => ?_) (fun c12 => ?_)
    · have c12 : (k - 1) ≤ (t - 4 * k) := (nI_leI (by omega) (by omega)).mp c12
      refine lv_iload_n hx hb dX10_slipAt_53 rfl (lv_at hl 1 rfl) ?_
      refine lv_iload_n hx hb dX10_slipAt_54 rfl (lv_at hl 0 rfl) ?_
      refine lv_icmp_ge (tgt := 76) hx hb dX10_slipAt_55 (by decide) (fun c13 => ?_) (fun c13 => ?_)
      · have c13 : (2 * (k - 1)) ≤ (t - 4 * k) := (nI_leI (by omega) (by omega)).mp c13
        refine lv_sipush (v := 300) hx hb dX10_slipAt_76 (by decide) ?_
        refine lv_bipush (v := 10) hx hb dX10_slipAt_79 (by decide) ?_
        refine lv_iload_n hx hb dX10_slipAt_81 rfl (lv_at hl 1 rfl) ?_
        refine lv_iload_n hx hb dX10_slipAt_82 rfl (lv_at hl 0 rfl) ?_
        refine lv_isub hx hb dX10_slipAt_83 ?_
        refine lv_topi (fun x14 ex14 => ?_)
        obtain rfl : x14 = nI ((t - 4 * k) - (2 * (k - 1))) := by rw [ex14]; exact pk_sub (show (2 * (k - 1)) ≤ (t - 4 * k) by omega)
        refine lv_imul hx hb dX10_slipAt_84 ?_
        refine lv_topi (fun x15 ex15 => ?_)
        obtain rfl : x15 = nI (10 * ((t - 4 * k) - (2 * (k - 1)))) := by rw [ex15]; exact pk_mul 10 ((t - 4 * k) - (2 * (k - 1)))
        refine lv_iadd hx hb dX10_slipAt_85 ?_
        refine lv_topi (fun x16 ex16 => ?_)
        obtain rfl : x16 = nI (300 + (10 * ((t - 4 * k) - (2 * (k - 1))))) := by rw [ex16]; exact nI_add 300 (10 * ((t - 4 * k) - (2 * (k - 1))))
        have hP9 := (hP.sub (ws' := [(h1, .inr (6, [.int (nI k), v_maps, v_told, v_kinds, v_land, v_spades, v_part, v_pad, v_padMany, v_slips, v_slipMany, v_made, v_queue, v_depth, v_by, v_from, v_come, v_offOf, v_parent, v_best, v_trees, v_least, v_sums, v_toward, v_kept, v_isKept, v_keptAt, v_isWriting]))]) [0] rfl)
        have hD9 := (hD.sub (ws' := [(h1, .inr (6, [.int (nI k), v_maps, v_told, v_kinds, v_land, v_spades, v_part, v_pad, v_padMany, v_slips, v_slipMany, v_made, v_queue, v_depth, v_by, v_from, v_come, v_offOf, v_parent, v_best, v_trees, v_least, v_sums, v_toward, v_kept, v_isKept, v_keptAt, v_isWriting]))]) [0] (by decide) rfl)
        exact W.iret (v := (nI (300 + (10 * ((t - 4 * k) - (2 * (k - 1))))))) hx hb hr (fun t9_ ht9_ hW9_ => ⟨⟨nI (300 + (10 * ((t - 4 * k) - (2 * (k - 1))))), (), rfl, by first | rw [slv_a ht4] | rw [slv_b ht4 (by omega)] | rw [slv_c ht4 (by omega) (by omega)] | rw [slv_d ht4 (by omega)], by rw [ht9_]; exact hP9, hD9⟩, hS.F ht9_⟩) hS.2.2 dX10_slipAt_86
      · have c13 : ¬ (2 * (k - 1)) ≤ (t - 4 * k) := fun h9_ => c13 ((nI_leI (by omega) (by omega)).mpr h9_)
        refine lv_sipush (v := 200) hx hb dX10_slipAt_58 (by decide) ?_
        refine lv_bipush (v := 10) hx hb dX10_slipAt_61 (by decide) ?_
        refine lv_iload_n hx hb dX10_slipAt_63 rfl (lv_at hl 1 rfl) ?_
        refine lv_aload_n hx hb dX10_slipAt_64 rfl (lv_at hl 2 rfl) ?_
        refine va_get (D := G.1) (ci := 6) (v := .int (nI k)) (C := RX10) (T := TX10) (N := 28) hx hb hts (fun _ h => List.mem_cons_of_mem _ (List.mem_append_right _ h)) hown E.K hP 0 rfl rfl 0 (by decide) (hts (.fieldLink RX10 67 "LastMapModel" "sites" "I") (by decide +kernel)) (fun _ h9 => h9) rfl dX10_slipAt_65 ?_
        refine lv_isub hx hb dX10_slipAt_68 ?_
        refine lv_topi (fun x17 ex17 => ?_)
        refine lv_iconst (v := 1) hx hb dX10_slipAt_69 (by decide) ?_
        refine lv_iadd hx hb dX10_slipAt_70 ?_
        refine lv_topi (fun x18 ex18 => ?_)
        obtain rfl : x18 = nI (t - 4 * k + 1 - k) := by rw [ex18, ex17]; exact subadd (by omega)
        refine lv_imul hx hb dX10_slipAt_71 ?_
        refine lv_topi (fun x19 ex19 => ?_)
        obtain rfl : x19 = nI (10 * (t - 4 * k + 1 - k)) := by rw [ex19]; exact pk_mul 10 (t - 4 * k + 1 - k)
        refine lv_iadd hx hb dX10_slipAt_72 ?_
        refine lv_topi (fun x20 ex20 => ?_)
        obtain rfl : x20 = nI (200 + (10 * (t - 4 * k + 1 - k))) := by rw [ex20]; exact nI_add 200 (10 * (t - 4 * k + 1 - k))
        refine lv_goto (tgt := 86) hx hb dX10_slipAt_73 (by decide) ?_
        have hP9 := (hP.sub (ws' := [(h1, .inr (6, [.int (nI k), v_maps, v_told, v_kinds, v_land, v_spades, v_part, v_pad, v_padMany, v_slips, v_slipMany, v_made, v_queue, v_depth, v_by, v_from, v_come, v_offOf, v_parent, v_best, v_trees, v_least, v_sums, v_toward, v_kept, v_isKept, v_keptAt, v_isWriting]))]) [0] rfl)
        have hD9 := (hD.sub (ws' := [(h1, .inr (6, [.int (nI k), v_maps, v_told, v_kinds, v_land, v_spades, v_part, v_pad, v_padMany, v_slips, v_slipMany, v_made, v_queue, v_depth, v_by, v_from, v_come, v_offOf, v_parent, v_best, v_trees, v_least, v_sums, v_toward, v_kept, v_isKept, v_keptAt, v_isWriting]))]) [0] (by decide) rfl)
        exact W.iret (v := (nI (200 + (10 * (t - 4 * k + 1 - k))))) hx hb hr (fun t9_ ht9_ hW9_ => ⟨⟨nI (200 + (10 * (t - 4 * k + 1 - k))), (), rfl, by first | rw [slv_a ht4] | rw [slv_b ht4 (by omega)] | rw [slv_c ht4 (by omega) (by omega)] | rw [slv_d ht4 (by omega)], by rw [ht9_]; exact hP9, hD9⟩, hS.F ht9_⟩) hS.2.2 dX10_slipAt_86
    · have c12 : ¬ (k - 1) ≤ (t - 4 * k) := fun h9_ => c12 ((nI_leI (by omega) (by omega)).mpr h9_)
      refine lv_bipush (v := 100) hx hb dX10_slipAt_43 (by decide) ?_
      refine lv_bipush (v := 10) hx hb dX10_slipAt_45 (by decide) ?_
      refine lv_iload_n hx hb dX10_slipAt_47 rfl (lv_at hl 1 rfl) ?_
      refine lv_imul hx hb dX10_slipAt_48 ?_
      refine lv_topi (fun x21 ex21 => ?_)
      obtain rfl : x21 = nI (10 * (t - 4 * k)) := by rw [ex21]; exact pk_mul 10 (t - 4 * k)
      refine lv_iadd hx hb dX10_slipAt_49 ?_
      refine lv_topi (fun x22 ex22 => ?_)
      obtain rfl : x22 = nI (100 + (10 * (t - 4 * k))) := by rw [ex22]; exact nI_add 100 (10 * (t - 4 * k))
      refine lv_goto (tgt := 86) hx hb dX10_slipAt_50 (by decide) ?_
      have hP9 := (hP.sub (ws' := [(h1, .inr (6, [.int (nI k), v_maps, v_told, v_kinds, v_land, v_spades, v_part, v_pad, v_padMany, v_slips, v_slipMany, v_made, v_queue, v_depth, v_by, v_from, v_come, v_offOf, v_parent, v_best, v_trees, v_least, v_sums, v_toward, v_kept, v_isKept, v_keptAt, v_isWriting]))]) [0] rfl)
      have hD9 := (hD.sub (ws' := [(h1, .inr (6, [.int (nI k), v_maps, v_told, v_kinds, v_land, v_spades, v_part, v_pad, v_padMany, v_slips, v_slipMany, v_made, v_queue, v_depth, v_by, v_from, v_come, v_offOf, v_parent, v_best, v_trees, v_least, v_sums, v_toward, v_kept, v_isKept, v_keptAt, v_isWriting]))]) [0] (by decide) rfl)
      exact W.iret (v := (nI (100 + (10 * (t - 4 * k))))) hx hb hr (fun t9_ ht9_ hW9_ => ⟨⟨nI (100 + (10 * (t - 4 * k))), (), rfl, by first | rw [slv_a ht4] | rw [slv_b ht4 (by omega)] | rw [slv_c ht4 (by omega) (by omega)] | rw [slv_d ht4 (by omega)], by rw [ht9_]; exact hP9, hD9⟩, hS.F ht9_⟩) hS.2.2 dX10_slipAt_86

set_option maxHeartbeats 1000000 in
set_option maxRecDepth 100000 in
theorem m_slipped (l : Launch) (G : Gy) (sz : Nat) (h1 : Nat) (v_sites : Value) (v_maps : Value) (v_told : Value) (v_kinds : Value) (v_land : Value) (v_spades : Value) (v_pad : Value) (v_padMany : Value) (v_slips : Value) (v_slipMany : Value) (v_made : Value) (v_queue : Value) (v_depth : Value) (v_by : Value) (v_from : Value) (v_come : Value) (v_offOf : Value) (v_parent : Value) (v_best : Value) (v_trees : Value) (v_least : Value) (v_sums : Value) (v_toward : Value) (v_kept : Value) (v_isKept : Value) (v_keptAt : Value) (v_isWriting : Value) (a_part : Nat) (fp : Nat → Int32) (k : Nat) (a : Nat) (sv : Nat) (m0 : Nat) (mj : Nat) (mg : Nat) (hk6 : k ≤ 6) (hp : pOK k fp) (ha : a < 5 ^ k) (hsv : sv = 100 * m0 + 10 * mj + mg) (hok : okV k m0 mj mg) : Ci l G yX10_slipped wsX10_slipped ({ frames := 2, cells := 0, slots := 0, locals := 45 }) [.ref h1, .int (nI a), .int (nI sv)] ([(h1, .inr (6, [v_sites, v_maps, v_told, v_kinds, v_land, v_spades, .ref a_part, v_pad, v_padMany, v_slips, v_slipMany, v_made, v_queue, v_depth, v_by, v_from, v_come, v_offOf, v_parent, v_best, v_trees, v_least, v_sums, v_toward, v_kept, v_isKept, v_keptAt, v_isWriting])), (a_part, .inl (gI G, 6, .inl fp))]) sz (fun (r : Int32) (_ : Unit) => r = nI (slN k a (m0, mj, mg))) (fun (_ : Unit) => [(h1, .inr (6, [v_sites, v_maps, v_told, v_kinds, v_land, v_spades, .ref a_part, v_pad, v_padMany, v_slips, v_slipMany, v_made, v_queue, v_depth, v_by, v_from, v_come, v_offOf, v_parent, v_best, v_trees, v_least, v_sums, v_toward, v_kept, v_isKept, v_keptAt, v_isWriting])), (a_part, .inl (gI G, 6, .inl fp))]) 0 0 := by
  refine Met.ofW (cc := cX10_slipped) (maxL := 5) (ret := (some .int)) (by decide) rfl ?_
  intro p e s m args below meth c s₁ B hml hv
  obtain ⟨rfl, hsz, hP, hD0, E0⟩ := hv
  have hx := B.exec
  have hb := B.bytes
  have hr := B.returns
  have hts := atoms_spec (ws := wsX10_slipped) B.pre
  have hown : s.vm.findClass RX10 = some m.cls := findClass_of_methodNamed B.named
  have hlocks := B.notSynchronized
  subst hsz
  have hD := hD0.self (sz := s.heap.size)
  generalize hAe : va_A ([(h1, .inr (6, [v_sites, v_maps, v_told, v_kinds, v_land, v_spades, .ref a_part, v_pad, v_padMany, v_slips, v_slipMany, v_made, v_queue, v_depth, v_by, v_from, v_come, v_offOf, v_parent, v_best, v_trees, v_least, v_sums, v_toward, v_kept, v_isKept, v_keptAt, v_isWriting])), (a_part, .inl (gI G, 6, .inl fp))]) s.heap.size = A at hD E0 ⊢
  have E : EV G A s s.heap := E0
  have hA : ∀ q : Nat, s.heap.size ≤ q → A q := fun q h => by rw [← hAe]; exact Or.inr h
  have hS : va_S A s.heap s.heap [] := va_S.rf
  have hl := lv_entry ([.ref h1, .int (nI a), .int (nI sv)]) (n := 5) (Nat.le_of_ble_eq_true rfl)
  rw [lg_entry_eq]
  generalize (lg_sl ([.ref h1, .int (nI a), .int (nI sv)]) ++ List.replicate (5 - (lg_sl ([.ref h1, .int (nI a), .int (nI sv)])).length) Slot.unset).toArray = ls at hl ⊢
  have hl : lv_has ls 5 [(0, .ref h1), (1, .int (nI a)), (2, .int (nI sv))] := hl
  have hP : va_P G.1 vwCl ([(h1, .inr (6, [v_sites, v_maps, v_told, v_kinds, v_land, v_spades, .ref a_part, v_pad, v_padMany, v_slips, v_slipMany, v_made, v_queue, v_depth, v_by, v_from, v_come, v_offOf, v_parent, v_best, v_trees, v_least, v_sums, v_toward, v_kept, v_isKept, v_keptAt, v_isWriting])), (a_part, .inl (gI G, 6, .inl fp))]) s.heap := hP
  have hal := p5le hk6
  have hsb : sv < 400 ∧ sv / 10 % 10 < k := by unfold okV at hok; omega
  refine lv_iload_n hx hb dX10_slipped_0 rfl (lv_at hl 2 rfl) ?_
  refine lv_bipush (v := 10) hx hb dX10_slipped_1 (by decide) ?_
  refine lv_idiv hx hb dX10_slipped_3 (by decide) ?_
  refine lv_topi (fun x1 ex1 => ?_)
  obtain rfl : x1 = nI (sv / 10) := by rw [ex1]; exact pk_div (show sv < 2 ^ 31 by omega) (show 0 < 10 by decide) (by decide)
  refine lv_bipush (v := 10) hx hb dX10_slipped_4 (by decide) ?_
  refine lv_irem hx hb dX10_slipped_6 (by decide) ?_
  refine lv_topi (fun x2 ex2 => ?_)
  obtain rfl : x2 = nI ((sv / 10) % 10) := by rw [ex2]; exact pk_rem (show (sv / 10) < 2 ^ 31 by omega) (show 0 < 10 by decide) (by decide)
  refine lv_istore_n (lv' := [(3, .int (nI ((sv / 10) % 10))), (0, .ref h1), (1, .int (nI a)), (2, .int (nI sv))]) hx hb dX10_slipped_7 rfl hl (by decide) rfl (fun ls hl => ?_)
  refine lv_aload_n hx hb dX10_slipped_8 rfl (lv_at hl 1 rfl) ?_
  refine lv_iload_n hx hb dX10_slipped_9 rfl (lv_at hl 2 rfl) ?_
  refine lv_iload_n hx hb dX10_slipped_10 rfl (lv_at hl 0 rfl) ?_
  refine ca_iR (va_runV (As := [.int (nI a), .int (nI ((sv / 10) % 10))]) (rest := []) ⟨hx, hb, hml, hown, hts⟩ (m_signAt l G s.heap.size h1 v_sites v_maps v_told v_kinds v_land v_spades v_pad v_padMany v_slips v_slipMany v_made v_queue v_depth v_by v_from v_come v_offOf v_parent v_best v_trees v_least v_sums v_toward v_kept v_isKept v_keptAt v_isWriting a_part fp k a ((sv / 10) % 10) hk6 hp (by omega) (by unfold okV at hok; omega)) (cwV 2 hts gX10_slipped_X10_signAt rfl rfl rfl (by decide +kernel) ⟨by decide +kernel, by decide +kernel⟩) (pre_V E hP hD hS hA [0, 1] (by decide) rfl 0 6 rfl rfl) rfl rfl hl.1 rfl (lv_room (Nat.le_of_ble_eq_true rfl)) dX10_slipped_11 ⟨by decide +kernel, by decide +kernel⟩) hS hP hD hA [0, 1] rfl (fun r4 _ H locs w3 hP hS => ?_)
  rw [w3]
  refine lv_istore (lv' := [(4, .int (nI (dg k a ((sv / 10) % 10)))), (3, .int (nI ((sv / 10) % 10))), (0, .ref h1), (1, .int (nI a)), (2, .int (nI sv))]) hx hb dX10_slipped_14 hl (by decide) rfl (fun ls hl => ?_)
  refine lv_iload_n hx hb dX10_slipped_16 rfl (lv_at hl 4 rfl) ?_
  refine lv_bipush (v := 100) hx hb dX10_slipped_17 (by decide) ?_
  refine lv_idiv hx hb dX10_slipped_19 (by decide) ?_
  refine lv_topi (fun x5 ex5 => ?_)
  obtain rfl : x5 = nI (sv / 100) := by rw [ex5]; exact pk_div (show sv < 2 ^ 31 by omega) (show 0 < 100 by decide) (by decide)
  by_cases c90 : sv / 100 = 0
  · refine lv_tableIn (off := 28) (tgt := 48) hx hb dX10_slipped_20 (by rw [c90]; decide) (by rw [c90]; decide) (by rw [c90]; decide) (by decide) ?_
    obtain rfl : m0 = 0 := by unfold okV at hok; omega
    have hm2 : sv / 10 % 10 = mj := by unfold okV at hok; omega
    have hm3 : sv % 10 = mg := by unfold okV at hok; omega
    refine lv_aload_n hx hb dX10_slipped_48 rfl (lv_at hl 2 rfl) ?_
    refine lv_iload_n hx hb dX10_slipped_49 rfl (lv_at hl 3 rfl) ?_
    refine lv_iload_n hx hb dX10_slipped_50 rfl (lv_at hl 1 rfl) ?_
    refine lv_iload_n hx hb dX10_slipped_51 rfl (lv_at hl 4 rfl) ?_
    refine lv_bipush (v := 10) hx hb dX10_slipped_52 (by decide) ?_
    refine lv_irem hx hb dX10_slipped_54 (by decide) ?_
    refine lv_topi (fun x6 ex6 => ?_)
    obtain rfl : x6 = nI (sv % 10) := by rw [ex6]; exact pk_rem (show sv < 2 ^ 31 by omega) (show 0 < 10 by decide) (by decide)
    refine ca_iR (va_runV (As := [.int (nI a), .int (nI ((sv / 10) % 10)), .int (nI (sv % 10))]) (rest := []) ⟨hx, hb, hml, hown, hts⟩ (m_with l G H.size h1 v_sites v_maps v_told v_kinds v_land v_spades v_pad v_padMany v_slips v_slipMany v_made v_queue v_depth v_by v_from v_come v_offOf v_parent v_best v_trees v_least v_sums v_toward v_kept v_isKept v_keptAt v_isWriting a_part fp k a ((sv / 10) % 10) (sv % 10) hk6 hp (by first | omega | exact wN_lt ha (by omega) (dg_lt _ _ _)) (by unfold okV at hok; omega)) (cwV 3 hts gX10_slipped_X10_with rfl rfl rfl (by decide +kernel) ⟨by decide +kernel, by decide +kernel⟩) (pre_V E hP hD hS hA [0, 1] (by decide) rfl 0 6 rfl rfl) rfl rfl hl.1 rfl (lv_room (Nat.le_of_ble_eq_true rfl)) dX10_slipped_55 ⟨by decide +kernel, by decide +kernel⟩) hS hP hD hA [0, 1] rfl (fun r8 _ H locs w7 hP hS => ?_)
    rw [w7]
    have hP9 := (hP.sub (ws' := [(h1, .inr (6, [v_sites, v_maps, v_told, v_kinds, v_land, v_spades, .ref a_part, v_pad, v_padMany, v_slips, v_slipMany, v_made, v_queue, v_depth, v_by, v_from, v_come, v_offOf, v_parent, v_best, v_trees, v_least, v_sums, v_toward, v_kept, v_isKept, v_keptAt, v_isWriting])), (a_part, .inl (gI G, 6, .inl fp))]) [0, 1] rfl)
    have hD9 := (hD.sub (ws' := [(h1, .inr (6, [v_sites, v_maps, v_told, v_kinds, v_land, v_spades, .ref a_part, v_pad, v_padMany, v_slips, v_slipMany, v_made, v_queue, v_depth, v_by, v_from, v_come, v_offOf, v_parent, v_best, v_trees, v_least, v_sums, v_toward, v_kept, v_isKept, v_keptAt, v_isWriting])), (a_part, .inl (gI G, 6, .inl fp))]) [0, 1] (by decide) rfl)
    exact W.iret (v := (nI (wN k a ((sv / 10) % 10) (sv % 10)))) hx hb hr (fun t9_ ht9_ hW9_ => ⟨⟨nI (wN k a ((sv / 10) % 10) (sv % 10)), (), rfl, by (try simp only [hm2]); (try simp only [hm3]); rfl, by rw [ht9_]; exact hP9, hD9⟩, hS.F ht9_⟩) hS.2.2 dX10_slipped_58
  by_cases c91 : sv / 100 = 1
  · refine lv_tableIn (off := 39) (tgt := 59) hx hb dX10_slipped_20 (by rw [c91]; decide) (by rw [c91]; decide) (by rw [c91]; decide) (by decide) ?_
    obtain rfl : m0 = 1 := by unfold okV at hok; omega
    have hm2 : sv / 10 % 10 = mj := by unfold okV at hok; omega
    have hm3 : sv % 10 = mg := by unfold okV at hok; omega
    refine lv_aload_n hx hb dX10_slipped_59 rfl (lv_at hl 2 rfl) ?_
    refine lv_aload_n hx hb dX10_slipped_60 rfl (lv_at hl 2 rfl) ?_
    refine lv_iload_n hx hb dX10_slipped_61 rfl (lv_at hl 3 rfl) ?_
    refine lv_iload_n hx hb dX10_slipped_62 rfl (lv_at hl 1 rfl) ?_
    refine lv_aload_n hx hb dX10_slipped_63 rfl (lv_at hl 2 rfl) ?_
    refine lv_iload_n hx hb dX10_slipped_64 rfl (lv_at hl 3 rfl) ?_
    refine lv_iload_n hx hb dX10_slipped_65 rfl (lv_at hl 1 rfl) ?_
    refine lv_iconst (v := 1) hx hb dX10_slipped_66 (by decide) ?_
    refine lv_iadd hx hb dX10_slipped_67 ?_
    refine lv_topi (fun x9 ex9 => ?_)
    obtain rfl : x9 = nI (((sv / 10) % 10) + 1) := by rw [ex9]; exact nI_add ((sv / 10) % 10) 1
    refine ca_iR (va_runV (As := [.int (nI a), .int (nI (((sv / 10) % 10) + 1))]) (rest := [.int (nI ((sv / 10) % 10)), .int (nI a), .ref h1, .ref h1]) ⟨hx, hb, hml, hown, hts⟩ (m_signAt l G H.size h1 v_sites v_maps v_told v_kinds v_land v_spades v_pad v_padMany v_slips v_slipMany v_made v_queue v_depth v_by v_from v_come v_offOf v_parent v_best v_trees v_least v_sums v_toward v_kept v_isKept v_keptAt v_isWriting a_part fp k a (((sv / 10) % 10) + 1) hk6 hp (by omega) (by unfold okV at hok; omega)) (cwV 2 hts gX10_slipped_X10_signAt rfl rfl rfl (by decide +kernel) ⟨by decide +kernel, by decide +kernel⟩) (pre_V E hP hD hS hA [0, 1] (by decide) rfl 0 6 rfl rfl) rfl rfl hl.1 rfl (lv_room (Nat.le_of_ble_eq_true rfl)) dX10_slipped_68 ⟨by decide +kernel, by decide +kernel⟩) hS hP hD hA [0, 1] rfl (fun r11 _ H locs w10 hP hS => ?_)
    rw [w10]
    refine ca_iR (va_runV (As := [.int (nI a), .int (nI ((sv / 10) % 10)), .int (nI (dg k a (((sv / 10) % 10) + 1)))]) (rest := [.ref h1]) ⟨hx, hb, hml, hown, hts⟩ (m_with l G H.size h1 v_sites v_maps v_told v_kinds v_land v_spades v_pad v_padMany v_slips v_slipMany v_made v_queue v_depth v_by v_from v_come v_offOf v_parent v_best v_trees v_least v_sums v_toward v_kept v_isKept v_keptAt v_isWriting a_part fp k a ((sv / 10) % 10) (dg k a (((sv / 10) % 10) + 1)) hk6 hp (by first | omega | exact wN_lt ha (by omega) (dg_lt _ _ _)) (by unfold okV at hok; omega)) (cwV 3 hts gX10_slipped_X10_with rfl rfl rfl (by decide +kernel) ⟨by decide +kernel, by decide +kernel⟩) (pre_V E hP hD hS hA [0, 1] (by decide) rfl 0 6 rfl rfl) rfl rfl hl.1 rfl (lv_room (Nat.le_of_ble_eq_true rfl)) dX10_slipped_71 ⟨by decide +kernel, by decide +kernel⟩) hS hP hD hA [0, 1] rfl (fun r13 _ H locs w12 hP hS => ?_)
    rw [w12]
    refine lv_iload_n hx hb dX10_slipped_74 rfl (lv_at hl 1 rfl) ?_
    refine lv_iconst (v := 1) hx hb dX10_slipped_75 (by decide) ?_
    refine lv_iadd hx hb dX10_slipped_76 ?_
    refine lv_topi (fun x14 ex14 => ?_)
    obtain rfl : x14 = nI (((sv / 10) % 10) + 1) := by rw [ex14]; exact nI_add ((sv / 10) % 10) 1
    refine lv_iload hx hb dX10_slipped_77 (lv_at hl 0 rfl) ?_
    refine ca_iR (va_runV (As := [.int (nI (wN k a ((sv / 10) % 10) (dg k a (((sv / 10) % 10) + 1)))), .int (nI (((sv / 10) % 10) + 1)), .int (nI (dg k a ((sv / 10) % 10)))]) (rest := []) ⟨hx, hb, hml, hown, hts⟩ (m_with l G H.size h1 v_sites v_maps v_told v_kinds v_land v_spades v_pad v_padMany v_slips v_slipMany v_made v_queue v_depth v_by v_from v_come v_offOf v_parent v_best v_trees v_least v_sums v_toward v_kept v_isKept v_keptAt v_isWriting a_part fp k (wN k a ((sv / 10) % 10) (dg k a (((sv / 10) % 10) + 1))) (((sv / 10) % 10) + 1) (dg k a ((sv / 10) % 10)) hk6 hp (by first | omega | exact wN_lt ha (by omega) (dg_lt _ _ _)) (by unfold okV at hok; omega)) (cwV 3 hts gX10_slipped_X10_with rfl rfl rfl (by decide +kernel) ⟨by decide +kernel, by decide +kernel⟩) (pre_V E hP hD hS hA [0, 1] (by decide) rfl 0 6 rfl rfl) rfl rfl hl.1 rfl (lv_room (Nat.le_of_ble_eq_true rfl)) dX10_slipped_79 ⟨by decide +kernel, by decide +kernel⟩) hS hP hD hA [0, 1] rfl (fun r16 _ H locs w15 hP hS => ?_)
    rw [w15]
    have hP9 := (hP.sub (ws' := [(h1, .inr (6, [v_sites, v_maps, v_told, v_kinds, v_land, v_spades, .ref a_part, v_pad, v_padMany, v_slips, v_slipMany, v_made, v_queue, v_depth, v_by, v_from, v_come, v_offOf, v_parent, v_best, v_trees, v_least, v_sums, v_toward, v_kept, v_isKept, v_keptAt, v_isWriting])), (a_part, .inl (gI G, 6, .inl fp))]) [0, 1] rfl)
    have hD9 := (hD.sub (ws' := [(h1, .inr (6, [v_sites, v_maps, v_told, v_kinds, v_land, v_spades, .ref a_part, v_pad, v_padMany, v_slips, v_slipMany, v_made, v_queue, v_depth, v_by, v_from, v_come, v_offOf, v_parent, v_best, v_trees, v_least, v_sums, v_toward, v_kept, v_isKept, v_keptAt, v_isWriting])), (a_part, .inl (gI G, 6, .inl fp))]) [0, 1] (by decide) rfl)
    exact W.iret (v := (nI (wN k (wN k a ((sv / 10) % 10) (dg k a (((sv / 10) % 10) + 1))) (((sv / 10) % 10) + 1) (dg k a ((sv / 10) % 10))))) hx hb hr (fun t9_ ht9_ hW9_ => ⟨⟨nI (wN k (wN k a ((sv / 10) % 10) (dg k a (((sv / 10) % 10) + 1))) (((sv / 10) % 10) + 1) (dg k a ((sv / 10) % 10))), (), rfl, by (try simp only [hm2]); (try simp only [hm3]); rfl, by rw [ht9_]; exact hP9, hD9⟩, hS.F ht9_⟩) hS.2.2 dX10_slipped_82
  by_cases c92 : sv / 100 = 2
  · refine lv_tableIn (off := 63) (tgt := 83) hx hb dX10_slipped_20 (by rw [c92]; decide) (by rw [c92]; decide) (by rw [c92]; decide) (by decide) ?_
    obtain rfl : m0 = 2 := by unfold okV at hok; omega
    have hm2 : sv / 10 % 10 = mj := by unfold okV at hok; omega
    have hm3 : sv % 10 = mg := by unfold okV at hok; omega
    refine lv_aload_n hx hb dX10_slipped_83 rfl (lv_at hl 2 rfl) ?_
    refine lv_iload_n hx hb dX10_slipped_84 rfl (lv_at hl 3 rfl) ?_
    refine lv_iload_n hx hb dX10_slipped_85 rfl (lv_at hl 1 rfl) ?_
    refine lv_iconst (v := 1) hx hb dX10_slipped_86 (by decide) ?_
    refine lv_iadd hx hb dX10_slipped_87 ?_
    refine lv_topi (fun x17 ex17 => ?_)
    obtain rfl : x17 = nI (((sv / 10) % 10) + 1) := by rw [ex17]; exact nI_add ((sv / 10) % 10) 1
    refine lv_iload hx hb dX10_slipped_88 (lv_at hl 0 rfl) ?_
    refine ca_iR (va_runV (As := [.int (nI a), .int (nI (((sv / 10) % 10) + 1)), .int (nI (dg k a ((sv / 10) % 10)))]) (rest := []) ⟨hx, hb, hml, hown, hts⟩ (m_with l G H.size h1 v_sites v_maps v_told v_kinds v_land v_spades v_pad v_padMany v_slips v_slipMany v_made v_queue v_depth v_by v_from v_come v_offOf v_parent v_best v_trees v_least v_sums v_toward v_kept v_isKept v_keptAt v_isWriting a_part fp k a (((sv / 10) % 10) + 1) (dg k a ((sv / 10) % 10)) hk6 hp (by first | omega | exact wN_lt ha (by omega) (dg_lt _ _ _)) (by unfold okV at hok; omega)) (cwV 3 hts gX10_slipped_X10_with rfl rfl rfl (by decide +kernel) ⟨by decide +kernel, by decide +kernel⟩) (pre_V E hP hD hS hA [0, 1] (by decide) rfl 0 6 rfl rfl) rfl rfl hl.1 rfl (lv_room (Nat.le_of_ble_eq_true rfl)) dX10_slipped_90 ⟨by decide +kernel, by decide +kernel⟩) hS hP hD hA [0, 1] rfl (fun r19 _ H locs w18 hP hS => ?_)
    rw [w18]
    have hP9 := (hP.sub (ws' := [(h1, .inr (6, [v_sites, v_maps, v_told, v_kinds, v_land, v_spades, .ref a_part, v_pad, v_padMany, v_slips, v_slipMany, v_made, v_queue, v_depth, v_by, v_from, v_come, v_offOf, v_parent, v_best, v_trees, v_least, v_sums, v_toward, v_kept, v_isKept, v_keptAt, v_isWriting])), (a_part, .inl (gI G, 6, .inl fp))]) [0, 1] rfl)
    have hD9 := (hD.sub (ws' := [(h1, .inr (6, [v_sites, v_maps, v_told, v_kinds, v_land, v_spades, .ref a_part, v_pad, v_padMany, v_slips, v_slipMany, v_made, v_queue, v_depth, v_by, v_from, v_come, v_offOf, v_parent, v_best, v_trees, v_least, v_sums, v_toward, v_kept, v_isKept, v_keptAt, v_isWriting])), (a_part, .inl (gI G, 6, .inl fp))]) [0, 1] (by decide) rfl)
    exact W.iret (v := (nI (wN k a (((sv / 10) % 10) + 1) (dg k a ((sv / 10) % 10))))) hx hb hr (fun t9_ ht9_ hW9_ => ⟨⟨nI (wN k a (((sv / 10) % 10) + 1) (dg k a ((sv / 10) % 10))), (), rfl, by (try simp only [hm2]); (try simp only [hm3]); rfl, by rw [ht9_]; exact hP9, hD9⟩, hS.F ht9_⟩) hS.2.2 dX10_slipped_93
  refine lv_tableOut (tgt := 94) hx hb dX10_slipped_20 (by right; rw [nI_toInt (by omega)]; omega) (by decide) ?_
  obtain rfl : m0 = 3 := by unfold okV at hok; omega
  have hm2 : sv / 10 % 10 = mj := by unfold okV at hok; omega
  refine lv_aload_n hx hb dX10_slipped_94 rfl (lv_at hl 2 rfl) ?_
  refine lv_iload_n hx hb dX10_slipped_95 rfl (lv_at hl 3 rfl) ?_
  refine lv_iload_n hx hb dX10_slipped_96 rfl (lv_at hl 1 rfl) ?_
  refine lv_iconst (v := 4) hx hb dX10_slipped_97 (by decide) ?_
  refine ca_iR (va_runV (As := [.int (nI a), .int (nI ((sv / 10) % 10)), .int 4]) (rest := []) ⟨hx, hb, hml, hown, hts⟩ (m_with l G H.size h1 v_sites v_maps v_told v_kinds v_land v_spades v_pad v_padMany v_slips v_slipMany v_made v_queue v_depth v_by v_from v_come v_offOf v_parent v_best v_trees v_least v_sums v_toward v_kept v_isKept v_keptAt v_isWriting a_part fp k a ((sv / 10) % 10) 4 hk6 hp (by first | omega | exact wN_lt ha (by omega) (dg_lt _ _ _)) (by unfold okV at hok; omega)) (cwV 3 hts gX10_slipped_X10_with rfl rfl rfl (by decide +kernel) ⟨by decide +kernel, by decide +kernel⟩) (pre_V E hP hD hS hA [0, 1] (by decide) rfl 0 6 rfl rfl) rfl rfl hl.1 rfl (lv_room (Nat.le_of_ble_eq_true rfl)) dX10_slipped_98 ⟨by decide +kernel, by decide +kernel⟩) hS hP hD hA [0, 1] rfl (fun r21 _ H locs w20 hP hS => ?_)
  rw [w20]
  have hP9 := (hP.sub (ws' := [(h1, .inr (6, [v_sites, v_maps, v_told, v_kinds, v_land, v_spades, .ref a_part, v_pad, v_padMany, v_slips, v_slipMany, v_made, v_queue, v_depth, v_by, v_from, v_come, v_offOf, v_parent, v_best, v_trees, v_least, v_sums, v_toward, v_kept, v_isKept, v_keptAt, v_isWriting])), (a_part, .inl (gI G, 6, .inl fp))]) [0, 1] rfl)
  have hD9 := (hD.sub (ws' := [(h1, .inr (6, [v_sites, v_maps, v_told, v_kinds, v_land, v_spades, .ref a_part, v_pad, v_padMany, v_slips, v_slipMany, v_made, v_queue, v_depth, v_by, v_from, v_come, v_offOf, v_parent, v_best, v_trees, v_least, v_sums, v_toward, v_kept, v_isKept, v_keptAt, v_isWriting])), (a_part, .inl (gI G, 6, .inl fp))]) [0, 1] (by decide) rfl)
  exact W.iret (v := (nI (wN k a ((sv / 10) % 10) 4))) hx hb hr (fun t9_ ht9_ hW9_ => ⟨⟨nI (wN k a ((sv / 10) % 10) 4), (), rfl, by (try simp only [hm2]); (try simp only [hm3]); rfl, by rw [ht9_]; exact hP9, hD9⟩, hS.F ht9_⟩) hS.2.2 dX10_slipped_101

set_option maxHeartbeats 1000000 in
set_option maxRecDepth 100000 in
theorem m_makes (l : Launch) (G : Gy) (sz : Nat) (p0 : Int32) (sv : Nat) (m0 : Nat) (hsb : sv < 1000) (hm : sv / 100 = m0) : Ci l G yX10_makes wsX10_makes ({ frames := 0, cells := 0, slots := 0, locals := 0 }) [.int p0, .int (nI sv)] ([]) sz (fun (r : Int32) (_ : Unit) => (r = 1 ∧ bK p0 m0 = true) ∨ (r = 0 ∧ ¬ bK p0 m0 = true)) (fun (_ : Unit) => []) 0 0 := by
  refine Met.ofW (cc := cX10_makes) (maxL := 2) (ret := (some .boolean)) (by decide) rfl ?_
  intro p e s m args below meth c s₁ B hml hv
  obtain ⟨rfl, hsz, hP, hD0, E0⟩ := hv
  have hx := B.exec
  have hb := B.bytes
  have hr := B.returns
  have hts := atoms_spec (ws := wsX10_makes) B.pre
  have hown : s.vm.findClass RX10 = some m.cls := findClass_of_methodNamed B.named
  have hlocks := B.notSynchronized
  subst hsz
  have hD := hD0.self (sz := s.heap.size)
  generalize hAe : va_A ([]) s.heap.size = A at hD E0 ⊢
  have E : EV G A s s.heap := E0
  have hA : ∀ q : Nat, s.heap.size ≤ q → A q := fun q h => by rw [← hAe]; exact Or.inr h
  have hS : va_S A s.heap s.heap [] := va_S.rf
  have hl := lv_entry ([.int p0, .int (nI sv)]) (n := 2) (Nat.le_of_ble_eq_true rfl)
  rw [lg_entry_eq]
  generalize (lg_sl ([.int p0, .int (nI sv)]) ++ List.replicate (2 - (lg_sl ([.int p0, .int (nI sv)])).length) Slot.unset).toArray = ls at hl ⊢
  have hl : lv_has ls 2 [(0, .int p0), (1, .int (nI sv))] := hl
  have hP : va_P G.1 vwCl ([]) s.heap := hP
  refine lv_iload_n hx hb dX10_makes_0 rfl (lv_at hl 0 rfl) ?_
  refine lv_iload_n hx hb dX10_makes_1 rfl (lv_at hl 1 rfl) ?_
  refine lv_bipush (v := 100) hx hb dX10_makes_2 (by decide) ?_
  refine lv_idiv hx hb dX10_makes_4 (by decide) ?_
  refine lv_topi (fun x1 ex1 => ?_)
  obtain rfl : x1 = nI (sv / 100) := by rw [ex1]; exact pk_div (show sv < 2 ^ 31 by omega) (show 0 < 100 by decide) (by decide)
  refine lv_ishr hx hb dX10_makes_5 ?_
  refine lv_topi (fun x2 ex2 => ?_)
  refine lv_iconst (v := 1) hx hb dX10_makes_6 (by decide) ?_
  refine lv_iand hx hb dX10_makes_7 ?_
  refine lv_topi (fun x3 ex3 => ?_)
  refine lv_iconst (v := 1) hx hb dX10_makes_8 (by decide) ?_
  refine lv_icmp_ne (tgt := 16) hx hb dX10_makes_9 (by decide) (fun c4 => ?_) (fun c4 => ?_)
  · refine lv_iconst (v := 0) hx hb dX10_makes_16 (by decide) ?_
    have hP9 := (hP.sub (ws' := []) [] rfl)
    have hD9 := (hD.sub (ws' := []) [] (by decide) rfl)
    exact W.zret (v := 0) hx hb hr (by decide) (fun t9_ ht9_ hW9_ => ⟨⟨0, (), rfl, Or.inr ⟨rfl, by unfold bK; rw [← hm, ← ex2, ← ex3]; exact fun h => c4 (of_decide_eq_true h)⟩, by rw [ht9_]; exact hP9, hD9⟩, hS.F ht9_⟩) hS.2.2 dX10_makes_17
  · refine lv_iconst (v := 1) hx hb dX10_makes_12 (by decide) ?_
    refine lv_goto (tgt := 17) hx hb dX10_makes_13 (by decide) ?_
    have hP9 := (hP.sub (ws' := []) [] rfl)
    have hD9 := (hD.sub (ws' := []) [] (by decide) rfl)
    exact W.zret (v := 1) hx hb hr (by decide) (fun t9_ ht9_ hW9_ => ⟨⟨1, (), rfl, Or.inl ⟨rfl, by unfold bK; rw [← hm, ← ex2, ← ex3]; exact decide_eq_true c4⟩, by rw [ht9_]; exact hP9, hD9⟩, hS.F ht9_⟩) hS.2.2 dX10_makes_17
