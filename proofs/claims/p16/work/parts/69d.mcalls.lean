set_option maxHeartbeats 1000000 in
set_option maxRecDepth 100000 in
theorem m2_sites (l : Launch) (G : Gy) (sz : Nat) (h1 : Nat) (v_kinds : Value) (v_spades : Value) (v_pad : Value) (v_padMany : Value) (v_slips : Value) (v_slipMany : Value) (v_made : Value) (v_queue : Value) (v_depth : Value) (v_by : Value) (v_from : Value) (v_come : Value) (v_offOf : Value) (v_parent : Value) (v_best : Value) (v_trees : Value) (v_least : Value) (v_sums : Value) (v_toward : Value) (v_kept : Value) (v_isKept : Value) (v_keptAt : Value) (v_isWriting : Value) (told : Int32) (a_maps : Nat) (fm : Nat → Int32) (a_part : Nat) (fp : Nat → Int32) (k : Nat) (la : Nat) (p0 : Int32) (hk2 : 2 ≤ k) (hk6 : k ≤ 6) (hp : pOK k fp) (hfm : mapsOK k fm) (hla : la < 5 ^ k) : Ci l G yX10_sites wsX10_sites ({ frames := 2, cells := 0, slots := 0, locals := 44 }) [.ref h1, .int p0] ([(h1, .inr (6, [.int (nI k), .ref a_maps, .int told, v_kinds, .int (nI la), v_spades, .ref a_part, v_pad, v_padMany, v_slips, v_slipMany, v_made, v_queue, v_depth, v_by, v_from, v_come, v_offOf, v_parent, v_best, v_trees, v_least, v_sums, v_toward, v_kept, v_isKept, v_keptAt, v_isWriting])), (a_maps, .inl (gI G, 6, .inl fm)), (a_part, .inl (gI G, 6, .inl fp))]) sz (fun (r : Int32) (u : Nat × Int32 × Nat × (Nat → Int32) × (Nat → Int32)) => match u with | (k1, told1, la1, gm, gp) => 2 ≤ k1 ∧ k1 ≤ 6 ∧ la1 < 5 ^ k1 ∧ mapsOK k1 gm ∧ pOK k1 gp ∧ ((inR p0 2 6 ∧ r = nI k ∧ p0 = nI k1 ∧ told1 = 0 ∧ la1 = 0) ∨ (¬ inR p0 2 6 ∧ r = (-2) ∧ k1 = k ∧ told1 = told ∧ la1 = la ∧ gm = fm))) (fun (u : Nat × Int32 × Nat × (Nat → Int32) × (Nat → Int32)) => match u with | (k1, told1, la1, gm, gp) => [(h1, .inr (6, [.int (nI k1), .ref a_maps, .int told1, v_kinds, .int (nI la1), v_spades, .ref a_part, v_pad, v_padMany, v_slips, v_slipMany, v_made, v_queue, v_depth, v_by, v_from, v_come, v_offOf, v_parent, v_best, v_trees, v_least, v_sums, v_toward, v_kept, v_isKept, v_keptAt, v_isWriting])), (a_maps, .inl (gI G, 6, .inl gm)), (a_part, .inl (gI G, 6, .inl gp))]) 0 0 := by
  refine Met.ofW (cc := cX10_sites) (maxL := 3) (ret := (some .int)) (by decide) rfl ?_
  intro p e s m args below meth c s₁ B hml hv
  obtain ⟨rfl, hsz, hP, hD0, E0⟩ := hv
  have hx := B.exec
  have hb := B.bytes
  have hr := B.returns
  have hts := atoms_spec (ws := wsX10_sites) B.pre
  have hown : s.vm.findClass RX10 = some m.cls := findClass_of_methodNamed B.named
  have hlocks := B.notSynchronized
  subst hsz
  have hD := hD0.self (sz := s.heap.size)
  generalize hAe : va_A ([(h1, .inr (6, [.int (nI k), .ref a_maps, .int told, v_kinds, .int (nI la), v_spades, .ref a_part, v_pad, v_padMany, v_slips, v_slipMany, v_made, v_queue, v_depth, v_by, v_from, v_come, v_offOf, v_parent, v_best, v_trees, v_least, v_sums, v_toward, v_kept, v_isKept, v_keptAt, v_isWriting])), (a_maps, .inl (gI G, 6, .inl fm)), (a_part, .inl (gI G, 6, .inl fp))]) s.heap.size = A at hD E0 ⊢
  have E : EV G A s s.heap := E0
  have hA : ∀ q : Nat, s.heap.size ≤ q → A q := fun q h => by rw [← hAe]; exact Or.inr h
  have hS : va_S A s.heap s.heap [] := va_S.rf
  have hl := lv_entry ([.ref h1, .int p0]) (n := 3) (Nat.le_of_ble_eq_true rfl)
  rw [lg_entry_eq]
  generalize (lg_sl ([.ref h1, .int p0]) ++ List.replicate (3 - (lg_sl ([.ref h1, .int p0])).length) Slot.unset).toArray = ls at hl ⊢
  have hl : lv_has ls 3 [(0, .ref h1), (1, .int p0)] := hl
  have hP : va_P G.1 vwCl ([(h1, .inr (6, [.int (nI k), .ref a_maps, .int told, v_kinds, .int (nI la), v_spades, .ref a_part, v_pad, v_padMany, v_slips, v_slipMany, v_made, v_queue, v_depth, v_by, v_from, v_come, v_offOf, v_parent, v_best, v_trees, v_least, v_sums, v_toward, v_kept, v_isKept, v_keptAt, v_isWriting])), (a_maps, .inl (gI G, 6, .inl fm)), (a_part, .inl (gI G, 6, .inl fp))]) s.heap := hP
  refine lv_iload_n hx hb dX10_sites_0 rfl (lv_at hl 1 rfl) ?_
  refine lv_i2l hx hb dX10_sites_1 rfl ?_
  refine lv_topl (fun x1 ex1 => ?_)
  refine lv_ldc2 (v := 2) hx hb hown (hts (.constantLong RX10 87 (2)) (by decide +kernel)) dX10_sites_2 ?_
  refine lv_ldc2 (v := 6) hx hb hown (hts (.constantLong RX10 89 (6)) (by decide +kernel)) dX10_sites_5 ?_
  refine ca_iR (va_runS (As := [.long x1, .long 2, .long 6]) (rest := []) ⟨hx, hb, hml, hown, hts⟩ (m_in l G s.heap.size x1 2 6 p0 2 6 ex1 (by decide) (by decide)) (va_cwS 3 hts gX10_sites_X10_in rfl rfl rfl (by decide +kernel) ⟨by decide +kernel, by decide +kernel⟩) (pre_S E hP hD hS hA [] (by decide) rfl) rfl rfl hl.1 rfl (lv_room (Nat.le_of_ble_eq_true rfl)) dX10_sites_8 ⟨by decide +kernel, by decide +kernel⟩) hS hP hD hA [] rfl (fun r3 _ H locs w2 hP hS => ?_)
  rcases w2 with ⟨rfl, b4⟩ | ⟨rfl, b4⟩
  · refine lv_if_ne (tgt := 17) hx hb dX10_sites_11 (by decide) (fun _ => ?_) (fun c5 => False.elim (by revert c5; decide))
    refine lv_aload_n hx hb dX10_sites_17 rfl (lv_at hl 0 rfl) ?_
    refine va_get (D := G.1) (ci := 6) (v := .int (nI k)) (C := RX10) (T := TX10) (N := 28) hx hb hts (fun _ h => List.mem_cons_of_mem _ (List.mem_append_right _ h)) hown E.K hP 0 rfl rfl 0 (by decide) (hts (.fieldLink RX10 67 "LastMapModel" "sites" "I") (by decide +kernel)) (fun _ h9 => h9) rfl dX10_sites_18 ?_
    refine lv_istore_n (lv' := [(2, .int (nI k)), (0, .ref h1), (1, .int p0)]) hx hb dX10_sites_21 rfl hl (by decide) rfl (fun ls hl => ?_)
    refine lv_aload_n hx hb dX10_sites_22 rfl (lv_at hl 1 rfl) ?_
    refine lv_iload_n hx hb dX10_sites_23 rfl (lv_at hl 2 rfl) ?_
    obtain ⟨k9, hk29, hk69, ek9⟩ := site26 b4
    refine W.eq (g2 := F0 m 24 ls [.int (nI k9), .ref h1]) (by rw [ek9]) ?_
    refine ca_v (wr := []) (va_runV (As := [.int (nI k9)]) (rest := []) ⟨hx, hb, hml, hown, hts⟩ (m_begin l G H.size h1 v_kinds v_spades v_pad v_padMany v_slips v_slipMany v_made v_queue v_depth v_by v_from v_come v_offOf v_parent v_best v_trees v_least v_sums v_toward v_kept v_isKept v_keptAt v_isWriting (nI k) told (nI la) a_maps fm a_part fp k9 hk29 hk69) (cwV 1 hts gX10_sites_X10_begin rfl rfl rfl (by decide +kernel) ⟨by decide +kernel, by decide +kernel⟩) (pre_V E hP hD hS hA [0, 1, 2] (by decide) rfl 0 6 rfl rfl) rfl rfl hl.1 rfl (lv_room (Nat.le_of_ble_eq_true rfl)) dX10_sites_24 ⟨by decide +kernel, by decide +kernel⟩) hS hP hD hA [0, 1, 2] [] rfl rfl (by decide) (by decide) (fun u8 H locs w6 hP hD hS => ?_)
    obtain ⟨gm_9, gp_10⟩ := u8
    try dsimp only at w6 hP hD
    have hP := (hP.sub (ws' := [(h1, .inr (6, [.int (nI k9), .ref a_maps, .int 0, v_kinds, .int 0, v_spades, .ref a_part, v_pad, v_padMany, v_slips, v_slipMany, v_made, v_queue, v_depth, v_by, v_from, v_come, v_offOf, v_parent, v_best, v_trees, v_least, v_sums, v_toward, v_kept, v_isKept, v_keptAt, v_isWriting])), (a_maps, .inl (gI G, 6, .inl gm_9)), (a_part, .inl (gI G, 6, .inl gp_10))]) [0, 1, 2] rfl)
    have hD := (hD.sub (ws' := [(h1, .inr (6, [.int (nI k9), .ref a_maps, .int 0, v_kinds, .int 0, v_spades, .ref a_part, v_pad, v_padMany, v_slips, v_slipMany, v_made, v_queue, v_depth, v_by, v_from, v_come, v_offOf, v_parent, v_best, v_trees, v_least, v_sums, v_toward, v_kept, v_isKept, v_keptAt, v_isWriting])), (a_maps, .inl (gI G, 6, .inl gm_9)), (a_part, .inl (gI G, 6, .inl gp_10))]) [0, 1, 2] (by decide) rfl)
    refine lv_iload_n hx hb dX10_sites_27 rfl (lv_at hl 0 rfl) ?_
    have hP9 := (hP.sub (ws' := [(h1, .inr (6, [.int (nI k9), .ref a_maps, .int 0, v_kinds, .int 0, v_spades, .ref a_part, v_pad, v_padMany, v_slips, v_slipMany, v_made, v_queue, v_depth, v_by, v_from, v_come, v_offOf, v_parent, v_best, v_trees, v_least, v_sums, v_toward, v_kept, v_isKept, v_keptAt, v_isWriting])), (a_maps, .inl (gI G, 6, .inl gm_9)), (a_part, .inl (gI G, 6, .inl gp_10))]) [0, 1, 2] rfl)
    have hD9 := (hD.sub (ws' := [(h1, .inr (6, [.int (nI k9), .ref a_maps, .int 0, v_kinds, .int 0, v_spades, .ref a_part, v_pad, v_padMany, v_slips, v_slipMany, v_made, v_queue, v_depth, v_by, v_from, v_come, v_offOf, v_parent, v_best, v_trees, v_least, v_sums, v_toward, v_kept, v_isKept, v_keptAt, v_isWriting])), (a_maps, .inl (gI G, 6, .inl gm_9)), (a_part, .inl (gI G, 6, .inl gp_10))]) [0, 1, 2] (by decide) rfl)
    exact W.iret (v := (nI k)) hx hb hr (fun t9_ ht9_ hW9_ => ⟨⟨nI k, (k9, 0, 0, gm_9, gp_10), rfl, ⟨hk29, hk69, p5_pos _, w6.1, w6.2, Or.inl ⟨b4, rfl, ek9, rfl, rfl⟩⟩, by rw [ht9_]; exact hP9, hD9⟩, hS.F ht9_⟩) hS.2.2 dX10_sites_28
  · refine lv_if_ne (tgt := 17) hx hb dX10_sites_11 (by decide) (fun c11 => False.elim (by revert c11; decide)) (fun _ => ?_)
    refine lv_bipush (v := (-2)) hx hb dX10_sites_14 (by decide) ?_
    have hP9 := (hP.sub (ws' := [(h1, .inr (6, [.int (nI k), .ref a_maps, .int told, v_kinds, .int (nI la), v_spades, .ref a_part, v_pad, v_padMany, v_slips, v_slipMany, v_made, v_queue, v_depth, v_by, v_from, v_come, v_offOf, v_parent, v_best, v_trees, v_least, v_sums, v_toward, v_kept, v_isKept, v_keptAt, v_isWriting])), (a_maps, .inl (gI G, 6, .inl fm)), (a_part, .inl (gI G, 6, .inl fp))]) [0, 1, 2] rfl)
    have hD9 := (hD.sub (ws' := [(h1, .inr (6, [.int (nI k), .ref a_maps, .int told, v_kinds, .int (nI la), v_spades, .ref a_part, v_pad, v_padMany, v_slips, v_slipMany, v_made, v_queue, v_depth, v_by, v_from, v_come, v_offOf, v_parent, v_best, v_trees, v_least, v_sums, v_toward, v_kept, v_isKept, v_keptAt, v_isWriting])), (a_maps, .inl (gI G, 6, .inl fm)), (a_part, .inl (gI G, 6, .inl fp))]) [0, 1, 2] (by decide) rfl)
    exact W.iret (v := (-2)) hx hb hr (fun t9_ ht9_ hW9_ => ⟨⟨(-2), (k, told, la, fm, fp), rfl, ⟨hk2, hk6, hla, hfm, hp, Or.inr ⟨b4, rfl, rfl, rfl, rfl, rfl⟩⟩, by rw [ht9_]; exact hP9, hD9⟩, hS.F ht9_⟩) hS.2.2 dX10_sites_16

set_option maxHeartbeats 1000000 in
set_option maxRecDepth 100000 in
theorem m2_faultOfSlips (l : Launch) (G : Gy) (sz : Nat) (h1 : Nat) (v_maps : Value) (v_told : Value) (v_kinds : Value) (v_land : Value) (v_spades : Value) (v_part : Value) (v_made : Value) (v_queue : Value) (v_depth : Value) (v_by : Value) (v_from : Value) (v_come : Value) (v_offOf : Value) (v_parent : Value) (v_best : Value) (v_trees : Value) (v_least : Value) (v_sums : Value) (v_toward : Value) (v_kept : Value) (v_isKept : Value) (v_keptAt : Value) (v_isWriting : Value) (a_pad : Nat) (pm : Nat) (fd : Nat → Int32) (a_slips : Nat) (k : Nat) (fs : Nat → Int32) (sm0 : Int32) (hk2 : 2 ≤ k) (hk6 : k ≤ 6) (hpm : pm ≤ 40) : Ci l G yX10_faultOfSlips wsX10_faultOfSlips ({ frames := 1, cells := 0, slots := 0, locals := 25 }) [.ref h1] ([(h1, .inr (6, [.int (nI k), v_maps, v_told, v_kinds, v_land, v_spades, v_part, .ref a_pad, .int (nI pm), .ref a_slips, .int sm0, v_made, v_queue, v_depth, v_by, v_from, v_come, v_offOf, v_parent, v_best, v_trees, v_least, v_sums, v_toward, v_kept, v_isKept, v_keptAt, v_isWriting])), (a_pad, .inl (gI G, 40, .inl fd)), (a_slips, .inl (gI G, 10, .inl fs))]) sz (fun (r : Int32) (u : Nat × (Nat → Int32)) => match u with | (sm1, fs1) => sm1 ≤ 10 ∧ r = psl fd pm k 10 0 ∧ (psl fd pm k 10 0 = (-6) → sm1 = nS fd pm ∧ ∀ t : Nat, t < sm1 → fs1 t = slp fd (pl fd t))) (fun (u : Nat × (Nat → Int32)) => match u with | (sm1, fs1) => [(h1, .inr (6, [.int (nI k), v_maps, v_told, v_kinds, v_land, v_spades, v_part, .ref a_pad, .int (nI pm), .ref a_slips, .int (nI sm1), v_made, v_queue, v_depth, v_by, v_from, v_come, v_offOf, v_parent, v_best, v_trees, v_least, v_sums, v_toward, v_kept, v_isKept, v_keptAt, v_isWriting])), (a_pad, .inl (gI G, 40, .inl fd)), (a_slips, .inl (gI G, 10, .inl fs1))]) 0 0 := by
  refine Met.ofW (cc := cX10_faultOfSlips) (maxL := 7) (ret := (some .int)) (by decide) rfl ?_
  intro p e s m args below meth c s₁ B hml hv
  obtain ⟨rfl, hsz, hP, hD0, E0⟩ := hv
  have hx := B.exec
  have hb := B.bytes
  have hr := B.returns
  have hts := atoms_spec (ws := wsX10_faultOfSlips) B.pre
  have hown : s.vm.findClass RX10 = some m.cls := findClass_of_methodNamed B.named
  have hlocks := B.notSynchronized
  subst hsz
  have hD := hD0.self (sz := s.heap.size)
  generalize hAe : va_A ([(h1, .inr (6, [.int (nI k), v_maps, v_told, v_kinds, v_land, v_spades, v_part, .ref a_pad, .int (nI pm), .ref a_slips, .int sm0, v_made, v_queue, v_depth, v_by, v_from, v_come, v_offOf, v_parent, v_best, v_trees, v_least, v_sums, v_toward, v_kept, v_isKept, v_keptAt, v_isWriting])), (a_pad, .inl (gI G, 40, .inl fd)), (a_slips, .inl (gI G, 10, .inl fs))]) s.heap.size = A at hD E0 ⊢
  have E : EV G A s s.heap := E0
  have hA : ∀ q : Nat, s.heap.size ≤ q → A q := fun q h => by rw [← hAe]; exact Or.inr h
  have hS : va_S A s.heap s.heap [] := va_S.rf
  have hl := lv_entry ([.ref h1]) (n := 7) (Nat.le_of_ble_eq_true rfl)
  rw [lg_entry_eq]
  generalize (lg_sl ([.ref h1]) ++ List.replicate (7 - (lg_sl ([.ref h1])).length) Slot.unset).toArray = ls at hl ⊢
  have hl : lv_has ls 7 [(0, .ref h1)] := hl
  have hP : va_P G.1 vwCl ([(h1, .inr (6, [.int (nI k), v_maps, v_told, v_kinds, v_land, v_spades, v_part, .ref a_pad, .int (nI pm), .ref a_slips, .int sm0, v_made, v_queue, v_depth, v_by, v_from, v_come, v_offOf, v_parent, v_best, v_trees, v_least, v_sums, v_toward, v_kept, v_isKept, v_keptAt, v_isWriting])), (a_pad, .inl (gI G, 40, .inl fd)), (a_slips, .inl (gI G, 10, .inl fs))]) s.heap := hP
  refine lv_iconst (v := 0) hx hb dX10_faultOfSlips_0 (by decide) ?_
  refine lv_istore_n (lv' := [(1, .int 0), (0, .ref h1)]) hx hb dX10_faultOfSlips_1 rfl hl (by decide) rfl (fun ls hl => ?_)
  refine lv_iconst (v := 0) hx hb dX10_faultOfSlips_2 (by decide) ?_
  refine lv_istore_n (lv' := [(2, .int 0), (1, .int 0), (0, .ref h1)]) hx hb dX10_faultOfSlips_3 rfl hl (by decide) rfl (fun ls hl => ?_)
  refine lv_iconst (v := 0) hx hb dX10_faultOfSlips_4 (by decide) ?_
  refine lv_istore_n (lv' := [(3, .int 0), (2, .int 0), (1, .int 0), (0, .ref h1)]) hx hb dX10_faultOfSlips_5 rfl hl (by decide) rfl (fun ls hl => ?_)
  refine lv_aload_n hx hb dX10_faultOfSlips_6 rfl (lv_at hl 3 rfl) ?_
  refine lv_iconst (v := 0) hx hb dX10_faultOfSlips_7 (by decide) ?_
  refine va_put (D := G.1) (ci := 6) (v := .int 0) (ty := .int) (C := RX10) (T := TX10) (N := 28) hx hb hts (fun _ h => List.mem_cons_of_mem _ (List.mem_append_right _ h)) tyX10 tyX10_ok nmX10 hown E.K hP hD hS 0 rfl rfl 10 (by decide) (hts (.fieldLink RX10 110 "LastMapModel" "slipMany" "I") (by decide +kernel)) (fun _ h9 => h9) rfl (by decide +kernel) rfl rfl (Nat.le_of_ble_eq_true rfl) dX10_faultOfSlips_8 (fun H locs hP hD hS => ?_)
  have hP : va_P G.1 vwCl ([(h1, .inr (6, [.int (nI k), v_maps, v_told, v_kinds, v_land, v_spades, v_part, .ref a_pad, .int (nI pm), .ref a_slips, .int 0, v_made, v_queue, v_depth, v_by, v_from, v_come, v_offOf, v_parent, v_best, v_trees, v_least, v_sums, v_toward, v_kept, v_isKept, v_keptAt, v_isWriting])), (a_pad, .inl (gI G, 40, .inl fd)), (a_slips, .inl (gI G, 10, .inl fs))]) H := hP
  have hD : va_D A ([(h1, .inr (6, [.int (nI k), v_maps, v_told, v_kinds, v_land, v_spades, v_part, .ref a_pad, .int (nI pm), .ref a_slips, .int 0, v_made, v_queue, v_depth, v_by, v_from, v_come, v_offOf, v_parent, v_best, v_trees, v_least, v_sums, v_toward, v_kept, v_isKept, v_keptAt, v_isWriting])), (a_pad, .inl (gI G, 40, .inl fd)), (a_slips, .inl (gI G, 10, .inl fs))]) := hD
  refine lv_iconst (v := 0) hx hb dX10_faultOfSlips_11 (by decide) ?_
  refine lv_istore (lv' := [(4, .int 0), (3, .int 0), (2, .int 0), (1, .int 0), (0, .ref h1)]) hx hb dX10_faultOfSlips_12 hl (by decide) rfl (fun ls hl => ?_)
  refine lp_run (x0 := (0, 0, 0, 0, 0, fs)) (fun xx_ : Nat × Nat × Nat × Nat × Nat × (Nat → Int32) => match xx_ with | (x, sa, kd, si, sm, g) => [(h1, .inr (6, [.int (nI k), v_maps, v_told, v_kinds, v_land, v_spades, v_part, .ref a_pad, .int (nI pm), .ref a_slips, .int (nI sm), v_made, v_queue, v_depth, v_by, v_from, v_come, v_offOf, v_parent, v_best, v_trees, v_least, v_sums, v_toward, v_kept, v_isKept, v_keptAt, v_isWriting])), (a_pad, .inl (gI G, 40, .inl fd)), (a_slips, .inl (gI G, 10, .inl g))]) (fun xx_ : Nat × Nat × Nat × Nat × Nat × (Nat → Int32) => match xx_ with | (x, sa, kd, si, sm, g) => [(4, .int (nI x)), (3, .int (nI si)), (2, .int (nI kd)), (1, .int (nI sa)), (0, .ref h1)]) (fun xx_ : Nat × Nat × Nat × Nat × Nat × (Nat → Int32) => match xx_ with | (x, sa, kd, si, sm, g) => (x ≤ pm) ∧ (sa ≤ 2) ∧ (kd ≤ 3) ∧ (sm ≤ 10 ∧ (1 ≤ sa → sm < 10)) ∧ (sa = 2 → kd = 0 ∧ si < k) ∧ (pl fd sm + sa = x) ∧ (psl fd pm k 10 0 = psl fd pm k (10 - sm) (pl fd sm)) ∧ (1 ≤ sa → ¬ kdO (fd (pl fd sm)) < 0 ∧ kdO (fd (pl fd sm)) = nI kd) ∧ (sa = 2 → fd (pl fd sm) = 99 ∧ dgt fd k (pl fd sm) ∧ fd (pl fd sm + 1) - 48 = nI si) ∧ (∀ i : Nat, i < sm → g i = slp fd (pl fd i) ∧ w1 fd pm k (pl fd i) = none)) (fun xx_ : Nat × Nat × Nat × Nat × Nat × (Nat → Int32) => match xx_ with | (x, sa, kd, si, sm, g) => pm - x) (hP.sub [0, 1, 2] rfl) (hD.sub [0, 1, 2] (by decide) rfl) hS (lv_sub hl [0, 1, 2, 3, 4] rfl) ⟨(by omega), by omega, by omega, by omega, by omega, by rfl, by rfl, by intro q9; omega, by intro q9; omega, by intro i hi; omega⟩ ?_
  intro xx_ hI ih14 H locs ls hP hD hS hl
  obtain ⟨x, sa, kd, si, sm, g⟩ := xx_
  dsimp only at hI ih14 hP hD hl
  obtain ⟨hx0, hsa, hkd, hsm, hsi, hpx, hpsl, hk1, hk2_, hsl⟩ := hI
  have hl : lv_has ls 7 [(4, .int (nI x)), (3, .int (nI si)), (2, .int (nI kd)), (1, .int (nI sa)), (0, .ref h1)] := hl
  have hP : va_P G.1 vwCl ([(h1, .inr (6, [.int (nI k), v_maps, v_told, v_kinds, v_land, v_spades, v_part, .ref a_pad, .int (nI pm), .ref a_slips, .int (nI sm), v_made, v_queue, v_depth, v_by, v_from, v_come, v_offOf, v_parent, v_best, v_trees, v_least, v_sums, v_toward, v_kept, v_isKept, v_keptAt, v_isWriting])), (a_pad, .inl (gI G, 40, .inl fd)), (a_slips, .inl (gI G, 10, .inl g))]) H := hP
  have hD : va_D A ([(h1, .inr (6, [.int (nI k), v_maps, v_told, v_kinds, v_land, v_spades, v_part, .ref a_pad, .int (nI pm), .ref a_slips, .int (nI sm), v_made, v_queue, v_depth, v_by, v_from, v_come, v_offOf, v_parent, v_best, v_trees, v_least, v_sums, v_toward, v_kept, v_isKept, v_keptAt, v_isWriting])), (a_pad, .inl (gI G, 40, .inl fd)), (a_slips, .inl (gI G, 10, .inl g))]) := hD
  refine lv_iload hx hb dX10_faultOfSlips_14 (lv_at hl 0 rfl) ?_
  refine lv_aload_n hx hb dX10_faultOfSlips_16 rfl (lv_at hl 4 rfl) ?_
  refine va_get (D := G.1) (ci := 6) (v := .int (nI pm)) (C := RX10) (T := TX10) (N := 28) hx hb hts (fun _ h => List.mem_cons_of_mem _ (List.mem_append_right _ h)) hown E.K hP 0 rfl rfl 8 (by decide) (hts (.fieldLink RX10 103 "LastMapModel" "padMany" "I") (by decide +kernel)) (fun _ h9 => h9) rfl dX10_faultOfSlips_17 ?_
  refine lv_icmp_ge (tgt := 218) hx hb dX10_faultOfSlips_20 (by decide) (fun c1 => ?_) (fun c1 => ?_)
  · have c1 : pm ≤ x := (nI_leI (a := pm) (b := x) (by omega) (by omega)).mp c1
    refine lv_iload_n hx hb dX10_faultOfSlips_218 rfl (lv_at hl 3 rfl) ?_
    refine lv_if_ne (tgt := 227) hx hb dX10_faultOfSlips_219 (by decide) (fun c2 => ?_) (fun c2 => ?_)
    · have c2 : ¬ sa = 0 := fun h9_ => c2 ((nI_eq (a := sa) (b := 0) (by omega) (by omega)).mpr h9_)
      refine lv_aload_n hx hb dX10_faultOfSlips_227 rfl (lv_at hl 4 rfl) ?_
      refine va_get (D := G.1) (ci := 6) (v := .int (nI pm)) (C := RX10) (T := TX10) (N := 28) hx hb hts (fun _ h => List.mem_cons_of_mem _ (List.mem_append_right _ h)) hown E.K hP 0 rfl rfl 8 (by decide) (hts (.fieldLink RX10 103 "LastMapModel" "padMany" "I") (by decide +kernel)) (fun _ h9 => h9) rfl dX10_faultOfSlips_228 ?_
      have hk := hk1 (by omega)
      have hend : psl fd pm k 10 0 = nI pm := by
        rcases (show sa = 1 ∨ sa = 2 by omega) with q9 | q9
        · exact hpsl.trans (by rw [show 10 - sm = (9 - sm) + 1 by omega]; exact psl_bad (by omega) (w1_b hk.1 (by omega)))
        · exact hpsl.trans (by rw [show 10 - sm = (9 - sm) + 1 by omega]; exact psl_bad (by omega) (w1_e hk.1 (by omega) (hk2_ q9).2.1 (hk2_ q9).1 (by omega)))
      have hP9 := (hP.sub (ws' := [(h1, .inr (6, [.int (nI k), v_maps, v_told, v_kinds, v_land, v_spades, v_part, .ref a_pad, .int (nI pm), .ref a_slips, .int (nI sm), v_made, v_queue, v_depth, v_by, v_from, v_come, v_offOf, v_parent, v_best, v_trees, v_least, v_sums, v_toward, v_kept, v_isKept, v_keptAt, v_isWriting])), (a_pad, .inl (gI G, 40, .inl fd)), (a_slips, .inl (gI G, 10, .inl g))]) [0, 1, 2] rfl)
      have hD9 := (hD.sub (ws' := [(h1, .inr (6, [.int (nI k), v_maps, v_told, v_kinds, v_land, v_spades, v_part, .ref a_pad, .int (nI pm), .ref a_slips, .int (nI sm), v_made, v_queue, v_depth, v_by, v_from, v_come, v_offOf, v_parent, v_best, v_trees, v_least, v_sums, v_toward, v_kept, v_isKept, v_keptAt, v_isWriting])), (a_pad, .inl (gI G, 40, .inl fd)), (a_slips, .inl (gI G, 10, .inl g))]) [0, 1, 2] (by decide) rfl)
      exact W.iret (v := (nI pm)) hx hb hr (fun t9_ ht9_ hW9_ => ⟨⟨nI pm, (sm, g), rfl, ⟨hsm.1, fs_ret hpm hend⟩, by rw [ht9_]; exact hP9, hD9⟩, hS.F ht9_⟩) hS.2.2 dX10_faultOfSlips_231
    · have c2 : sa = 0 := (nI_eq (a := sa) (b := 0) (by omega) (by omega)).mp c2
      refine lv_bipush (v := (-6)) hx hb dX10_faultOfSlips_222 (by decide) ?_
      refine lv_goto (tgt := 231) hx hb dX10_faultOfSlips_224 (by decide) ?_
      have hP9 := (hP.sub (ws' := [(h1, .inr (6, [.int (nI k), v_maps, v_told, v_kinds, v_land, v_spades, v_part, .ref a_pad, .int (nI pm), .ref a_slips, .int (nI sm), v_made, v_queue, v_depth, v_by, v_from, v_come, v_offOf, v_parent, v_best, v_trees, v_least, v_sums, v_toward, v_kept, v_isKept, v_keptAt, v_isWriting])), (a_pad, .inl (gI G, 40, .inl fd)), (a_slips, .inl (gI G, 10, .inl g))]) [0, 1, 2] rfl)
      have hD9 := (hD.sub (ws' := [(h1, .inr (6, [.int (nI k), v_maps, v_told, v_kinds, v_land, v_spades, v_part, .ref a_pad, .int (nI pm), .ref a_slips, .int (nI sm), v_made, v_queue, v_depth, v_by, v_from, v_come, v_offOf, v_parent, v_best, v_trees, v_least, v_sums, v_toward, v_kept, v_isKept, v_keptAt, v_isWriting])), (a_pad, .inl (gI G, 40, .inl fd)), (a_slips, .inl (gI G, 10, .inl g))]) [0, 1, 2] (by decide) rfl)
      exact W.iret (v := (-6)) hx hb hr (fun t9_ ht9_ hW9_ => ⟨⟨(-6), (sm, g), rfl, ⟨hsm.1, (hpsl.trans (psl_end (by omega))).symm, fun _ => ⟨(nS_eq (by omega)).symm, fun t9 h9 => (hsl t9 h9).1⟩⟩, by rw [ht9_]; exact hP9, hD9⟩, hS.F ht9_⟩) hS.2.2 dX10_faultOfSlips_231
  · have c1 : ¬ pm ≤ x := fun h9_ => c1 ((nI_leI (a := pm) (b := x) (by omega) (by omega)).mpr h9_)
    refine lv_aload_n hx hb dX10_faultOfSlips_23 rfl (lv_at hl 4 rfl) ?_
    refine va_get (D := G.1) (ci := 6) (v := .ref a_pad) (C := RX10) (T := TX10) (N := 28) hx hb hts (fun _ h => List.mem_cons_of_mem _ (List.mem_append_right _ h)) hown E.K hP 0 rfl rfl 7 (by decide) (hts (.fieldLink RX10 19 "LastMapModel" "pad" "[I") (by decide +kernel)) (fun _ h9 => h9) rfl dX10_faultOfSlips_24 ?_
    refine lv_iload hx hb dX10_faultOfSlips_27 (lv_at hl 0 rfl) ?_
    refine va_iald hx hb E.K hP 1 1 rfl rfl (i := nI x) (vp_in_nI (by omega) (by decide)) dX10_faultOfSlips_29 ?_
    refine lv_topi (fun x3 ex3 => ?_)
    refine lv_istore (lv' := [(5, .int x3), (4, .int (nI x)), (3, .int (nI si)), (2, .int (nI kd)), (1, .int (nI sa)), (0, .ref h1)]) hx hb dX10_faultOfSlips_30 hl (by decide) rfl (fun ls hl => ?_)
    have hcv : x3 = fd x := by rw [ex3, nI_clamp (by omega)]
    refine lv_iconst (v := 0) hx hb dX10_faultOfSlips_32 (by decide) ?_
    refine lv_istore (lv' := [(6, .int 0), (5, .int x3), (4, .int (nI x)), (3, .int (nI si)), (2, .int (nI kd)), (1, .int (nI sa)), (0, .ref h1)]) hx hb dX10_faultOfSlips_33 hl (by decide) rfl (fun ls hl => ?_)
    refine lv_iload_n hx hb dX10_faultOfSlips_35 rfl (lv_at hl 5 rfl) ?_
    refine lv_if_ne (tgt := 67) hx hb dX10_faultOfSlips_36 (by decide) (fun c4 => ?_) (fun c4 => ?_)
    · have c4 : ¬ sa = 0 := fun h9_ => c4 ((nI_eq (a := sa) (b := 0) (by omega) (by omega)).mpr h9_)
      refine lv_iload_n hx hb dX10_faultOfSlips_67 rfl (lv_at hl 5 rfl) ?_
      refine lv_iconst (v := 1) hx hb dX10_faultOfSlips_68 (by decide) ?_
      refine lv_icmp_ne (tgt := 134) hx hb dX10_faultOfSlips_69 (by decide) (fun c5 => ?_) (fun c5 => ?_)
      · have c5 : ¬ sa = 1 := fun h9_ => c5 ((nI_eq (a := sa) (b := 1) (by omega) (by omega)).mpr h9_)
        refine lv_iload_n hx hb dX10_faultOfSlips_134 rfl (lv_at hl 5 rfl) ?_
        refine lv_iconst (v := 2) hx hb dX10_faultOfSlips_135 (by decide) ?_
        refine lv_icmp_ne (tgt := 160) hx hb dX10_faultOfSlips_136 (by decide) (fun c6 => False.elim (c6 (by rw [show sa = 2 by omega]; rfl))) (fun c6 => ?_)
        have hx2 : x = pl fd sm + 2 := by omega
        have hk := hk1 (by omega)
        have hkk := hk2_ (by omega)
        have hkz := hsi (by omega)
        refine lv_iload hx hb dX10_faultOfSlips_139 (lv_at hl 1 rfl) ?_
        refine lv_i2l hx hb dX10_faultOfSlips_141 rfl ?_
        refine lv_topl (fun x7 ex7 => ?_)
        refine lv_ldc2 (v := 97) hx hb hown (hts (.constantLong RX10 95 (97)) (by decide +kernel)) dX10_faultOfSlips_142 ?_
        refine lv_ldc2 (v := 100) hx hb hown (hts (.constantLong RX10 97 (100)) (by decide +kernel)) dX10_faultOfSlips_145 ?_
        refine ca_iR (va_runS (As := [.long x7, .long 97, .long 100]) (rest := []) ⟨hx, hb, hml, hown, hts⟩ (m_in l G H.size x7 97 100 x3 97 100 ex7 (by decide) (by decide)) (va_cwS 3 hts gX10_faultOfSlips_X10_in rfl rfl rfl (by decide +kernel) ⟨by decide +kernel, by decide +kernel⟩) (pre_S E hP hD hS hA [] (by decide) rfl) rfl rfl hl.1 rfl (lv_room (Nat.le_of_ble_eq_true rfl)) dX10_faultOfSlips_148 ⟨by decide +kernel, by decide +kernel⟩) hS hP hD hA [] rfl (fun r9 _ H locs w8 hP hS => ?_)
        rcases w8 with ⟨rfl, b10⟩ | ⟨rfl, b10⟩
        · refine lv_if_eq (tgt := 160) hx hb dX10_faultOfSlips_151 (by decide) (fun c11 => False.elim (by revert c11; decide)) (fun _ => ?_)
          refine lv_iconst (v := 1) hx hb dX10_faultOfSlips_154 (by decide) ?_
          refine lv_istore (lv' := [(6, .int 1), (5, .int x3), (4, .int (nI x)), (3, .int (nI si)), (2, .int (nI kd)), (1, .int (nI sa)), (0, .ref h1)]) hx hb dX10_faultOfSlips_155 hl (by decide) rfl (fun ls hl => ?_)
          refine lv_goto (tgt := 163) hx hb dX10_faultOfSlips_157 (by decide) ?_
          refine lv_iload hx hb dX10_faultOfSlips_163 (lv_at hl 0 rfl) ?_
          refine lv_if_eq (tgt := 212) hx hb dX10_faultOfSlips_165 (by decide) (fun c12 => False.elim (by revert c12; decide)) (fun _ => ?_)
          refine lv_aload_n hx hb dX10_faultOfSlips_168 rfl (lv_at hl 6 rfl) ?_
          refine va_get (D := G.1) (ci := 6) (v := .ref a_slips) (C := RX10) (T := TX10) (N := 28) hx hb hts (fun _ h => List.mem_cons_of_mem _ (List.mem_append_right _ h)) hown E.K hP 0 rfl rfl 9 (by decide) (hts (.fieldLink RX10 22 "LastMapModel" "slips" "[I") (by decide +kernel)) (fun _ h9 => h9) rfl dX10_faultOfSlips_169 ?_
          refine lv_aload_n hx hb dX10_faultOfSlips_172 rfl (lv_at hl 6 rfl) ?_
          refine va_get (D := G.1) (ci := 6) (v := .int (nI sm)) (C := RX10) (T := TX10) (N := 28) hx hb hts (fun _ h => List.mem_cons_of_mem _ (List.mem_append_right _ h)) hown E.K hP 0 rfl rfl 10 (by decide) (hts (.fieldLink RX10 110 "LastMapModel" "slipMany" "I") (by decide +kernel)) (fun _ h9 => h9) rfl dX10_faultOfSlips_173 ?_
          refine lv_bipush (v := 100) hx hb dX10_faultOfSlips_176 (by decide) ?_
          refine lv_iload_n hx hb dX10_faultOfSlips_178 rfl (lv_at hl 4 rfl) ?_
          refine lv_imul hx hb dX10_faultOfSlips_179 ?_
          refine lv_topi (fun x13 ex13 => ?_)
          obtain rfl : x13 = nI (100 * kd) := by rw [ex13]; exact pk_mul 100 kd
          refine lv_bipush (v := 10) hx hb dX10_faultOfSlips_180 (by decide) ?_
          refine lv_iload_n hx hb dX10_faultOfSlips_182 rfl (lv_at hl 3 rfl) ?_
          refine lv_imul hx hb dX10_faultOfSlips_183 ?_
          refine lv_topi (fun x14 ex14 => ?_)
          obtain rfl : x14 = nI (10 * si) := by rw [ex14]; exact pk_mul 10 si
          refine lv_iadd hx hb dX10_faultOfSlips_184 ?_
          refine lv_topi (fun x15 ex15 => ?_)
          obtain rfl : x15 = nI ((100 * kd) + (10 * si)) := by rw [ex15]; exact nI_add (100 * kd) (10 * si)
          refine lv_iload_n hx hb dX10_faultOfSlips_185 rfl (lv_at hl 4 rfl) ?_
          refine lv_if_ne (tgt := 197) hx hb dX10_faultOfSlips_186 (by decide) (fun c16 => absurd (show nI kd = 0 by rw [hkz.1]; rfl) c16) (fun c16 => ?_)
          refine lv_iload hx hb dX10_faultOfSlips_189 (lv_at hl 1 rfl) ?_
          refine lv_bipush (v := 97) hx hb dX10_faultOfSlips_191 (by decide) ?_
          refine lv_isub hx hb dX10_faultOfSlips_193 ?_
          refine lv_topi (fun x17 ex17 => ?_)
          obtain ⟨mg9, hmg9, emg9⟩ := sub97 b10
          obtain rfl : x17 = nI mg9 := by rw [ex17]; exact emg9
          refine lv_goto (tgt := 198) hx hb dX10_faultOfSlips_194 (by decide) ?_
          refine lv_iadd hx hb dX10_faultOfSlips_198 ?_
          refine lv_topi (fun x18 ex18 => ?_)
          obtain rfl : x18 = nI (((100 * kd) + (10 * si)) + mg9) := by rw [ex18]; exact nI_add ((100 * kd) + (10 * si)) mg9
          have hw1 : w1 fd pm k (pl fd sm) = none := w1_g hk.1 (by omega) hkk.2.1 hkk.1 (by omega) (by rw [← hx2, ← hcv]; exact b10)
          have hls := lenS_3 hkk.1
          have hsv : slp fd (pl fd sm) = nI (((100 * kd) + (10 * si)) + mg9) := slp_c hk.2 hkk.1 hkk.2.2 (by rw [← hx2, ← hcv]; exact emg9)
          refine va_iast hx hb E.K hP hD hS 2 1 rfl rfl (i := nI sm) (vp_in_nI (by omega) (by decide)) dX10_faultOfSlips_199 (fun H locs hP hD hS => ?_)
          obtain ⟨f19, ef19⟩ : ∃ yy_ : Nat → Int32, yy_ = upd g (nI sm).toNatClampNeg (nI (((100 * kd) + (10 * si)) + mg9)) := ⟨_, rfl⟩
          have hP : va_P G.1 vwCl ([(h1, .inr (6, [.int (nI k), v_maps, v_told, v_kinds, v_land, v_spades, v_part, .ref a_pad, .int (nI pm), .ref a_slips, .int (nI sm), v_made, v_queue, v_depth, v_by, v_from, v_come, v_offOf, v_parent, v_best, v_trees, v_least, v_sums, v_toward, v_kept, v_isKept, v_keptAt, v_isWriting])), (a_pad, .inl (gI G, 40, .inl fd)), (a_slips, .inl (gI G, 10, .inl f19))]) H := by rw [ef19]; exact hP
          have hD : va_D A ([(h1, .inr (6, [.int (nI k), v_maps, v_told, v_kinds, v_land, v_spades, v_part, .ref a_pad, .int (nI pm), .ref a_slips, .int (nI sm), v_made, v_queue, v_depth, v_by, v_from, v_come, v_offOf, v_parent, v_best, v_trees, v_least, v_sums, v_toward, v_kept, v_isKept, v_keptAt, v_isWriting])), (a_pad, .inl (gI G, 40, .inl fd)), (a_slips, .inl (gI G, 10, .inl f19))]) := by rw [ef19]; exact hD
          refine lv_aload_n hx hb dX10_faultOfSlips_200 rfl (lv_at hl 6 rfl) ?_
          refine lv_dup hx hb dX10_faultOfSlips_201 rfl ?_
          refine va_get (D := G.1) (ci := 6) (v := .int (nI sm)) (C := RX10) (T := TX10) (N := 28) hx hb hts (fun _ h => List.mem_cons_of_mem _ (List.mem_append_right _ h)) hown E.K hP 0 rfl rfl 10 (by decide) (hts (.fieldLink RX10 110 "LastMapModel" "slipMany" "I") (by decide +kernel)) (fun _ h9 => h9) rfl dX10_faultOfSlips_202 ?_
          refine lv_iconst (v := 1) hx hb dX10_faultOfSlips_205 (by decide) ?_
          refine lv_iadd hx hb dX10_faultOfSlips_206 ?_
          refine lv_topi (fun x20 ex20 => ?_)
          obtain rfl : x20 = nI (sm + 1) := by rw [ex20]; exact nI_add sm 1
          refine va_put (D := G.1) (ci := 6) (v := .int (nI (sm + 1))) (ty := .int) (C := RX10) (T := TX10) (N := 28) hx hb hts (fun _ h => List.mem_cons_of_mem _ (List.mem_append_right _ h)) tyX10 tyX10_ok nmX10 hown E.K hP hD hS 0 rfl rfl 10 (by decide) (hts (.fieldLink RX10 110 "LastMapModel" "slipMany" "I") (by decide +kernel)) (fun _ h9 => h9) rfl (by decide +kernel) rfl rfl (Nat.le_of_ble_eq_true rfl) dX10_faultOfSlips_207 (fun H locs hP hD hS => ?_)
          have hP : va_P G.1 vwCl ([(h1, .inr (6, [.int (nI k), v_maps, v_told, v_kinds, v_land, v_spades, v_part, .ref a_pad, .int (nI pm), .ref a_slips, .int (nI (sm + 1)), v_made, v_queue, v_depth, v_by, v_from, v_come, v_offOf, v_parent, v_best, v_trees, v_least, v_sums, v_toward, v_kept, v_isKept, v_keptAt, v_isWriting])), (a_pad, .inl (gI G, 40, .inl fd)), (a_slips, .inl (gI G, 10, .inl f19))]) H := hP
          have hD : va_D A ([(h1, .inr (6, [.int (nI k), v_maps, v_told, v_kinds, v_land, v_spades, v_part, .ref a_pad, .int (nI pm), .ref a_slips, .int (nI (sm + 1)), v_made, v_queue, v_depth, v_by, v_from, v_come, v_offOf, v_parent, v_best, v_trees, v_least, v_sums, v_toward, v_kept, v_isKept, v_keptAt, v_isWriting])), (a_pad, .inl (gI G, 40, .inl fd)), (a_slips, .inl (gI G, 10, .inl f19))]) := hD
          refine lv_iconst (v := 0) hx hb dX10_faultOfSlips_210 (by decide) ?_
          refine lv_istore_n (lv' := [(1, .int 0), (6, .int 1), (5, .int x3), (4, .int (nI x)), (3, .int (nI si)), (2, .int (nI kd)), (0, .ref h1)]) hx hb dX10_faultOfSlips_211 rfl hl (by decide) rfl (fun ls hl => ?_)
          obtain ⟨x21, ex21⟩ : ∃ yy_ : Int32, yy_ = (nI x) + 1 := ⟨_, rfl⟩
          refine lv_iinc (v := x21) (lv' := [(4, .int x21), (1, .int 0), (6, .int 1), (5, .int x3), (3, .int (nI si)), (2, .int (nI kd)), (0, .ref h1)]) hx hb dX10_faultOfSlips_212 hl (k := 3) rfl (by rw [ex21]; rfl) (by decide) rfl (fun ls hl => ?_)
          obtain rfl : x21 = nI (x + 1) := by rw [ex21]; exact nI_add x 1
          refine lv_goto (tgt := 14) hx hb dX10_faultOfSlips_215 (by decide) ?_
          refine ih14 ((x + 1), 0, kd, si, (sm + 1), f19) ⟨?_, ?_, ?_, ?_, ?_, ?_, ?_, ?_, ?_, ?_⟩ (by first | omega | (dsimp only; omega)) H locs ls (hP.sub [0, 1, 2] rfl) (hD.sub [0, 1, 2] (by decide) rfl) hS (lv_sub hl [0, 4, 5, 1, 6] rfl)
          · try dsimp only
            omega
          · try dsimp only
            omega
          · try dsimp only
            omega
          · try dsimp only
            omega
          · try dsimp only
            omega
          · try dsimp only
            show pl fd sm + lenS fd (pl fd sm) + 0 = x + 1; omega
          · try dsimp only
            rw [hpsl, show 10 - sm = (10 - (sm + 1)) + 1 by omega]; exact psl_go (by omega) hw1
          · try dsimp only
            intro q9; omega
          · try dsimp only
            intro q9; omega
          · try dsimp only
            intro i9 hi9; rw [ef19, nI_clamp (by omega)]
            by_cases e9 : i9 = sm
            · rw [e9, pk_us]; exact ⟨hsv.symm, hw1⟩
            · rw [pk_un e9]; exact hsl i9 (by omega)
        · refine lv_if_eq (tgt := 160) hx hb dX10_faultOfSlips_151 (by decide) (fun _ => ?_) (fun c22 => False.elim (by revert c22; decide))
          refine lv_iload hx hb dX10_faultOfSlips_160 (lv_at hl 2 rfl) ?_
          have hP9 := (hP.sub (ws' := [(h1, .inr (6, [.int (nI k), v_maps, v_told, v_kinds, v_land, v_spades, v_part, .ref a_pad, .int (nI pm), .ref a_slips, .int (nI sm), v_made, v_queue, v_depth, v_by, v_from, v_come, v_offOf, v_parent, v_best, v_trees, v_least, v_sums, v_toward, v_kept, v_isKept, v_keptAt, v_isWriting])), (a_pad, .inl (gI G, 40, .inl fd)), (a_slips, .inl (gI G, 10, .inl g))]) [0, 1, 2] rfl)
          have hD9 := (hD.sub (ws' := [(h1, .inr (6, [.int (nI k), v_maps, v_told, v_kinds, v_land, v_spades, v_part, .ref a_pad, .int (nI pm), .ref a_slips, .int (nI sm), v_made, v_queue, v_depth, v_by, v_from, v_come, v_offOf, v_parent, v_best, v_trees, v_least, v_sums, v_toward, v_kept, v_isKept, v_keptAt, v_isWriting])), (a_pad, .inl (gI G, 40, .inl fd)), (a_slips, .inl (gI G, 10, .inl g))]) [0, 1, 2] (by decide) rfl)
          exact W.iret (v := (nI x)) hx hb hr (fun t9_ ht9_ hW9_ => ⟨⟨nI x, (sm, g), rfl, ⟨hsm.1, fs_ret (by omega) (hpsl.trans (by rw [show 10 - sm = (9 - sm) + 1 by omega]; exact (psl_bad (by omega) (w1_f hk.1 (by omega) hkk.2.1 hkk.1 (by omega) (fun q9 => b10 (by rw [hcv, hx2]; exact q9)))).trans (by rw [hx2])))⟩, by rw [ht9_]; exact hP9, hD9⟩, hS.F ht9_⟩) hS.2.2 dX10_faultOfSlips_162
      · have c5 : sa = 1 := (nI_eq (a := sa) (b := 1) (by omega) (by omega)).mp c5
        have hx1 : x = pl fd sm + 1 := by omega
        have hk := hk1 (by omega)
        refine lv_iload hx hb dX10_faultOfSlips_72 (lv_at hl 1 rfl) ?_
        refine lv_bipush (v := 48) hx hb dX10_faultOfSlips_74 (by decide) ?_
        refine lv_isub hx hb dX10_faultOfSlips_76 ?_
        refine lv_topi (fun x23 ex23 => ?_)
        have hsx : x23 = fd (pl fd sm + 1) - 48 := by rw [ex23, hcv, hx1]
        refine lv_i2l hx hb dX10_faultOfSlips_77 rfl ?_
        refine lv_topl (fun x24 ex24 => ?_)
        refine lv_lconst (v := 0) hx hb dX10_faultOfSlips_78 (by decide) ?_
        refine lv_iload_n hx hb dX10_faultOfSlips_79 rfl (lv_at hl 4 rfl) ?_
        refine lv_iconst (v := 1) hx hb dX10_faultOfSlips_80 (by decide) ?_
        refine lv_icmp_eq (tgt := 89) hx hb dX10_faultOfSlips_81 (by decide) (fun c25 => ?_) (fun c25 => ?_)
        · have c25 : kd = 1 := (nI_eq (a := kd) (b := 1) (by omega) (by omega)).mp c25
          refine lv_aload_n hx hb dX10_faultOfSlips_89 rfl (lv_at hl 6 rfl) ?_
          refine va_get (D := G.1) (ci := 6) (v := .int (nI k)) (C := RX10) (T := TX10) (N := 28) hx hb hts (fun _ h => List.mem_cons_of_mem _ (List.mem_append_right _ h)) hown E.K hP 0 rfl rfl 0 (by decide) (hts (.fieldLink RX10 67 "LastMapModel" "sites" "I") (by decide +kernel)) (fun _ h9 => h9) rfl dX10_faultOfSlips_90 ?_
          refine lv_iconst (v := 2) hx hb dX10_faultOfSlips_93 (by decide) ?_
          refine lv_isub hx hb dX10_faultOfSlips_94 ?_
          refine lv_topi (fun x26 ex26 => ?_)
          obtain rfl : x26 = nI (k - 2) := by rw [ex26]; exact pk_sub (show 2 ≤ k by omega)
          refine lv_i2l hx hb dX10_faultOfSlips_95 rfl ?_
          refine lv_topl (fun x27 ex27 => ?_)
          refine lv_goto (tgt := 106) hx hb dX10_faultOfSlips_96 (by decide) ?_
          refine ca_iR (va_runS (As := [.long x24, .long 0, .long x27]) (rest := []) ⟨hx, hb, hml, hown, hts⟩ (m_in l G H.size x24 0 x27 x23 0 (nI (k - 2)) ex24 (by decide) ex27) (va_cwS 3 hts gX10_faultOfSlips_X10_in rfl rfl rfl (by decide +kernel) ⟨by decide +kernel, by decide +kernel⟩) (pre_S E hP hD hS hA [] (by decide) rfl) rfl rfl hl.1 rfl (lv_room (Nat.le_of_ble_eq_true rfl)) dX10_faultOfSlips_106 ⟨by decide +kernel, by decide +kernel⟩) hS hP hD hA [] rfl (fun r29 _ H locs w28 hP hS => ?_)
          rcases w28 with ⟨rfl, b30⟩ | ⟨rfl, b30⟩
          · refine lv_if_eq (tgt := 134) hx hb dX10_faultOfSlips_109 (by decide) (fun c31 => False.elim (by revert c31; decide)) (fun _ => ?_)
            have hdg : dgt fd k (pl fd sm) := (dgt_12 hk.2 (by omega)).mpr (by rw [← hsx]; exact b30)
            refine lv_iload hx hb dX10_faultOfSlips_112 (lv_at hl 1 rfl) ?_
            refine lv_bipush (v := 48) hx hb dX10_faultOfSlips_114 (by decide) ?_
            refine lv_isub hx hb dX10_faultOfSlips_116 ?_
            refine lv_topi (fun x32 ex32 => ?_)
            obtain ⟨si9, hsi9, esi9⟩ := inRn (by omega) b30
            obtain rfl : x32 = nI si9 := by rw [ex32, ← ex23]; exact esi9
            refine lv_istore_n (lv' := [(3, .int (nI si9)), (6, .int 0), (5, .int x3), (4, .int (nI x)), (2, .int (nI kd)), (1, .int (nI sa)), (0, .ref h1)]) hx hb dX10_faultOfSlips_117 rfl hl (by decide) rfl (fun ls hl => ?_)
            refine lv_iconst (v := 2) hx hb dX10_faultOfSlips_118 (by decide) ?_
            refine lv_istore_n (lv' := [(1, .int 2), (3, .int (nI si9)), (6, .int 0), (5, .int x3), (4, .int (nI x)), (2, .int (nI kd)), (0, .ref h1)]) hx hb dX10_faultOfSlips_119 rfl hl (by decide) rfl (fun ls hl => ?_)
            refine lv_iload_n hx hb dX10_faultOfSlips_120 rfl (lv_at hl 5 rfl) ?_
            refine lv_if_eq (tgt := 128) hx hb dX10_faultOfSlips_121 (by decide) (fun c33 => ?_) (fun c33 => ?_)
            · have c33 : kd = 0 := (nI_eq (a := kd) (b := 0) (by omega) (by omega)).mp c33
              refine lv_iconst (v := 0) hx hb dX10_faultOfSlips_128 (by decide) ?_
              refine lv_istore (lv' := [(6, .int 0), (1, .int 2), (3, .int (nI si9)), (5, .int x3), (4, .int (nI x)), (2, .int (nI kd)), (0, .ref h1)]) hx hb dX10_faultOfSlips_129 hl (by decide) rfl (fun ls hl => ?_)
              refine lv_goto (tgt := 163) hx hb dX10_faultOfSlips_131 (by decide) ?_
              refine lv_iload hx hb dX10_faultOfSlips_163 (lv_at hl 0 rfl) ?_
              refine lv_if_eq (tgt := 212) hx hb dX10_faultOfSlips_165 (by decide) (fun _ => ?_) (fun c34 => False.elim (by revert c34; decide))
              obtain ⟨x35, ex35⟩ : ∃ yy_ : Int32, yy_ = (nI x) + 1 := ⟨_, rfl⟩
              refine lv_iinc (v := x35) (lv' := [(4, .int x35), (6, .int 0), (1, .int 2), (3, .int (nI si9)), (5, .int x3), (2, .int (nI kd)), (0, .ref h1)]) hx hb dX10_faultOfSlips_212 hl (k := 4) rfl (by rw [ex35]; rfl) (by decide) rfl (fun ls hl => ?_)
              obtain rfl : x35 = nI (x + 1) := by rw [ex35]; exact nI_add x 1
              refine lv_goto (tgt := 14) hx hb dX10_faultOfSlips_215 (by decide) ?_
              refine ih14 ((x + 1), 2, kd, si9, sm, g) ⟨?_, ?_, ?_, ?_, ?_, ?_, ?_, ?_, ?_, ?_⟩ (by first | omega | (dsimp only; omega)) H locs ls (hP.sub [0, 1, 2] rfl) (hD.sub [0, 1, 2] (by decide) rfl) hS (lv_sub hl [0, 3, 5, 2, 6] rfl)
              · try dsimp only
                omega
              · try dsimp only
                omega
              · try dsimp only
                omega
              · try dsimp only
                omega
              · try dsimp only
                omega
              · try dsimp only
                omega
              · try dsimp only
                exact hpsl
              · try dsimp only
                exact fun _ => hk
              · try dsimp only
                exact fun _ => ⟨kdO_99 (by rw [hk.2, show kd = 0 by omega]; rfl), hdg, by rw [← hsx]; exact esi9⟩
              · try dsimp only
                exact hsl
            · have c33 : ¬ kd = 0 := fun h9_ => c33 ((nI_eq (a := kd) (b := 0) (by omega) (by omega)).mpr h9_)
              refine lv_iconst (v := 1) hx hb dX10_faultOfSlips_124 (by decide) ?_
              refine lv_goto (tgt := 129) hx hb dX10_faultOfSlips_125 (by decide) ?_
              refine lv_istore (lv' := [(6, .int 1), (1, .int 2), (3, .int (nI si9)), (5, .int x3), (4, .int (nI x)), (2, .int (nI kd)), (0, .ref h1)]) hx hb dX10_faultOfSlips_129 hl (by decide) rfl (fun ls hl => ?_)
              refine lv_goto (tgt := 163) hx hb dX10_faultOfSlips_131 (by decide) ?_
              refine lv_iload hx hb dX10_faultOfSlips_163 (lv_at hl 0 rfl) ?_
              refine lv_if_eq (tgt := 212) hx hb dX10_faultOfSlips_165 (by decide) (fun c36 => False.elim (by revert c36; decide)) (fun _ => ?_)
              refine lv_aload_n hx hb dX10_faultOfSlips_168 rfl (lv_at hl 6 rfl) ?_
              refine va_get (D := G.1) (ci := 6) (v := .ref a_slips) (C := RX10) (T := TX10) (N := 28) hx hb hts (fun _ h => List.mem_cons_of_mem _ (List.mem_append_right _ h)) hown E.K hP 0 rfl rfl 9 (by decide) (hts (.fieldLink RX10 22 "LastMapModel" "slips" "[I") (by decide +kernel)) (fun _ h9 => h9) rfl dX10_faultOfSlips_169 ?_
              refine lv_aload_n hx hb dX10_faultOfSlips_172 rfl (lv_at hl 6 rfl) ?_
              refine va_get (D := G.1) (ci := 6) (v := .int (nI sm)) (C := RX10) (T := TX10) (N := 28) hx hb hts (fun _ h => List.mem_cons_of_mem _ (List.mem_append_right _ h)) hown E.K hP 0 rfl rfl 10 (by decide) (hts (.fieldLink RX10 110 "LastMapModel" "slipMany" "I") (by decide +kernel)) (fun _ h9 => h9) rfl dX10_faultOfSlips_173 ?_
              refine lv_bipush (v := 100) hx hb dX10_faultOfSlips_176 (by decide) ?_
              refine lv_iload_n hx hb dX10_faultOfSlips_178 rfl (lv_at hl 5 rfl) ?_
              refine lv_imul hx hb dX10_faultOfSlips_179 ?_
              refine lv_topi (fun x37 ex37 => ?_)
              obtain rfl : x37 = nI (100 * kd) := by rw [ex37]; exact pk_mul 100 kd
              refine lv_bipush (v := 10) hx hb dX10_faultOfSlips_180 (by decide) ?_
              refine lv_iload_n hx hb dX10_faultOfSlips_182 rfl (lv_at hl 2 rfl) ?_
              refine lv_imul hx hb dX10_faultOfSlips_183 ?_
              refine lv_topi (fun x38 ex38 => ?_)
              obtain rfl : x38 = nI (10 * si9) := by rw [ex38]; exact pk_mul 10 si9
              refine lv_iadd hx hb dX10_faultOfSlips_184 ?_
              refine lv_topi (fun x39 ex39 => ?_)
              obtain rfl : x39 = nI ((100 * kd) + (10 * si9)) := by rw [ex39]; exact nI_add (100 * kd) (10 * si9)
              refine lv_iload_n hx hb dX10_faultOfSlips_185 rfl (lv_at hl 5 rfl) ?_
              refine lv_if_ne (tgt := 197) hx hb dX10_faultOfSlips_186 (by decide) (fun c40 => ?_) (fun c40 => False.elim (by have q9 := (nI_eq (a := kd) (b := 0) (by omega) (by omega)).mp c40; omega))
              refine lv_iconst (v := 0) hx hb dX10_faultOfSlips_197 (by decide) ?_
              refine lv_iadd hx hb dX10_faultOfSlips_198 ?_
              refine lv_topi (fun x41 ex41 => ?_)
              obtain rfl : x41 = nI (((100 * kd) + (10 * si9)) + 0) := by rw [ex41]; exact nI_add ((100 * kd) + (10 * si9)) 0
              have hn99 := kdO_n99 hk.2 hkd (by omega)
              have hw1 : w1 fd pm k (pl fd sm) = none := w1_d hk.1 (by omega) hdg hn99
              have hls := lenS_2 hn99
              have hsv : slp fd (pl fd sm) = nI (((100 * kd) + (10 * si9)) + 0) := slp_n hk.2 hn99 (by rw [← hsx]; exact esi9)
              refine va_iast hx hb E.K hP hD hS 2 1 rfl rfl (i := nI sm) (vp_in_nI (by omega) (by decide)) dX10_faultOfSlips_199 (fun H locs hP hD hS => ?_)
              obtain ⟨f42, ef42⟩ : ∃ yy_ : Nat → Int32, yy_ = upd g (nI sm).toNatClampNeg (nI (((100 * kd) + (10 * si9)) + 0)) := ⟨_, rfl⟩
              have hP : va_P G.1 vwCl ([(h1, .inr (6, [.int (nI k), v_maps, v_told, v_kinds, v_land, v_spades, v_part, .ref a_pad, .int (nI pm), .ref a_slips, .int (nI sm), v_made, v_queue, v_depth, v_by, v_from, v_come, v_offOf, v_parent, v_best, v_trees, v_least, v_sums, v_toward, v_kept, v_isKept, v_keptAt, v_isWriting])), (a_pad, .inl (gI G, 40, .inl fd)), (a_slips, .inl (gI G, 10, .inl f42))]) H := by rw [ef42]; exact hP
              have hD : va_D A ([(h1, .inr (6, [.int (nI k), v_maps, v_told, v_kinds, v_land, v_spades, v_part, .ref a_pad, .int (nI pm), .ref a_slips, .int (nI sm), v_made, v_queue, v_depth, v_by, v_from, v_come, v_offOf, v_parent, v_best, v_trees, v_least, v_sums, v_toward, v_kept, v_isKept, v_keptAt, v_isWriting])), (a_pad, .inl (gI G, 40, .inl fd)), (a_slips, .inl (gI G, 10, .inl f42))]) := by rw [ef42]; exact hD
              refine lv_aload_n hx hb dX10_faultOfSlips_200 rfl (lv_at hl 6 rfl) ?_
              refine lv_dup hx hb dX10_faultOfSlips_201 rfl ?_
              refine va_get (D := G.1) (ci := 6) (v := .int (nI sm)) (C := RX10) (T := TX10) (N := 28) hx hb hts (fun _ h => List.mem_cons_of_mem _ (List.mem_append_right _ h)) hown E.K hP 0 rfl rfl 10 (by decide) (hts (.fieldLink RX10 110 "LastMapModel" "slipMany" "I") (by decide +kernel)) (fun _ h9 => h9) rfl dX10_faultOfSlips_202 ?_
              refine lv_iconst (v := 1) hx hb dX10_faultOfSlips_205 (by decide) ?_
              refine lv_iadd hx hb dX10_faultOfSlips_206 ?_
              refine lv_topi (fun x43 ex43 => ?_)
              obtain rfl : x43 = nI (sm + 1) := by rw [ex43]; exact nI_add sm 1
              refine va_put (D := G.1) (ci := 6) (v := .int (nI (sm + 1))) (ty := .int) (C := RX10) (T := TX10) (N := 28) hx hb hts (fun _ h => List.mem_cons_of_mem _ (List.mem_append_right _ h)) tyX10 tyX10_ok nmX10 hown E.K hP hD hS 0 rfl rfl 10 (by decide) (hts (.fieldLink RX10 110 "LastMapModel" "slipMany" "I") (by decide +kernel)) (fun _ h9 => h9) rfl (by decide +kernel) rfl rfl (Nat.le_of_ble_eq_true rfl) dX10_faultOfSlips_207 (fun H locs hP hD hS => ?_)
              have hP : va_P G.1 vwCl ([(h1, .inr (6, [.int (nI k), v_maps, v_told, v_kinds, v_land, v_spades, v_part, .ref a_pad, .int (nI pm), .ref a_slips, .int (nI (sm + 1)), v_made, v_queue, v_depth, v_by, v_from, v_come, v_offOf, v_parent, v_best, v_trees, v_least, v_sums, v_toward, v_kept, v_isKept, v_keptAt, v_isWriting])), (a_pad, .inl (gI G, 40, .inl fd)), (a_slips, .inl (gI G, 10, .inl f42))]) H := hP
              have hD : va_D A ([(h1, .inr (6, [.int (nI k), v_maps, v_told, v_kinds, v_land, v_spades, v_part, .ref a_pad, .int (nI pm), .ref a_slips, .int (nI (sm + 1)), v_made, v_queue, v_depth, v_by, v_from, v_come, v_offOf, v_parent, v_best, v_trees, v_least, v_sums, v_toward, v_kept, v_isKept, v_keptAt, v_isWriting])), (a_pad, .inl (gI G, 40, .inl fd)), (a_slips, .inl (gI G, 10, .inl f42))]) := hD
              refine lv_iconst (v := 0) hx hb dX10_faultOfSlips_210 (by decide) ?_
              refine lv_istore_n (lv' := [(1, .int 0), (6, .int 1), (3, .int (nI si9)), (5, .int x3), (4, .int (nI x)), (2, .int (nI kd)), (0, .ref h1)]) hx hb dX10_faultOfSlips_211 rfl hl (by decide) rfl (fun ls hl => ?_)
              obtain ⟨x44, ex44⟩ : ∃ yy_ : Int32, yy_ = (nI x) + 1 := ⟨_, rfl⟩
              refine lv_iinc (v := x44) (lv' := [(4, .int x44), (1, .int 0), (6, .int 1), (3, .int (nI si9)), (5, .int x3), (2, .int (nI kd)), (0, .ref h1)]) hx hb dX10_faultOfSlips_212 hl (k := 4) rfl (by rw [ex44]; rfl) (by decide) rfl (fun ls hl => ?_)
              obtain rfl : x44 = nI (x + 1) := by rw [ex44]; exact nI_add x 1
              refine lv_goto (tgt := 14) hx hb dX10_faultOfSlips_215 (by decide) ?_
              refine ih14 ((x + 1), 0, kd, si9, (sm + 1), f42) ⟨?_, ?_, ?_, ?_, ?_, ?_, ?_, ?_, ?_, ?_⟩ (by first | omega | (dsimp only; omega)) H locs ls (hP.sub [0, 1, 2] rfl) (hD.sub [0, 1, 2] (by decide) rfl) hS (lv_sub hl [0, 3, 5, 1, 6] rfl)
              · try dsimp only
                omega
              · try dsimp only
                omega
              · try dsimp only
                omega
              · try dsimp only
                omega
              · try dsimp only
                omega
              · try dsimp only
                show pl fd sm + lenS fd (pl fd sm) + 0 = x + 1; omega
              · try dsimp only
                rw [hpsl, show 10 - sm = (10 - (sm + 1)) + 1 by omega]; exact psl_go (by omega) hw1
              · try dsimp only
                intro q9; omega
              · try dsimp only
                intro q9; omega
              · try dsimp only
                intro i9 hi9; rw [ef42, nI_clamp (by omega)]
                by_cases e9 : i9 = sm
                · rw [e9, pk_us]; exact ⟨hsv.symm, hw1⟩
                · rw [pk_un e9]; exact hsl i9 (by omega)
          · refine lv_if_eq (tgt := 134) hx hb dX10_faultOfSlips_109 (by decide) (fun _ => ?_) (fun c45 => False.elim (by revert c45; decide))
            refine lv_iload_n hx hb dX10_faultOfSlips_134 rfl (lv_at hl 5 rfl) ?_
            refine lv_iconst (v := 2) hx hb dX10_faultOfSlips_135 (by decide) ?_
            refine lv_icmp_ne (tgt := 160) hx hb dX10_faultOfSlips_136 (by decide) (fun c46 => ?_) (fun c46 => False.elim (by have q9 := (nI_eq (a := sa) (b := 2) (by omega) (by omega)).mp c46; omega))
            refine lv_iload hx hb dX10_faultOfSlips_160 (lv_at hl 2 rfl) ?_
            have hP9 := (hP.sub (ws' := [(h1, .inr (6, [.int (nI k), v_maps, v_told, v_kinds, v_land, v_spades, v_part, .ref a_pad, .int (nI pm), .ref a_slips, .int (nI sm), v_made, v_queue, v_depth, v_by, v_from, v_come, v_offOf, v_parent, v_best, v_trees, v_least, v_sums, v_toward, v_kept, v_isKept, v_keptAt, v_isWriting])), (a_pad, .inl (gI G, 40, .inl fd)), (a_slips, .inl (gI G, 10, .inl g))]) [0, 1, 2] rfl)
            have hD9 := (hD.sub (ws' := [(h1, .inr (6, [.int (nI k), v_maps, v_told, v_kinds, v_land, v_spades, v_part, .ref a_pad, .int (nI pm), .ref a_slips, .int (nI sm), v_made, v_queue, v_depth, v_by, v_from, v_come, v_offOf, v_parent, v_best, v_trees, v_least, v_sums, v_toward, v_kept, v_isKept, v_keptAt, v_isWriting])), (a_pad, .inl (gI G, 40, .inl fd)), (a_slips, .inl (gI G, 10, .inl g))]) [0, 1, 2] (by decide) rfl)
            exact W.iret (v := (nI x)) hx hb hr (fun t9_ ht9_ hW9_ => ⟨⟨nI x, (sm, g), rfl, ⟨hsm.1, fs_ret (by omega) (hpsl.trans (by rw [show 10 - sm = (9 - sm) + 1 by omega]; exact (psl_bad (by omega) (w1_c hk.1 (by omega) (fun q9 => b30 (by rw [hsx]; exact (dgt_12 hk.2 (by omega)).mp q9)))).trans (by rw [hx1])))⟩, by rw [ht9_]; exact hP9, hD9⟩, hS.F ht9_⟩) hS.2.2 dX10_faultOfSlips_162
        · have c25 : ¬ kd = 1 := fun h9_ => c25 ((nI_eq (a := kd) (b := 1) (by omega) (by omega)).mpr h9_)
          refine lv_iload_n hx hb dX10_faultOfSlips_84 rfl (lv_at hl 4 rfl) ?_
          refine lv_iconst (v := 2) hx hb dX10_faultOfSlips_85 (by decide) ?_
          refine lv_icmp_ne (tgt := 99) hx hb dX10_faultOfSlips_86 (by decide) (fun c47 => ?_) (fun c47 => ?_)
          · have c47 : ¬ kd = 2 := fun h9_ => c47 ((nI_eq (a := kd) (b := 2) (by omega) (by omega)).mpr h9_)
            refine lv_aload_n hx hb dX10_faultOfSlips_99 rfl (lv_at hl 6 rfl) ?_
            refine va_get (D := G.1) (ci := 6) (v := .int (nI k)) (C := RX10) (T := TX10) (N := 28) hx hb hts (fun _ h => List.mem_cons_of_mem _ (List.mem_append_right _ h)) hown E.K hP 0 rfl rfl 0 (by decide) (hts (.fieldLink RX10 67 "LastMapModel" "sites" "I") (by decide +kernel)) (fun _ h9 => h9) rfl dX10_faultOfSlips_100 ?_
            refine lv_iconst (v := 1) hx hb dX10_faultOfSlips_103 (by decide) ?_
            refine lv_isub hx hb dX10_faultOfSlips_104 ?_
            refine lv_topi (fun x48 ex48 => ?_)
            obtain rfl : x48 = nI (k - 1) := by rw [ex48]; exact pk_sub (show 1 ≤ k by omega)
            refine lv_i2l hx hb dX10_faultOfSlips_105 rfl ?_
            refine lv_topl (fun x49 ex49 => ?_)
            refine ca_iR (va_runS (As := [.long x24, .long 0, .long x49]) (rest := []) ⟨hx, hb, hml, hown, hts⟩ (m_in l G H.size x24 0 x49 x23 0 (nI (k - 1)) ex24 (by decide) ex49) (va_cwS 3 hts gX10_faultOfSlips_X10_in rfl rfl rfl (by decide +kernel) ⟨by decide +kernel, by decide +kernel⟩) (pre_S E hP hD hS hA [] (by decide) rfl) rfl rfl hl.1 rfl (lv_room (Nat.le_of_ble_eq_true rfl)) dX10_faultOfSlips_106 ⟨by decide +kernel, by decide +kernel⟩) hS hP hD hA [] rfl (fun r51 _ H locs w50 hP hS => ?_)
            rcases w50 with ⟨rfl, b52⟩ | ⟨rfl, b52⟩
            · refine lv_if_eq (tgt := 134) hx hb dX10_faultOfSlips_109 (by decide) (fun c53 => False.elim (by revert c53; decide)) (fun _ => ?_)
              have hdg : dgt fd k (pl fd sm) := (dgt_03 hk.2 hkd (by omega) (by omega)).mpr (by rw [← hsx]; exact b52)
              refine lv_iload hx hb dX10_faultOfSlips_112 (lv_at hl 1 rfl) ?_
              refine lv_bipush (v := 48) hx hb dX10_faultOfSlips_114 (by decide) ?_
              refine lv_isub hx hb dX10_faultOfSlips_116 ?_
              refine lv_topi (fun x54 ex54 => ?_)
              obtain ⟨si9, hsi9, esi9⟩ := inRn (by omega) b52
              obtain rfl : x54 = nI si9 := by rw [ex54, ← ex23]; exact esi9
              refine lv_istore_n (lv' := [(3, .int (nI si9)), (6, .int 0), (5, .int x3), (4, .int (nI x)), (2, .int (nI kd)), (1, .int (nI sa)), (0, .ref h1)]) hx hb dX10_faultOfSlips_117 rfl hl (by decide) rfl (fun ls hl => ?_)
              refine lv_iconst (v := 2) hx hb dX10_faultOfSlips_118 (by decide) ?_
              refine lv_istore_n (lv' := [(1, .int 2), (3, .int (nI si9)), (6, .int 0), (5, .int x3), (4, .int (nI x)), (2, .int (nI kd)), (0, .ref h1)]) hx hb dX10_faultOfSlips_119 rfl hl (by decide) rfl (fun ls hl => ?_)
              refine lv_iload_n hx hb dX10_faultOfSlips_120 rfl (lv_at hl 5 rfl) ?_
              refine lv_if_eq (tgt := 128) hx hb dX10_faultOfSlips_121 (by decide) (fun c55 => ?_) (fun c55 => ?_)
              · have c55 : kd = 0 := (nI_eq (a := kd) (b := 0) (by omega) (by omega)).mp c55
                refine lv_iconst (v := 0) hx hb dX10_faultOfSlips_128 (by decide) ?_
                refine lv_istore (lv' := [(6, .int 0), (1, .int 2), (3, .int (nI si9)), (5, .int x3), (4, .int (nI x)), (2, .int (nI kd)), (0, .ref h1)]) hx hb dX10_faultOfSlips_129 hl (by decide) rfl (fun ls hl => ?_)
                refine lv_goto (tgt := 163) hx hb dX10_faultOfSlips_131 (by decide) ?_
                refine lv_iload hx hb dX10_faultOfSlips_163 (lv_at hl 0 rfl) ?_
                refine lv_if_eq (tgt := 212) hx hb dX10_faultOfSlips_165 (by decide) (fun _ => ?_) (fun c56 => False.elim (by revert c56; decide))
                obtain ⟨x57, ex57⟩ : ∃ yy_ : Int32, yy_ = (nI x) + 1 := ⟨_, rfl⟩
                refine lv_iinc (v := x57) (lv' := [(4, .int x57), (6, .int 0), (1, .int 2), (3, .int (nI si9)), (5, .int x3), (2, .int (nI kd)), (0, .ref h1)]) hx hb dX10_faultOfSlips_212 hl (k := 4) rfl (by rw [ex57]; rfl) (by decide) rfl (fun ls hl => ?_)
                obtain rfl : x57 = nI (x + 1) := by rw [ex57]; exact nI_add x 1
                refine lv_goto (tgt := 14) hx hb dX10_faultOfSlips_215 (by decide) ?_
                refine ih14 ((x + 1), 2, kd, si9, sm, g) ⟨?_, ?_, ?_, ?_, ?_, ?_, ?_, ?_, ?_, ?_⟩ (by first | omega | (dsimp only; omega)) H locs ls (hP.sub [0, 1, 2] rfl) (hD.sub [0, 1, 2] (by decide) rfl) hS (lv_sub hl [0, 3, 5, 2, 6] rfl)
                · try dsimp only
                  omega
                · try dsimp only
                  omega
                · try dsimp only
                  omega
                · try dsimp only
                  omega
                · try dsimp only
                  omega
                · try dsimp only
                  omega
                · try dsimp only
                  exact hpsl
                · try dsimp only
                  exact fun _ => hk
                · try dsimp only
                  exact fun _ => ⟨kdO_99 (by rw [hk.2, show kd = 0 by omega]; rfl), hdg, by rw [← hsx]; exact esi9⟩
                · try dsimp only
                  exact hsl
              · have c55 : ¬ kd = 0 := fun h9_ => c55 ((nI_eq (a := kd) (b := 0) (by omega) (by omega)).mpr h9_)
                refine lv_iconst (v := 1) hx hb dX10_faultOfSlips_124 (by decide) ?_
                refine lv_goto (tgt := 129) hx hb dX10_faultOfSlips_125 (by decide) ?_
                refine lv_istore (lv' := [(6, .int 1), (1, .int 2), (3, .int (nI si9)), (5, .int x3), (4, .int (nI x)), (2, .int (nI kd)), (0, .ref h1)]) hx hb dX10_faultOfSlips_129 hl (by decide) rfl (fun ls hl => ?_)
                refine lv_goto (tgt := 163) hx hb dX10_faultOfSlips_131 (by decide) ?_
                refine lv_iload hx hb dX10_faultOfSlips_163 (lv_at hl 0 rfl) ?_
                refine lv_if_eq (tgt := 212) hx hb dX10_faultOfSlips_165 (by decide) (fun c58 => False.elim (by revert c58; decide)) (fun _ => ?_)
                refine lv_aload_n hx hb dX10_faultOfSlips_168 rfl (lv_at hl 6 rfl) ?_
                refine va_get (D := G.1) (ci := 6) (v := .ref a_slips) (C := RX10) (T := TX10) (N := 28) hx hb hts (fun _ h => List.mem_cons_of_mem _ (List.mem_append_right _ h)) hown E.K hP 0 rfl rfl 9 (by decide) (hts (.fieldLink RX10 22 "LastMapModel" "slips" "[I") (by decide +kernel)) (fun _ h9 => h9) rfl dX10_faultOfSlips_169 ?_
                refine lv_aload_n hx hb dX10_faultOfSlips_172 rfl (lv_at hl 6 rfl) ?_
                refine va_get (D := G.1) (ci := 6) (v := .int (nI sm)) (C := RX10) (T := TX10) (N := 28) hx hb hts (fun _ h => List.mem_cons_of_mem _ (List.mem_append_right _ h)) hown E.K hP 0 rfl rfl 10 (by decide) (hts (.fieldLink RX10 110 "LastMapModel" "slipMany" "I") (by decide +kernel)) (fun _ h9 => h9) rfl dX10_faultOfSlips_173 ?_
                refine lv_bipush (v := 100) hx hb dX10_faultOfSlips_176 (by decide) ?_
                refine lv_iload_n hx hb dX10_faultOfSlips_178 rfl (lv_at hl 5 rfl) ?_
                refine lv_imul hx hb dX10_faultOfSlips_179 ?_
                refine lv_topi (fun x59 ex59 => ?_)
                obtain rfl : x59 = nI (100 * kd) := by rw [ex59]; exact pk_mul 100 kd
                refine lv_bipush (v := 10) hx hb dX10_faultOfSlips_180 (by decide) ?_
                refine lv_iload_n hx hb dX10_faultOfSlips_182 rfl (lv_at hl 2 rfl) ?_
                refine lv_imul hx hb dX10_faultOfSlips_183 ?_
                refine lv_topi (fun x60 ex60 => ?_)
                obtain rfl : x60 = nI (10 * si9) := by rw [ex60]; exact pk_mul 10 si9
                refine lv_iadd hx hb dX10_faultOfSlips_184 ?_
                refine lv_topi (fun x61 ex61 => ?_)
                obtain rfl : x61 = nI ((100 * kd) + (10 * si9)) := by rw [ex61]; exact nI_add (100 * kd) (10 * si9)
                refine lv_iload_n hx hb dX10_faultOfSlips_185 rfl (lv_at hl 5 rfl) ?_
                refine lv_if_ne (tgt := 197) hx hb dX10_faultOfSlips_186 (by decide) (fun c62 => ?_) (fun c62 => False.elim (by have q9 := (nI_eq (a := kd) (b := 0) (by omega) (by omega)).mp c62; omega))
                refine lv_iconst (v := 0) hx hb dX10_faultOfSlips_197 (by decide) ?_
                refine lv_iadd hx hb dX10_faultOfSlips_198 ?_
                refine lv_topi (fun x63 ex63 => ?_)
                obtain rfl : x63 = nI (((100 * kd) + (10 * si9)) + 0) := by rw [ex63]; exact nI_add ((100 * kd) + (10 * si9)) 0
                have hn99 := kdO_n99 hk.2 hkd (by omega)
                have hw1 : w1 fd pm k (pl fd sm) = none := w1_d hk.1 (by omega) hdg hn99
                have hls := lenS_2 hn99
                have hsv : slp fd (pl fd sm) = nI (((100 * kd) + (10 * si9)) + 0) := slp_n hk.2 hn99 (by rw [← hsx]; exact esi9)
                refine va_iast hx hb E.K hP hD hS 2 1 rfl rfl (i := nI sm) (vp_in_nI (by omega) (by decide)) dX10_faultOfSlips_199 (fun H locs hP hD hS => ?_)
                obtain ⟨f64, ef64⟩ : ∃ yy_ : Nat → Int32, yy_ = upd g (nI sm).toNatClampNeg (nI (((100 * kd) + (10 * si9)) + 0)) := ⟨_, rfl⟩
                have hP : va_P G.1 vwCl ([(h1, .inr (6, [.int (nI k), v_maps, v_told, v_kinds, v_land, v_spades, v_part, .ref a_pad, .int (nI pm), .ref a_slips, .int (nI sm), v_made, v_queue, v_depth, v_by, v_from, v_come, v_offOf, v_parent, v_best, v_trees, v_least, v_sums, v_toward, v_kept, v_isKept, v_keptAt, v_isWriting])), (a_pad, .inl (gI G, 40, .inl fd)), (a_slips, .inl (gI G, 10, .inl f64))]) H := by rw [ef64]; exact hP
                have hD : va_D A ([(h1, .inr (6, [.int (nI k), v_maps, v_told, v_kinds, v_land, v_spades, v_part, .ref a_pad, .int (nI pm), .ref a_slips, .int (nI sm), v_made, v_queue, v_depth, v_by, v_from, v_come, v_offOf, v_parent, v_best, v_trees, v_least, v_sums, v_toward, v_kept, v_isKept, v_keptAt, v_isWriting])), (a_pad, .inl (gI G, 40, .inl fd)), (a_slips, .inl (gI G, 10, .inl f64))]) := by rw [ef64]; exact hD
                refine lv_aload_n hx hb dX10_faultOfSlips_200 rfl (lv_at hl 6 rfl) ?_
                refine lv_dup hx hb dX10_faultOfSlips_201 rfl ?_
                refine va_get (D := G.1) (ci := 6) (v := .int (nI sm)) (C := RX10) (T := TX10) (N := 28) hx hb hts (fun _ h => List.mem_cons_of_mem _ (List.mem_append_right _ h)) hown E.K hP 0 rfl rfl 10 (by decide) (hts (.fieldLink RX10 110 "LastMapModel" "slipMany" "I") (by decide +kernel)) (fun _ h9 => h9) rfl dX10_faultOfSlips_202 ?_
                refine lv_iconst (v := 1) hx hb dX10_faultOfSlips_205 (by decide) ?_
                refine lv_iadd hx hb dX10_faultOfSlips_206 ?_
                refine lv_topi (fun x65 ex65 => ?_)
                obtain rfl : x65 = nI (sm + 1) := by rw [ex65]; exact nI_add sm 1
                refine va_put (D := G.1) (ci := 6) (v := .int (nI (sm + 1))) (ty := .int) (C := RX10) (T := TX10) (N := 28) hx hb hts (fun _ h => List.mem_cons_of_mem _ (List.mem_append_right _ h)) tyX10 tyX10_ok nmX10 hown E.K hP hD hS 0 rfl rfl 10 (by decide) (hts (.fieldLink RX10 110 "LastMapModel" "slipMany" "I") (by decide +kernel)) (fun _ h9 => h9) rfl (by decide +kernel) rfl rfl (Nat.le_of_ble_eq_true rfl) dX10_faultOfSlips_207 (fun H locs hP hD hS => ?_)
                have hP : va_P G.1 vwCl ([(h1, .inr (6, [.int (nI k), v_maps, v_told, v_kinds, v_land, v_spades, v_part, .ref a_pad, .int (nI pm), .ref a_slips, .int (nI (sm + 1)), v_made, v_queue, v_depth, v_by, v_from, v_come, v_offOf, v_parent, v_best, v_trees, v_least, v_sums, v_toward, v_kept, v_isKept, v_keptAt, v_isWriting])), (a_pad, .inl (gI G, 40, .inl fd)), (a_slips, .inl (gI G, 10, .inl f64))]) H := hP
                have hD : va_D A ([(h1, .inr (6, [.int (nI k), v_maps, v_told, v_kinds, v_land, v_spades, v_part, .ref a_pad, .int (nI pm), .ref a_slips, .int (nI (sm + 1)), v_made, v_queue, v_depth, v_by, v_from, v_come, v_offOf, v_parent, v_best, v_trees, v_least, v_sums, v_toward, v_kept, v_isKept, v_keptAt, v_isWriting])), (a_pad, .inl (gI G, 40, .inl fd)), (a_slips, .inl (gI G, 10, .inl f64))]) := hD
                refine lv_iconst (v := 0) hx hb dX10_faultOfSlips_210 (by decide) ?_
                refine lv_istore_n (lv' := [(1, .int 0), (6, .int 1), (3, .int (nI si9)), (5, .int x3), (4, .int (nI x)), (2, .int (nI kd)), (0, .ref h1)]) hx hb dX10_faultOfSlips_211 rfl hl (by decide) rfl (fun ls hl => ?_)
                obtain ⟨x66, ex66⟩ : ∃ yy_ : Int32, yy_ = (nI x) + 1 := ⟨_, rfl⟩
                refine lv_iinc (v := x66) (lv' := [(4, .int x66), (1, .int 0), (6, .int 1), (3, .int (nI si9)), (5, .int x3), (2, .int (nI kd)), (0, .ref h1)]) hx hb dX10_faultOfSlips_212 hl (k := 4) rfl (by rw [ex66]; rfl) (by decide) rfl (fun ls hl => ?_)
                obtain rfl : x66 = nI (x + 1) := by rw [ex66]; exact nI_add x 1
                refine lv_goto (tgt := 14) hx hb dX10_faultOfSlips_215 (by decide) ?_
                refine ih14 ((x + 1), 0, kd, si9, (sm + 1), f64) ⟨?_, ?_, ?_, ?_, ?_, ?_, ?_, ?_, ?_, ?_⟩ (by first | omega | (dsimp only; omega)) H locs ls (hP.sub [0, 1, 2] rfl) (hD.sub [0, 1, 2] (by decide) rfl) hS (lv_sub hl [0, 3, 5, 1, 6] rfl)
                · try dsimp only
                  omega
                · try dsimp only
                  omega
                · try dsimp only
                  omega
                · try dsimp only
                  omega
                · try dsimp only
                  omega
                · try dsimp only
                  show pl fd sm + lenS fd (pl fd sm) + 0 = x + 1; omega
                · try dsimp only
                  rw [hpsl, show 10 - sm = (10 - (sm + 1)) + 1 by omega]; exact psl_go (by omega) hw1
                · try dsimp only
                  intro q9; omega
                · try dsimp only
                  intro q9; omega
                · try dsimp only
                  intro i9 hi9; rw [ef64, nI_clamp (by omega)]
                  by_cases e9 : i9 = sm
                  · rw [e9, pk_us]; exact ⟨hsv.symm, hw1⟩
                  · rw [pk_un e9]; exact hsl i9 (by omega)
            · refine lv_if_eq (tgt := 134) hx hb dX10_faultOfSlips_109 (by decide) (fun _ => ?_) (fun c67 => False.elim (by revert c67; decide))
              refine lv_iload_n hx hb dX10_faultOfSlips_134 rfl (lv_at hl 5 rfl) ?_
              refine lv_iconst (v := 2) hx hb dX10_faultOfSlips_135 (by decide) ?_
              refine lv_icmp_ne (tgt := 160) hx hb dX10_faultOfSlips_136 (by decide) (fun c68 => ?_) (fun c68 => False.elim (by have q9 := (nI_eq (a := sa) (b := 2) (by omega) (by omega)).mp c68; omega))
              refine lv_iload hx hb dX10_faultOfSlips_160 (lv_at hl 2 rfl) ?_
              have hP9 := (hP.sub (ws' := [(h1, .inr (6, [.int (nI k), v_maps, v_told, v_kinds, v_land, v_spades, v_part, .ref a_pad, .int (nI pm), .ref a_slips, .int (nI sm), v_made, v_queue, v_depth, v_by, v_from, v_come, v_offOf, v_parent, v_best, v_trees, v_least, v_sums, v_toward, v_kept, v_isKept, v_keptAt, v_isWriting])), (a_pad, .inl (gI G, 40, .inl fd)), (a_slips, .inl (gI G, 10, .inl g))]) [0, 1, 2] rfl)
              have hD9 := (hD.sub (ws' := [(h1, .inr (6, [.int (nI k), v_maps, v_told, v_kinds, v_land, v_spades, v_part, .ref a_pad, .int (nI pm), .ref a_slips, .int (nI sm), v_made, v_queue, v_depth, v_by, v_from, v_come, v_offOf, v_parent, v_best, v_trees, v_least, v_sums, v_toward, v_kept, v_isKept, v_keptAt, v_isWriting])), (a_pad, .inl (gI G, 40, .inl fd)), (a_slips, .inl (gI G, 10, .inl g))]) [0, 1, 2] (by decide) rfl)
              exact W.iret (v := (nI x)) hx hb hr (fun t9_ ht9_ hW9_ => ⟨⟨nI x, (sm, g), rfl, ⟨hsm.1, fs_ret (by omega) (hpsl.trans (by rw [show 10 - sm = (9 - sm) + 1 by omega]; exact (psl_bad (by omega) (w1_c hk.1 (by omega) (fun q9 => b52 (by rw [hsx]; exact (dgt_03 hk.2 hkd (by omega) (by omega)).mp q9)))).trans (by rw [hx1])))⟩, by rw [ht9_]; exact hP9, hD9⟩, hS.F ht9_⟩) hS.2.2 dX10_faultOfSlips_162
          · have c47 : kd = 2 := (nI_eq (a := kd) (b := 2) (by omega) (by omega)).mp c47
            refine lv_aload_n hx hb dX10_faultOfSlips_89 rfl (lv_at hl 6 rfl) ?_
            refine va_get (D := G.1) (ci := 6) (v := .int (nI k)) (C := RX10) (T := TX10) (N := 28) hx hb hts (fun _ h => List.mem_cons_of_mem _ (List.mem_append_right _ h)) hown E.K hP 0 rfl rfl 0 (by decide) (hts (.fieldLink RX10 67 "LastMapModel" "sites" "I") (by decide +kernel)) (fun _ h9 => h9) rfl dX10_faultOfSlips_90 ?_
            refine lv_iconst (v := 2) hx hb dX10_faultOfSlips_93 (by decide) ?_
            refine lv_isub hx hb dX10_faultOfSlips_94 ?_
            refine lv_topi (fun x69 ex69 => ?_)
            obtain rfl : x69 = nI (k - 2) := by rw [ex69]; exact pk_sub (show 2 ≤ k by omega)
            refine lv_i2l hx hb dX10_faultOfSlips_95 rfl ?_
            refine lv_topl (fun x70 ex70 => ?_)
            refine lv_goto (tgt := 106) hx hb dX10_faultOfSlips_96 (by decide) ?_
            refine ca_iR (va_runS (As := [.long x24, .long 0, .long x70]) (rest := []) ⟨hx, hb, hml, hown, hts⟩ (m_in l G H.size x24 0 x70 x23 0 (nI (k - 2)) ex24 (by decide) ex70) (va_cwS 3 hts gX10_faultOfSlips_X10_in rfl rfl rfl (by decide +kernel) ⟨by decide +kernel, by decide +kernel⟩) (pre_S E hP hD hS hA [] (by decide) rfl) rfl rfl hl.1 rfl (lv_room (Nat.le_of_ble_eq_true rfl)) dX10_faultOfSlips_106 ⟨by decide +kernel, by decide +kernel⟩) hS hP hD hA [] rfl (fun r72 _ H locs w71 hP hS => ?_)
            rcases w71 with ⟨rfl, b73⟩ | ⟨rfl, b73⟩
            · refine lv_if_eq (tgt := 134) hx hb dX10_faultOfSlips_109 (by decide) (fun c74 => False.elim (by revert c74; decide)) (fun _ => ?_)
              have hdg : dgt fd k (pl fd sm) := (dgt_12 hk.2 (by omega)).mpr (by rw [← hsx]; exact b73)
              refine lv_iload hx hb dX10_faultOfSlips_112 (lv_at hl 1 rfl) ?_
              refine lv_bipush (v := 48) hx hb dX10_faultOfSlips_114 (by decide) ?_
              refine lv_isub hx hb dX10_faultOfSlips_116 ?_
              refine lv_topi (fun x75 ex75 => ?_)
              obtain ⟨si9, hsi9, esi9⟩ := inRn (by omega) b73
              obtain rfl : x75 = nI si9 := by rw [ex75, ← ex23]; exact esi9
              refine lv_istore_n (lv' := [(3, .int (nI si9)), (6, .int 0), (5, .int x3), (4, .int (nI x)), (2, .int (nI kd)), (1, .int (nI sa)), (0, .ref h1)]) hx hb dX10_faultOfSlips_117 rfl hl (by decide) rfl (fun ls hl => ?_)
              refine lv_iconst (v := 2) hx hb dX10_faultOfSlips_118 (by decide) ?_
              refine lv_istore_n (lv' := [(1, .int 2), (3, .int (nI si9)), (6, .int 0), (5, .int x3), (4, .int (nI x)), (2, .int (nI kd)), (0, .ref h1)]) hx hb dX10_faultOfSlips_119 rfl hl (by decide) rfl (fun ls hl => ?_)
              refine lv_iload_n hx hb dX10_faultOfSlips_120 rfl (lv_at hl 5 rfl) ?_
              refine lv_if_eq (tgt := 128) hx hb dX10_faultOfSlips_121 (by decide) (fun c76 => ?_) (fun c76 => ?_)
              · have c76 : kd = 0 := (nI_eq (a := kd) (b := 0) (by omega) (by omega)).mp c76
                refine lv_iconst (v := 0) hx hb dX10_faultOfSlips_128 (by decide) ?_
                refine lv_istore (lv' := [(6, .int 0), (1, .int 2), (3, .int (nI si9)), (5, .int x3), (4, .int (nI x)), (2, .int (nI kd)), (0, .ref h1)]) hx hb dX10_faultOfSlips_129 hl (by decide) rfl (fun ls hl => ?_)
                refine lv_goto (tgt := 163) hx hb dX10_faultOfSlips_131 (by decide) ?_
                refine lv_iload hx hb dX10_faultOfSlips_163 (lv_at hl 0 rfl) ?_
                refine lv_if_eq (tgt := 212) hx hb dX10_faultOfSlips_165 (by decide) (fun _ => ?_) (fun c77 => False.elim (by revert c77; decide))
                obtain ⟨x78, ex78⟩ : ∃ yy_ : Int32, yy_ = (nI x) + 1 := ⟨_, rfl⟩
                refine lv_iinc (v := x78) (lv' := [(4, .int x78), (6, .int 0), (1, .int 2), (3, .int (nI si9)), (5, .int x3), (2, .int (nI kd)), (0, .ref h1)]) hx hb dX10_faultOfSlips_212 hl (k := 4) rfl (by rw [ex78]; rfl) (by decide) rfl (fun ls hl => ?_)
                obtain rfl : x78 = nI (x + 1) := by rw [ex78]; exact nI_add x 1
                refine lv_goto (tgt := 14) hx hb dX10_faultOfSlips_215 (by decide) ?_
                refine ih14 ((x + 1), 2, kd, si9, sm, g) ⟨?_, ?_, ?_, ?_, ?_, ?_, ?_, ?_, ?_, ?_⟩ (by first | omega | (dsimp only; omega)) H locs ls (hP.sub [0, 1, 2] rfl) (hD.sub [0, 1, 2] (by decide) rfl) hS (lv_sub hl [0, 3, 5, 2, 6] rfl)
                · try dsimp only
                  omega
                · try dsimp only
                  omega
                · try dsimp only
                  omega
                · try dsimp only
                  omega
                · try dsimp only
                  omega
                · try dsimp only
                  omega
                · try dsimp only
                  exact hpsl
                · try dsimp only
                  exact fun _ => hk
                · try dsimp only
                  exact fun _ => ⟨kdO_99 (by rw [hk.2, show kd = 0 by omega]; rfl), hdg, by rw [← hsx]; exact esi9⟩
                · try dsimp only
                  exact hsl
              · have c76 : ¬ kd = 0 := fun h9_ => c76 ((nI_eq (a := kd) (b := 0) (by omega) (by omega)).mpr h9_)
                refine lv_iconst (v := 1) hx hb dX10_faultOfSlips_124 (by decide) ?_
                refine lv_goto (tgt := 129) hx hb dX10_faultOfSlips_125 (by decide) ?_
                refine lv_istore (lv' := [(6, .int 1), (1, .int 2), (3, .int (nI si9)), (5, .int x3), (4, .int (nI x)), (2, .int (nI kd)), (0, .ref h1)]) hx hb dX10_faultOfSlips_129 hl (by decide) rfl (fun ls hl => ?_)
                refine lv_goto (tgt := 163) hx hb dX10_faultOfSlips_131 (by decide) ?_
                refine lv_iload hx hb dX10_faultOfSlips_163 (lv_at hl 0 rfl) ?_
                refine lv_if_eq (tgt := 212) hx hb dX10_faultOfSlips_165 (by decide) (fun c79 => False.elim (by revert c79; decide)) (fun _ => ?_)
                refine lv_aload_n hx hb dX10_faultOfSlips_168 rfl (lv_at hl 6 rfl) ?_
                refine va_get (D := G.1) (ci := 6) (v := .ref a_slips) (C := RX10) (T := TX10) (N := 28) hx hb hts (fun _ h => List.mem_cons_of_mem _ (List.mem_append_right _ h)) hown E.K hP 0 rfl rfl 9 (by decide) (hts (.fieldLink RX10 22 "LastMapModel" "slips" "[I") (by decide +kernel)) (fun _ h9 => h9) rfl dX10_faultOfSlips_169 ?_
                refine lv_aload_n hx hb dX10_faultOfSlips_172 rfl (lv_at hl 6 rfl) ?_
                refine va_get (D := G.1) (ci := 6) (v := .int (nI sm)) (C := RX10) (T := TX10) (N := 28) hx hb hts (fun _ h => List.mem_cons_of_mem _ (List.mem_append_right _ h)) hown E.K hP 0 rfl rfl 10 (by decide) (hts (.fieldLink RX10 110 "LastMapModel" "slipMany" "I") (by decide +kernel)) (fun _ h9 => h9) rfl dX10_faultOfSlips_173 ?_
                refine lv_bipush (v := 100) hx hb dX10_faultOfSlips_176 (by decide) ?_
                refine lv_iload_n hx hb dX10_faultOfSlips_178 rfl (lv_at hl 5 rfl) ?_
                refine lv_imul hx hb dX10_faultOfSlips_179 ?_
                refine lv_topi (fun x80 ex80 => ?_)
                obtain rfl : x80 = nI (100 * kd) := by rw [ex80]; exact pk_mul 100 kd
                refine lv_bipush (v := 10) hx hb dX10_faultOfSlips_180 (by decide) ?_
                refine lv_iload_n hx hb dX10_faultOfSlips_182 rfl (lv_at hl 2 rfl) ?_
                refine lv_imul hx hb dX10_faultOfSlips_183 ?_
                refine lv_topi (fun x81 ex81 => ?_)
                obtain rfl : x81 = nI (10 * si9) := by rw [ex81]; exact pk_mul 10 si9
                refine lv_iadd hx hb dX10_faultOfSlips_184 ?_
                refine lv_topi (fun x82 ex82 => ?_)
                obtain rfl : x82 = nI ((100 * kd) + (10 * si9)) := by rw [ex82]; exact nI_add (100 * kd) (10 * si9)
                refine lv_iload_n hx hb dX10_faultOfSlips_185 rfl (lv_at hl 5 rfl) ?_
                refine lv_if_ne (tgt := 197) hx hb dX10_faultOfSlips_186 (by decide) (fun c83 => ?_) (fun c83 => False.elim (by have q9 := (nI_eq (a := kd) (b := 0) (by omega) (by omega)).mp c83; omega))
                refine lv_iconst (v := 0) hx hb dX10_faultOfSlips_197 (by decide) ?_
                refine lv_iadd hx hb dX10_faultOfSlips_198 ?_
                refine lv_topi (fun x84 ex84 => ?_)
                obtain rfl : x84 = nI (((100 * kd) + (10 * si9)) + 0) := by rw [ex84]; exact nI_add ((100 * kd) + (10 * si9)) 0
                have hn99 := kdO_n99 hk.2 hkd (by omega)
                have hw1 : w1 fd pm k (pl fd sm) = none := w1_d hk.1 (by omega) hdg hn99
                have hls := lenS_2 hn99
                have hsv : slp fd (pl fd sm) = nI (((100 * kd) + (10 * si9)) + 0) := slp_n hk.2 hn99 (by rw [← hsx]; exact esi9)
                refine va_iast hx hb E.K hP hD hS 2 1 rfl rfl (i := nI sm) (vp_in_nI (by omega) (by decide)) dX10_faultOfSlips_199 (fun H locs hP hD hS => ?_)
                obtain ⟨f85, ef85⟩ : ∃ yy_ : Nat → Int32, yy_ = upd g (nI sm).toNatClampNeg (nI (((100 * kd) + (10 * si9)) + 0)) := ⟨_, rfl⟩
                have hP : va_P G.1 vwCl ([(h1, .inr (6, [.int (nI k), v_maps, v_told, v_kinds, v_land, v_spades, v_part, .ref a_pad, .int (nI pm), .ref a_slips, .int (nI sm), v_made, v_queue, v_depth, v_by, v_from, v_come, v_offOf, v_parent, v_best, v_trees, v_least, v_sums, v_toward, v_kept, v_isKept, v_keptAt, v_isWriting])), (a_pad, .inl (gI G, 40, .inl fd)), (a_slips, .inl (gI G, 10, .inl f85))]) H := by rw [ef85]; exact hP
                have hD : va_D A ([(h1, .inr (6, [.int (nI k), v_maps, v_told, v_kinds, v_land, v_spades, v_part, .ref a_pad, .int (nI pm), .ref a_slips, .int (nI sm), v_made, v_queue, v_depth, v_by, v_from, v_come, v_offOf, v_parent, v_best, v_trees, v_least, v_sums, v_toward, v_kept, v_isKept, v_keptAt, v_isWriting])), (a_pad, .inl (gI G, 40, .inl fd)), (a_slips, .inl (gI G, 10, .inl f85))]) := by rw [ef85]; exact hD
                refine lv_aload_n hx hb dX10_faultOfSlips_200 rfl (lv_at hl 6 rfl) ?_
                refine lv_dup hx hb dX10_faultOfSlips_201 rfl ?_
                refine va_get (D := G.1) (ci := 6) (v := .int (nI sm)) (C := RX10) (T := TX10) (N := 28) hx hb hts (fun _ h => List.mem_cons_of_mem _ (List.mem_append_right _ h)) hown E.K hP 0 rfl rfl 10 (by decide) (hts (.fieldLink RX10 110 "LastMapModel" "slipMany" "I") (by decide +kernel)) (fun _ h9 => h9) rfl dX10_faultOfSlips_202 ?_
                refine lv_iconst (v := 1) hx hb dX10_faultOfSlips_205 (by decide) ?_
                refine lv_iadd hx hb dX10_faultOfSlips_206 ?_
                refine lv_topi (fun x86 ex86 => ?_)
                obtain rfl : x86 = nI (sm + 1) := by rw [ex86]; exact nI_add sm 1
                refine va_put (D := G.1) (ci := 6) (v := .int (nI (sm + 1))) (ty := .int) (C := RX10) (T := TX10) (N := 28) hx hb hts (fun _ h => List.mem_cons_of_mem _ (List.mem_append_right _ h)) tyX10 tyX10_ok nmX10 hown E.K hP hD hS 0 rfl rfl 10 (by decide) (hts (.fieldLink RX10 110 "LastMapModel" "slipMany" "I") (by decide +kernel)) (fun _ h9 => h9) rfl (by decide +kernel) rfl rfl (Nat.le_of_ble_eq_true rfl) dX10_faultOfSlips_207 (fun H locs hP hD hS => ?_)
                have hP : va_P G.1 vwCl ([(h1, .inr (6, [.int (nI k), v_maps, v_told, v_kinds, v_land, v_spades, v_part, .ref a_pad, .int (nI pm), .ref a_slips, .int (nI (sm + 1)), v_made, v_queue, v_depth, v_by, v_from, v_come, v_offOf, v_parent, v_best, v_trees, v_least, v_sums, v_toward, v_kept, v_isKept, v_keptAt, v_isWriting])), (a_pad, .inl (gI G, 40, .inl fd)), (a_slips, .inl (gI G, 10, .inl f85))]) H := hP
                have hD : va_D A ([(h1, .inr (6, [.int (nI k), v_maps, v_told, v_kinds, v_land, v_spades, v_part, .ref a_pad, .int (nI pm), .ref a_slips, .int (nI (sm + 1)), v_made, v_queue, v_depth, v_by, v_from, v_come, v_offOf, v_parent, v_best, v_trees, v_least, v_sums, v_toward, v_kept, v_isKept, v_keptAt, v_isWriting])), (a_pad, .inl (gI G, 40, .inl fd)), (a_slips, .inl (gI G, 10, .inl f85))]) := hD
                refine lv_iconst (v := 0) hx hb dX10_faultOfSlips_210 (by decide) ?_
                refine lv_istore_n (lv' := [(1, .int 0), (6, .int 1), (3, .int (nI si9)), (5, .int x3), (4, .int (nI x)), (2, .int (nI kd)), (0, .ref h1)]) hx hb dX10_faultOfSlips_211 rfl hl (by decide) rfl (fun ls hl => ?_)
                obtain ⟨x87, ex87⟩ : ∃ yy_ : Int32, yy_ = (nI x) + 1 := ⟨_, rfl⟩
                refine lv_iinc (v := x87) (lv' := [(4, .int x87), (1, .int 0), (6, .int 1), (3, .int (nI si9)), (5, .int x3), (2, .int (nI kd)), (0, .ref h1)]) hx hb dX10_faultOfSlips_212 hl (k := 4) rfl (by rw [ex87]; rfl) (by decide) rfl (fun ls hl => ?_)
                obtain rfl : x87 = nI (x + 1) := by rw [ex87]; exact nI_add x 1
                refine lv_goto (tgt := 14) hx hb dX10_faultOfSlips_215 (by decide) ?_
                refine ih14 ((x + 1), 0, kd, si9, (sm + 1), f85) ⟨?_, ?_, ?_, ?_, ?_, ?_, ?_, ?_, ?_, ?_⟩ (by first | omega | (dsimp only; omega)) H locs ls (hP.sub [0, 1, 2] rfl) (hD.sub [0, 1, 2] (by decide) rfl) hS (lv_sub hl [0, 3, 5, 1, 6] rfl)
                · try dsimp only
                  omega
                · try dsimp only
                  omega
                · try dsimp only
                  omega
                · try dsimp only
                  omega
                · try dsimp only
                  omega
                · try dsimp only
                  show pl fd sm + lenS fd (pl fd sm) + 0 = x + 1; omega
                · try dsimp only
                  rw [hpsl, show 10 - sm = (10 - (sm + 1)) + 1 by omega]; exact psl_go (by omega) hw1
                · try dsimp only
                  intro q9; omega
                · try dsimp only
                  intro q9; omega
                · try dsimp only
                  intro i9 hi9; rw [ef85, nI_clamp (by omega)]
                  by_cases e9 : i9 = sm
                  · rw [e9, pk_us]; exact ⟨hsv.symm, hw1⟩
                  · rw [pk_un e9]; exact hsl i9 (by omega)
            · refine lv_if_eq (tgt := 134) hx hb dX10_faultOfSlips_109 (by decide) (fun _ => ?_) (fun c88 => False.elim (by revert c88; decide))
              refine lv_iload_n hx hb dX10_faultOfSlips_134 rfl (lv_at hl 5 rfl) ?_
              refine lv_iconst (v := 2) hx hb dX10_faultOfSlips_135 (by decide) ?_
              refine lv_icmp_ne (tgt := 160) hx hb dX10_faultOfSlips_136 (by decide) (fun c89 => ?_) (fun c89 => False.elim (by have q9 := (nI_eq (a := sa) (b := 2) (by omega) (by omega)).mp c89; omega))
              refine lv_iload hx hb dX10_faultOfSlips_160 (lv_at hl 2 rfl) ?_
              have hP9 := (hP.sub (ws' := [(h1, .inr (6, [.int (nI k), v_maps, v_told, v_kinds, v_land, v_spades, v_part, .ref a_pad, .int (nI pm), .ref a_slips, .int (nI sm), v_made, v_queue, v_depth, v_by, v_from, v_come, v_offOf, v_parent, v_best, v_trees, v_least, v_sums, v_toward, v_kept, v_isKept, v_keptAt, v_isWriting])), (a_pad, .inl (gI G, 40, .inl fd)), (a_slips, .inl (gI G, 10, .inl g))]) [0, 1, 2] rfl)
              have hD9 := (hD.sub (ws' := [(h1, .inr (6, [.int (nI k), v_maps, v_told, v_kinds, v_land, v_spades, v_part, .ref a_pad, .int (nI pm), .ref a_slips, .int (nI sm), v_made, v_queue, v_depth, v_by, v_from, v_come, v_offOf, v_parent, v_best, v_trees, v_least, v_sums, v_toward, v_kept, v_isKept, v_keptAt, v_isWriting])), (a_pad, .inl (gI G, 40, .inl fd)), (a_slips, .inl (gI G, 10, .inl g))]) [0, 1, 2] (by decide) rfl)
              exact W.iret (v := (nI x)) hx hb hr (fun t9_ ht9_ hW9_ => ⟨⟨nI x, (sm, g), rfl, ⟨hsm.1, fs_ret (by omega) (hpsl.trans (by rw [show 10 - sm = (9 - sm) + 1 by omega]; exact (psl_bad (by omega) (w1_c hk.1 (by omega) (fun q9 => b73 (by rw [hsx]; exact (dgt_12 hk.2 (by omega)).mp q9)))).trans (by rw [hx1])))⟩, by rw [ht9_]; exact hP9, hD9⟩, hS.F ht9_⟩) hS.2.2 dX10_faultOfSlips_162
    · have c4 : sa = 0 := (nI_eq (a := sa) (b := 0) (by omega) (by omega)).mp c4
      refine lv_aload_n hx hb dX10_faultOfSlips_39 rfl (lv_at hl 6 rfl) ?_
      refine va_get (D := G.1) (ci := 6) (v := .int (nI sm)) (C := RX10) (T := TX10) (N := 28) hx hb hts (fun _ h => List.mem_cons_of_mem _ (List.mem_append_right _ h)) hown E.K hP 0 rfl rfl 10 (by decide) (hts (.fieldLink RX10 110 "LastMapModel" "slipMany" "I") (by decide +kernel)) (fun _ h9 => h9) rfl dX10_faultOfSlips_40 ?_
      refine lv_bipush (v := 10) hx hb dX10_faultOfSlips_43 (by decide) ?_
      refine lv_icmp_ge (tgt := 67) hx hb dX10_faultOfSlips_45 (by decide) (fun c90 => ?_) (fun c90 => ?_)
      · have c90 : 10 ≤ sm := (nI_leI (a := 10) (b := sm) (by omega) (by omega)).mp c90
        refine lv_iload_n hx hb dX10_faultOfSlips_67 rfl (lv_at hl 5 rfl) ?_
        refine lv_iconst (v := 1) hx hb dX10_faultOfSlips_68 (by decide) ?_
        refine lv_icmp_ne (tgt := 134) hx hb dX10_faultOfSlips_69 (by decide) (fun c91 => ?_) (fun c91 => False.elim (by have q9 := (nI_eq (a := sa) (b := 1) (by omega) (by omega)).mp c91; omega))
        refine lv_iload_n hx hb dX10_faultOfSlips_134 rfl (lv_at hl 5 rfl) ?_
        refine lv_iconst (v := 2) hx hb dX10_faultOfSlips_135 (by decide) ?_
        refine lv_icmp_ne (tgt := 160) hx hb dX10_faultOfSlips_136 (by decide) (fun c92 => ?_) (fun c92 => False.elim (by have q9 := (nI_eq (a := sa) (b := 2) (by omega) (by omega)).mp c92; omega))
        refine lv_iload hx hb dX10_faultOfSlips_160 (lv_at hl 2 rfl) ?_
        have hP9 := (hP.sub (ws' := [(h1, .inr (6, [.int (nI k), v_maps, v_told, v_kinds, v_land, v_spades, v_part, .ref a_pad, .int (nI pm), .ref a_slips, .int (nI sm), v_made, v_queue, v_depth, v_by, v_from, v_come, v_offOf, v_parent, v_best, v_trees, v_least, v_sums, v_toward, v_kept, v_isKept, v_keptAt, v_isWriting])), (a_pad, .inl (gI G, 40, .inl fd)), (a_slips, .inl (gI G, 10, .inl g))]) [0, 1, 2] rfl)
        have hD9 := (hD.sub (ws' := [(h1, .inr (6, [.int (nI k), v_maps, v_told, v_kinds, v_land, v_spades, v_part, .ref a_pad, .int (nI pm), .ref a_slips, .int (nI sm), v_made, v_queue, v_depth, v_by, v_from, v_come, v_offOf, v_parent, v_best, v_trees, v_least, v_sums, v_toward, v_kept, v_isKept, v_keptAt, v_isWriting])), (a_pad, .inl (gI G, 40, .inl fd)), (a_slips, .inl (gI G, 10, .inl g))]) [0, 1, 2] (by decide) rfl)
        exact W.iret (v := (nI x)) hx hb hr (fun t9_ ht9_ hW9_ => ⟨⟨nI x, (sm, g), rfl, ⟨hsm.1, fs_ret (by omega) (hpsl.trans (by rw [show 10 - sm = 0 by omega, show pl fd sm = x by omega]; exact psl_full (by omega)))⟩, by rw [ht9_]; exact hP9, hD9⟩, hS.F ht9_⟩) hS.2.2 dX10_faultOfSlips_162
      · have c90 : ¬ 10 ≤ sm := fun h9_ => c90 ((nI_leI (a := 10) (b := sm) (by omega) (by omega)).mpr h9_)
        refine lv_iload hx hb dX10_faultOfSlips_48 (lv_at hl 1 rfl) ?_
        refine ca_iR (va_runS (As := [.int x3]) (rest := []) ⟨hx, hb, hml, hown, hts⟩ (m_kindOf l G H.size x3) (va_cwS 1 hts gX10_faultOfSlips_X10_kindOf rfl rfl rfl (by decide +kernel) ⟨by decide +kernel, by decide +kernel⟩) (pre_S E hP hD hS hA [] (by decide) rfl) rfl rfl hl.1 rfl (lv_room (Nat.le_of_ble_eq_true rfl)) dX10_faultOfSlips_50 ⟨by decide +kernel, by decide +kernel⟩) hS hP hD hA [] rfl (fun r94 _ H locs w93 hP hS => ?_)
        refine lv_if_lt (tgt := 67) hx hb dX10_faultOfSlips_53 (by decide) (fun c95 => ?_) (fun c95 => ?_)
        · refine lv_iload_n hx hb dX10_faultOfSlips_67 rfl (lv_at hl 5 rfl) ?_
          refine lv_iconst (v := 1) hx hb dX10_faultOfSlips_68 (by decide) ?_
          refine lv_icmp_ne (tgt := 134) hx hb dX10_faultOfSlips_69 (by decide) (fun c96 => ?_) (fun c96 => False.elim (by have q9 := (nI_eq (a := sa) (b := 1) (by omega) (by omega)).mp c96; omega))
          refine lv_iload_n hx hb dX10_faultOfSlips_134 rfl (lv_at hl 5 rfl) ?_
          refine lv_iconst (v := 2) hx hb dX10_faultOfSlips_135 (by decide) ?_
          refine lv_icmp_ne (tgt := 160) hx hb dX10_faultOfSlips_136 (by decide) (fun c97 => ?_) (fun c97 => False.elim (by have q9 := (nI_eq (a := sa) (b := 2) (by omega) (by omega)).mp c97; omega))
          refine lv_iload hx hb dX10_faultOfSlips_160 (lv_at hl 2 rfl) ?_
          have hP9 := (hP.sub (ws' := [(h1, .inr (6, [.int (nI k), v_maps, v_told, v_kinds, v_land, v_spades, v_part, .ref a_pad, .int (nI pm), .ref a_slips, .int (nI sm), v_made, v_queue, v_depth, v_by, v_from, v_come, v_offOf, v_parent, v_best, v_trees, v_least, v_sums, v_toward, v_kept, v_isKept, v_keptAt, v_isWriting])), (a_pad, .inl (gI G, 40, .inl fd)), (a_slips, .inl (gI G, 10, .inl g))]) [0, 1, 2] rfl)
          have hD9 := (hD.sub (ws' := [(h1, .inr (6, [.int (nI k), v_maps, v_told, v_kinds, v_land, v_spades, v_part, .ref a_pad, .int (nI pm), .ref a_slips, .int (nI sm), v_made, v_queue, v_depth, v_by, v_from, v_come, v_offOf, v_parent, v_best, v_trees, v_least, v_sums, v_toward, v_kept, v_isKept, v_keptAt, v_isWriting])), (a_pad, .inl (gI G, 40, .inl fd)), (a_slips, .inl (gI G, 10, .inl g))]) [0, 1, 2] (by decide) rfl)
          exact W.iret (v := (nI x)) hx hb hr (fun t9_ ht9_ hW9_ => ⟨⟨nI x, (sm, g), rfl, ⟨hsm.1, fs_ret (by omega) (hpsl.trans (by rw [show 10 - sm = (9 - sm) + 1 by omega, show pl fd sm = x by omega]; exact psl_bad (by omega) (w1_a (by rw [← hcv, ← w93]; exact c95))))⟩, by rw [ht9_]; exact hP9, hD9⟩, hS.F ht9_⟩) hS.2.2 dX10_faultOfSlips_162
        · have hkp : ¬ kdO (fd (pl fd sm)) < 0 := by rw [show pl fd sm = x by omega, ← hcv, ← w93]; exact c95
          refine lv_iload hx hb dX10_faultOfSlips_56 (lv_at hl 1 rfl) ?_
          refine ca_iR (va_runS (As := [.int x3]) (rest := []) ⟨hx, hb, hml, hown, hts⟩ (m_kindOf l G H.size x3) (va_cwS 1 hts gX10_faultOfSlips_X10_kindOf rfl rfl rfl (by decide +kernel) ⟨by decide +kernel, by decide +kernel⟩) (pre_S E hP hD hS hA [] (by decide) rfl) rfl rfl hl.1 rfl (lv_room (Nat.le_of_ble_eq_true rfl)) dX10_faultOfSlips_58 ⟨by decide +kernel, by decide +kernel⟩) hS hP hD hA [] rfl (fun r99 _ H locs w98 hP hS => ?_)
          obtain ⟨kd9, hkd9, ekd9⟩ := kdO_nat (by rw [← w93]; exact c95)
          refine W.eq (g2 := F0 m 61 ls [.int (nI kd9)]) (by rw [w98, ekd9]) ?_
          refine lv_istore_n (lv' := [(2, .int (nI kd9)), (6, .int 0), (5, .int x3), (4, .int (nI x)), (3, .int (nI si)), (1, .int (nI sa)), (0, .ref h1)]) hx hb dX10_faultOfSlips_61 rfl hl (by decide) rfl (fun ls hl => ?_)
          refine lv_iconst (v := 1) hx hb dX10_faultOfSlips_62 (by decide) ?_
          refine lv_istore_n (lv' := [(1, .int 1), (2, .int (nI kd9)), (6, .int 0), (5, .int x3), (4, .int (nI x)), (3, .int (nI si)), (0, .ref h1)]) hx hb dX10_faultOfSlips_63 rfl hl (by decide) rfl (fun ls hl => ?_)
          refine lv_goto (tgt := 163) hx hb dX10_faultOfSlips_64 (by decide) ?_
          refine lv_iload hx hb dX10_faultOfSlips_163 (lv_at hl 2 rfl) ?_
          refine lv_if_eq (tgt := 212) hx hb dX10_faultOfSlips_165 (by decide) (fun _ => ?_) (fun c100 => False.elim (by revert c100; decide))
          obtain ⟨x101, ex101⟩ : ∃ yy_ : Int32, yy_ = (nI x) + 1 := ⟨_, rfl⟩
          refine lv_iinc (v := x101) (lv' := [(4, .int x101), (1, .int 1), (2, .int (nI kd9)), (6, .int 0), (5, .int x3), (3, .int (nI si)), (0, .ref h1)]) hx hb dX10_faultOfSlips_212 hl (k := 4) rfl (by rw [ex101]; rfl) (by decide) rfl (fun ls hl => ?_)
          obtain rfl : x101 = nI (x + 1) := by rw [ex101]; exact nI_add x 1
          refine lv_goto (tgt := 14) hx hb dX10_faultOfSlips_215 (by decide) ?_
          refine ih14 ((x + 1), 1, kd9, si, sm, g) ⟨?_, ?_, ?_, ?_, ?_, ?_, ?_, ?_, ?_, ?_⟩ (by first | omega | (dsimp only; omega)) H locs ls (hP.sub [0, 1, 2] rfl) (hD.sub [0, 1, 2] (by decide) rfl) hS (lv_sub hl [0, 5, 2, 1, 6] rfl)
          · try dsimp only
            omega
          · try dsimp only
            omega
          · try dsimp only
            omega
          · try dsimp only
            omega
          · try dsimp only
            omega
          · try dsimp only
            omega
          · try dsimp only
            exact hpsl
          · try dsimp only
            exact fun _ => ⟨hkp, by rw [show pl fd sm = x by omega, ← hcv]; exact ekd9⟩
          · try dsimp only
            intro q9; omega
          · try dsimp only
            exact hsl

set_option maxHeartbeats 1000000 in
set_option maxRecDepth 100000 in
theorem m2_fault (l : Launch) (G : Gy) (sz : Nat) (h1 : Nat) (v_maps : Value) (v_told : Value) (v_kinds : Value) (v_land : Value) (v_spades : Value) (v_part : Value) (v_made : Value) (v_queue : Value) (v_depth : Value) (v_by : Value) (v_from : Value) (v_come : Value) (v_offOf : Value) (v_parent : Value) (v_best : Value) (v_trees : Value) (v_least : Value) (v_sums : Value) (v_toward : Value) (v_kept : Value) (v_isKept : Value) (v_keptAt : Value) (v_isWriting : Value) (a_pad : Nat) (pm : Nat) (fd : Nat → Int32) (a_slips : Nat) (k : Nat) (fs : Nat → Int32) (sm0 : Int32) (p0 : Int32) (hk2 : 2 ≤ k) (hk6 : k ≤ 6) (hpm : pm ≤ 40) : Ci l G yX10_fault wsX10_fault ({ frames := 3, cells := 0, slots := 0, locals := 68 }) [.ref h1, .int p0] ([(h1, .inr (6, [.int (nI k), v_maps, v_told, v_kinds, v_land, v_spades, v_part, .ref a_pad, .int (nI pm), .ref a_slips, .int sm0, v_made, v_queue, v_depth, v_by, v_from, v_come, v_offOf, v_parent, v_best, v_trees, v_least, v_sums, v_toward, v_kept, v_isKept, v_keptAt, v_isWriting])), (a_pad, .inl (gI G, 40, .inl fd)), (a_slips, .inl (gI G, 10, .inl fs))]) sz (fun (r : Int32) (u : Int32 × (Nat → Int32)) => match u with | (sm1, fs1) => r = fltA k pm fd p0) (fun (u : Int32 × (Nat → Int32)) => match u with | (sm1, fs1) => [(h1, .inr (6, [.int (nI k), v_maps, v_told, v_kinds, v_land, v_spades, v_part, .ref a_pad, .int (nI pm), .ref a_slips, .int sm1, v_made, v_queue, v_depth, v_by, v_from, v_come, v_offOf, v_parent, v_best, v_trees, v_least, v_sums, v_toward, v_kept, v_isKept, v_keptAt, v_isWriting])), (a_pad, .inl (gI G, 40, .inl fd)), (a_slips, .inl (gI G, 10, .inl fs1))]) 0 0 := by
  refine Met.ofW (cc := cX10_fault) (maxL := 2) (ret := (some .int)) (by decide) rfl ?_
  intro p e s m args below meth c s₁ B hml hv
  obtain ⟨rfl, hsz, hP, hD0, E0⟩ := hv
  have hx := B.exec
  have hb := B.bytes
  have hr := B.returns
  have hts := atoms_spec (ws := wsX10_fault) B.pre
  have hown : s.vm.findClass RX10 = some m.cls := findClass_of_methodNamed B.named
  have hlocks := B.notSynchronized
  subst hsz
  have hD := hD0.self (sz := s.heap.size)
  generalize hAe : va_A ([(h1, .inr (6, [.int (nI k), v_maps, v_told, v_kinds, v_land, v_spades, v_part, .ref a_pad, .int (nI pm), .ref a_slips, .int sm0, v_made, v_queue, v_depth, v_by, v_from, v_come, v_offOf, v_parent, v_best, v_trees, v_least, v_sums, v_toward, v_kept, v_isKept, v_keptAt, v_isWriting])), (a_pad, .inl (gI G, 40, .inl fd)), (a_slips, .inl (gI G, 10, .inl fs))]) s.heap.size = A at hD E0 ⊢
  have E : EV G A s s.heap := E0
  have hA : ∀ q : Nat, s.heap.size ≤ q → A q := fun q h => by rw [← hAe]; exact Or.inr h
  have hS : va_S A s.heap s.heap [] := va_S.rf
  have hl := lv_entry ([.ref h1, .int p0]) (n := 2) (Nat.le_of_ble_eq_true rfl)
  rw [lg_entry_eq]
  generalize (lg_sl ([.ref h1, .int p0]) ++ List.replicate (2 - (lg_sl ([.ref h1, .int p0])).length) Slot.unset).toArray = ls at hl ⊢
  have hl : lv_has ls 2 [(0, .ref h1), (1, .int p0)] := hl
  have hP : va_P G.1 vwCl ([(h1, .inr (6, [.int (nI k), v_maps, v_told, v_kinds, v_land, v_spades, v_part, .ref a_pad, .int (nI pm), .ref a_slips, .int sm0, v_made, v_queue, v_depth, v_by, v_from, v_come, v_offOf, v_parent, v_best, v_trees, v_least, v_sums, v_toward, v_kept, v_isKept, v_keptAt, v_isWriting])), (a_pad, .inl (gI G, 40, .inl fd)), (a_slips, .inl (gI G, 10, .inl fs))]) s.heap := hP
  refine lv_iload_n hx hb dX10_fault_0 rfl (lv_at hl 1 rfl) ?_
  refine lv_if_ne (tgt := 12) hx hb dX10_fault_1 (by decide) (fun c1 => ?_) (fun c1 => ?_)
  · refine lv_iload_n hx hb dX10_fault_12 rfl (lv_at hl 1 rfl) ?_
    refine lv_iconst (v := 1) hx hb dX10_fault_13 (by decide) ?_
    refine lv_icmp_ne (tgt := 24) hx hb dX10_fault_14 (by decide) (fun c2 => ?_) (fun c2 => ?_)
    · refine lv_iload_n hx hb dX10_fault_24 rfl (lv_at hl 1 rfl) ?_
      refine lv_iconst (v := 2) hx hb dX10_fault_25 (by decide) ?_
      refine lv_icmp_ne (tgt := 37) hx hb dX10_fault_26 (by decide) (fun c3 => ?_) (fun c3 => ?_)
      · refine lv_bipush (v := (-2)) hx hb dX10_fault_37 (by decide) ?_
        have hP9 := (hP.sub (ws' := [(h1, .inr (6, [.int (nI k), v_maps, v_told, v_kinds, v_land, v_spades, v_part, .ref a_pad, .int (nI pm), .ref a_slips, .int sm0, v_made, v_queue, v_depth, v_by, v_from, v_come, v_offOf, v_parent, v_best, v_trees, v_least, v_sums, v_toward, v_kept, v_isKept, v_keptAt, v_isWriting])), (a_pad, .inl (gI G, 40, .inl fd)), (a_slips, .inl (gI G, 10, .inl fs))]) [0, 1, 2] rfl)
        have hD9 := (hD.sub (ws' := [(h1, .inr (6, [.int (nI k), v_maps, v_told, v_kinds, v_land, v_spades, v_part, .ref a_pad, .int (nI pm), .ref a_slips, .int sm0, v_made, v_queue, v_depth, v_by, v_from, v_come, v_offOf, v_parent, v_best, v_trees, v_least, v_sums, v_toward, v_kept, v_isKept, v_keptAt, v_isWriting])), (a_pad, .inl (gI G, 40, .inl fd)), (a_slips, .inl (gI G, 10, .inl fs))]) [0, 1, 2] (by decide) rfl)
        exact W.iret (v := (-2)) hx hb hr (fun t9_ ht9_ hW9_ => ⟨⟨(-2), (sm0, fs), rfl, by unfold fltA; rw [pIf_f c1, pIf_f c2, pIf_f c3], by rw [ht9_]; exact hP9, hD9⟩, hS.F ht9_⟩) hS.2.2 dX10_fault_39
      · refine lv_aload_n hx hb dX10_fault_29 rfl (lv_at hl 0 rfl) ?_
        refine lv_iconst (v := 1) hx hb dX10_fault_30 (by decide) ?_
        refine ca_iR (va_runV (As := [.int 1]) (rest := []) ⟨hx, hb, hml, hown, hts⟩ (m2_faultOfMap l G s.heap.size h1 v_maps v_told v_kinds v_land v_spades v_part (.ref a_slips) (.int sm0) v_made v_queue v_depth v_by v_from v_come v_offOf v_parent v_best v_trees v_least v_sums v_toward v_kept v_isKept v_keptAt v_isWriting a_pad pm fd k 1 hk2 hk6 (by omega)) (cwV 1 hts gX10_fault_X10_faultOfMap rfl rfl rfl (by decide +kernel) ⟨by decide +kernel, by decide +kernel⟩) (pre_V E hP hD hS hA [0, 1] (by decide) rfl 0 6 rfl rfl) rfl rfl hl.1 rfl (lv_room (Nat.le_of_ble_eq_true rfl)) dX10_fault_31 ⟨by decide +kernel, by decide +kernel⟩) hS hP hD hA [0, 1] rfl (fun r5 _ H locs w4 hP hS => ?_)
        refine lv_goto (tgt := 39) hx hb dX10_fault_34 (by decide) ?_
        have hP9 := (hP.sub (ws' := [(h1, .inr (6, [.int (nI k), v_maps, v_told, v_kinds, v_land, v_spades, v_part, .ref a_pad, .int (nI pm), .ref a_slips, .int sm0, v_made, v_queue, v_depth, v_by, v_from, v_come, v_offOf, v_parent, v_best, v_trees, v_least, v_sums, v_toward, v_kept, v_isKept, v_keptAt, v_isWriting])), (a_pad, .inl (gI G, 40, .inl fd)), (a_slips, .inl (gI G, 10, .inl fs))]) [0, 1, 2] rfl)
        have hD9 := (hD.sub (ws' := [(h1, .inr (6, [.int (nI k), v_maps, v_told, v_kinds, v_land, v_spades, v_part, .ref a_pad, .int (nI pm), .ref a_slips, .int sm0, v_made, v_queue, v_depth, v_by, v_from, v_come, v_offOf, v_parent, v_best, v_trees, v_least, v_sums, v_toward, v_kept, v_isKept, v_keptAt, v_isWriting])), (a_pad, .inl (gI G, 40, .inl fd)), (a_slips, .inl (gI G, 10, .inl fs))]) [0, 1, 2] (by decide) rfl)
        exact W.iret (v := r5) hx hb hr (fun t9_ ht9_ hW9_ => ⟨⟨r5, (sm0, fs), rfl, by rw [w4]; unfold fltA; rw [pIf_f c1, pIf_f c2, pIf_t c3]; exact fmF_w (by decide), by rw [ht9_]; exact hP9, hD9⟩, hS.F ht9_⟩) hS.2.2 dX10_fault_39
    · refine lv_aload_n hx hb dX10_fault_17 rfl (lv_at hl 0 rfl) ?_
      refine ca_i (wr := []) (va_runV (As := []) (rest := []) ⟨hx, hb, hml, hown, hts⟩ (m2_faultOfSlips l G s.heap.size h1 v_maps v_told v_kinds v_land v_spades v_part v_made v_queue v_depth v_by v_from v_come v_offOf v_parent v_best v_trees v_least v_sums v_toward v_kept v_isKept v_keptAt v_isWriting a_pad pm fd a_slips k fs sm0 hk2 hk6 (by omega)) (cwV 0 hts gX10_fault_X10_faultOfSlips rfl rfl rfl (by decide +kernel) ⟨by decide +kernel, by decide +kernel⟩) (pre_V E hP hD hS hA [0, 1, 2] (by decide) rfl 0 6 rfl rfl) rfl rfl hl.1 rfl (lv_room (Nat.le_of_ble_eq_true rfl)) dX10_fault_18 ⟨by decide +kernel, by decide +kernel⟩) hS hP hD hA [0, 1, 2] [] rfl rfl (by decide) (by decide) (fun r7 u8 H locs w6 hP hD hS => ?_)
      obtain ⟨sm1_9, fs1_10⟩ := u8
      try dsimp only at w6 hP hD
      have hP := (hP.sub (ws' := [(h1, .inr (6, [.int (nI k), v_maps, v_told, v_kinds, v_land, v_spades, v_part, .ref a_pad, .int (nI pm), .ref a_slips, .int (nI sm1_9), v_made, v_queue, v_depth, v_by, v_from, v_come, v_offOf, v_parent, v_best, v_trees, v_least, v_sums, v_toward, v_kept, v_isKept, v_keptAt, v_isWriting])), (a_pad, .inl (gI G, 40, .inl fd)), (a_slips, .inl (gI G, 10, .inl fs1_10))]) [0, 1, 2] rfl)
      have hD := (hD.sub (ws' := [(h1, .inr (6, [.int (nI k), v_maps, v_told, v_kinds, v_land, v_spades, v_part, .ref a_pad, .int (nI pm), .ref a_slips, .int (nI sm1_9), v_made, v_queue, v_depth, v_by, v_from, v_come, v_offOf, v_parent, v_best, v_trees, v_least, v_sums, v_toward, v_kept, v_isKept, v_keptAt, v_isWriting])), (a_pad, .inl (gI G, 40, .inl fd)), (a_slips, .inl (gI G, 10, .inl fs1_10))]) [0, 1, 2] (by decide) rfl)
      refine lv_goto (tgt := 39) hx hb dX10_fault_21 (by decide) ?_
      have hP9 := (hP.sub (ws' := [(h1, .inr (6, [.int (nI k), v_maps, v_told, v_kinds, v_land, v_spades, v_part, .ref a_pad, .int (nI pm), .ref a_slips, .int (nI sm1_9), v_made, v_queue, v_depth, v_by, v_from, v_come, v_offOf, v_parent, v_best, v_trees, v_least, v_sums, v_toward, v_kept, v_isKept, v_keptAt, v_isWriting])), (a_pad, .inl (gI G, 40, .inl fd)), (a_slips, .inl (gI G, 10, .inl fs1_10))]) [0, 1, 2] rfl)
      have hD9 := (hD.sub (ws' := [(h1, .inr (6, [.int (nI k), v_maps, v_told, v_kinds, v_land, v_spades, v_part, .ref a_pad, .int (nI pm), .ref a_slips, .int (nI sm1_9), v_made, v_queue, v_depth, v_by, v_from, v_come, v_offOf, v_parent, v_best, v_trees, v_least, v_sums, v_toward, v_kept, v_isKept, v_keptAt, v_isWriting])), (a_pad, .inl (gI G, 40, .inl fd)), (a_slips, .inl (gI G, 10, .inl fs1_10))]) [0, 1, 2] (by decide) rfl)
      exact W.iret (v := r7) hx hb hr (fun t9_ ht9_ hW9_ => ⟨⟨r7, (nI sm1_9, fs1_10), rfl, by rw [w6.2.1]; unfold fltA; rw [pIf_f c1, pIf_t c2], by rw [ht9_]; exact hP9, hD9⟩, hS.F ht9_⟩) hS.2.2 dX10_fault_39
  · refine lv_aload_n hx hb dX10_fault_4 rfl (lv_at hl 0 rfl) ?_
    refine lv_iconst (v := 0) hx hb dX10_fault_5 (by decide) ?_
    refine ca_iR (va_runV (As := [.int 0]) (rest := []) ⟨hx, hb, hml, hown, hts⟩ (m2_faultOfMap l G s.heap.size h1 v_maps v_told v_kinds v_land v_spades v_part (.ref a_slips) (.int sm0) v_made v_queue v_depth v_by v_from v_come v_offOf v_parent v_best v_trees v_least v_sums v_toward v_kept v_isKept v_keptAt v_isWriting a_pad pm fd k 0 hk2 hk6 (by omega)) (cwV 1 hts gX10_fault_X10_faultOfMap rfl rfl rfl (by decide +kernel) ⟨by decide +kernel, by decide +kernel⟩) (pre_V E hP hD hS hA [0, 1] (by decide) rfl 0 6 rfl rfl) rfl rfl hl.1 rfl (lv_room (Nat.le_of_ble_eq_true rfl)) dX10_fault_6 ⟨by decide +kernel, by decide +kernel⟩) hS hP hD hA [0, 1] rfl (fun r12 _ H locs w11 hP hS => ?_)
    refine lv_goto (tgt := 39) hx hb dX10_fault_9 (by decide) ?_
    have hP9 := (hP.sub (ws' := [(h1, .inr (6, [.int (nI k), v_maps, v_told, v_kinds, v_land, v_spades, v_part, .ref a_pad, .int (nI pm), .ref a_slips, .int sm0, v_made, v_queue, v_depth, v_by, v_from, v_come, v_offOf, v_parent, v_best, v_trees, v_least, v_sums, v_toward, v_kept, v_isKept, v_keptAt, v_isWriting])), (a_pad, .inl (gI G, 40, .inl fd)), (a_slips, .inl (gI G, 10, .inl fs))]) [0, 1, 2] rfl)
    have hD9 := (hD.sub (ws' := [(h1, .inr (6, [.int (nI k), v_maps, v_told, v_kinds, v_land, v_spades, v_part, .ref a_pad, .int (nI pm), .ref a_slips, .int sm0, v_made, v_queue, v_depth, v_by, v_from, v_come, v_offOf, v_parent, v_best, v_trees, v_least, v_sums, v_toward, v_kept, v_isKept, v_keptAt, v_isWriting])), (a_pad, .inl (gI G, 40, .inl fd)), (a_slips, .inl (gI G, 10, .inl fs))]) [0, 1, 2] (by decide) rfl)
    exact W.iret (v := r12) hx hb hr (fun t9_ ht9_ hW9_ => ⟨⟨r12, (sm0, fs), rfl, by rw [w11]; unfold fltA; rw [pIf_t c1]; exact fmF_w (by decide), by rw [ht9_]; exact hP9, hD9⟩, hS.F ht9_⟩) hS.2.2 dX10_fault_39

set_option maxHeartbeats 1000000 in
set_option maxRecDepth 100000 in
theorem m2_map (l : Launch) (G : Gy) (sz : Nat) (h1 : Nat) (v_kinds : Value) (v_land : Value) (v_spades : Value) (v_part : Value) (v_slips : Value) (v_slipMany : Value) (v_made : Value) (v_queue : Value) (v_depth : Value) (v_by : Value) (v_from : Value) (v_come : Value) (v_offOf : Value) (v_parent : Value) (v_best : Value) (v_trees : Value) (v_least : Value) (v_sums : Value) (v_toward : Value) (v_kept : Value) (v_isKept : Value) (v_keptAt : Value) (v_isWriting : Value) (a_maps : Nat) (fm : Nat → Int32) (a_pad : Nat) (pm : Nat) (fd : Nat → Int32) (k : Nat) (told : Int32) (p0 : Int32) (hk2 : 2 ≤ k) (hk6 : k ≤ 6) (hpm : pm ≤ 40) (hfm : mapsOK k fm) : Ci l G yX10_map wsX10_map ({ frames := 3, cells := 0, slots := 0, locals := 68 }) [.ref h1, .int p0] ([(h1, .inr (6, [.int (nI k), .ref a_maps, .int told, v_kinds, v_land, v_spades, v_part, .ref a_pad, .int (nI pm), v_slips, v_slipMany, v_made, v_queue, v_depth, v_by, v_from, v_come, v_offOf, v_parent, v_best, v_trees, v_least, v_sums, v_toward, v_kept, v_isKept, v_keptAt, v_isWriting])), (a_maps, .inl (gI G, 6, .inl fm)), (a_pad, .inl (gI G, 40, .inl fd))]) sz (fun (r : Int32) (u : Int32 × Nat × (Nat → Int32)) => match u with | (told1, pm1, fm1) => pm1 ≤ 40 ∧ mapsOK k fm1 ∧ r = (mpA k pm fd p0).1 ∧ MOut k (mpA k pm fd p0).2 p0 told told1 pm pm1 fm fm1) (fun (u : Int32 × Nat × (Nat → Int32)) => match u with | (told1, pm1, fm1) => [(h1, .inr (6, [.int (nI k), .ref a_maps, .int told1, v_kinds, v_land, v_spades, v_part, .ref a_pad, .int (nI pm1), v_slips, v_slipMany, v_made, v_queue, v_depth, v_by, v_from, v_come, v_offOf, v_parent, v_best, v_trees, v_least, v_sums, v_toward, v_kept, v_isKept, v_keptAt, v_isWriting])), (a_maps, .inl (gI G, 6, .inl fm1)), (a_pad, .inl (gI G, 40, .inl fd))]) 0 0 := by
  refine Met.ofW (cc := cX10_map) (maxL := 4) (ret := (some .int)) (by decide) rfl ?_
  intro p e s m args below meth c s₁ B hml hv
  obtain ⟨rfl, hsz, hP, hD0, E0⟩ := hv
  have hx := B.exec
  have hb := B.bytes
  have hr := B.returns
  have hts := atoms_spec (ws := wsX10_map) B.pre
  have hown : s.vm.findClass RX10 = some m.cls := findClass_of_methodNamed B.named
  have hlocks := B.notSynchronized
  subst hsz
  have hD := hD0.self (sz := s.heap.size)
  generalize hAe : va_A ([(h1, .inr (6, [.int (nI k), .ref a_maps, .int told, v_kinds, v_land, v_spades, v_part, .ref a_pad, .int (nI pm), v_slips, v_slipMany, v_made, v_queue, v_depth, v_by, v_from, v_come, v_offOf, v_parent, v_best, v_trees, v_least, v_sums, v_toward, v_kept, v_isKept, v_keptAt, v_isWriting])), (a_maps, .inl (gI G, 6, .inl fm)), (a_pad, .inl (gI G, 40, .inl fd))]) s.heap.size = A at hD E0 ⊢
  have E : EV G A s s.heap := E0
  have hA : ∀ q : Nat, s.heap.size ≤ q → A q := fun q h => by rw [← hAe]; exact Or.inr h
  have hS : va_S A s.heap s.heap [] := va_S.rf
  have hl := lv_entry ([.ref h1, .int p0]) (n := 4) (Nat.le_of_ble_eq_true rfl)
  rw [lg_entry_eq]
  generalize (lg_sl ([.ref h1, .int p0]) ++ List.replicate (4 - (lg_sl ([.ref h1, .int p0])).length) Slot.unset).toArray = ls at hl ⊢
  have hl : lv_has ls 4 [(0, .ref h1), (1, .int p0)] := hl
  have hP : va_P G.1 vwCl ([(h1, .inr (6, [.int (nI k), .ref a_maps, .int told, v_kinds, v_land, v_spades, v_part, .ref a_pad, .int (nI pm), v_slips, v_slipMany, v_made, v_queue, v_depth, v_by, v_from, v_come, v_offOf, v_parent, v_best, v_trees, v_least, v_sums, v_toward, v_kept, v_isKept, v_keptAt, v_isWriting])), (a_maps, .inl (gI G, 6, .inl fm)), (a_pad, .inl (gI G, 40, .inl fd))]) s.heap := hP
  have hal := p5le hk6
  refine lv_iload_n hx hb dX10_map_0 rfl (lv_at hl 1 rfl) ?_
  refine ca_iR (va_runS (As := [.int p0]) (rest := []) ⟨hx, hb, hml, hown, hts⟩ (m_isMap l G s.heap.size p0) (va_cwS 1 hts gX10_map_X10_isMap rfl rfl rfl (by decide +kernel) ⟨by decide +kernel, by decide +kernel⟩) (pre_S E hP hD hS hA [] (by decide) rfl) rfl rfl hl.1 rfl (lv_room (Nat.le_of_ble_eq_true rfl)) dX10_map_1 ⟨by decide +kernel, by decide +kernel⟩) hS hP hD hA [] rfl (fun r2 _ H locs w1 hP hS => ?_)
  rcases w1 with ⟨rfl, b3⟩ | ⟨rfl, b3⟩
  · refine lv_if_ne (tgt := 9) hx hb dX10_map_4 (by decide) (fun _ => ?_) (fun c4 => False.elim (by revert c4; decide))
    obtain ⟨j_p0, hj_p0, ej_p0⟩ := inR6 b3
    have hl : lv_has ls 4 [(0, .ref h1), (1, .int (nI j_p0))] := by have q := hl; rw [ej_p0] at q; exact q
    refine lv_aload_n hx hb dX10_map_9 rfl (lv_at hl 0 rfl) ?_
    refine lv_iconst (v := 0) hx hb dX10_map_10 (by decide) ?_
    refine ca_iR (va_runV (As := [.int 0]) (rest := []) ⟨hx, hb, hml, hown, hts⟩ (m2_faultOfMap l G H.size h1 (.ref a_maps) (.int told) v_kinds v_land v_spades v_part v_slips v_slipMany v_made v_queue v_depth v_by v_from v_come v_offOf v_parent v_best v_trees v_least v_sums v_toward v_kept v_isKept v_keptAt v_isWriting a_pad pm fd k 0 hk2 hk6 (by omega)) (cwV 1 hts gX10_map_X10_faultOfMap rfl rfl rfl (by decide +kernel) ⟨by decide +kernel, by decide +kernel⟩) (pre_V E hP hD hS hA [0, 2] (by decide) rfl 0 6 rfl rfl) rfl rfl hl.1 rfl (lv_room (Nat.le_of_ble_eq_true rfl)) dX10_map_11 ⟨by decide +kernel, by decide +kernel⟩) hS hP hD hA [0, 2] rfl (fun r6 _ H locs w5 hP hS => ?_)
    refine lv_if_lt (tgt := 20) hx hb dX10_map_14 (by decide) (fun c7 => ?_) (fun c7 => ?_)
    · have hfm0 : fmF fd pm k False pm 0 = (-6) := (neg_cases (fmF_cases hpm pm 0 (by omega))).mp (by rw [← fmF_w (w := ¬ (0 : Int32) = 0) (by decide), ← w5]; exact c7)
      obtain ⟨hpk, hcan⟩ := fmF_map hpm not_false hfm0
      refine lv_iconst (v := 0) hx hb dX10_map_20 (by decide) ?_
      refine lv_istore_n (lv' := [(2, .int 0), (0, .ref h1), (1, .int (nI j_p0))]) hx hb dX10_map_21 rfl hl (by decide) rfl (fun ls hl => ?_)
      refine lv_iconst (v := 0) hx hb dX10_map_22 (by decide) ?_
      refine lv_istore_n (lv' := [(3, .int 0), (2, .int 0), (0, .ref h1), (1, .int (nI j_p0))]) hx hb dX10_map_23 rfl hl (by decide) rfl (fun ls hl => ?_)
      refine lp_run (x0 := (0, 0)) (fun xx_ : Nat × Nat => match xx_ with | (x, q) => [(h1, .inr (6, [.int (nI k), .ref a_maps, .int told, v_kinds, v_land, v_spades, v_part, .ref a_pad, .int (nI pm), v_slips, v_slipMany, v_made, v_queue, v_depth, v_by, v_from, v_come, v_offOf, v_parent, v_best, v_trees, v_least, v_sums, v_toward, v_kept, v_isKept, v_keptAt, v_isWriting])), (a_maps, .inl (gI G, 6, .inl fm)), (a_pad, .inl (gI G, 40, .inl fd))]) (fun xx_ : Nat × Nat => match xx_ with | (x, q) => [(3, .int (nI x)), (2, .int (nI q)), (0, .ref h1), (1, .int (nI j_p0))]) (fun xx_ : Nat × Nat => match xx_ with | (x, q) => (x ≤ k) ∧ (q < 5 ^ x ∧ q = mkM fd x)) (fun xx_ : Nat × Nat => match xx_ with | (x, q) => k - x) (hP.sub [0, 1, 2] rfl) (hD.sub [0, 1, 2] (by decide) rfl) hS (lv_sub hl [0, 1, 2, 3] rfl) ⟨(by omega), ⟨by decide, rfl⟩⟩ ?_
      intro xx_ hI ih24 H locs ls hP hD hS hl
      obtain ⟨x, q⟩ := xx_
      dsimp only at hI ih24 hP hD hl
      obtain ⟨hx0, hq⟩ := hI
      have hl : lv_has ls 4 [(3, .int (nI x)), (2, .int (nI q)), (0, .ref h1), (1, .int (nI j_p0))] := hl
      have hP : va_P G.1 vwCl ([(h1, .inr (6, [.int (nI k), .ref a_maps, .int told, v_kinds, v_land, v_spades, v_part, .ref a_pad, .int (nI pm), v_slips, v_slipMany, v_made, v_queue, v_depth, v_by, v_from, v_come, v_offOf, v_parent, v_best, v_trees, v_least, v_sums, v_toward, v_kept, v_isKept, v_keptAt, v_isWriting])), (a_maps, .inl (gI G, 6, .inl fm)), (a_pad, .inl (gI G, 40, .inl fd))]) H := hP
      have hD : va_D A ([(h1, .inr (6, [.int (nI k), .ref a_maps, .int told, v_kinds, v_land, v_spades, v_part, .ref a_pad, .int (nI pm), v_slips, v_slipMany, v_made, v_queue, v_depth, v_by, v_from, v_come, v_offOf, v_parent, v_best, v_trees, v_least, v_sums, v_toward, v_kept, v_isKept, v_keptAt, v_isWriting])), (a_maps, .inl (gI G, 6, .inl fm)), (a_pad, .inl (gI G, 40, .inl fd))]) := hD
      refine lv_iload_n hx hb dX10_map_24 rfl (lv_at hl 0 rfl) ?_
      refine lv_aload_n hx hb dX10_map_25 rfl (lv_at hl 2 rfl) ?_
      refine va_get (D := G.1) (ci := 6) (v := .int (nI k)) (C := RX10) (T := TX10) (N := 28) hx hb hts (fun _ h => List.mem_cons_of_mem _ (List.mem_append_right _ h)) hown E.K hP 0 rfl rfl 0 (by decide) (hts (.fieldLink RX10 67 "LastMapModel" "sites" "I") (by decide +kernel)) (fun _ h9 => h9) rfl dX10_map_26 ?_
      refine lv_icmp_ge (tgt := 52) hx hb dX10_map_29 (by decide) (fun c8 => ?_) (fun c8 => ?_)
      · have c8 : k ≤ x := (nI_leI (a := k) (b := x) (by omega) (by omega)).mp c8
        refine lv_aload_n hx hb dX10_map_52 rfl (lv_at hl 2 rfl) ?_
        refine va_get (D := G.1) (ci := 6) (v := .ref a_maps) (C := RX10) (T := TX10) (N := 28) hx hb hts (fun _ h => List.mem_cons_of_mem _ (List.mem_append_right _ h)) hown E.K hP 0 rfl rfl 1 (by decide) (hts (.fieldLink RX10 7 "LastMapModel" "maps" "[I") (by decide +kernel)) (fun _ h9 => h9) rfl dX10_map_53 ?_
        refine lv_iload_n hx hb dX10_map_56 rfl (lv_at hl 3 rfl) ?_
        refine lv_iload_n hx hb dX10_map_57 rfl (lv_at hl 1 rfl) ?_
        refine va_iast hx hb E.K hP hD hS 1 1 rfl rfl (i := nI j_p0) (vp_in_nI (by omega) (by decide)) dX10_map_58 (fun H locs hP hD hS => ?_)
        obtain ⟨f9, ef9⟩ : ∃ yy_ : Nat → Int32, yy_ = upd fm (nI j_p0).toNatClampNeg (nI q) := ⟨_, rfl⟩
        have hP : va_P G.1 vwCl ([(h1, .inr (6, [.int (nI k), .ref a_maps, .int told, v_kinds, v_land, v_spades, v_part, .ref a_pad, .int (nI pm), v_slips, v_slipMany, v_made, v_queue, v_depth, v_by, v_from, v_come, v_offOf, v_parent, v_best, v_trees, v_least, v_sums, v_toward, v_kept, v_isKept, v_keptAt, v_isWriting])), (a_maps, .inl (gI G, 6, .inl f9)), (a_pad, .inl (gI G, 40, .inl fd))]) H := by rw [ef9]; exact hP
        have hD : va_D A ([(h1, .inr (6, [.int (nI k), .ref a_maps, .int told, v_kinds, v_land, v_spades, v_part, .ref a_pad, .int (nI pm), v_slips, v_slipMany, v_made, v_queue, v_depth, v_by, v_from, v_come, v_offOf, v_parent, v_best, v_trees, v_least, v_sums, v_toward, v_kept, v_isKept, v_keptAt, v_isWriting])), (a_maps, .inl (gI G, 6, .inl f9)), (a_pad, .inl (gI G, 40, .inl fd))]) := by rw [ef9]; exact hD
        refine lv_aload_n hx hb dX10_map_59 rfl (lv_at hl 2 rfl) ?_
        refine lv_dup hx hb dX10_map_60 rfl ?_
        refine va_get (D := G.1) (ci := 6) (v := .int told) (C := RX10) (T := TX10) (N := 28) hx hb hts (fun _ h => List.mem_cons_of_mem _ (List.mem_append_right _ h)) hown E.K hP 0 rfl rfl 2 (by decide) (hts (.fieldLink RX10 70 "LastMapModel" "told" "I") (by decide +kernel)) (fun _ h9 => h9) rfl dX10_map_61 ?_
        refine lv_iconst (v := 1) hx hb dX10_map_64 (by decide) ?_
        refine lv_iload_n hx hb dX10_map_65 rfl (lv_at hl 3 rfl) ?_
        refine lv_ishl hx hb dX10_map_66 ?_
        refine lv_topi (fun x10 ex10 => ?_)
        refine lv_ior hx hb dX10_map_67 ?_
        refine lv_topi (fun x11 ex11 => ?_)
        refine va_put (D := G.1) (ci := 6) (v := .int x11) (ty := .int) (C := RX10) (T := TX10) (N := 28) hx hb hts (fun _ h => List.mem_cons_of_mem _ (List.mem_append_right _ h)) tyX10 tyX10_ok nmX10 hown E.K hP hD hS 0 rfl rfl 2 (by decide) (hts (.fieldLink RX10 70 "LastMapModel" "told" "I") (by decide +kernel)) (fun _ h9 => h9) rfl (by decide +kernel) rfl rfl (Nat.le_of_ble_eq_true rfl) dX10_map_68 (fun H locs hP hD hS => ?_)
        have hP : va_P G.1 vwCl ([(h1, .inr (6, [.int (nI k), .ref a_maps, .int x11, v_kinds, v_land, v_spades, v_part, .ref a_pad, .int (nI pm), v_slips, v_slipMany, v_made, v_queue, v_depth, v_by, v_from, v_come, v_offOf, v_parent, v_best, v_trees, v_least, v_sums, v_toward, v_kept, v_isKept, v_keptAt, v_isWriting])), (a_maps, .inl (gI G, 6, .inl f9)), (a_pad, .inl (gI G, 40, .inl fd))]) H := hP
        have hD : va_D A ([(h1, .inr (6, [.int (nI k), .ref a_maps, .int x11, v_kinds, v_land, v_spades, v_part, .ref a_pad, .int (nI pm), v_slips, v_slipMany, v_made, v_queue, v_depth, v_by, v_from, v_come, v_offOf, v_parent, v_best, v_trees, v_least, v_sums, v_toward, v_kept, v_isKept, v_keptAt, v_isWriting])), (a_maps, .inl (gI G, 6, .inl f9)), (a_pad, .inl (gI G, 40, .inl fd))]) := hD
        refine lv_aload_n hx hb dX10_map_71 rfl (lv_at hl 2 rfl) ?_
        refine lv_iconst (v := 0) hx hb dX10_map_72 (by decide) ?_
        refine va_put (D := G.1) (ci := 6) (v := .int 0) (ty := .int) (C := RX10) (T := TX10) (N := 28) hx hb hts (fun _ h => List.mem_cons_of_mem _ (List.mem_append_right _ h)) tyX10 tyX10_ok nmX10 hown E.K hP hD hS 0 rfl rfl 8 (by decide) (hts (.fieldLink RX10 103 "LastMapModel" "padMany" "I") (by decide +kernel)) (fun _ h9 => h9) rfl (by decide +kernel) rfl rfl (Nat.le_of_ble_eq_true rfl) dX10_map_73 (fun H locs hP hD hS => ?_)
        have hP : va_P G.1 vwCl ([(h1, .inr (6, [.int (nI k), .ref a_maps, .int x11, v_kinds, v_land, v_spades, v_part, .ref a_pad, .int 0, v_slips, v_slipMany, v_made, v_queue, v_depth, v_by, v_from, v_come, v_offOf, v_parent, v_best, v_trees, v_least, v_sums, v_toward, v_kept, v_isKept, v_keptAt, v_isWriting])), (a_maps, .inl (gI G, 6, .inl f9)), (a_pad, .inl (gI G, 40, .inl fd))]) H := hP
        have hD : va_D A ([(h1, .inr (6, [.int (nI k), .ref a_maps, .int x11, v_kinds, v_land, v_spades, v_part, .ref a_pad, .int 0, v_slips, v_slipMany, v_made, v_queue, v_depth, v_by, v_from, v_come, v_offOf, v_parent, v_best, v_trees, v_least, v_sums, v_toward, v_kept, v_isKept, v_keptAt, v_isWriting])), (a_maps, .inl (gI G, 6, .inl f9)), (a_pad, .inl (gI G, 40, .inl fd))]) := hD
        refine lv_iconst (v := 1) hx hb dX10_map_76 (by decide) ?_
        have hP9 := (hP.sub (ws' := [(h1, .inr (6, [.int (nI k), .ref a_maps, .int x11, v_kinds, v_land, v_spades, v_part, .ref a_pad, .int 0, v_slips, v_slipMany, v_made, v_queue, v_depth, v_by, v_from, v_come, v_offOf, v_parent, v_best, v_trees, v_least, v_sums, v_toward, v_kept, v_isKept, v_keptAt, v_isWriting])), (a_maps, .inl (gI G, 6, .inl f9)), (a_pad, .inl (gI G, 40, .inl fd))]) [0, 1, 2] rfl)
        have hD9 := (hD.sub (ws' := [(h1, .inr (6, [.int (nI k), .ref a_maps, .int x11, v_kinds, v_land, v_spades, v_part, .ref a_pad, .int 0, v_slips, v_slipMany, v_made, v_queue, v_depth, v_by, v_from, v_come, v_offOf, v_parent, v_best, v_trees, v_least, v_sums, v_toward, v_kept, v_isKept, v_keptAt, v_isWriting])), (a_maps, .inl (gI G, 6, .inl f9)), (a_pad, .inl (gI G, 40, .inl fd))]) [0, 1, 2] (by decide) rfl)
        exact W.iret (v := 1) hx hb hr (fun t9_ ht9_ hW9_ => ⟨⟨1, (x11, 0, f9), rfl, ⟨by omega, by rw [ef9, nI_clamp (by omega)]; exact mapsOK_upd hfm (by (rw [show k = x by omega]; exact hq.1)), MO_s (mpA_3 b3 hfm0) (mkM_ok k hcan).1 rfl (by unfold tb; rw [ex11, ex10, ej_p0]) (by rw [ef9, hq.2, show x = k by omega, ej_p0])⟩, by rw [ht9_]; exact hP9, hD9⟩, hS.F ht9_⟩) hS.2.2 dX10_map_77
      · have c8 : ¬ k ≤ x := fun h9_ => c8 ((nI_leI (a := k) (b := x) (by omega) (by omega)).mpr h9_)
        refine lv_iconst (v := 5) hx hb dX10_map_32 (by decide) ?_
        refine lv_iload_n hx hb dX10_map_33 rfl (lv_at hl 1 rfl) ?_
        refine lv_imul hx hb dX10_map_34 ?_
        refine lv_topi (fun x12 ex12 => ?_)
        obtain rfl : x12 = nI (5 * q) := by rw [ex12]; exact pk_mul 5 q
        refine lv_aload_n hx hb dX10_map_35 rfl (lv_at hl 2 rfl) ?_
        refine va_get (D := G.1) (ci := 6) (v := .ref a_pad) (C := RX10) (T := TX10) (N := 28) hx hb hts (fun _ h => List.mem_cons_of_mem _ (List.mem_append_right _ h)) hown E.K hP 0 rfl rfl 7 (by decide) (hts (.fieldLink RX10 19 "LastMapModel" "pad" "[I") (by decide +kernel)) (fun _ h9 => h9) rfl dX10_map_36 ?_
        refine lv_iload_n hx hb dX10_map_39 rfl (lv_at hl 0 rfl) ?_
        refine va_iald hx hb E.K hP 2 1 rfl rfl (i := nI x) (vp_in_nI (by omega) (by decide)) dX10_map_40 ?_
        refine lv_topi (fun x13 ex13 => ?_)
        refine ca_iR (va_runS (As := [.int x13]) (rest := [.int (nI (5 * q))]) ⟨hx, hb, hml, hown, hts⟩ (m_signOf l G H.size x13) (va_cwS 1 hts gX10_map_X10_signOf rfl rfl rfl (by decide +kernel) ⟨by decide +kernel, by decide +kernel⟩) (pre_S E hP hD hS hA [] (by decide) rfl) rfl rfl hl.1 rfl (lv_room (Nat.le_of_ble_eq_true rfl)) dX10_map_41 ⟨by decide +kernel, by decide +kernel⟩) hS hP hD hA [] rfl (fun r15 _ H locs w14 hP hS => ?_)
        obtain ⟨g9, hg9, eg9⟩ := sgO_nat (c := fd x) (hcan x (by omega))
        have hq5 : q < 15625 := Nat.lt_of_lt_of_le hq.1 (Nat.le_trans (Nat.pow_le_pow_right (by decide) (show x ≤ k by omega)) hal)
        obtain rfl : r15 = nI g9 := by rw [w14, ex13, nI_clamp (by omega), eg9]
        refine lv_iadd hx hb dX10_map_44 ?_
        refine lv_topi (fun x16 ex16 => ?_)
        obtain rfl : x16 = nI ((5 * q) + g9) := by rw [ex16]; exact nI_add (5 * q) g9
        refine lv_istore_n (lv' := [(2, .int (nI ((5 * q) + g9))), (3, .int (nI x)), (0, .ref h1), (1, .int (nI j_p0))]) hx hb dX10_map_45 rfl hl (by decide) rfl (fun ls hl => ?_)
        obtain ⟨x17, ex17⟩ : ∃ yy_ : Int32, yy_ = (nI x) + 1 := ⟨_, rfl⟩
        refine lv_iinc (v := x17) (lv' := [(3, .int x17), (2, .int (nI ((5 * q) + g9))), (0, .ref h1), (1, .int (nI j_p0))]) hx hb dX10_map_46 hl (k := 1) rfl (by rw [ex17]; rfl) (by decide) rfl (fun ls hl => ?_)
        obtain rfl : x17 = nI (x + 1) := by rw [ex17]; exact nI_add x 1
        refine lv_goto (tgt := 24) hx hb dX10_map_49 (by decide) ?_
        refine ih24 ((x + 1), ((5 * q) + g9)) ⟨?_, ?_⟩ (by first | omega | (dsimp only; omega)) H locs ls (hP.sub [0, 1, 2] rfl) (hD.sub [0, 1, 2] (by decide) rfl) hS (lv_sub hl [0, 1, 2, 3] rfl)
        · try dsimp only
          omega
        · try dsimp only
          exact ⟨by rw [Nat.pow_succ]; omega, by show _ = 5 * mkM fd x + (sgO (fd x)).toNatClampNeg; rw [eg9, nI_clamp (by omega), ← hq.2]⟩
    · refine lv_bipush (v := (-5)) hx hb dX10_map_17 (by decide) ?_
      have hP9 := (hP.sub (ws' := [(h1, .inr (6, [.int (nI k), .ref a_maps, .int told, v_kinds, v_land, v_spades, v_part, .ref a_pad, .int (nI pm), v_slips, v_slipMany, v_made, v_queue, v_depth, v_by, v_from, v_come, v_offOf, v_parent, v_best, v_trees, v_least, v_sums, v_toward, v_kept, v_isKept, v_keptAt, v_isWriting])), (a_maps, .inl (gI G, 6, .inl fm)), (a_pad, .inl (gI G, 40, .inl fd))]) [0, 1, 2] rfl)
      have hD9 := (hD.sub (ws' := [(h1, .inr (6, [.int (nI k), .ref a_maps, .int told, v_kinds, v_land, v_spades, v_part, .ref a_pad, .int (nI pm), v_slips, v_slipMany, v_made, v_queue, v_depth, v_by, v_from, v_come, v_offOf, v_parent, v_best, v_trees, v_least, v_sums, v_toward, v_kept, v_isKept, v_keptAt, v_isWriting])), (a_maps, .inl (gI G, 6, .inl fm)), (a_pad, .inl (gI G, 40, .inl fd))]) [0, 1, 2] (by decide) rfl)
      exact W.iret (v := (-5)) hx hb hr (fun t9_ ht9_ hW9_ => ⟨⟨(-5), (told, pm, fm), rfl, ⟨hpm, hfm, MO_n (mpA_2 b3 (fun q9 => c7 (by rw [w5, fmF_w (w' := False) (by decide), q9]; decide))) rfl⟩, by rw [ht9_]; exact hP9, hD9⟩, hS.F ht9_⟩) hS.2.2 dX10_map_19
  · refine lv_if_ne (tgt := 9) hx hb dX10_map_4 (by decide) (fun c18 => False.elim (by revert c18; decide)) (fun _ => ?_)
    refine lv_iconst (v := (-1)) hx hb dX10_map_7 (by decide) ?_
    have hP9 := (hP.sub (ws' := [(h1, .inr (6, [.int (nI k), .ref a_maps, .int told, v_kinds, v_land, v_spades, v_part, .ref a_pad, .int (nI pm), v_slips, v_slipMany, v_made, v_queue, v_depth, v_by, v_from, v_come, v_offOf, v_parent, v_best, v_trees, v_least, v_sums, v_toward, v_kept, v_isKept, v_keptAt, v_isWriting])), (a_maps, .inl (gI G, 6, .inl fm)), (a_pad, .inl (gI G, 40, .inl fd))]) [0, 1, 2] rfl)
    have hD9 := (hD.sub (ws' := [(h1, .inr (6, [.int (nI k), .ref a_maps, .int told, v_kinds, v_land, v_spades, v_part, .ref a_pad, .int (nI pm), v_slips, v_slipMany, v_made, v_queue, v_depth, v_by, v_from, v_come, v_offOf, v_parent, v_best, v_trees, v_least, v_sums, v_toward, v_kept, v_isKept, v_keptAt, v_isWriting])), (a_maps, .inl (gI G, 6, .inl fm)), (a_pad, .inl (gI G, 40, .inl fd))]) [0, 1, 2] (by decide) rfl)
    exact W.iret (v := (-1)) hx hb hr (fun t9_ ht9_ hW9_ => ⟨⟨(-1), (told, pm, fm), rfl, ⟨hpm, hfm, MO_n (mpA_1 b3) rfl⟩, by rw [ht9_]; exact hP9, hD9⟩, hS.F ht9_⟩) hS.2.2 dX10_map_8

set_option maxHeartbeats 1000000 in
set_option maxRecDepth 100000 in
theorem m2_at (l : Launch) (G : Gy) (sz : Nat) (h1 : Nat) (v_kinds : Value) (v_land : Value) (v_spades : Value) (v_pad : Value) (v_padMany : Value) (v_slips : Value) (v_slipMany : Value) (v_made : Value) (v_queue : Value) (v_depth : Value) (v_by : Value) (v_from : Value) (v_come : Value) (v_offOf : Value) (v_parent : Value) (v_best : Value) (v_trees : Value) (v_least : Value) (v_sums : Value) (v_toward : Value) (v_kept : Value) (v_isKept : Value) (v_keptAt : Value) (v_isWriting : Value) (a_maps : Nat) (fm : Nat → Int32) (a_part : Nat) (fp : Nat → Int32) (k : Nat) (told : Int32) (p0 : Int32) (p1 : Int32) (hk2 : 2 ≤ k) (hk6 : k ≤ 6) (hp : pOK k fp) (hfm : mapsOK k fm) : Ci l G yX10_at wsX10_at ({ frames := 2, cells := 0, slots := 0, locals := 46 }) [.ref h1, .int p0, .int p1] ([(h1, .inr (6, [.int (nI k), .ref a_maps, .int told, v_kinds, v_land, v_spades, .ref a_part, v_pad, v_padMany, v_slips, v_slipMany, v_made, v_queue, v_depth, v_by, v_from, v_come, v_offOf, v_parent, v_best, v_trees, v_least, v_sums, v_toward, v_kept, v_isKept, v_keptAt, v_isWriting])), (a_maps, .inl (gI G, 6, .inl fm)), (a_part, .inl (gI G, 6, .inl fp))]) sz (fun (r : Int32) (_ : Unit) => r = atA k told (maN fm) p0 p1) (fun (_ : Unit) => [(h1, .inr (6, [.int (nI k), .ref a_maps, .int told, v_kinds, v_land, v_spades, .ref a_part, v_pad, v_padMany, v_slips, v_slipMany, v_made, v_queue, v_depth, v_by, v_from, v_come, v_offOf, v_parent, v_best, v_trees, v_least, v_sums, v_toward, v_kept, v_isKept, v_keptAt, v_isWriting])), (a_maps, .inl (gI G, 6, .inl fm)), (a_part, .inl (gI G, 6, .inl fp))]) 0 0 := by
  refine Met.ofW (cc := cX10_at) (maxL := 3) (ret := (some .int)) (by decide) rfl ?_
  intro p e s m args below meth c s₁ B hml hv
  obtain ⟨rfl, hsz, hP, hD0, E0⟩ := hv
  have hx := B.exec
  have hb := B.bytes
  have hr := B.returns
  have hts := atoms_spec (ws := wsX10_at) B.pre
  have hown : s.vm.findClass RX10 = some m.cls := findClass_of_methodNamed B.named
  have hlocks := B.notSynchronized
  subst hsz
  have hD := hD0.self (sz := s.heap.size)
  generalize hAe : va_A ([(h1, .inr (6, [.int (nI k), .ref a_maps, .int told, v_kinds, v_land, v_spades, .ref a_part, v_pad, v_padMany, v_slips, v_slipMany, v_made, v_queue, v_depth, v_by, v_from, v_come, v_offOf, v_parent, v_best, v_trees, v_least, v_sums, v_toward, v_kept, v_isKept, v_keptAt, v_isWriting])), (a_maps, .inl (gI G, 6, .inl fm)), (a_part, .inl (gI G, 6, .inl fp))]) s.heap.size = A at hD E0 ⊢
  have E : EV G A s s.heap := E0
  have hA : ∀ q : Nat, s.heap.size ≤ q → A q := fun q h => by rw [← hAe]; exact Or.inr h
  have hS : va_S A s.heap s.heap [] := va_S.rf
  have hl := lv_entry ([.ref h1, .int p0, .int p1]) (n := 3) (Nat.le_of_ble_eq_true rfl)
  rw [lg_entry_eq]
  generalize (lg_sl ([.ref h1, .int p0, .int p1]) ++ List.replicate (3 - (lg_sl ([.ref h1, .int p0, .int p1])).length) Slot.unset).toArray = ls at hl ⊢
  have hl : lv_has ls 3 [(0, .ref h1), (1, .int p0), (2, .int p1)] := hl
  have hP : va_P G.1 vwCl ([(h1, .inr (6, [.int (nI k), .ref a_maps, .int told, v_kinds, v_land, v_spades, .ref a_part, v_pad, v_padMany, v_slips, v_slipMany, v_made, v_queue, v_depth, v_by, v_from, v_come, v_offOf, v_parent, v_best, v_trees, v_least, v_sums, v_toward, v_kept, v_isKept, v_keptAt, v_isWriting])), (a_maps, .inl (gI G, 6, .inl fm)), (a_part, .inl (gI G, 6, .inl fp))]) s.heap := hP
  have hal := p5le hk6
  refine lv_iload_n hx hb dX10_at_0 rfl (lv_at hl 1 rfl) ?_
  refine ca_iR (va_runS (As := [.int p0]) (rest := []) ⟨hx, hb, hml, hown, hts⟩ (m_isMap l G s.heap.size p0) (va_cwS 1 hts gX10_at_X10_isMap rfl rfl rfl (by decide +kernel) ⟨by decide +kernel, by decide +kernel⟩) (pre_S E hP hD hS hA [] (by decide) rfl) rfl rfl hl.1 rfl (lv_room (Nat.le_of_ble_eq_true rfl)) dX10_at_1 ⟨by decide +kernel, by decide +kernel⟩) hS hP hD hA [] rfl (fun r2 _ H locs w1 hP hS => ?_)
  rcases w1 with ⟨rfl, b3⟩ | ⟨rfl, b3⟩
  · refine lv_if_eq (tgt := 15) hx hb dX10_at_4 (by decide) (fun c4 => False.elim (by revert c4; decide)) (fun _ => ?_)
    refine lv_aload_n hx hb dX10_at_7 rfl (lv_at hl 0 rfl) ?_
    refine lv_iload_n hx hb dX10_at_8 rfl (lv_at hl 2 rfl) ?_
    refine ca_iR (va_runV (As := [.int p1]) (rest := []) ⟨hx, hb, hml, hown, hts⟩ (m_isSite l G H.size h1 (.ref a_maps) (.int told) v_kinds v_land v_spades (.ref a_part) v_pad v_padMany v_slips v_slipMany v_made v_queue v_depth v_by v_from v_come v_offOf v_parent v_best v_trees v_least v_sums v_toward v_kept v_isKept v_keptAt v_isWriting k p1 hk2 hk6) (cwV 1 hts gX10_at_X10_isSite rfl rfl rfl (by decide +kernel) ⟨by decide +kernel, by decide +kernel⟩) (pre_V E hP hD hS hA [0] (by decide) rfl 0 6 rfl rfl) rfl rfl hl.1 rfl (lv_room (Nat.le_of_ble_eq_true rfl)) dX10_at_9 ⟨by decide +kernel, by decide +kernel⟩) hS hP hD hA [0] rfl (fun r6 _ H locs w5 hP hS => ?_)
    rcases w5 with ⟨rfl, b7⟩ | ⟨rfl, b7⟩
    · refine lv_if_ne (tgt := 17) hx hb dX10_at_12 (by decide) (fun _ => ?_) (fun c8 => False.elim (by revert c8; decide))
      obtain ⟨j_p0, hj_p0, ej_p0⟩ := inR6 b3
      have hl : lv_has ls 3 [(0, .ref h1), (1, .int (nI j_p0)), (2, .int p1)] := by have q := hl; rw [ej_p0] at q; exact q
      obtain ⟨j_p1, hj_p1, ej_p1⟩ := b7
      have hl : lv_has ls 3 [(0, .ref h1), (1, .int (nI j_p0)), (2, .int (nI j_p1))] := by have q := hl; rw [ej_p1] at q; exact q
      refine lv_aload_n hx hb dX10_at_17 rfl (lv_at hl 0 rfl) ?_
      refine lv_iload_n hx hb dX10_at_18 rfl (lv_at hl 1 rfl) ?_
      refine ca_iR (va_runV (As := [.int (nI j_p0)]) (rest := []) ⟨hx, hb, hml, hown, hts⟩ (m_isTold l G H.size h1 (.int (nI k)) (.ref a_maps) v_kinds v_land v_spades (.ref a_part) v_pad v_padMany v_slips v_slipMany v_made v_queue v_depth v_by v_from v_come v_offOf v_parent v_best v_trees v_least v_sums v_toward v_kept v_isKept v_keptAt v_isWriting told (nI j_p0)) (cwV 1 hts gX10_at_X10_isTold rfl rfl rfl (by decide +kernel) ⟨by decide +kernel, by decide +kernel⟩) (pre_V E hP hD hS hA [0] (by decide) rfl 0 6 rfl rfl) rfl rfl hl.1 rfl (lv_room (Nat.le_of_ble_eq_true rfl)) dX10_at_19 ⟨by decide +kernel, by decide +kernel⟩) hS hP hD hA [0] rfl (fun r10 _ H locs w9 hP hS => ?_)
      rcases w9 with ⟨rfl, b11⟩ | ⟨rfl, b11⟩
      · refine lv_if_eq (tgt := 42) hx hb dX10_at_22 (by decide) (fun c12 => False.elim (by revert c12; decide)) (fun _ => ?_)
        refine lv_aload_n hx hb dX10_at_25 rfl (lv_at hl 0 rfl) ?_
        refine lv_aload_n hx hb dX10_at_26 rfl (lv_at hl 0 rfl) ?_
        refine va_get (D := G.1) (ci := 6) (v := .ref a_maps) (C := RX10) (T := TX10) (N := 28) hx hb hts (fun _ h => List.mem_cons_of_mem _ (List.mem_append_right _ h)) hown E.K hP 0 rfl rfl 1 (by decide) (hts (.fieldLink RX10 7 "LastMapModel" "maps" "[I") (by decide +kernel)) (fun _ h9 => h9) rfl dX10_at_27 ?_
        refine lv_iload_n hx hb dX10_at_30 rfl (lv_at hl 1 rfl) ?_
        refine va_iald hx hb E.K hP 1 1 rfl rfl (i := nI j_p0) (vp_in_nI (by omega) (by decide)) dX10_at_31 ?_
        refine lv_topi (fun x13 ex13 => ?_)
        have hmj := maN_ok hk6 hfm hj_p0
        obtain rfl : x13 = nI (maN fm j_p0) := by rw [ex13, nI_clamp (by omega)]; exact hmj.2
        refine lv_iload_n hx hb dX10_at_32 rfl (lv_at hl 2 rfl) ?_
        refine ca_iR (va_runV (As := [.int (nI (maN fm j_p0)), .int (nI j_p1)]) (rest := []) ⟨hx, hb, hml, hown, hts⟩ (m_signAt l G H.size h1 (.int (nI k)) (.ref a_maps) (.int told) v_kinds v_land v_spades v_pad v_padMany v_slips v_slipMany v_made v_queue v_depth v_by v_from v_come v_offOf v_parent v_best v_trees v_least v_sums v_toward v_kept v_isKept v_keptAt v_isWriting a_part fp k (maN fm j_p0) j_p1 hk6 hp (by omega) (by omega)) (cwV 2 hts gX10_at_X10_signAt rfl rfl rfl (by decide +kernel) ⟨by decide +kernel, by decide +kernel⟩) (pre_V E hP hD hS hA [0, 2] (by decide) rfl 0 6 rfl rfl) rfl rfl hl.1 rfl (lv_room (Nat.le_of_ble_eq_true rfl)) dX10_at_33 ⟨by decide +kernel, by decide +kernel⟩) hS hP hD hA [0, 2] rfl (fun r15 _ H locs w14 hP hS => ?_)
        rw [w14]
        refine ca_iR (va_runS (As := [.int (nI (dg k (maN fm j_p0) j_p1))]) (rest := []) ⟨hx, hb, hml, hown, hts⟩ (m_codeOf l G H.size (nI (dg k (maN fm j_p0) j_p1))) (va_cwS 1 hts gX10_at_X10_codeOf rfl rfl rfl (by decide +kernel) ⟨by decide +kernel, by decide +kernel⟩) (pre_S E hP hD hS hA [] (by decide) rfl) rfl rfl hl.1 rfl (lv_room (Nat.le_of_ble_eq_true rfl)) dX10_at_36 ⟨by decide +kernel, by decide +kernel⟩) hS hP hD hA [] rfl (fun r17 _ H locs w16 hP hS => ?_)
        refine lv_goto (tgt := 44) hx hb dX10_at_39 (by decide) ?_
        have hP9 := (hP.sub (ws' := [(h1, .inr (6, [.int (nI k), .ref a_maps, .int told, v_kinds, v_land, v_spades, .ref a_part, v_pad, v_padMany, v_slips, v_slipMany, v_made, v_queue, v_depth, v_by, v_from, v_come, v_offOf, v_parent, v_best, v_trees, v_least, v_sums, v_toward, v_kept, v_isKept, v_keptAt, v_isWriting])), (a_maps, .inl (gI G, 6, .inl fm)), (a_part, .inl (gI G, 6, .inl fp))]) [0, 1, 2] rfl)
        have hD9 := (hD.sub (ws' := [(h1, .inr (6, [.int (nI k), .ref a_maps, .int told, v_kinds, v_land, v_spades, .ref a_part, v_pad, v_padMany, v_slips, v_slipMany, v_made, v_queue, v_depth, v_by, v_from, v_come, v_offOf, v_parent, v_best, v_trees, v_least, v_sums, v_toward, v_kept, v_isKept, v_keptAt, v_isWriting])), (a_maps, .inl (gI G, 6, .inl fm)), (a_part, .inl (gI G, 6, .inl fp))]) [0, 1, 2] (by decide) rfl)
        exact W.iret (v := r17) hx hb hr (fun t9_ ht9_ hW9_ => ⟨⟨r17, (), rfl, by rw [w16]; exact atA_3 hk6 hj_p0 hj_p1 ej_p0 ej_p1 (by rw [ej_p0]; exact b11), by rw [ht9_]; exact hP9, hD9⟩, hS.F ht9_⟩) hS.2.2 dX10_at_44
      · refine lv_if_eq (tgt := 42) hx hb dX10_at_22 (by decide) (fun _ => ?_) (fun c18 => False.elim (by revert c18; decide))
        refine lv_bipush (v := (-3)) hx hb dX10_at_42 (by decide) ?_
        have hP9 := (hP.sub (ws' := [(h1, .inr (6, [.int (nI k), .ref a_maps, .int told, v_kinds, v_land, v_spades, .ref a_part, v_pad, v_padMany, v_slips, v_slipMany, v_made, v_queue, v_depth, v_by, v_from, v_come, v_offOf, v_parent, v_best, v_trees, v_least, v_sums, v_toward, v_kept, v_isKept, v_keptAt, v_isWriting])), (a_maps, .inl (gI G, 6, .inl fm)), (a_part, .inl (gI G, 6, .inl fp))]) [0, 1, 2] rfl)
        have hD9 := (hD.sub (ws' := [(h1, .inr (6, [.int (nI k), .ref a_maps, .int told, v_kinds, v_land, v_spades, .ref a_part, v_pad, v_padMany, v_slips, v_slipMany, v_made, v_queue, v_depth, v_by, v_from, v_come, v_offOf, v_parent, v_best, v_trees, v_least, v_sums, v_toward, v_kept, v_isKept, v_keptAt, v_isWriting])), (a_maps, .inl (gI G, 6, .inl fm)), (a_part, .inl (gI G, 6, .inl fp))]) [0, 1, 2] (by decide) rfl)
        exact W.iret (v := (-3)) hx hb hr (fun t9_ ht9_ hW9_ => ⟨⟨(-3), (), rfl, atA_2 ⟨b3, j_p1, hj_p1, ej_p1⟩ (fun q9 => b11 (by rw [← ej_p0]; exact q9)), by rw [ht9_]; exact hP9, hD9⟩, hS.F ht9_⟩) hS.2.2 dX10_at_44
    · refine lv_if_ne (tgt := 17) hx hb dX10_at_12 (by decide) (fun c19 => False.elim (by revert c19; decide)) (fun _ => ?_)
      refine lv_iconst (v := (-1)) hx hb dX10_at_15 (by decide) ?_
      have hP9 := (hP.sub (ws' := [(h1, .inr (6, [.int (nI k), .ref a_maps, .int told, v_kinds, v_land, v_spades, .ref a_part, v_pad, v_padMany, v_slips, v_slipMany, v_made, v_queue, v_depth, v_by, v_from, v_come, v_offOf, v_parent, v_best, v_trees, v_least, v_sums, v_toward, v_kept, v_isKept, v_keptAt, v_isWriting])), (a_maps, .inl (gI G, 6, .inl fm)), (a_part, .inl (gI G, 6, .inl fp))]) [0, 1, 2] rfl)
      have hD9 := (hD.sub (ws' := [(h1, .inr (6, [.int (nI k), .ref a_maps, .int told, v_kinds, v_land, v_spades, .ref a_part, v_pad, v_padMany, v_slips, v_slipMany, v_made, v_queue, v_depth, v_by, v_from, v_come, v_offOf, v_parent, v_best, v_trees, v_least, v_sums, v_toward, v_kept, v_isKept, v_keptAt, v_isWriting])), (a_maps, .inl (gI G, 6, .inl fm)), (a_part, .inl (gI G, 6, .inl fp))]) [0, 1, 2] (by decide) rfl)
      exact W.iret (v := (-1)) hx hb hr (fun t9_ ht9_ hW9_ => ⟨⟨(-1), (), rfl, atA_1 (fun q9 => b7 q9.2), by rw [ht9_]; exact hP9, hD9⟩, hS.F ht9_⟩) hS.2.2 dX10_at_16
  · refine lv_if_eq (tgt := 15) hx hb dX10_at_4 (by decide) (fun _ => ?_) (fun c20 => False.elim (by revert c20; decide))
    refine lv_iconst (v := (-1)) hx hb dX10_at_15 (by decide) ?_
    have hP9 := (hP.sub (ws' := [(h1, .inr (6, [.int (nI k), .ref a_maps, .int told, v_kinds, v_land, v_spades, .ref a_part, v_pad, v_padMany, v_slips, v_slipMany, v_made, v_queue, v_depth, v_by, v_from, v_come, v_offOf, v_parent, v_best, v_trees, v_least, v_sums, v_toward, v_kept, v_isKept, v_keptAt, v_isWriting])), (a_maps, .inl (gI G, 6, .inl fm)), (a_part, .inl (gI G, 6, .inl fp))]) [0, 1, 2] rfl)
    have hD9 := (hD.sub (ws' := [(h1, .inr (6, [.int (nI k), .ref a_maps, .int told, v_kinds, v_land, v_spades, .ref a_part, v_pad, v_padMany, v_slips, v_slipMany, v_made, v_queue, v_depth, v_by, v_from, v_come, v_offOf, v_parent, v_best, v_trees, v_least, v_sums, v_toward, v_kept, v_isKept, v_keptAt, v_isWriting])), (a_maps, .inl (gI G, 6, .inl fm)), (a_part, .inl (gI G, 6, .inl fp))]) [0, 1, 2] (by decide) rfl)
    exact W.iret (v := (-1)) hx hb hr (fun t9_ ht9_ hW9_ => ⟨⟨(-1), (), rfl, atA_1 (fun q9 => b3 q9.1), by rw [ht9_]; exact hP9, hD9⟩, hS.F ht9_⟩) hS.2.2 dX10_at_16

set_option maxHeartbeats 1000000 in
set_option maxRecDepth 100000 in
theorem m2_badFrom (l : Launch) (G : Gy) (sz : Nat) (h1 : Nat) (v_sites : Value) (v_maps : Value) (v_told : Value) (v_kinds : Value) (v_land : Value) (v_spades : Value) (v_pad : Value) (v_padMany : Value) (v_queue : Value) (v_depth : Value) (v_by : Value) (v_from : Value) (v_come : Value) (v_offOf : Value) (v_parent : Value) (v_best : Value) (v_trees : Value) (v_least : Value) (v_sums : Value) (v_toward : Value) (v_kept : Value) (v_isKept : Value) (v_keptAt : Value) (v_isWriting : Value) (a_part : Nat) (fp : Nat → Int32) (a_slips : Nat) (k : Nat) (sm : Nat) (a : Nat) (fs : Nat → Int32) (md0 : Int32) (hk6 : k ≤ 6) (hp : pOK k fp) (ha : a < 5 ^ k) (hsm : sm ≤ 10) (hsl : ∀ i : Nat, i < sm → slipOK k (fs i)) : Ci l G yX10_badFrom wsX10_badFrom ({ frames := 3, cells := 0, slots := 0, locals := 69 }) [.ref h1, .int (nI a)] ([(h1, .inr (6, [v_sites, v_maps, v_told, v_kinds, v_land, v_spades, .ref a_part, v_pad, v_padMany, .ref a_slips, .int (nI sm), .int md0, v_queue, v_depth, v_by, v_from, v_come, v_offOf, v_parent, v_best, v_trees, v_least, v_sums, v_toward, v_kept, v_isKept, v_keptAt, v_isWriting])), (a_part, .inl (gI G, 6, .inl fp)), (a_slips, .inl (gI G, 10, .inl fs))]) sz (fun (r : Int32) (md1 : Nat) => r = bdF k fs sm 0 a ∧ (bdF k fs sm 0 a = (-6) → md1 = runS k fs sm 0 a) ∧ md1 < 5 ^ k) (fun (md1 : Nat) => [(h1, .inr (6, [v_sites, v_maps, v_told, v_kinds, v_land, v_spades, .ref a_part, v_pad, v_padMany, .ref a_slips, .int (nI sm), .int (nI md1), v_queue, v_depth, v_by, v_from, v_come, v_offOf, v_parent, v_best, v_trees, v_least, v_sums, v_toward, v_kept, v_isKept, v_keptAt, v_isWriting])), (a_part, .inl (gI G, 6, .inl fp)), (a_slips, .inl (gI G, 10, .inl fs))]) 0 0 := by
  refine Met.ofW (cc := cX10_badFrom) (maxL := 4) (ret := (some .int)) (by decide) rfl ?_
  intro p e s m args below meth c s₁ B hml hv
  obtain ⟨rfl, hsz, hP, hD0, E0⟩ := hv
  have hx := B.exec
  have hb := B.bytes
  have hr := B.returns
  have hts := atoms_spec (ws := wsX10_badFrom) B.pre
  have hown : s.vm.findClass RX10 = some m.cls := findClass_of_methodNamed B.named
  have hlocks := B.notSynchronized
  subst hsz
  have hD := hD0.self (sz := s.heap.size)
  generalize hAe : va_A ([(h1, .inr (6, [v_sites, v_maps, v_told, v_kinds, v_land, v_spades, .ref a_part, v_pad, v_padMany, .ref a_slips, .int (nI sm), .int md0, v_queue, v_depth, v_by, v_from, v_come, v_offOf, v_parent, v_best, v_trees, v_least, v_sums, v_toward, v_kept, v_isKept, v_keptAt, v_isWriting])), (a_part, .inl (gI G, 6, .inl fp)), (a_slips, .inl (gI G, 10, .inl fs))]) s.heap.size = A at hD E0 ⊢
  have E : EV G A s s.heap := E0
  have hA : ∀ q : Nat, s.heap.size ≤ q → A q := fun q h => by rw [← hAe]; exact Or.inr h
  have hS : va_S A s.heap s.heap [] := va_S.rf
  have hl := lv_entry ([.ref h1, .int (nI a)]) (n := 4) (Nat.le_of_ble_eq_true rfl)
  rw [lg_entry_eq]
  generalize (lg_sl ([.ref h1, .int (nI a)]) ++ List.replicate (4 - (lg_sl ([.ref h1, .int (nI a)])).length) Slot.unset).toArray = ls at hl ⊢
  have hl : lv_has ls 4 [(0, .ref h1), (1, .int (nI a))] := hl
  have hP : va_P G.1 vwCl ([(h1, .inr (6, [v_sites, v_maps, v_told, v_kinds, v_land, v_spades, .ref a_part, v_pad, v_padMany, .ref a_slips, .int (nI sm), .int md0, v_queue, v_depth, v_by, v_from, v_come, v_offOf, v_parent, v_best, v_trees, v_least, v_sums, v_toward, v_kept, v_isKept, v_keptAt, v_isWriting])), (a_part, .inl (gI G, 6, .inl fp)), (a_slips, .inl (gI G, 10, .inl fs))]) s.heap := hP
  have hal := p5le hk6
  refine lv_aload_n hx hb dX10_badFrom_0 rfl (lv_at hl 0 rfl) ?_
  refine lv_iload_n hx hb dX10_badFrom_1 rfl (lv_at hl 1 rfl) ?_
  refine va_put (D := G.1) (ci := 6) (v := .int (nI a)) (ty := .int) (C := RX10) (T := TX10) (N := 28) hx hb hts (fun _ h => List.mem_cons_of_mem _ (List.mem_append_right _ h)) tyX10 tyX10_ok nmX10 hown E.K hP hD hS 0 rfl rfl 11 (by decide) (hts (.fieldLink RX10 149 "LastMapModel" "made" "I") (by decide +kernel)) (fun _ h9 => h9) rfl (by decide +kernel) rfl rfl (Nat.le_of_ble_eq_true rfl) dX10_badFrom_2 (fun H locs hP hD hS => ?_)
  have hP : va_P G.1 vwCl ([(h1, .inr (6, [v_sites, v_maps, v_told, v_kinds, v_land, v_spades, .ref a_part, v_pad, v_padMany, .ref a_slips, .int (nI sm), .int (nI a), v_queue, v_depth, v_by, v_from, v_come, v_offOf, v_parent, v_best, v_trees, v_least, v_sums, v_toward, v_kept, v_isKept, v_keptAt, v_isWriting])), (a_part, .inl (gI G, 6, .inl fp)), (a_slips, .inl (gI G, 10, .inl fs))]) H := hP
  have hD : va_D A ([(h1, .inr (6, [v_sites, v_maps, v_told, v_kinds, v_land, v_spades, .ref a_part, v_pad, v_padMany, .ref a_slips, .int (nI sm), .int (nI a), v_queue, v_depth, v_by, v_from, v_come, v_offOf, v_parent, v_best, v_trees, v_least, v_sums, v_toward, v_kept, v_isKept, v_keptAt, v_isWriting])), (a_part, .inl (gI G, 6, .inl fp)), (a_slips, .inl (gI G, 10, .inl fs))]) := hD
  refine lv_iconst (v := 0) hx hb dX10_badFrom_5 (by decide) ?_
  refine lv_istore_n (lv' := [(2, .int 0), (0, .ref h1), (1, .int (nI a))]) hx hb dX10_badFrom_6 rfl hl (by decide) rfl (fun ls hl => ?_)
  refine lp_run (x0 := (0, a)) (fun xx_ : Nat × Nat => match xx_ with | (x, q) => [(h1, .inr (6, [v_sites, v_maps, v_told, v_kinds, v_land, v_spades, .ref a_part, v_pad, v_padMany, .ref a_slips, .int (nI sm), .int (nI q), v_queue, v_depth, v_by, v_from, v_come, v_offOf, v_parent, v_best, v_trees, v_least, v_sums, v_toward, v_kept, v_isKept, v_keptAt, v_isWriting])), (a_part, .inl (gI G, 6, .inl fp)), (a_slips, .inl (gI G, 10, .inl fs))]) (fun xx_ : Nat × Nat => match xx_ with | (x, q) => [(2, .int (nI x)), (0, .ref h1), (1, .int (nI a))]) (fun xx_ : Nat × Nat => match xx_ with | (x, q) => (x ≤ sm) ∧ (q < 5 ^ k) ∧ (bdF k fs sm 0 a = bdF k fs (sm - x) x q ∧ q = runS k fs x 0 a)) (fun xx_ : Nat × Nat => match xx_ with | (x, q) => sm - x) (hP.sub [0, 1, 2] rfl) (hD.sub [0, 1, 2] (by decide) rfl) hS (lv_sub hl [0, 1, 2] rfl) ⟨(by omega), ha, ⟨by rw [Nat.sub_zero], rfl⟩⟩ ?_
  intro xx_ hI ih7 H locs ls hP hD hS hl
  obtain ⟨x, q⟩ := xx_
  dsimp only at hI ih7 hP hD hl
  obtain ⟨hx0, hq, hbd⟩ := hI
  have hl : lv_has ls 4 [(2, .int (nI x)), (0, .ref h1), (1, .int (nI a))] := hl
  have hP : va_P G.1 vwCl ([(h1, .inr (6, [v_sites, v_maps, v_told, v_kinds, v_land, v_spades, .ref a_part, v_pad, v_padMany, .ref a_slips, .int (nI sm), .int (nI q), v_queue, v_depth, v_by, v_from, v_come, v_offOf, v_parent, v_best, v_trees, v_least, v_sums, v_toward, v_kept, v_isKept, v_keptAt, v_isWriting])), (a_part, .inl (gI G, 6, .inl fp)), (a_slips, .inl (gI G, 10, .inl fs))]) H := hP
  have hD : va_D A ([(h1, .inr (6, [v_sites, v_maps, v_told, v_kinds, v_land, v_spades, .ref a_part, v_pad, v_padMany, .ref a_slips, .int (nI sm), .int (nI q), v_queue, v_depth, v_by, v_from, v_come, v_offOf, v_parent, v_best, v_trees, v_least, v_sums, v_toward, v_kept, v_isKept, v_keptAt, v_isWriting])), (a_part, .inl (gI G, 6, .inl fp)), (a_slips, .inl (gI G, 10, .inl fs))]) := hD
  refine lv_iload_n hx hb dX10_badFrom_7 rfl (lv_at hl 0 rfl) ?_
  refine lv_aload_n hx hb dX10_badFrom_8 rfl (lv_at hl 1 rfl) ?_
  refine va_get (D := G.1) (ci := 6) (v := .int (nI sm)) (C := RX10) (T := TX10) (N := 28) hx hb hts (fun _ h => List.mem_cons_of_mem _ (List.mem_append_right _ h)) hown E.K hP 0 rfl rfl 10 (by decide) (hts (.fieldLink RX10 110 "LastMapModel" "slipMany" "I") (by decide +kernel)) (fun _ h9 => h9) rfl dX10_badFrom_9 ?_
  refine lv_icmp_ge (tgt := 51) hx hb dX10_badFrom_12 (by decide) (fun c1 => ?_) (fun c1 => ?_)
  · have c1 : sm ≤ x := (nI_leI (a := sm) (b := x) (by omega) (by omega)).mp c1
    refine lv_bipush (v := (-6)) hx hb dX10_badFrom_51 (by decide) ?_
    have hP9 := (hP.sub (ws' := [(h1, .inr (6, [v_sites, v_maps, v_told, v_kinds, v_land, v_spades, .ref a_part, v_pad, v_padMany, .ref a_slips, .int (nI sm), .int (nI q), v_queue, v_depth, v_by, v_from, v_come, v_offOf, v_parent, v_best, v_trees, v_least, v_sums, v_toward, v_kept, v_isKept, v_keptAt, v_isWriting])), (a_part, .inl (gI G, 6, .inl fp)), (a_slips, .inl (gI G, 10, .inl fs))]) [0, 1, 2] rfl)
    have hD9 := (hD.sub (ws' := [(h1, .inr (6, [v_sites, v_maps, v_told, v_kinds, v_land, v_spades, .ref a_part, v_pad, v_padMany, .ref a_slips, .int (nI sm), .int (nI q), v_queue, v_depth, v_by, v_from, v_come, v_offOf, v_parent, v_best, v_trees, v_least, v_sums, v_toward, v_kept, v_isKept, v_keptAt, v_isWriting])), (a_part, .inl (gI G, 6, .inl fp)), (a_slips, .inl (gI G, 10, .inl fs))]) [0, 1, 2] (by decide) rfl)
    exact W.iret (v := (-6)) hx hb hr (fun t9_ ht9_ hW9_ => ⟨⟨(-6), q, rfl, ⟨by rw [hbd.1, show sm - x = 0 by omega]; rfl, fun _ => by rw [hbd.2, show x = sm by omega], by omega⟩, by rw [ht9_]; exact hP9, hD9⟩, hS.F ht9_⟩) hS.2.2 dX10_badFrom_53
  · have c1 : ¬ sm ≤ x := fun h9_ => c1 ((nI_leI (a := sm) (b := x) (by omega) (by omega)).mpr h9_)
    refine lv_aload_n hx hb dX10_badFrom_15 rfl (lv_at hl 1 rfl) ?_
    refine lv_aload_n hx hb dX10_badFrom_16 rfl (lv_at hl 1 rfl) ?_
    refine va_get (D := G.1) (ci := 6) (v := .int (nI q)) (C := RX10) (T := TX10) (N := 28) hx hb hts (fun _ h => List.mem_cons_of_mem _ (List.mem_append_right _ h)) hown E.K hP 0 rfl rfl 11 (by decide) (hts (.fieldLink RX10 149 "LastMapModel" "made" "I") (by decide +kernel)) (fun _ h9 => h9) rfl dX10_badFrom_17 ?_
    refine lv_aload_n hx hb dX10_badFrom_20 rfl (lv_at hl 1 rfl) ?_
    refine va_get (D := G.1) (ci := 6) (v := .ref a_slips) (C := RX10) (T := TX10) (N := 28) hx hb hts (fun _ h => List.mem_cons_of_mem _ (List.mem_append_right _ h)) hown E.K hP 0 rfl rfl 9 (by decide) (hts (.fieldLink RX10 22 "LastMapModel" "slips" "[I") (by decide +kernel)) (fun _ h9 => h9) rfl dX10_badFrom_21 ?_
    refine lv_iload_n hx hb dX10_badFrom_24 rfl (lv_at hl 0 rfl) ?_
    refine va_iald hx hb E.K hP 2 1 rfl rfl (i := nI x) (vp_in_nI (by omega) (by decide)) dX10_badFrom_25 ?_
    refine lv_topi (fun x2 ex2 => ?_)
    have hmo := mvOf_ok hk6 (hsl x (by omega))
    obtain rfl : x2 = nI (100 * (mvOf (fs x)).1 + 10 * (mvOf (fs x)).2.1 + (mvOf (fs x)).2.2) := by rw [ex2, nI_clamp (by omega)]; exact hmo.2
    refine ca_iR (va_runV (As := [.int (nI q), .int (nI (100 * (mvOf (fs x)).1 + 10 * (mvOf (fs x)).2.1 + (mvOf (fs x)).2.2))]) (rest := []) ⟨hx, hb, hml, hown, hts⟩ (m_slipped l G H.size h1 v_sites v_maps v_told v_kinds v_land v_spades v_pad v_padMany (.ref a_slips) (.int (nI sm)) (.int (nI q)) v_queue v_depth v_by v_from v_come v_offOf v_parent v_best v_trees v_least v_sums v_toward v_kept v_isKept v_keptAt v_isWriting a_part fp k q (100 * (mvOf (fs x)).1 + 10 * (mvOf (fs x)).2.1 + (mvOf (fs x)).2.2) ((mvOf (fs x)).1) ((mvOf (fs x)).2.1) ((mvOf (fs x)).2.2) hk6 hp (by omega) rfl hmo.1) (cwV 2 hts gX10_badFrom_X10_slipped rfl rfl rfl (by decide +kernel) ⟨by decide +kernel, by decide +kernel⟩) (pre_V E hP hD hS hA [0, 1] (by decide) rfl 0 6 rfl rfl) rfl rfl hl.1 rfl (lv_room (Nat.le_of_ble_eq_true rfl)) dX10_badFrom_26 ⟨by decide +kernel, by decide +kernel⟩) hS hP hD hA [0, 1] rfl (fun r4 _ H locs w3 hP hS => ?_)
    rw [w3]
    have hb9 := slN_lt (k := k) hq hmo.1
    refine lv_istore_n (lv' := [(3, .int (nI (slN k q (((mvOf (fs x)).1), ((mvOf (fs x)).2.1), ((mvOf (fs x)).2.2))))), (2, .int (nI x)), (0, .ref h1), (1, .int (nI a))]) hx hb dX10_badFrom_29 rfl hl (by decide) rfl (fun ls hl => ?_)
    refine lv_iload_n hx hb dX10_badFrom_30 rfl (lv_at hl 0 rfl) ?_
    refine lv_aload_n hx hb dX10_badFrom_31 rfl (lv_at hl 2 rfl) ?_
    refine va_get (D := G.1) (ci := 6) (v := .int (nI q)) (C := RX10) (T := TX10) (N := 28) hx hb hts (fun _ h => List.mem_cons_of_mem _ (List.mem_append_right _ h)) hown E.K hP 0 rfl rfl 11 (by decide) (hts (.fieldLink RX10 149 "LastMapModel" "made" "I") (by decide +kernel)) (fun _ h9 => h9) rfl dX10_badFrom_32 ?_
    refine lv_icmp_ne (tgt := 40) hx hb dX10_badFrom_35 (by decide) (fun c5 => ?_) (fun c5 => ?_)
    · have c5 : ¬ (slN k q (((mvOf (fs x)).1), ((mvOf (fs x)).2.1), ((mvOf (fs x)).2.2))) = q := fun h9_ => c5 ((nI_eq (a := (slN k q (((mvOf (fs x)).1), ((mvOf (fs x)).2.1), ((mvOf (fs x)).2.2)))) (b := q) (by omega) (by omega)).mpr h9_)
      refine lv_aload_n hx hb dX10_badFrom_40 rfl (lv_at hl 2 rfl) ?_
      refine lv_iload_n hx hb dX10_badFrom_41 rfl (lv_at hl 0 rfl) ?_
      refine va_put (D := G.1) (ci := 6) (v := .int (nI (slN k q (((mvOf (fs x)).1), ((mvOf (fs x)).2.1), ((mvOf (fs x)).2.2))))) (ty := .int) (C := RX10) (T := TX10) (N := 28) hx hb hts (fun _ h => List.mem_cons_of_mem _ (List.mem_append_right _ h)) tyX10 tyX10_ok nmX10 hown E.K hP hD hS 0 rfl rfl 11 (by decide) (hts (.fieldLink RX10 149 "LastMapModel" "made" "I") (by decide +kernel)) (fun _ h9 => h9) rfl (by decide +kernel) rfl rfl (Nat.le_of_ble_eq_true rfl) dX10_badFrom_42 (fun H locs hP hD hS => ?_)
      have hP : va_P G.1 vwCl ([(h1, .inr (6, [v_sites, v_maps, v_told, v_kinds, v_land, v_spades, .ref a_part, v_pad, v_padMany, .ref a_slips, .int (nI sm), .int (nI (slN k q (((mvOf (fs x)).1), ((mvOf (fs x)).2.1), ((mvOf (fs x)).2.2)))), v_queue, v_depth, v_by, v_from, v_come, v_offOf, v_parent, v_best, v_trees, v_least, v_sums, v_toward, v_kept, v_isKept, v_keptAt, v_isWriting])), (a_part, .inl (gI G, 6, .inl fp)), (a_slips, .inl (gI G, 10, .inl fs))]) H := hP
      have hD : va_D A ([(h1, .inr (6, [v_sites, v_maps, v_told, v_kinds, v_land, v_spades, .ref a_part, v_pad, v_padMany, .ref a_slips, .int (nI sm), .int (nI (slN k q (((mvOf (fs x)).1), ((mvOf (fs x)).2.1), ((mvOf (fs x)).2.2)))), v_queue, v_depth, v_by, v_from, v_come, v_offOf, v_parent, v_best, v_trees, v_least, v_sums, v_toward, v_kept, v_isKept, v_keptAt, v_isWriting])), (a_part, .inl (gI G, 6, .inl fp)), (a_slips, .inl (gI G, 10, .inl fs))]) := hD
      obtain ⟨x6, ex6⟩ : ∃ yy_ : Int32, yy_ = (nI x) + 1 := ⟨_, rfl⟩
      refine lv_iinc (v := x6) (lv' := [(2, .int x6), (3, .int (nI (slN k q (((mvOf (fs x)).1), ((mvOf (fs x)).2.1), ((mvOf (fs x)).2.2))))), (0, .ref h1), (1, .int (nI a))]) hx hb dX10_badFrom_45 hl (k := 1) rfl (by rw [ex6]; rfl) (by decide) rfl (fun ls hl => ?_)
      obtain rfl : x6 = nI (x + 1) := by rw [ex6]; exact nI_add x 1
      refine lv_goto (tgt := 7) hx hb dX10_badFrom_48 (by decide) ?_
      refine ih7 ((x + 1), (slN k q (((mvOf (fs x)).1), ((mvOf (fs x)).2.1), ((mvOf (fs x)).2.2)))) ⟨?_, ?_, ?_⟩ (by first | omega | (dsimp only; omega)) H locs ls (hP.sub [0, 1, 2] rfl) (hD.sub [0, 1, 2] (by decide) rfl) hS (lv_sub hl [0, 2, 3] rfl)
      · try dsimp only
        omega
      · try dsimp only
        exact hb9
      · try dsimp only
        exact ⟨by rw [hbd.1, show sm - x = (sm - (x + 1)) + 1 by omega]; exact bdF_f c5, by rw [runS_s x 0, Nat.zero_add, ← hbd.2]⟩
    · have c5 : (slN k q (((mvOf (fs x)).1), ((mvOf (fs x)).2.1), ((mvOf (fs x)).2.2))) = q := (nI_eq (a := (slN k q (((mvOf (fs x)).1), ((mvOf (fs x)).2.1), ((mvOf (fs x)).2.2)))) (b := q) (by omega) (by omega)).mp c5
      refine lv_iload_n hx hb dX10_badFrom_38 rfl (lv_at hl 1 rfl) ?_
      have hP9 := (hP.sub (ws' := [(h1, .inr (6, [v_sites, v_maps, v_told, v_kinds, v_land, v_spades, .ref a_part, v_pad, v_padMany, .ref a_slips, .int (nI sm), .int (nI q), v_queue, v_depth, v_by, v_from, v_come, v_offOf, v_parent, v_best, v_trees, v_least, v_sums, v_toward, v_kept, v_isKept, v_keptAt, v_isWriting])), (a_part, .inl (gI G, 6, .inl fp)), (a_slips, .inl (gI G, 10, .inl fs))]) [0, 1, 2] rfl)
      have hD9 := (hD.sub (ws' := [(h1, .inr (6, [v_sites, v_maps, v_told, v_kinds, v_land, v_spades, .ref a_part, v_pad, v_padMany, .ref a_slips, .int (nI sm), .int (nI q), v_queue, v_depth, v_by, v_from, v_come, v_offOf, v_parent, v_best, v_trees, v_least, v_sums, v_toward, v_kept, v_isKept, v_keptAt, v_isWriting])), (a_part, .inl (gI G, 6, .inl fp)), (a_slips, .inl (gI G, 10, .inl fs))]) [0, 1, 2] (by decide) rfl)
      exact W.iret (v := (nI x)) hx hb hr (fun t9_ ht9_ hW9_ => ⟨⟨nI x, q, rfl, ⟨by rw [hbd.1, show sm - x = (sm - (x + 1)) + 1 by omega]; exact (bdF_t c5).symm, fun q9 => absurd ((show nI x = bdF k fs sm 0 a by rw [hbd.1, show sm - x = (sm - (x + 1)) + 1 by omega]; exact (bdF_t c5).symm).trans q9) (nI_ne6 (by omega)), by omega⟩, by rw [ht9_]; exact hP9, hD9⟩, hS.F ht9_⟩) hS.2.2 dX10_badFrom_39

set_option maxHeartbeats 1000000 in
set_option maxRecDepth 100000 in
theorem m2_judge (l : Launch) (G : Gy) (sz : Nat) (h1 : Nat) (v_kinds : Value) (v_land : Value) (v_spades : Value) (v_queue : Value) (v_depth : Value) (v_by : Value) (v_from : Value) (v_come : Value) (v_offOf : Value) (v_parent : Value) (v_best : Value) (v_trees : Value) (v_least : Value) (v_sums : Value) (v_toward : Value) (v_kept : Value) (v_isKept : Value) (v_keptAt : Value) (v_isWriting : Value) (a_maps : Nat) (fm : Nat → Int32) (a_part : Nat) (fp : Nat → Int32) (a_pad : Nat) (pm : Nat) (fd : Nat → Int32) (a_slips : Nat) (k : Nat) (fs : Nat → Int32) (told : Int32) (sm0 : Int32) (md0 : Int32) (p0 : Int32) (hk2 : 2 ≤ k) (hk6 : k ≤ 6) (hp : pOK k fp) (hpm : pm ≤ 40) (hfm : mapsOK k fm) : Ci l G yX10_judge wsX10_judge ({ frames := 4, cells := 0, slots := 0, locals := 92 }) [.ref h1, .int p0] ([(h1, .inr (6, [.int (nI k), .ref a_maps, .int told, v_kinds, v_land, v_spades, .ref a_part, .ref a_pad, .int (nI pm), .ref a_slips, .int sm0, .int md0, v_queue, v_depth, v_by, v_from, v_come, v_offOf, v_parent, v_best, v_trees, v_least, v_sums, v_toward, v_kept, v_isKept, v_keptAt, v_isWriting])), (a_maps, .inl (gI G, 6, .inl fm)), (a_part, .inl (gI G, 6, .inl fp)), (a_pad, .inl (gI G, 40, .inl fd)), (a_slips, .inl (gI G, 10, .inl fs))]) sz (fun (r : Int32) (u : Int32 × Int32 × (Nat → Int32)) => match u with | (sm1, md1, fs1) => r = jdA k pm told fd (maN fm) p0) (fun (u : Int32 × Int32 × (Nat → Int32)) => match u with | (sm1, md1, fs1) => [(h1, .inr (6, [.int (nI k), .ref a_maps, .int told, v_kinds, v_land, v_spades, .ref a_part, .ref a_pad, .int (nI pm), .ref a_slips, .int sm1, .int md1, v_queue, v_depth, v_by, v_from, v_come, v_offOf, v_parent, v_best, v_trees, v_least, v_sums, v_toward, v_kept, v_isKept, v_keptAt, v_isWriting])), (a_maps, .inl (gI G, 6, .inl fm)), (a_part, .inl (gI G, 6, .inl fp)), (a_pad, .inl (gI G, 40, .inl fd)), (a_slips, .inl (gI G, 10, .inl fs1))]) 0 0 := by
  refine Met.ofW (cc := cX10_judge) (maxL := 2) (ret := (some .int)) (by decide) rfl ?_
  intro p e s m args below meth c s₁ B hml hv
  obtain ⟨rfl, hsz, hP, hD0, E0⟩ := hv
  have hx := B.exec
  have hb := B.bytes
  have hr := B.returns
  have hts := atoms_spec (ws := wsX10_judge) B.pre
  have hown : s.vm.findClass RX10 = some m.cls := findClass_of_methodNamed B.named
  have hlocks := B.notSynchronized
  subst hsz
  have hD := hD0.self (sz := s.heap.size)
  generalize hAe : va_A ([(h1, .inr (6, [.int (nI k), .ref a_maps, .int told, v_kinds, v_land, v_spades, .ref a_part, .ref a_pad, .int (nI pm), .ref a_slips, .int sm0, .int md0, v_queue, v_depth, v_by, v_from, v_come, v_offOf, v_parent, v_best, v_trees, v_least, v_sums, v_toward, v_kept, v_isKept, v_keptAt, v_isWriting])), (a_maps, .inl (gI G, 6, .inl fm)), (a_part, .inl (gI G, 6, .inl fp)), (a_pad, .inl (gI G, 40, .inl fd)), (a_slips, .inl (gI G, 10, .inl fs))]) s.heap.size = A at hD E0 ⊢
  have E : EV G A s s.heap := E0
  have hA : ∀ q : Nat, s.heap.size ≤ q → A q := fun q h => by rw [← hAe]; exact Or.inr h
  have hS : va_S A s.heap s.heap [] := va_S.rf
  have hl := lv_entry ([.ref h1, .int p0]) (n := 2) (Nat.le_of_ble_eq_true rfl)
  rw [lg_entry_eq]
  generalize (lg_sl ([.ref h1, .int p0]) ++ List.replicate (2 - (lg_sl ([.ref h1, .int p0])).length) Slot.unset).toArray = ls at hl ⊢
  have hl : lv_has ls 2 [(0, .ref h1), (1, .int p0)] := hl
  have hP : va_P G.1 vwCl ([(h1, .inr (6, [.int (nI k), .ref a_maps, .int told, v_kinds, v_land, v_spades, .ref a_part, .ref a_pad, .int (nI pm), .ref a_slips, .int sm0, .int md0, v_queue, v_depth, v_by, v_from, v_come, v_offOf, v_parent, v_best, v_trees, v_least, v_sums, v_toward, v_kept, v_isKept, v_keptAt, v_isWriting])), (a_maps, .inl (gI G, 6, .inl fm)), (a_part, .inl (gI G, 6, .inl fp)), (a_pad, .inl (gI G, 40, .inl fd)), (a_slips, .inl (gI G, 10, .inl fs))]) s.heap := hP
  have hal := p5le hk6
  refine lv_iload_n hx hb dX10_judge_0 rfl (lv_at hl 1 rfl) ?_
  refine ca_iR (va_runS (As := [.int p0]) (rest := []) ⟨hx, hb, hml, hown, hts⟩ (m_isMap l G s.heap.size p0) (va_cwS 1 hts gX10_judge_X10_isMap rfl rfl rfl (by decide +kernel) ⟨by decide +kernel, by decide +kernel⟩) (pre_S E hP hD hS hA [] (by decide) rfl) rfl rfl hl.1 rfl (lv_room (Nat.le_of_ble_eq_true rfl)) dX10_judge_1 ⟨by decide +kernel, by decide +kernel⟩) hS hP hD hA [] rfl (fun r2 _ H locs w1 hP hS => ?_)
  rcases w1 with ⟨rfl, b3⟩ | ⟨rfl, b3⟩
  · refine lv_if_ne (tgt := 9) hx hb dX10_judge_4 (by decide) (fun _ => ?_) (fun c4 => False.elim (by revert c4; decide))
    obtain ⟨j_p0, hj_p0, ej_p0⟩ := inR6 b3
    have hl : lv_has ls 2 [(0, .ref h1), (1, .int (nI j_p0))] := by have q := hl; rw [ej_p0] at q; exact q
    refine lv_aload_n hx hb dX10_judge_9 rfl (lv_at hl 0 rfl) ?_
    refine lv_iload_n hx hb dX10_judge_10 rfl (lv_at hl 1 rfl) ?_
    refine ca_iR (va_runV (As := [.int (nI j_p0)]) (rest := []) ⟨hx, hb, hml, hown, hts⟩ (m_isTold l G H.size h1 (.int (nI k)) (.ref a_maps) v_kinds v_land v_spades (.ref a_part) (.ref a_pad) (.int (nI pm)) (.ref a_slips) (.int sm0) (.int md0) v_queue v_depth v_by v_from v_come v_offOf v_parent v_best v_trees v_least v_sums v_toward v_kept v_isKept v_keptAt v_isWriting told (nI j_p0)) (cwV 1 hts gX10_judge_X10_isTold rfl rfl rfl (by decide +kernel) ⟨by decide +kernel, by decide +kernel⟩) (pre_V E hP hD hS hA [0] (by decide) rfl 0 6 rfl rfl) rfl rfl hl.1 rfl (lv_room (Nat.le_of_ble_eq_true rfl)) dX10_judge_11 ⟨by decide +kernel, by decide +kernel⟩) hS hP hD hA [0] rfl (fun r6 _ H locs w5 hP hS => ?_)
    rcases w5 with ⟨rfl, b7⟩ | ⟨rfl, b7⟩
    · refine lv_if_ne (tgt := 20) hx hb dX10_judge_14 (by decide) (fun _ => ?_) (fun c8 => False.elim (by revert c8; decide))
      refine lv_aload_n hx hb dX10_judge_20 rfl (lv_at hl 0 rfl) ?_
      refine ca_i (wr := [(a_maps, .inl (gI G, 6, .inl fm)), (a_part, .inl (gI G, 6, .inl fp))]) (va_runV (As := []) (rest := []) ⟨hx, hb, hml, hown, hts⟩ (m2_faultOfSlips l G H.size h1 (.ref a_maps) (.int told) v_kinds v_land v_spades (.ref a_part) (.int md0) v_queue v_depth v_by v_from v_come v_offOf v_parent v_best v_trees v_least v_sums v_toward v_kept v_isKept v_keptAt v_isWriting a_pad pm fd a_slips k fs sm0 hk2 hk6 (by omega)) (cwV 0 hts gX10_judge_X10_faultOfSlips rfl rfl rfl (by decide +kernel) ⟨by decide +kernel, by decide +kernel⟩) (pre_V E hP hD hS hA [0, 3, 4] (by decide) rfl 0 6 rfl rfl) rfl rfl hl.1 rfl (lv_room (Nat.le_of_ble_eq_true rfl)) dX10_judge_21 ⟨by decide +kernel, by decide +kernel⟩) hS hP hD hA [0, 3, 4] [1, 2] rfl rfl (by decide) (by decide) (fun r10 u11 H locs w9 hP hD hS => ?_)
      obtain ⟨sm1_12, fs1_13⟩ := u11
      try dsimp only at w9 hP hD
      have hP := (hP.sub (ws' := [(h1, .inr (6, [.int (nI k), .ref a_maps, .int told, v_kinds, v_land, v_spades, .ref a_part, .ref a_pad, .int (nI pm), .ref a_slips, .int (nI sm1_12), .int md0, v_queue, v_depth, v_by, v_from, v_come, v_offOf, v_parent, v_best, v_trees, v_least, v_sums, v_toward, v_kept, v_isKept, v_keptAt, v_isWriting])), (a_maps, .inl (gI G, 6, .inl fm)), (a_part, .inl (gI G, 6, .inl fp)), (a_pad, .inl (gI G, 40, .inl fd)), (a_slips, .inl (gI G, 10, .inl fs1_13))]) [2, 0, 1, 3, 4] rfl)
      have hD := (hD.sub (ws' := [(h1, .inr (6, [.int (nI k), .ref a_maps, .int told, v_kinds, v_land, v_spades, .ref a_part, .ref a_pad, .int (nI pm), .ref a_slips, .int (nI sm1_12), .int md0, v_queue, v_depth, v_by, v_from, v_come, v_offOf, v_parent, v_best, v_trees, v_least, v_sums, v_toward, v_kept, v_isKept, v_keptAt, v_isWriting])), (a_maps, .inl (gI G, 6, .inl fm)), (a_part, .inl (gI G, 6, .inl fp)), (a_pad, .inl (gI G, 40, .inl fd)), (a_slips, .inl (gI G, 10, .inl fs1_13))]) [2, 0, 1, 3, 4] (by decide) rfl)
      refine lv_if_lt (tgt := 32) hx hb dX10_judge_24 (by decide) (fun c14 => ?_) (fun c14 => ?_)
      · have hps0 : psl fd pm k 10 0 = (-6) := (neg_cases (psl_cases hpm 10 0)).mp (by rw [← w9.2.1]; first | exact c14 | (have q8 := c14; simp only [i3_le, i3_lt] at q8 ⊢; omega))
        have hps := psl_all hpm hk2 hk6 hps0
        have hfs := w9.2.2 hps0
        have hfs1 := hfs.1
        have hsm9 := w9.1
        have hbc : ∀ a9 : Nat, bdF k fs1_13 sm1_12 0 a9 = bdF k (sF fd) (nS fd pm) 0 a9 := fun a9 => by rw [bdF_congr (sl' := sF fd) _ _ _ (fun i9 _ h9 => hfs.2 i9 (by omega)), hfs1]
        have hrc : ∀ a9 : Nat, runS k fs1_13 sm1_12 0 a9 = runS k (sF fd) (nS fd pm) 0 a9 := fun a9 => by rw [runS_congr (sl' := sF fd) _ _ _ (fun i9 _ h9 => hfs.2 i9 (by omega)), hfs1]
        refine lv_aload_n hx hb dX10_judge_32 rfl (lv_at hl 0 rfl) ?_
        refine lv_aload_n hx hb dX10_judge_33 rfl (lv_at hl 0 rfl) ?_
        refine va_get (D := G.1) (ci := 6) (v := .ref a_maps) (C := RX10) (T := TX10) (N := 28) hx hb hts (fun _ h => List.mem_cons_of_mem _ (List.mem_append_right _ h)) hown E.K hP 0 rfl rfl 1 (by decide) (hts (.fieldLink RX10 7 "LastMapModel" "maps" "[I") (by decide +kernel)) (fun _ h9 => h9) rfl dX10_judge_34 ?_
        refine lv_iload_n hx hb dX10_judge_37 rfl (lv_at hl 1 rfl) ?_
        refine va_iald hx hb E.K hP 1 1 rfl rfl (i := nI j_p0) (vp_in_nI (by omega) (by decide)) dX10_judge_38 ?_
        refine lv_topi (fun x15 ex15 => ?_)
        have hmj := maN_ok hk6 hfm hj_p0
        obtain rfl : x15 = nI (maN fm j_p0) := by rw [ex15, nI_clamp (by omega)]; exact hmj.2
        refine ca_i (wr := [(a_maps, .inl (gI G, 6, .inl fm)), (a_pad, .inl (gI G, 40, .inl fd))]) (va_runV (As := [.int (nI (maN fm j_p0))]) (rest := []) ⟨hx, hb, hml, hown, hts⟩ (m2_badFrom l G H.size h1 (.int (nI k)) (.ref a_maps) (.int told) v_kinds v_land v_spades (.ref a_pad) (.int (nI pm)) v_queue v_depth v_by v_from v_come v_offOf v_parent v_best v_trees v_least v_sums v_toward v_kept v_isKept v_keptAt v_isWriting a_part fp a_slips k sm1_12 (maN fm j_p0) fs1_13 md0 hk6 hp hmj.1 hsm9 (fun i9 h9 => by rw [hfs.2 i9 h9]; exact (w1_ok hk2 hk6 (hps.2.2 i9 (by omega))).2.2)) (cwV 1 hts gX10_judge_X10_badFrom rfl rfl rfl (by decide +kernel) ⟨by decide +kernel, by decide +kernel⟩) (pre_V E hP hD hS hA [0, 2, 4] (by decide) rfl 0 6 rfl rfl) rfl rfl hl.1 rfl (lv_room (Nat.le_of_ble_eq_true rfl)) dX10_judge_39 ⟨by decide +kernel, by decide +kernel⟩) hS hP hD hA [0, 2, 4] [1, 3] rfl rfl (by decide) (by decide) (fun r17 u18 H locs w16 hP hD hS => ?_)
        obtain ⟨md1_19, rfl⟩ : ∃ z, z = u18 := ⟨_, rfl⟩
        try dsimp only at w16 hP hD
        have hP := (hP.sub (ws' := [(h1, .inr (6, [.int (nI k), .ref a_maps, .int told, v_kinds, v_land, v_spades, .ref a_part, .ref a_pad, .int (nI pm), .ref a_slips, .int (nI sm1_12), .int (nI md1_19), v_queue, v_depth, v_by, v_from, v_come, v_offOf, v_parent, v_best, v_trees, v_least, v_sums, v_toward, v_kept, v_isKept, v_keptAt, v_isWriting])), (a_maps, .inl (gI G, 6, .inl fm)), (a_part, .inl (gI G, 6, .inl fp)), (a_pad, .inl (gI G, 40, .inl fd)), (a_slips, .inl (gI G, 10, .inl fs1_13))]) [2, 0, 3, 1, 4] rfl)
        have hD := (hD.sub (ws' := [(h1, .inr (6, [.int (nI k), .ref a_maps, .int told, v_kinds, v_land, v_spades, .ref a_part, .ref a_pad, .int (nI pm), .ref a_slips, .int (nI sm1_12), .int (nI md1_19), v_queue, v_depth, v_by, v_from, v_come, v_offOf, v_parent, v_best, v_trees, v_least, v_sums, v_toward, v_kept, v_isKept, v_keptAt, v_isWriting])), (a_maps, .inl (gI G, 6, .inl fm)), (a_part, .inl (gI G, 6, .inl fp)), (a_pad, .inl (gI G, 40, .inl fd)), (a_slips, .inl (gI G, 10, .inl fs1_13))]) [2, 0, 3, 1, 4] (by decide) rfl)
        have hP9 := (hP.sub (ws' := [(h1, .inr (6, [.int (nI k), .ref a_maps, .int told, v_kinds, v_land, v_spades, .ref a_part, .ref a_pad, .int (nI pm), .ref a_slips, .int (nI sm1_12), .int (nI md1_19), v_queue, v_depth, v_by, v_from, v_come, v_offOf, v_parent, v_best, v_trees, v_least, v_sums, v_toward, v_kept, v_isKept, v_keptAt, v_isWriting])), (a_maps, .inl (gI G, 6, .inl fm)), (a_part, .inl (gI G, 6, .inl fp)), (a_pad, .inl (gI G, 40, .inl fd)), (a_slips, .inl (gI G, 10, .inl fs1_13))]) [0, 1, 2, 3, 4] rfl)
        have hD9 := (hD.sub (ws' := [(h1, .inr (6, [.int (nI k), .ref a_maps, .int told, v_kinds, v_land, v_spades, .ref a_part, .ref a_pad, .int (nI pm), .ref a_slips, .int (nI sm1_12), .int (nI md1_19), v_queue, v_depth, v_by, v_from, v_come, v_offOf, v_parent, v_best, v_trees, v_least, v_sums, v_toward, v_kept, v_isKept, v_keptAt, v_isWriting])), (a_maps, .inl (gI G, 6, .inl fm)), (a_part, .inl (gI G, 6, .inl fp)), (a_pad, .inl (gI G, 40, .inl fd)), (a_slips, .inl (gI G, 10, .inl fs1_13))]) [0, 1, 2, 3, 4] (by decide) rfl)
        exact W.iret (v := r17) hx hb hr (fun t9_ ht9_ hW9_ => ⟨⟨r17, (nI sm1_12, nI md1_19, fs1_13), rfl, by rw [w16.1, hbc]; exact jdA_4 hj_p0 ej_p0 (by rw [ej_p0]; exact b7) hps0, by rw [ht9_]; exact hP9, hD9⟩, hS.F ht9_⟩) hS.2.2 dX10_judge_42
      · refine lv_bipush (v := (-5)) hx hb dX10_judge_27 (by decide) ?_
        refine lv_goto (tgt := 42) hx hb dX10_judge_29 (by decide) ?_
        have hP9 := (hP.sub (ws' := [(h1, .inr (6, [.int (nI k), .ref a_maps, .int told, v_kinds, v_land, v_spades, .ref a_part, .ref a_pad, .int (nI pm), .ref a_slips, .int (nI sm1_12), .int md0, v_queue, v_depth, v_by, v_from, v_come, v_offOf, v_parent, v_best, v_trees, v_least, v_sums, v_toward, v_kept, v_isKept, v_keptAt, v_isWriting])), (a_maps, .inl (gI G, 6, .inl fm)), (a_part, .inl (gI G, 6, .inl fp)), (a_pad, .inl (gI G, 40, .inl fd)), (a_slips, .inl (gI G, 10, .inl fs1_13))]) [0, 1, 2, 3, 4] rfl)
        have hD9 := (hD.sub (ws' := [(h1, .inr (6, [.int (nI k), .ref a_maps, .int told, v_kinds, v_land, v_spades, .ref a_part, .ref a_pad, .int (nI pm), .ref a_slips, .int (nI sm1_12), .int md0, v_queue, v_depth, v_by, v_from, v_come, v_offOf, v_parent, v_best, v_trees, v_least, v_sums, v_toward, v_kept, v_isKept, v_keptAt, v_isWriting])), (a_maps, .inl (gI G, 6, .inl fm)), (a_part, .inl (gI G, 6, .inl fp)), (a_pad, .inl (gI G, 40, .inl fd)), (a_slips, .inl (gI G, 10, .inl fs1_13))]) [0, 1, 2, 3, 4] (by decide) rfl)
        exact W.iret (v := (-5)) hx hb hr (fun t9_ ht9_ hW9_ => ⟨⟨(-5), (nI sm1_12, md0, fs1_13), rfl, jdA_3 b3 (by rw [ej_p0]; exact b7) (fun q9 => c14 (by rw [w9.2.1, q9]; decide)), by rw [ht9_]; exact hP9, hD9⟩, hS.F ht9_⟩) hS.2.2 dX10_judge_42
    · refine lv_if_ne (tgt := 20) hx hb dX10_judge_14 (by decide) (fun c20 => False.elim (by revert c20; decide)) (fun _ => ?_)
      refine lv_bipush (v := (-3)) hx hb dX10_judge_17 (by decide) ?_
      have hP9 := (hP.sub (ws' := [(h1, .inr (6, [.int (nI k), .ref a_maps, .int told, v_kinds, v_land, v_spades, .ref a_part, .ref a_pad, .int (nI pm), .ref a_slips, .int sm0, .int md0, v_queue, v_depth, v_by, v_from, v_come, v_offOf, v_parent, v_best, v_trees, v_least, v_sums, v_toward, v_kept, v_isKept, v_keptAt, v_isWriting])), (a_maps, .inl (gI G, 6, .inl fm)), (a_part, .inl (gI G, 6, .inl fp)), (a_pad, .inl (gI G, 40, .inl fd)), (a_slips, .inl (gI G, 10, .inl fs))]) [0, 1, 2, 3, 4] rfl)
      have hD9 := (hD.sub (ws' := [(h1, .inr (6, [.int (nI k), .ref a_maps, .int told, v_kinds, v_land, v_spades, .ref a_part, .ref a_pad, .int (nI pm), .ref a_slips, .int sm0, .int md0, v_queue, v_depth, v_by, v_from, v_come, v_offOf, v_parent, v_best, v_trees, v_least, v_sums, v_toward, v_kept, v_isKept, v_keptAt, v_isWriting])), (a_maps, .inl (gI G, 6, .inl fm)), (a_part, .inl (gI G, 6, .inl fp)), (a_pad, .inl (gI G, 40, .inl fd)), (a_slips, .inl (gI G, 10, .inl fs))]) [0, 1, 2, 3, 4] (by decide) rfl)
      exact W.iret (v := (-3)) hx hb hr (fun t9_ ht9_ hW9_ => ⟨⟨(-3), (sm0, md0, fs), rfl, jdA_2 b3 (fun q9 => b7 (by rw [← ej_p0]; exact q9)), by rw [ht9_]; exact hP9, hD9⟩, hS.F ht9_⟩) hS.2.2 dX10_judge_19
  · refine lv_if_ne (tgt := 9) hx hb dX10_judge_4 (by decide) (fun c21 => False.elim (by revert c21; decide)) (fun _ => ?_)
    refine lv_iconst (v := (-1)) hx hb dX10_judge_7 (by decide) ?_
    have hP9 := (hP.sub (ws' := [(h1, .inr (6, [.int (nI k), .ref a_maps, .int told, v_kinds, v_land, v_spades, .ref a_part, .ref a_pad, .int (nI pm), .ref a_slips, .int sm0, .int md0, v_queue, v_depth, v_by, v_from, v_come, v_offOf, v_parent, v_best, v_trees, v_least, v_sums, v_toward, v_kept, v_isKept, v_keptAt, v_isWriting])), (a_maps, .inl (gI G, 6, .inl fm)), (a_part, .inl (gI G, 6, .inl fp)), (a_pad, .inl (gI G, 40, .inl fd)), (a_slips, .inl (gI G, 10, .inl fs))]) [0, 1, 2, 3, 4] rfl)
    have hD9 := (hD.sub (ws' := [(h1, .inr (6, [.int (nI k), .ref a_maps, .int told, v_kinds, v_land, v_spades, .ref a_part, .ref a_pad, .int (nI pm), .ref a_slips, .int sm0, .int md0, v_queue, v_depth, v_by, v_from, v_come, v_offOf, v_parent, v_best, v_trees, v_least, v_sums, v_toward, v_kept, v_isKept, v_keptAt, v_isWriting])), (a_maps, .inl (gI G, 6, .inl fm)), (a_part, .inl (gI G, 6, .inl fp)), (a_pad, .inl (gI G, 40, .inl fd)), (a_slips, .inl (gI G, 10, .inl fs))]) [0, 1, 2, 3, 4] (by decide) rfl)
    exact W.iret (v := (-1)) hx hb hr (fun t9_ ht9_ hW9_ => ⟨⟨(-1), (sm0, md0, fs), rfl, jdA_1 b3, by rw [ht9_]; exact hP9, hD9⟩, hS.F ht9_⟩) hS.2.2 dX10_judge_8

set_option maxHeartbeats 1000000 in
set_option maxRecDepth 100000 in
theorem m2_copy (l : Launch) (G : Gy) (sz : Nat) (h1 : Nat) (v_kinds : Value) (v_land : Value) (v_spades : Value) (v_queue : Value) (v_depth : Value) (v_by : Value) (v_from : Value) (v_come : Value) (v_offOf : Value) (v_parent : Value) (v_best : Value) (v_trees : Value) (v_least : Value) (v_sums : Value) (v_toward : Value) (v_kept : Value) (v_isKept : Value) (v_keptAt : Value) (v_isWriting : Value) (a_maps : Nat) (fm : Nat → Int32) (a_part : Nat) (fp : Nat → Int32) (a_pad : Nat) (pm : Nat) (fd : Nat → Int32) (a_slips : Nat) (k : Nat) (fs : Nat → Int32) (told : Int32) (sm0 : Int32) (md0 : Int32) (p0 : Int32) (p1 : Int32) (hk2 : 2 ≤ k) (hk6 : k ≤ 6) (hp : pOK k fp) (hpm : pm ≤ 40) (hfm : mapsOK k fm) : Ci l G yX10_copy wsX10_copy ({ frames := 4, cells := 0, slots := 0, locals := 92 }) [.ref h1, .int p0, .int p1] ([(h1, .inr (6, [.int (nI k), .ref a_maps, .int told, v_kinds, v_land, v_spades, .ref a_part, .ref a_pad, .int (nI pm), .ref a_slips, .int sm0, .int md0, v_queue, v_depth, v_by, v_from, v_come, v_offOf, v_parent, v_best, v_trees, v_least, v_sums, v_toward, v_kept, v_isKept, v_keptAt, v_isWriting])), (a_maps, .inl (gI G, 6, .inl fm)), (a_part, .inl (gI G, 6, .inl fp)), (a_pad, .inl (gI G, 40, .inl fd)), (a_slips, .inl (gI G, 10, .inl fs))]) sz (fun (r : Int32) (u : Int32 × Nat × Int32 × Int32 × (Nat → Int32) × (Nat → Int32)) => match u with | (told1, pm1, sm1, md1, fm1, fs1) => pm1 ≤ 40 ∧ mapsOK k fm1 ∧ r = (cpA k pm told fd (maN fm) p0 p1).1 ∧ MOut k (cpA k pm told fd (maN fm) p0 p1).2 p0 told told1 pm pm1 fm fm1) (fun (u : Int32 × Nat × Int32 × Int32 × (Nat → Int32) × (Nat → Int32)) => match u with | (told1, pm1, sm1, md1, fm1, fs1) => [(h1, .inr (6, [.int (nI k), .ref a_maps, .int told1, v_kinds, v_land, v_spades, .ref a_part, .ref a_pad, .int (nI pm1), .ref a_slips, .int sm1, .int md1, v_queue, v_depth, v_by, v_from, v_come, v_offOf, v_parent, v_best, v_trees, v_least, v_sums, v_toward, v_kept, v_isKept, v_keptAt, v_isWriting])), (a_maps, .inl (gI G, 6, .inl fm1)), (a_part, .inl (gI G, 6, .inl fp)), (a_pad, .inl (gI G, 40, .inl fd)), (a_slips, .inl (gI G, 10, .inl fs1))]) 0 0 := by
  refine Met.ofW (cc := cX10_copy) (maxL := 3) (ret := (some .int)) (by decide) rfl ?_
  intro p e s m args below meth c s₁ B hml hv
  obtain ⟨rfl, hsz, hP, hD0, E0⟩ := hv
  have hx := B.exec
  have hb := B.bytes
  have hr := B.returns
  have hts := atoms_spec (ws := wsX10_copy) B.pre
  have hown : s.vm.findClass RX10 = some m.cls := findClass_of_methodNamed B.named
  have hlocks := B.notSynchronized
  subst hsz
  have hD := hD0.self (sz := s.heap.size)
  generalize hAe : va_A ([(h1, .inr (6, [.int (nI k), .ref a_maps, .int told, v_kinds, v_land, v_spades, .ref a_part, .ref a_pad, .int (nI pm), .ref a_slips, .int sm0, .int md0, v_queue, v_depth, v_by, v_from, v_come, v_offOf, v_parent, v_best, v_trees, v_least, v_sums, v_toward, v_kept, v_isKept, v_keptAt, v_isWriting])), (a_maps, .inl (gI G, 6, .inl fm)), (a_part, .inl (gI G, 6, .inl fp)), (a_pad, .inl (gI G, 40, .inl fd)), (a_slips, .inl (gI G, 10, .inl fs))]) s.heap.size = A at hD E0 ⊢
  have E : EV G A s s.heap := E0
  have hA : ∀ q : Nat, s.heap.size ≤ q → A q := fun q h => by rw [← hAe]; exact Or.inr h
  have hS : va_S A s.heap s.heap [] := va_S.rf
  have hl := lv_entry ([.ref h1, .int p0, .int p1]) (n := 3) (Nat.le_of_ble_eq_true rfl)
  rw [lg_entry_eq]
  generalize (lg_sl ([.ref h1, .int p0, .int p1]) ++ List.replicate (3 - (lg_sl ([.ref h1, .int p0, .int p1])).length) Slot.unset).toArray = ls at hl ⊢
  have hl : lv_has ls 3 [(0, .ref h1), (1, .int p0), (2, .int p1)] := hl
  have hP : va_P G.1 vwCl ([(h1, .inr (6, [.int (nI k), .ref a_maps, .int told, v_kinds, v_land, v_spades, .ref a_part, .ref a_pad, .int (nI pm), .ref a_slips, .int sm0, .int md0, v_queue, v_depth, v_by, v_from, v_come, v_offOf, v_parent, v_best, v_trees, v_least, v_sums, v_toward, v_kept, v_isKept, v_keptAt, v_isWriting])), (a_maps, .inl (gI G, 6, .inl fm)), (a_part, .inl (gI G, 6, .inl fp)), (a_pad, .inl (gI G, 40, .inl fd)), (a_slips, .inl (gI G, 10, .inl fs))]) s.heap := hP
  have hal := p5le hk6
  refine lv_iload_n hx hb dX10_copy_0 rfl (lv_at hl 1 rfl) ?_
  refine ca_iR (va_runS (As := [.int p0]) (rest := []) ⟨hx, hb, hml, hown, hts⟩ (m_isMap l G s.heap.size p0) (va_cwS 1 hts gX10_copy_X10_isMap rfl rfl rfl (by decide +kernel) ⟨by decide +kernel, by decide +kernel⟩) (pre_S E hP hD hS hA [] (by decide) rfl) rfl rfl hl.1 rfl (lv_room (Nat.le_of_ble_eq_true rfl)) dX10_copy_1 ⟨by decide +kernel, by decide +kernel⟩) hS hP hD hA [] rfl (fun r2 _ H locs w1 hP hS => ?_)
  rcases w1 with ⟨rfl, b3⟩ | ⟨rfl, b3⟩
  · refine lv_if_eq (tgt := 14) hx hb dX10_copy_4 (by decide) (fun c4 => False.elim (by revert c4; decide)) (fun _ => ?_)
    refine lv_iload_n hx hb dX10_copy_7 rfl (lv_at hl 2 rfl) ?_
    refine ca_iR (va_runS (As := [.int p1]) (rest := []) ⟨hx, hb, hml, hown, hts⟩ (m_isMap l G H.size p1) (va_cwS 1 hts gX10_copy_X10_isMap rfl rfl rfl (by decide +kernel) ⟨by decide +kernel, by decide +kernel⟩) (pre_S E hP hD hS hA [] (by decide) rfl) rfl rfl hl.1 rfl (lv_room (Nat.le_of_ble_eq_true rfl)) dX10_copy_8 ⟨by decide +kernel, by decide +kernel⟩) hS hP hD hA [] rfl (fun r6 _ H locs w5 hP hS => ?_)
    rcases w5 with ⟨rfl, b7⟩ | ⟨rfl, b7⟩
    · refine lv_if_ne (tgt := 16) hx hb dX10_copy_11 (by decide) (fun _ => ?_) (fun c8 => False.elim (by revert c8; decide))
      obtain ⟨j_p0, hj_p0, ej_p0⟩ := inR6 b3
      have hl : lv_has ls 3 [(0, .ref h1), (1, .int (nI j_p0)), (2, .int p1)] := by have q := hl; rw [ej_p0] at q; exact q
      obtain ⟨j_p1, hj_p1, ej_p1⟩ := inR6 b7
      have hl : lv_has ls 3 [(0, .ref h1), (1, .int (nI j_p0)), (2, .int (nI j_p1))] := by have q := hl; rw [ej_p1] at q; exact q
      refine lv_aload_n hx hb dX10_copy_16 rfl (lv_at hl 0 rfl) ?_
      refine lv_iload_n hx hb dX10_copy_17 rfl (lv_at hl 2 rfl) ?_
      refine ca_iR (va_runV (As := [.int (nI j_p1)]) (rest := []) ⟨hx, hb, hml, hown, hts⟩ (m_isTold l G H.size h1 (.int (nI k)) (.ref a_maps) v_kinds v_land v_spades (.ref a_part) (.ref a_pad) (.int (nI pm)) (.ref a_slips) (.int sm0) (.int md0) v_queue v_depth v_by v_from v_come v_offOf v_parent v_best v_trees v_least v_sums v_toward v_kept v_isKept v_keptAt v_isWriting told (nI j_p1)) (cwV 1 hts gX10_copy_X10_isTold rfl rfl rfl (by decide +kernel) ⟨by decide +kernel, by decide +kernel⟩) (pre_V E hP hD hS hA [0] (by decide) rfl 0 6 rfl rfl) rfl rfl hl.1 rfl (lv_room (Nat.le_of_ble_eq_true rfl)) dX10_copy_18 ⟨by decide +kernel, by decide +kernel⟩) hS hP hD hA [0] rfl (fun r10 _ H locs w9 hP hS => ?_)
      rcases w9 with ⟨rfl, b11⟩ | ⟨rfl, b11⟩
      · refine lv_if_ne (tgt := 27) hx hb dX10_copy_21 (by decide) (fun _ => ?_) (fun c12 => False.elim (by revert c12; decide))
        refine lv_aload_n hx hb dX10_copy_27 rfl (lv_at hl 0 rfl) ?_
        refine ca_i (wr := [(a_maps, .inl (gI G, 6, .inl fm)), (a_part, .inl (gI G, 6, .inl fp))]) (va_runV (As := []) (rest := []) ⟨hx, hb, hml, hown, hts⟩ (m2_faultOfSlips l G H.size h1 (.ref a_maps) (.int told) v_kinds v_land v_spades (.ref a_part) (.int md0) v_queue v_depth v_by v_from v_come v_offOf v_parent v_best v_trees v_least v_sums v_toward v_kept v_isKept v_keptAt v_isWriting a_pad pm fd a_slips k fs sm0 hk2 hk6 (by omega)) (cwV 0 hts gX10_copy_X10_faultOfSlips rfl rfl rfl (by decide +kernel) ⟨by decide +kernel, by decide +kernel⟩) (pre_V E hP hD hS hA [0, 3, 4] (by decide) rfl 0 6 rfl rfl) rfl rfl hl.1 rfl (lv_room (Nat.le_of_ble_eq_true rfl)) dX10_copy_28 ⟨by decide +kernel, by decide +kernel⟩) hS hP hD hA [0, 3, 4] [1, 2] rfl rfl (by decide) (by decide) (fun r14 u15 H locs w13 hP hD hS => ?_)
        obtain ⟨sm1_16, fs1_17⟩ := u15
        try dsimp only at w13 hP hD
        have hP := (hP.sub (ws' := [(h1, .inr (6, [.int (nI k), .ref a_maps, .int told, v_kinds, v_land, v_spades, .ref a_part, .ref a_pad, .int (nI pm), .ref a_slips, .int (nI sm1_16), .int md0, v_queue, v_depth, v_by, v_from, v_come, v_offOf, v_parent, v_best, v_trees, v_least, v_sums, v_toward, v_kept, v_isKept, v_keptAt, v_isWriting])), (a_maps, .inl (gI G, 6, .inl fm)), (a_part, .inl (gI G, 6, .inl fp)), (a_pad, .inl (gI G, 40, .inl fd)), (a_slips, .inl (gI G, 10, .inl fs1_17))]) [2, 0, 1, 3, 4] rfl)
        have hD := (hD.sub (ws' := [(h1, .inr (6, [.int (nI k), .ref a_maps, .int told, v_kinds, v_land, v_spades, .ref a_part, .ref a_pad, .int (nI pm), .ref a_slips, .int (nI sm1_16), .int md0, v_queue, v_depth, v_by, v_from, v_come, v_offOf, v_parent, v_best, v_trees, v_least, v_sums, v_toward, v_kept, v_isKept, v_keptAt, v_isWriting])), (a_maps, .inl (gI G, 6, .inl fm)), (a_part, .inl (gI G, 6, .inl fp)), (a_pad, .inl (gI G, 40, .inl fd)), (a_slips, .inl (gI G, 10, .inl fs1_17))]) [2, 0, 1, 3, 4] (by decide) rfl)
        refine lv_if_ge (tgt := 47) hx hb dX10_copy_31 (by decide) (fun c18 => ?_) (fun c18 => ?_)
        · refine lv_bipush (v := (-5)) hx hb dX10_copy_47 (by decide) ?_
          have hP9 := (hP.sub (ws' := [(h1, .inr (6, [.int (nI k), .ref a_maps, .int told, v_kinds, v_land, v_spades, .ref a_part, .ref a_pad, .int (nI pm), .ref a_slips, .int (nI sm1_16), .int md0, v_queue, v_depth, v_by, v_from, v_come, v_offOf, v_parent, v_best, v_trees, v_least, v_sums, v_toward, v_kept, v_isKept, v_keptAt, v_isWriting])), (a_maps, .inl (gI G, 6, .inl fm)), (a_part, .inl (gI G, 6, .inl fp)), (a_pad, .inl (gI G, 40, .inl fd)), (a_slips, .inl (gI G, 10, .inl fs1_17))]) [0, 1, 2, 3, 4] rfl)
          have hD9 := (hD.sub (ws' := [(h1, .inr (6, [.int (nI k), .ref a_maps, .int told, v_kinds, v_land, v_spades, .ref a_part, .ref a_pad, .int (nI pm), .ref a_slips, .int (nI sm1_16), .int md0, v_queue, v_depth, v_by, v_from, v_come, v_offOf, v_parent, v_best, v_trees, v_least, v_sums, v_toward, v_kept, v_isKept, v_keptAt, v_isWriting])), (a_maps, .inl (gI G, 6, .inl fm)), (a_part, .inl (gI G, 6, .inl fp)), (a_pad, .inl (gI G, 40, .inl fd)), (a_slips, .inl (gI G, 10, .inl fs1_17))]) [0, 1, 2, 3, 4] (by decide) rfl)
          exact W.iret (v := (-5)) hx hb hr (fun t9_ ht9_ hW9_ => ⟨⟨(-5), (told, pm, nI sm1_16, md0, fm, fs1_17), rfl, ⟨hpm, hfm, MO_n (cpA_3 ⟨b3, b7⟩ (by rw [ej_p1]; exact b11) (fun q9 => absurd (show psl fd pm k 10 0 < 0 by rw [q9]; decide) (by rw [← w13.2.1]; have q8 := c18; simp only [i3_le, i3_lt] at *; omega))) rfl⟩, by rw [ht9_]; exact hP9, hD9⟩, hS.F ht9_⟩) hS.2.2 dX10_copy_49
        · have hps0 : psl fd pm k 10 0 = (-6) := (neg_cases (psl_cases hpm 10 0)).mp (by rw [← w13.2.1]; first | exact c18 | (have q8 := c18; simp only [i3_le, i3_lt] at q8 ⊢; omega))
          have hps := psl_all hpm hk2 hk6 hps0
          have hfs := w13.2.2 hps0
          have hfs1 := hfs.1
          have hsm9 := w13.1
          have hbc : ∀ a9 : Nat, bdF k fs1_17 sm1_16 0 a9 = bdF k (sF fd) (nS fd pm) 0 a9 := fun a9 => by rw [bdF_congr (sl' := sF fd) _ _ _ (fun i9 _ h9 => hfs.2 i9 (by omega)), hfs1]
          have hrc : ∀ a9 : Nat, runS k fs1_17 sm1_16 0 a9 = runS k (sF fd) (nS fd pm) 0 a9 := fun a9 => by rw [runS_congr (sl' := sF fd) _ _ _ (fun i9 _ h9 => hfs.2 i9 (by omega)), hfs1]
          refine lv_aload_n hx hb dX10_copy_34 rfl (lv_at hl 0 rfl) ?_
          refine lv_aload_n hx hb dX10_copy_35 rfl (lv_at hl 0 rfl) ?_
          refine va_get (D := G.1) (ci := 6) (v := .ref a_maps) (C := RX10) (T := TX10) (N := 28) hx hb hts (fun _ h => List.mem_cons_of_mem _ (List.mem_append_right _ h)) hown E.K hP 0 rfl rfl 1 (by decide) (hts (.fieldLink RX10 7 "LastMapModel" "maps" "[I") (by decide +kernel)) (fun _ h9 => h9) rfl dX10_copy_36 ?_
          refine lv_iload_n hx hb dX10_copy_39 rfl (lv_at hl 2 rfl) ?_
          refine va_iald hx hb E.K hP 1 1 rfl rfl (i := nI j_p1) (vp_in_nI (by omega) (by decide)) dX10_copy_40 ?_
          refine lv_topi (fun x19 ex19 => ?_)
          have hmj := maN_ok hk6 hfm hj_p1
          obtain rfl : x19 = nI (maN fm j_p1) := by rw [ex19, nI_clamp (by omega)]; exact hmj.2
          refine ca_i (wr := [(a_maps, .inl (gI G, 6, .inl fm)), (a_pad, .inl (gI G, 40, .inl fd))]) (va_runV (As := [.int (nI (maN fm j_p1))]) (rest := []) ⟨hx, hb, hml, hown, hts⟩ (m2_badFrom l G H.size h1 (.int (nI k)) (.ref a_maps) (.int told) v_kinds v_land v_spades (.ref a_pad) (.int (nI pm)) v_queue v_depth v_by v_from v_come v_offOf v_parent v_best v_trees v_least v_sums v_toward v_kept v_isKept v_keptAt v_isWriting a_part fp a_slips k sm1_16 (maN fm j_p1) fs1_17 md0 hk6 hp hmj.1 hsm9 (fun i9 h9 => by rw [hfs.2 i9 h9]; exact (w1_ok hk2 hk6 (hps.2.2 i9 (by omega))).2.2)) (cwV 1 hts gX10_copy_X10_badFrom rfl rfl rfl (by decide +kernel) ⟨by decide +kernel, by decide +kernel⟩) (pre_V E hP hD hS hA [0, 2, 4] (by decide) rfl 0 6 rfl rfl) rfl rfl hl.1 rfl (lv_room (Nat.le_of_ble_eq_true rfl)) dX10_copy_41 ⟨by decide +kernel, by decide +kernel⟩) hS hP hD hA [0, 2, 4] [1, 3] rfl rfl (by decide) (by decide) (fun r21 u22 H locs w20 hP hD hS => ?_)
          obtain ⟨md1_23, rfl⟩ : ∃ z, z = u22 := ⟨_, rfl⟩
          try dsimp only at w20 hP hD
          have hP := (hP.sub (ws' := [(h1, .inr (6, [.int (nI k), .ref a_maps, .int told, v_kinds, v_land, v_spades, .ref a_part, .ref a_pad, .int (nI pm), .ref a_slips, .int (nI sm1_16), .int (nI md1_23), v_queue, v_depth, v_by, v_from, v_come, v_offOf, v_parent, v_best, v_trees, v_least, v_sums, v_toward, v_kept, v_isKept, v_keptAt, v_isWriting])), (a_maps, .inl (gI G, 6, .inl fm)), (a_part, .inl (gI G, 6, .inl fp)), (a_pad, .inl (gI G, 40, .inl fd)), (a_slips, .inl (gI G, 10, .inl fs1_17))]) [2, 0, 3, 1, 4] rfl)
          have hD := (hD.sub (ws' := [(h1, .inr (6, [.int (nI k), .ref a_maps, .int told, v_kinds, v_land, v_spades, .ref a_part, .ref a_pad, .int (nI pm), .ref a_slips, .int (nI sm1_16), .int (nI md1_23), v_queue, v_depth, v_by, v_from, v_come, v_offOf, v_parent, v_best, v_trees, v_least, v_sums, v_toward, v_kept, v_isKept, v_keptAt, v_isWriting])), (a_maps, .inl (gI G, 6, .inl fm)), (a_part, .inl (gI G, 6, .inl fp)), (a_pad, .inl (gI G, 40, .inl fd)), (a_slips, .inl (gI G, 10, .inl fs1_17))]) [2, 0, 3, 1, 4] (by decide) rfl)
          refine lv_if_lt (tgt := 50) hx hb dX10_copy_44 (by decide) (fun c24 => ?_) (fun c24 => ?_)
          · have hbd : bdF k (sF fd) (nS fd pm) 0 (maN fm j_p1) = (-6) := (neg_cases (bdF_cases _ _ _ (by have q9 := hps.1; omega))).mp (by rw [← hbc, ← w20.1]; exact c24)
            have hmd := w20.2.1 (by rw [hbc]; exact hbd)
            have hmd5 := w20.2.2
            refine lv_aload_n hx hb dX10_copy_50 rfl (lv_at hl 0 rfl) ?_
            refine va_get (D := G.1) (ci := 6) (v := .ref a_maps) (C := RX10) (T := TX10) (N := 28) hx hb hts (fun _ h => List.mem_cons_of_mem _ (List.mem_append_right _ h)) hown E.K hP 0 rfl rfl 1 (by decide) (hts (.fieldLink RX10 7 "LastMapModel" "maps" "[I") (by decide +kernel)) (fun _ h9 => h9) rfl dX10_copy_51 ?_
            refine lv_iload_n hx hb dX10_copy_54 rfl (lv_at hl 1 rfl) ?_
            refine lv_aload_n hx hb dX10_copy_55 rfl (lv_at hl 0 rfl) ?_
            refine va_get (D := G.1) (ci := 6) (v := .int (nI md1_23)) (C := RX10) (T := TX10) (N := 28) hx hb hts (fun _ h => List.mem_cons_of_mem _ (List.mem_append_right _ h)) hown E.K hP 0 rfl rfl 11 (by decide) (hts (.fieldLink RX10 149 "LastMapModel" "made" "I") (by decide +kernel)) (fun _ h9 => h9) rfl dX10_copy_56 ?_
            refine va_iast hx hb E.K hP hD hS 1 1 rfl rfl (i := nI j_p0) (vp_in_nI (by omega) (by decide)) dX10_copy_59 (fun H locs hP hD hS => ?_)
            obtain ⟨f25, ef25⟩ : ∃ yy_ : Nat → Int32, yy_ = upd fm (nI j_p0).toNatClampNeg (nI md1_23) := ⟨_, rfl⟩
            have hP : va_P G.1 vwCl ([(h1, .inr (6, [.int (nI k), .ref a_maps, .int told, v_kinds, v_land, v_spades, .ref a_part, .ref a_pad, .int (nI pm), .ref a_slips, .int (nI sm1_16), .int (nI md1_23), v_queue, v_depth, v_by, v_from, v_come, v_offOf, v_parent, v_best, v_trees, v_least, v_sums, v_toward, v_kept, v_isKept, v_keptAt, v_isWriting])), (a_maps, .inl (gI G, 6, .inl f25)), (a_part, .inl (gI G, 6, .inl fp)), (a_pad, .inl (gI G, 40, .inl fd)), (a_slips, .inl (gI G, 10, .inl fs1_17))]) H := by rw [ef25]; exact hP
            have hD : va_D A ([(h1, .inr (6, [.int (nI k), .ref a_maps, .int told, v_kinds, v_land, v_spades, .ref a_part, .ref a_pad, .int (nI pm), .ref a_slips, .int (nI sm1_16), .int (nI md1_23), v_queue, v_depth, v_by, v_from, v_come, v_offOf, v_parent, v_best, v_trees, v_least, v_sums, v_toward, v_kept, v_isKept, v_keptAt, v_isWriting])), (a_maps, .inl (gI G, 6, .inl f25)), (a_part, .inl (gI G, 6, .inl fp)), (a_pad, .inl (gI G, 40, .inl fd)), (a_slips, .inl (gI G, 10, .inl fs1_17))]) := by rw [ef25]; exact hD
            refine lv_aload_n hx hb dX10_copy_60 rfl (lv_at hl 0 rfl) ?_
            refine lv_dup hx hb dX10_copy_61 rfl ?_
            refine va_get (D := G.1) (ci := 6) (v := .int told) (C := RX10) (T := TX10) (N := 28) hx hb hts (fun _ h => List.mem_cons_of_mem _ (List.mem_append_right _ h)) hown E.K hP 0 rfl rfl 2 (by decide) (hts (.fieldLink RX10 70 "LastMapModel" "told" "I") (by decide +kernel)) (fun _ h9 => h9) rfl dX10_copy_62 ?_
            refine lv_iconst (v := 1) hx hb dX10_copy_65 (by decide) ?_
            refine lv_iload_n hx hb dX10_copy_66 rfl (lv_at hl 1 rfl) ?_
            refine lv_ishl hx hb dX10_copy_67 ?_
            refine lv_topi (fun x26 ex26 => ?_)
            refine lv_ior hx hb dX10_copy_68 ?_
            refine lv_topi (fun x27 ex27 => ?_)
            refine va_put (D := G.1) (ci := 6) (v := .int x27) (ty := .int) (C := RX10) (T := TX10) (N := 28) hx hb hts (fun _ h => List.mem_cons_of_mem _ (List.mem_append_right _ h)) tyX10 tyX10_ok nmX10 hown E.K hP hD hS 0 rfl rfl 2 (by decide) (hts (.fieldLink RX10 70 "LastMapModel" "told" "I") (by decide +kernel)) (fun _ h9 => h9) rfl (by decide +kernel) rfl rfl (Nat.le_of_ble_eq_true rfl) dX10_copy_69 (fun H locs hP hD hS => ?_)
            have hP : va_P G.1 vwCl ([(h1, .inr (6, [.int (nI k), .ref a_maps, .int x27, v_kinds, v_land, v_spades, .ref a_part, .ref a_pad, .int (nI pm), .ref a_slips, .int (nI sm1_16), .int (nI md1_23), v_queue, v_depth, v_by, v_from, v_come, v_offOf, v_parent, v_best, v_trees, v_least, v_sums, v_toward, v_kept, v_isKept, v_keptAt, v_isWriting])), (a_maps, .inl (gI G, 6, .inl f25)), (a_part, .inl (gI G, 6, .inl fp)), (a_pad, .inl (gI G, 40, .inl fd)), (a_slips, .inl (gI G, 10, .inl fs1_17))]) H := hP
            have hD : va_D A ([(h1, .inr (6, [.int (nI k), .ref a_maps, .int x27, v_kinds, v_land, v_spades, .ref a_part, .ref a_pad, .int (nI pm), .ref a_slips, .int (nI sm1_16), .int (nI md1_23), v_queue, v_depth, v_by, v_from, v_come, v_offOf, v_parent, v_best, v_trees, v_least, v_sums, v_toward, v_kept, v_isKept, v_keptAt, v_isWriting])), (a_maps, .inl (gI G, 6, .inl f25)), (a_part, .inl (gI G, 6, .inl fp)), (a_pad, .inl (gI G, 40, .inl fd)), (a_slips, .inl (gI G, 10, .inl fs1_17))]) := hD
            refine lv_aload_n hx hb dX10_copy_72 rfl (lv_at hl 0 rfl) ?_
            refine lv_iconst (v := 0) hx hb dX10_copy_73 (by decide) ?_
            refine va_put (D := G.1) (ci := 6) (v := .int 0) (ty := .int) (C := RX10) (T := TX10) (N := 28) hx hb hts (fun _ h => List.mem_cons_of_mem _ (List.mem_append_right _ h)) tyX10 tyX10_ok nmX10 hown E.K hP hD hS 0 rfl rfl 8 (by decide) (hts (.fieldLink RX10 103 "LastMapModel" "padMany" "I") (by decide +kernel)) (fun _ h9 => h9) rfl (by decide +kernel) rfl rfl (Nat.le_of_ble_eq_true rfl) dX10_copy_74 (fun H locs hP hD hS => ?_)
            have hP : va_P G.1 vwCl ([(h1, .inr (6, [.int (nI k), .ref a_maps, .int x27, v_kinds, v_land, v_spades, .ref a_part, .ref a_pad, .int 0, .ref a_slips, .int (nI sm1_16), .int (nI md1_23), v_queue, v_depth, v_by, v_from, v_come, v_offOf, v_parent, v_best, v_trees, v_least, v_sums, v_toward, v_kept, v_isKept, v_keptAt, v_isWriting])), (a_maps, .inl (gI G, 6, .inl f25)), (a_part, .inl (gI G, 6, .inl fp)), (a_pad, .inl (gI G, 40, .inl fd)), (a_slips, .inl (gI G, 10, .inl fs1_17))]) H := hP
            have hD : va_D A ([(h1, .inr (6, [.int (nI k), .ref a_maps, .int x27, v_kinds, v_land, v_spades, .ref a_part, .ref a_pad, .int 0, .ref a_slips, .int (nI sm1_16), .int (nI md1_23), v_queue, v_depth, v_by, v_from, v_come, v_offOf, v_parent, v_best, v_trees, v_least, v_sums, v_toward, v_kept, v_isKept, v_keptAt, v_isWriting])), (a_maps, .inl (gI G, 6, .inl f25)), (a_part, .inl (gI G, 6, .inl fp)), (a_pad, .inl (gI G, 40, .inl fd)), (a_slips, .inl (gI G, 10, .inl fs1_17))]) := hD
            refine lv_aload_n hx hb dX10_copy_77 rfl (lv_at hl 0 rfl) ?_
            refine va_get (D := G.1) (ci := 6) (v := .int (nI sm1_16)) (C := RX10) (T := TX10) (N := 28) hx hb hts (fun _ h => List.mem_cons_of_mem _ (List.mem_append_right _ h)) hown E.K hP 0 rfl rfl 10 (by decide) (hts (.fieldLink RX10 110 "LastMapModel" "slipMany" "I") (by decide +kernel)) (fun _ h9 => h9) rfl dX10_copy_78 ?_
            have hP9 := (hP.sub (ws' := [(h1, .inr (6, [.int (nI k), .ref a_maps, .int x27, v_kinds, v_land, v_spades, .ref a_part, .ref a_pad, .int 0, .ref a_slips, .int (nI sm1_16), .int (nI md1_23), v_queue, v_depth, v_by, v_from, v_come, v_offOf, v_parent, v_best, v_trees, v_least, v_sums, v_toward, v_kept, v_isKept, v_keptAt, v_isWriting])), (a_maps, .inl (gI G, 6, .inl f25)), (a_part, .inl (gI G, 6, .inl fp)), (a_pad, .inl (gI G, 40, .inl fd)), (a_slips, .inl (gI G, 10, .inl fs1_17))]) [0, 1, 2, 3, 4] rfl)
            have hD9 := (hD.sub (ws' := [(h1, .inr (6, [.int (nI k), .ref a_maps, .int x27, v_kinds, v_land, v_spades, .ref a_part, .ref a_pad, .int 0, .ref a_slips, .int (nI sm1_16), .int (nI md1_23), v_queue, v_depth, v_by, v_from, v_come, v_offOf, v_parent, v_best, v_trees, v_least, v_sums, v_toward, v_kept, v_isKept, v_keptAt, v_isWriting])), (a_maps, .inl (gI G, 6, .inl f25)), (a_part, .inl (gI G, 6, .inl fp)), (a_pad, .inl (gI G, 40, .inl fd)), (a_slips, .inl (gI G, 10, .inl fs1_17))]) [0, 1, 2, 3, 4] (by decide) rfl)
            exact W.iret (v := (nI sm1_16)) hx hb hr (fun t9_ ht9_ hW9_ => ⟨⟨nI sm1_16, (x27, 0, nI sm1_16, nI md1_23, f25, fs1_17), rfl, ⟨by omega, by rw [ef25, nI_clamp (by omega)]; exact mapsOK_upd hfm hmd5, MO_s (cpA_5 hj_p1 ej_p1 b3 (by rw [ej_p1]; exact b11) hps0 hbd) (cp_lt hk2 hk6 hmj.1 hps.2.2) (by rw [hfs1]) (by unfold tb; rw [ex27, ex26, ej_p0]) (by rw [ef25, hmd, hrc, ej_p0])⟩, by rw [ht9_]; exact hP9, hD9⟩, hS.F ht9_⟩) hS.2.2 dX10_copy_81
          · refine lv_bipush (v := (-5)) hx hb dX10_copy_47 (by decide) ?_
            have hP9 := (hP.sub (ws' := [(h1, .inr (6, [.int (nI k), .ref a_maps, .int told, v_kinds, v_land, v_spades, .ref a_part, .ref a_pad, .int (nI pm), .ref a_slips, .int (nI sm1_16), .int (nI md1_23), v_queue, v_depth, v_by, v_from, v_come, v_offOf, v_parent, v_best, v_trees, v_least, v_sums, v_toward, v_kept, v_isKept, v_keptAt, v_isWriting])), (a_maps, .inl (gI G, 6, .inl fm)), (a_part, .inl (gI G, 6, .inl fp)), (a_pad, .inl (gI G, 40, .inl fd)), (a_slips, .inl (gI G, 10, .inl fs1_17))]) [0, 1, 2, 3, 4] rfl)
            have hD9 := (hD.sub (ws' := [(h1, .inr (6, [.int (nI k), .ref a_maps, .int told, v_kinds, v_land, v_spades, .ref a_part, .ref a_pad, .int (nI pm), .ref a_slips, .int (nI sm1_16), .int (nI md1_23), v_queue, v_depth, v_by, v_from, v_come, v_offOf, v_parent, v_best, v_trees, v_least, v_sums, v_toward, v_kept, v_isKept, v_keptAt, v_isWriting])), (a_maps, .inl (gI G, 6, .inl fm)), (a_part, .inl (gI G, 6, .inl fp)), (a_pad, .inl (gI G, 40, .inl fd)), (a_slips, .inl (gI G, 10, .inl fs1_17))]) [0, 1, 2, 3, 4] (by decide) rfl)
            exact W.iret (v := (-5)) hx hb hr (fun t9_ ht9_ hW9_ => ⟨⟨(-5), (told, pm, nI sm1_16, nI md1_23, fm, fs1_17), rfl, ⟨hpm, hfm, MO_n (cpA_4 hj_p1 ej_p1 b3 (by rw [ej_p1]; exact b11) hps0 (fun q9 => c24 (by rw [w20.1, hbc, q9]; decide))) rfl⟩, by rw [ht9_]; exact hP9, hD9⟩, hS.F ht9_⟩) hS.2.2 dX10_copy_49
      · refine lv_if_ne (tgt := 27) hx hb dX10_copy_21 (by decide) (fun c28 => False.elim (by revert c28; decide)) (fun _ => ?_)
        refine lv_bipush (v := (-3)) hx hb dX10_copy_24 (by decide) ?_
        have hP9 := (hP.sub (ws' := [(h1, .inr (6, [.int (nI k), .ref a_maps, .int told, v_kinds, v_land, v_spades, .ref a_part, .ref a_pad, .int (nI pm), .ref a_slips, .int sm0, .int md0, v_queue, v_depth, v_by, v_from, v_come, v_offOf, v_parent, v_best, v_trees, v_least, v_sums, v_toward, v_kept, v_isKept, v_keptAt, v_isWriting])), (a_maps, .inl (gI G, 6, .inl fm)), (a_part, .inl (gI G, 6, .inl fp)), (a_pad, .inl (gI G, 40, .inl fd)), (a_slips, .inl (gI G, 10, .inl fs))]) [0, 1, 2, 3, 4] rfl)
        have hD9 := (hD.sub (ws' := [(h1, .inr (6, [.int (nI k), .ref a_maps, .int told, v_kinds, v_land, v_spades, .ref a_part, .ref a_pad, .int (nI pm), .ref a_slips, .int sm0, .int md0, v_queue, v_depth, v_by, v_from, v_come, v_offOf, v_parent, v_best, v_trees, v_least, v_sums, v_toward, v_kept, v_isKept, v_keptAt, v_isWriting])), (a_maps, .inl (gI G, 6, .inl fm)), (a_part, .inl (gI G, 6, .inl fp)), (a_pad, .inl (gI G, 40, .inl fd)), (a_slips, .inl (gI G, 10, .inl fs))]) [0, 1, 2, 3, 4] (by decide) rfl)
        exact W.iret (v := (-3)) hx hb hr (fun t9_ ht9_ hW9_ => ⟨⟨(-3), (told, pm, sm0, md0, fm, fs), rfl, ⟨hpm, hfm, MO_n (cpA_2 ⟨b3, b7⟩ (fun q9 => b11 (by rw [← ej_p1]; exact q9))) rfl⟩, by rw [ht9_]; exact hP9, hD9⟩, hS.F ht9_⟩) hS.2.2 dX10_copy_26
    · refine lv_if_ne (tgt := 16) hx hb dX10_copy_11 (by decide) (fun c29 => False.elim (by revert c29; decide)) (fun _ => ?_)
      refine lv_iconst (v := (-1)) hx hb dX10_copy_14 (by decide) ?_
      have hP9 := (hP.sub (ws' := [(h1, .inr (6, [.int (nI k), .ref a_maps, .int told, v_kinds, v_land, v_spades, .ref a_part, .ref a_pad, .int (nI pm), .ref a_slips, .int sm0, .int md0, v_queue, v_depth, v_by, v_from, v_come, v_offOf, v_parent, v_best, v_trees, v_least, v_sums, v_toward, v_kept, v_isKept, v_keptAt, v_isWriting])), (a_maps, .inl (gI G, 6, .inl fm)), (a_part, .inl (gI G, 6, .inl fp)), (a_pad, .inl (gI G, 40, .inl fd)), (a_slips, .inl (gI G, 10, .inl fs))]) [0, 1, 2, 3, 4] rfl)
      have hD9 := (hD.sub (ws' := [(h1, .inr (6, [.int (nI k), .ref a_maps, .int told, v_kinds, v_land, v_spades, .ref a_part, .ref a_pad, .int (nI pm), .ref a_slips, .int sm0, .int md0, v_queue, v_depth, v_by, v_from, v_come, v_offOf, v_parent, v_best, v_trees, v_least, v_sums, v_toward, v_kept, v_isKept, v_keptAt, v_isWriting])), (a_maps, .inl (gI G, 6, .inl fm)), (a_part, .inl (gI G, 6, .inl fp)), (a_pad, .inl (gI G, 40, .inl fd)), (a_slips, .inl (gI G, 10, .inl fs))]) [0, 1, 2, 3, 4] (by decide) rfl)
      exact W.iret (v := (-1)) hx hb hr (fun t9_ ht9_ hW9_ => ⟨⟨(-1), (told, pm, sm0, md0, fm, fs), rfl, ⟨hpm, hfm, MO_n (cpA_1 (fun q9 => b7 q9.2)) rfl⟩, by rw [ht9_]; exact hP9, hD9⟩, hS.F ht9_⟩) hS.2.2 dX10_copy_15
  · refine lv_if_eq (tgt := 14) hx hb dX10_copy_4 (by decide) (fun _ => ?_) (fun c30 => False.elim (by revert c30; decide))
    refine lv_iconst (v := (-1)) hx hb dX10_copy_14 (by decide) ?_
    have hP9 := (hP.sub (ws' := [(h1, .inr (6, [.int (nI k), .ref a_maps, .int told, v_kinds, v_land, v_spades, .ref a_part, .ref a_pad, .int (nI pm), .ref a_slips, .int sm0, .int md0, v_queue, v_depth, v_by, v_from, v_come, v_offOf, v_parent, v_best, v_trees, v_least, v_sums, v_toward, v_kept, v_isKept, v_keptAt, v_isWriting])), (a_maps, .inl (gI G, 6, .inl fm)), (a_part, .inl (gI G, 6, .inl fp)), (a_pad, .inl (gI G, 40, .inl fd)), (a_slips, .inl (gI G, 10, .inl fs))]) [0, 1, 2, 3, 4] rfl)
    have hD9 := (hD.sub (ws' := [(h1, .inr (6, [.int (nI k), .ref a_maps, .int told, v_kinds, v_land, v_spades, .ref a_part, .ref a_pad, .int (nI pm), .ref a_slips, .int sm0, .int md0, v_queue, v_depth, v_by, v_from, v_come, v_offOf, v_parent, v_best, v_trees, v_least, v_sums, v_toward, v_kept, v_isKept, v_keptAt, v_isWriting])), (a_maps, .inl (gI G, 6, .inl fm)), (a_part, .inl (gI G, 6, .inl fp)), (a_pad, .inl (gI G, 40, .inl fd)), (a_slips, .inl (gI G, 10, .inl fs))]) [0, 1, 2, 3, 4] (by decide) rfl)
    exact W.iret (v := (-1)) hx hb hr (fun t9_ ht9_ hW9_ => ⟨⟨(-1), (told, pm, sm0, md0, fm, fs), rfl, ⟨hpm, hfm, MO_n (cpA_1 (fun q9 => b3 q9.1)) rfl⟩, by rw [ht9_]; exact hP9, hD9⟩, hS.F ht9_⟩) hS.2.2 dX10_copy_15

set_option maxHeartbeats 1000000 in
set_option maxRecDepth 100000 in
theorem m2_otherThan (l : Launch) (G : Gy) (sz : Nat) (h1 : Nat) (v_maps : Value) (v_told : Value) (v_kinds : Value) (v_land : Value) (v_spades : Value) (v_pad : Value) (v_padMany : Value) (v_slips : Value) (v_slipMany : Value) (v_made : Value) (v_queue : Value) (v_depth : Value) (v_by : Value) (v_from : Value) (v_come : Value) (v_offOf : Value) (v_parent : Value) (v_best : Value) (v_trees : Value) (v_least : Value) (v_sums : Value) (v_toward : Value) (v_kept : Value) (v_isKept : Value) (v_keptAt : Value) (v_isWriting : Value) (a_part : Nat) (fp : Nat → Int32) (k : Nat) (a : Nat) (a2 : Nat) (hk2 : 2 ≤ k) (hk6 : k ≤ 6) (hp : pOK k fp) (ha : a < 5 ^ k) (ha2 : a2 < 5 ^ k) : Ci l G yX10_otherThan wsX10_otherThan ({ frames := 1, cells := 0, slots := 0, locals := 22 }) [.ref h1, .int (nI a), .int (nI a2)] ([(h1, .inr (6, [.int (nI k), v_maps, v_told, v_kinds, v_land, v_spades, .ref a_part, v_pad, v_padMany, v_slips, v_slipMany, v_made, v_queue, v_depth, v_by, v_from, v_come, v_offOf, v_parent, v_best, v_trees, v_least, v_sums, v_toward, v_kept, v_isKept, v_keptAt, v_isWriting])), (a_part, .inl (gI G, 6, .inl fp))]) sz (fun (r : Int32) (_ : Unit) => r = nI (unl k a a2 k)) (fun (_ : Unit) => [(h1, .inr (6, [.int (nI k), v_maps, v_told, v_kinds, v_land, v_spades, .ref a_part, v_pad, v_padMany, v_slips, v_slipMany, v_made, v_queue, v_depth, v_by, v_from, v_come, v_offOf, v_parent, v_best, v_trees, v_least, v_sums, v_toward, v_kept, v_isKept, v_keptAt, v_isWriting])), (a_part, .inl (gI G, 6, .inl fp))]) 0 0 := by
  refine Met.ofW (cc := cX10_otherThan) (maxL := 5) (ret := (some .int)) (by decide) rfl ?_
  intro p e s m args below meth c s₁ B hml hv
  obtain ⟨rfl, hsz, hP, hD0, E0⟩ := hv
  have hx := B.exec
  have hb := B.bytes
  have hr := B.returns
  have hts := atoms_spec (ws := wsX10_otherThan) B.pre
  have hown : s.vm.findClass RX10 = some m.cls := findClass_of_methodNamed B.named
  have hlocks := B.notSynchronized
  subst hsz
  have hD := hD0.self (sz := s.heap.size)
  generalize hAe : va_A ([(h1, .inr (6, [.int (nI k), v_maps, v_told, v_kinds, v_land, v_spades, .ref a_part, v_pad, v_padMany, v_slips, v_slipMany, v_made, v_queue, v_depth, v_by, v_from, v_come, v_offOf, v_parent, v_best, v_trees, v_least, v_sums, v_toward, v_kept, v_isKept, v_keptAt, v_isWriting])), (a_part, .inl (gI G, 6, .inl fp))]) s.heap.size = A at hD E0 ⊢
  have E : EV G A s s.heap := E0
  have hA : ∀ q : Nat, s.heap.size ≤ q → A q := fun q h => by rw [← hAe]; exact Or.inr h
  have hS : va_S A s.heap s.heap [] := va_S.rf
  have hl := lv_entry ([.ref h1, .int (nI a), .int (nI a2)]) (n := 5) (Nat.le_of_ble_eq_true rfl)
  rw [lg_entry_eq]
  generalize (lg_sl ([.ref h1, .int (nI a), .int (nI a2)]) ++ List.replicate (5 - (lg_sl ([.ref h1, .int (nI a), .int (nI a2)])).length) Slot.unset).toArray = ls at hl ⊢
  have hl : lv_has ls 5 [(0, .ref h1), (1, .int (nI a)), (2, .int (nI a2))] := hl
  have hP : va_P G.1 vwCl ([(h1, .inr (6, [.int (nI k), v_maps, v_told, v_kinds, v_land, v_spades, .ref a_part, v_pad, v_padMany, v_slips, v_slipMany, v_made, v_queue, v_depth, v_by, v_from, v_come, v_offOf, v_parent, v_best, v_trees, v_least, v_sums, v_toward, v_kept, v_isKept, v_keptAt, v_isWriting])), (a_part, .inl (gI G, 6, .inl fp))]) s.heap := hP
  have hal := p5le hk6
  refine lv_iconst (v := 0) hx hb dX10_otherThan_0 (by decide) ?_
  refine lv_istore_n (lv' := [(3, .int 0), (0, .ref h1), (1, .int (nI a)), (2, .int (nI a2))]) hx hb dX10_otherThan_1 rfl hl (by decide) rfl (fun ls hl => ?_)
  refine lv_iconst (v := 0) hx hb dX10_otherThan_2 (by decide) ?_
  refine lv_istore (lv' := [(4, .int 0), (3, .int 0), (0, .ref h1), (1, .int (nI a)), (2, .int (nI a2))]) hx hb dX10_otherThan_3 hl (by decide) rfl (fun ls hl => ?_)
  refine lp_run (x0 := (0, 0)) (fun xx_ : Nat × Nat => match xx_ with | (x, u) => [(h1, .inr (6, [.int (nI k), v_maps, v_told, v_kinds, v_land, v_spades, .ref a_part, v_pad, v_padMany, v_slips, v_slipMany, v_made, v_queue, v_depth, v_by, v_from, v_come, v_offOf, v_parent, v_best, v_trees, v_least, v_sums, v_toward, v_kept, v_isKept, v_keptAt, v_isWriting])), (a_part, .inl (gI G, 6, .inl fp))]) (fun xx_ : Nat × Nat => match xx_ with | (x, u) => [(4, .int (nI x)), (3, .int (nI u)), (0, .ref h1), (1, .int (nI a)), (2, .int (nI a2))]) (fun xx_ : Nat × Nat => match xx_ with | (x, u) => (x ≤ k) ∧ (u = unl k a a2 x) ∧ (u ≤ x)) (fun xx_ : Nat × Nat => match xx_ with | (x, u) => k - x) (hP.sub [0, 1] rfl) (hD.sub [0, 1] (by decide) rfl) hS (lv_sub hl [0, 1, 2, 3, 4] rfl) ⟨(by omega), rfl, by omega⟩ ?_
  intro xx_ hI ih5 H locs ls hP hD hS hl
  obtain ⟨x, u⟩ := xx_
  dsimp only at hI ih5 hP hD hl
  obtain ⟨hx0, hu, hu9⟩ := hI
  have hl : lv_has ls 5 [(4, .int (nI x)), (3, .int (nI u)), (0, .ref h1), (1, .int (nI a)), (2, .int (nI a2))] := hl
  have hP : va_P G.1 vwCl ([(h1, .inr (6, [.int (nI k), v_maps, v_told, v_kinds, v_land, v_spades, .ref a_part, v_pad, v_padMany, v_slips, v_slipMany, v_made, v_queue, v_depth, v_by, v_from, v_come, v_offOf, v_parent, v_best, v_trees, v_least, v_sums, v_toward, v_kept, v_isKept, v_keptAt, v_isWriting])), (a_part, .inl (gI G, 6, .inl fp))]) H := hP
  have hD : va_D A ([(h1, .inr (6, [.int (nI k), v_maps, v_told, v_kinds, v_land, v_spades, .ref a_part, v_pad, v_padMany, v_slips, v_slipMany, v_made, v_queue, v_depth, v_by, v_from, v_come, v_offOf, v_parent, v_best, v_trees, v_least, v_sums, v_toward, v_kept, v_isKept, v_keptAt, v_isWriting])), (a_part, .inl (gI G, 6, .inl fp))]) := hD
  refine lv_iload hx hb dX10_otherThan_5 (lv_at hl 0 rfl) ?_
  refine lv_aload_n hx hb dX10_otherThan_7 rfl (lv_at hl 2 rfl) ?_
  refine va_get (D := G.1) (ci := 6) (v := .int (nI k)) (C := RX10) (T := TX10) (N := 28) hx hb hts (fun _ h => List.mem_cons_of_mem _ (List.mem_append_right _ h)) hown E.K hP 0 rfl rfl 0 (by decide) (hts (.fieldLink RX10 67 "LastMapModel" "sites" "I") (by decide +kernel)) (fun _ h9 => h9) rfl dX10_otherThan_8 ?_
  refine lv_icmp_ge (tgt := 45) hx hb dX10_otherThan_11 (by decide) (fun c1 => ?_) (fun c1 => ?_)
  · have c1 : k ≤ x := (nI_leI (a := k) (b := x) (by omega) (by omega)).mp c1
    refine lv_iload_n hx hb dX10_otherThan_45 rfl (lv_at hl 1 rfl) ?_
    have hP9 := (hP.sub (ws' := [(h1, .inr (6, [.int (nI k), v_maps, v_told, v_kinds, v_land, v_spades, .ref a_part, v_pad, v_padMany, v_slips, v_slipMany, v_made, v_queue, v_depth, v_by, v_from, v_come, v_offOf, v_parent, v_best, v_trees, v_least, v_sums, v_toward, v_kept, v_isKept, v_keptAt, v_isWriting])), (a_part, .inl (gI G, 6, .inl fp))]) [0, 1] rfl)
    have hD9 := (hD.sub (ws' := [(h1, .inr (6, [.int (nI k), v_maps, v_told, v_kinds, v_land, v_spades, .ref a_part, v_pad, v_padMany, v_slips, v_slipMany, v_made, v_queue, v_depth, v_by, v_from, v_come, v_offOf, v_parent, v_best, v_trees, v_least, v_sums, v_toward, v_kept, v_isKept, v_keptAt, v_isWriting])), (a_part, .inl (gI G, 6, .inl fp))]) [0, 1] (by decide) rfl)
    exact W.iret (v := (nI u)) hx hb hr (fun t9_ ht9_ hW9_ => ⟨⟨nI u, (), rfl, by rw [hu, show x = k by omega], by rw [ht9_]; exact hP9, hD9⟩, hS.F ht9_⟩) hS.2.2 dX10_otherThan_46
  · have c1 : ¬ k ≤ x := fun h9_ => c1 ((nI_leI (a := k) (b := x) (by omega) (by omega)).mpr h9_)
    refine lv_iload_n hx hb dX10_otherThan_14 rfl (lv_at hl 1 rfl) ?_
    refine lv_aload_n hx hb dX10_otherThan_15 rfl (lv_at hl 2 rfl) ?_
    refine lv_iload_n hx hb dX10_otherThan_16 rfl (lv_at hl 3 rfl) ?_
    refine lv_iload hx hb dX10_otherThan_17 (lv_at hl 0 rfl) ?_
    refine ca_iR (va_runV (As := [.int (nI a), .int (nI x)]) (rest := [.int (nI u)]) ⟨hx, hb, hml, hown, hts⟩ (m_signAt l G H.size h1 (.int (nI k)) v_maps v_told v_kinds v_land v_spades v_pad v_padMany v_slips v_slipMany v_made v_queue v_depth v_by v_from v_come v_offOf v_parent v_best v_trees v_least v_sums v_toward v_kept v_isKept v_keptAt v_isWriting a_part fp k a x hk6 hp (by omega) (by omega)) (cwV 2 hts gX10_otherThan_X10_signAt rfl rfl rfl (by decide +kernel) ⟨by decide +kernel, by decide +kernel⟩) (pre_V E hP hD hS hA [0, 1] (by decide) rfl 0 6 rfl rfl) rfl rfl hl.1 rfl (lv_room (Nat.le_of_ble_eq_true rfl)) dX10_otherThan_19 ⟨by decide +kernel, by decide +kernel⟩) hS hP hD hA [0, 1] rfl (fun r3 _ H locs w2 hP hS => ?_)
    rw [w2]
    have hdg8 : (dg k a x) < 5 := dg_lt _ _ _
    refine lv_aload_n hx hb dX10_otherThan_22 rfl (lv_at hl 2 rfl) ?_
    refine lv_iload_n hx hb dX10_otherThan_23 rfl (lv_at hl 4 rfl) ?_
    refine lv_iload hx hb dX10_otherThan_24 (lv_at hl 0 rfl) ?_
    refine ca_iR (va_runV (As := [.int (nI a2), .int (nI x)]) (rest := [.int (nI (dg k a x)), .int (nI u)]) ⟨hx, hb, hml, hown, hts⟩ (m_signAt l G H.size h1 (.int (nI k)) v_maps v_told v_kinds v_land v_spades v_pad v_padMany v_slips v_slipMany v_made v_queue v_depth v_by v_from v_come v_offOf v_parent v_best v_trees v_least v_sums v_toward v_kept v_isKept v_keptAt v_isWriting a_part fp k a2 x hk6 hp (by omega) (by omega)) (cwV 2 hts gX10_otherThan_X10_signAt rfl rfl rfl (by decide +kernel) ⟨by decide +kernel, by decide +kernel⟩) (pre_V E hP hD hS hA [0, 1] (by decide) rfl 0 6 rfl rfl) rfl rfl hl.1 rfl (lv_room (Nat.le_of_ble_eq_true rfl)) dX10_otherThan_26 ⟨by decide +kernel, by decide +kernel⟩) hS hP hD hA [0, 1] rfl (fun r5 _ H locs w4 hP hS => ?_)
    rw [w4]
    have hdg9 : (dg k a2 x) < 5 := dg_lt _ _ _
    refine lv_icmp_ne (tgt := 36) hx hb dX10_otherThan_29 (by decide) (fun c6 => ?_) (fun c6 => ?_)
    · have c6 : ¬ (dg k a x) = (dg k a2 x) := fun h9_ => c6 ((nI_eq (a := (dg k a x)) (b := (dg k a2 x)) (by omega) (by omega)).mpr h9_)
      refine lv_iconst (v := 1) hx hb dX10_otherThan_36 (by decide) ?_
      refine lv_iadd hx hb dX10_otherThan_37 ?_
      refine lv_topi (fun x7 ex7 => ?_)
      obtain rfl : x7 = nI (u + 1) := by rw [ex7]; exact nI_add u 1
      refine lv_istore_n (lv' := [(3, .int (nI (u + 1))), (4, .int (nI x)), (0, .ref h1), (1, .int (nI a)), (2, .int (nI a2))]) hx hb dX10_otherThan_38 rfl hl (by decide) rfl (fun ls hl => ?_)
      obtain ⟨x8, ex8⟩ : ∃ yy_ : Int32, yy_ = (nI x) + 1 := ⟨_, rfl⟩
      refine lv_iinc (v := x8) (lv' := [(4, .int x8), (3, .int (nI (u + 1))), (0, .ref h1), (1, .int (nI a)), (2, .int (nI a2))]) hx hb dX10_otherThan_39 hl (k := 1) rfl (by rw [ex8]; rfl) (by decide) rfl (fun ls hl => ?_)
      obtain rfl : x8 = nI (x + 1) := by rw [ex8]; exact nI_add x 1
      refine lv_goto (tgt := 5) hx hb dX10_otherThan_42 (by decide) ?_
      refine ih5 ((x + 1), (u + 1)) ⟨?_, ?_, ?_⟩ (by first | omega | (dsimp only; omega)) H locs ls (hP.sub [0, 1] rfl) (hD.sub [0, 1] (by decide) rfl) hS (lv_sub hl [0, 1, 2, 3, 4] rfl)
      · try dsimp only
        omega
      · try dsimp only
        rw [unl_f c6]; omega
      · try dsimp only
        omega
    · have c6 : (dg k a x) = (dg k a2 x) := (nI_eq (a := (dg k a x)) (b := (dg k a2 x)) (by omega) (by omega)).mp c6
      refine lv_iconst (v := 0) hx hb dX10_otherThan_32 (by decide) ?_
      refine lv_goto (tgt := 37) hx hb dX10_otherThan_33 (by decide) ?_
      refine lv_iadd hx hb dX10_otherThan_37 ?_
      refine lv_topi (fun x9 ex9 => ?_)
      obtain rfl : x9 = nI (u + 0) := by rw [ex9]; exact nI_add u 0
      refine lv_istore_n (lv' := [(3, .int (nI (u + 0))), (4, .int (nI x)), (0, .ref h1), (1, .int (nI a)), (2, .int (nI a2))]) hx hb dX10_otherThan_38 rfl hl (by decide) rfl (fun ls hl => ?_)
      obtain ⟨x10, ex10⟩ : ∃ yy_ : Int32, yy_ = (nI x) + 1 := ⟨_, rfl⟩
      refine lv_iinc (v := x10) (lv' := [(4, .int x10), (3, .int (nI (u + 0))), (0, .ref h1), (1, .int (nI a)), (2, .int (nI a2))]) hx hb dX10_otherThan_39 hl (k := 1) rfl (by rw [ex10]; rfl) (by decide) rfl (fun ls hl => ?_)
      obtain rfl : x10 = nI (x + 1) := by rw [ex10]; exact nI_add x 1
      refine lv_goto (tgt := 5) hx hb dX10_otherThan_42 (by decide) ?_
      refine ih5 ((x + 1), (u + 0)) ⟨?_, ?_, ?_⟩ (by first | omega | (dsimp only; omega)) H locs ls (hP.sub [0, 1] rfl) (hD.sub [0, 1] (by decide) rfl) hS (lv_sub hl [0, 1, 2, 3, 4] rfl)
      · try dsimp only
        omega
      · try dsimp only
        rw [unl_t c6]; omega
      · try dsimp only
        omega

set_option maxHeartbeats 1000000 in
set_option maxRecDepth 100000 in
theorem m2_land (l : Launch) (G : Gy) (sz : Nat) (h1 : Nat) (v_maps : Value) (v_told : Value) (v_kinds : Value) (v_spades : Value) (v_pad : Value) (v_padMany : Value) (v_slips : Value) (v_slipMany : Value) (v_made : Value) (v_queue : Value) (v_depth : Value) (v_by : Value) (v_from : Value) (v_come : Value) (v_offOf : Value) (v_parent : Value) (v_best : Value) (v_trees : Value) (v_least : Value) (v_sums : Value) (v_toward : Value) (v_kept : Value) (v_isKept : Value) (v_keptAt : Value) (v_isWriting : Value) (a_part : Nat) (fp : Nat → Int32) (k : Nat) (la : Nat) (p0 : Int32) (hk2 : 2 ≤ k) (hk6 : k ≤ 6) (hp : pOK k fp) (hla : la < 5 ^ k) : Ci l G yX10_land wsX10_land ({ frames := 2, cells := 0, slots := 0, locals := 46 }) [.ref h1, .int p0] ([(h1, .inr (6, [.int (nI k), v_maps, v_told, v_kinds, .int (nI la), v_spades, .ref a_part, v_pad, v_padMany, v_slips, v_slipMany, v_made, v_queue, v_depth, v_by, v_from, v_come, v_offOf, v_parent, v_best, v_trees, v_least, v_sums, v_toward, v_kept, v_isKept, v_keptAt, v_isWriting])), (a_part, .inl (gI G, 6, .inl fp))]) sz (fun (r : Int32) (_ : Unit) => r = ldA k la p0) (fun (_ : Unit) => [(h1, .inr (6, [.int (nI k), v_maps, v_told, v_kinds, .int (nI la), v_spades, .ref a_part, v_pad, v_padMany, v_slips, v_slipMany, v_made, v_queue, v_depth, v_by, v_from, v_come, v_offOf, v_parent, v_best, v_trees, v_least, v_sums, v_toward, v_kept, v_isKept, v_keptAt, v_isWriting])), (a_part, .inl (gI G, 6, .inl fp))]) 0 0 := by
  refine Met.ofW (cc := cX10_land) (maxL := 2) (ret := (some .int)) (by decide) rfl ?_
  intro p e s m args below meth c s₁ B hml hv
  obtain ⟨rfl, hsz, hP, hD0, E0⟩ := hv
  have hx := B.exec
  have hb := B.bytes
  have hr := B.returns
  have hts := atoms_spec (ws := wsX10_land) B.pre
  have hown : s.vm.findClass RX10 = some m.cls := findClass_of_methodNamed B.named
  have hlocks := B.notSynchronized
  subst hsz
  have hD := hD0.self (sz := s.heap.size)
  generalize hAe : va_A ([(h1, .inr (6, [.int (nI k), v_maps, v_told, v_kinds, .int (nI la), v_spades, .ref a_part, v_pad, v_padMany, v_slips, v_slipMany, v_made, v_queue, v_depth, v_by, v_from, v_come, v_offOf, v_parent, v_best, v_trees, v_least, v_sums, v_toward, v_kept, v_isKept, v_keptAt, v_isWriting])), (a_part, .inl (gI G, 6, .inl fp))]) s.heap.size = A at hD E0 ⊢
  have E : EV G A s s.heap := E0
  have hA : ∀ q : Nat, s.heap.size ≤ q → A q := fun q h => by rw [← hAe]; exact Or.inr h
  have hS : va_S A s.heap s.heap [] := va_S.rf
  have hl := lv_entry ([.ref h1, .int p0]) (n := 2) (Nat.le_of_ble_eq_true rfl)
  rw [lg_entry_eq]
  generalize (lg_sl ([.ref h1, .int p0]) ++ List.replicate (2 - (lg_sl ([.ref h1, .int p0])).length) Slot.unset).toArray = ls at hl ⊢
  have hl : lv_has ls 2 [(0, .ref h1), (1, .int p0)] := hl
  have hP : va_P G.1 vwCl ([(h1, .inr (6, [.int (nI k), v_maps, v_told, v_kinds, .int (nI la), v_spades, .ref a_part, v_pad, v_padMany, v_slips, v_slipMany, v_made, v_queue, v_depth, v_by, v_from, v_come, v_offOf, v_parent, v_best, v_trees, v_least, v_sums, v_toward, v_kept, v_isKept, v_keptAt, v_isWriting])), (a_part, .inl (gI G, 6, .inl fp))]) s.heap := hP
  have hal := p5le hk6
  refine lv_aload_n hx hb dX10_land_0 rfl (lv_at hl 0 rfl) ?_
  refine lv_iload_n hx hb dX10_land_1 rfl (lv_at hl 1 rfl) ?_
  refine ca_iR (va_runV (As := [.int p0]) (rest := []) ⟨hx, hb, hml, hown, hts⟩ (m_isSite l G s.heap.size h1 v_maps v_told v_kinds (.int (nI la)) v_spades (.ref a_part) v_pad v_padMany v_slips v_slipMany v_made v_queue v_depth v_by v_from v_come v_offOf v_parent v_best v_trees v_least v_sums v_toward v_kept v_isKept v_keptAt v_isWriting k p0 hk2 hk6) (cwV 1 hts gX10_land_X10_isSite rfl rfl rfl (by decide +kernel) ⟨by decide +kernel, by decide +kernel⟩) (pre_V E hP hD hS hA [0] (by decide) rfl 0 6 rfl rfl) rfl rfl hl.1 rfl (lv_room (Nat.le_of_ble_eq_true rfl)) dX10_land_2 ⟨by decide +kernel, by decide +kernel⟩) hS hP hD hA [0] rfl (fun r2 _ H locs w1 hP hS => ?_)
  rcases w1 with ⟨rfl, b3⟩ | ⟨rfl, b3⟩
  · refine lv_if_eq (tgt := 23) hx hb dX10_land_5 (by decide) (fun c4 => False.elim (by revert c4; decide)) (fun _ => ?_)
    obtain ⟨j_p0, hj_p0, ej_p0⟩ := b3
    have hl : lv_has ls 2 [(0, .ref h1), (1, .int (nI j_p0))] := by have q := hl; rw [ej_p0] at q; exact q
    refine lv_aload_n hx hb dX10_land_8 rfl (lv_at hl 0 rfl) ?_
    refine lv_aload_n hx hb dX10_land_9 rfl (lv_at hl 0 rfl) ?_
    refine va_get (D := G.1) (ci := 6) (v := .int (nI la)) (C := RX10) (T := TX10) (N := 28) hx hb hts (fun _ h => List.mem_cons_of_mem _ (List.mem_append_right _ h)) hown E.K hP 0 rfl rfl 4 (by decide) (hts (.fieldLink RX10 73 "LastMapModel" "land" "I") (by decide +kernel)) (fun _ h9 => h9) rfl dX10_land_10 ?_
    refine lv_iload_n hx hb dX10_land_13 rfl (lv_at hl 1 rfl) ?_
    refine ca_iR (va_runV (As := [.int (nI la), .int (nI j_p0)]) (rest := []) ⟨hx, hb, hml, hown, hts⟩ (m_signAt l G H.size h1 (.int (nI k)) v_maps v_told v_kinds (.int (nI la)) v_spades v_pad v_padMany v_slips v_slipMany v_made v_queue v_depth v_by v_from v_come v_offOf v_parent v_best v_trees v_least v_sums v_toward v_kept v_isKept v_keptAt v_isWriting a_part fp k la j_p0 hk6 hp (by omega) (by omega)) (cwV 2 hts gX10_land_X10_signAt rfl rfl rfl (by decide +kernel) ⟨by decide +kernel, by decide +kernel⟩) (pre_V E hP hD hS hA [0, 1] (by decide) rfl 0 6 rfl rfl) rfl rfl hl.1 rfl (lv_room (Nat.le_of_ble_eq_true rfl)) dX10_land_14 ⟨by decide +kernel, by decide +kernel⟩) hS hP hD hA [0, 1] rfl (fun r6 _ H locs w5 hP hS => ?_)
    rw [w5]
    refine ca_iR (va_runS (As := [.int (nI (dg k la j_p0))]) (rest := []) ⟨hx, hb, hml, hown, hts⟩ (m_codeOf l G H.size (nI (dg k la j_p0))) (va_cwS 1 hts gX10_land_X10_codeOf rfl rfl rfl (by decide +kernel) ⟨by decide +kernel, by decide +kernel⟩) (pre_S E hP hD hS hA [] (by decide) rfl) rfl rfl hl.1 rfl (lv_room (Nat.le_of_ble_eq_true rfl)) dX10_land_17 ⟨by decide +kernel, by decide +kernel⟩) hS hP hD hA [] rfl (fun r8 _ H locs w7 hP hS => ?_)
    refine lv_goto (tgt := 24) hx hb dX10_land_20 (by decide) ?_
    have hP9 := (hP.sub (ws' := [(h1, .inr (6, [.int (nI k), v_maps, v_told, v_kinds, .int (nI la), v_spades, .ref a_part, v_pad, v_padMany, v_slips, v_slipMany, v_made, v_queue, v_depth, v_by, v_from, v_come, v_offOf, v_parent, v_best, v_trees, v_least, v_sums, v_toward, v_kept, v_isKept, v_keptAt, v_isWriting])), (a_part, .inl (gI G, 6, .inl fp))]) [0, 1] rfl)
    have hD9 := (hD.sub (ws' := [(h1, .inr (6, [.int (nI k), v_maps, v_told, v_kinds, .int (nI la), v_spades, .ref a_part, v_pad, v_padMany, v_slips, v_slipMany, v_made, v_queue, v_depth, v_by, v_from, v_come, v_offOf, v_parent, v_best, v_trees, v_least, v_sums, v_toward, v_kept, v_isKept, v_keptAt, v_isWriting])), (a_part, .inl (gI G, 6, .inl fp))]) [0, 1] (by decide) rfl)
    exact W.iret (v := r8) hx hb hr (fun t9_ ht9_ hW9_ => ⟨⟨r8, (), rfl, by rw [w7]; exact ldA_2 hk6 hj_p0 ej_p0, by rw [ht9_]; exact hP9, hD9⟩, hS.F ht9_⟩) hS.2.2 dX10_land_24
  · refine lv_if_eq (tgt := 23) hx hb dX10_land_5 (by decide) (fun _ => ?_) (fun c9 => False.elim (by revert c9; decide))
    refine lv_iconst (v := (-1)) hx hb dX10_land_23 (by decide) ?_
    have hP9 := (hP.sub (ws' := [(h1, .inr (6, [.int (nI k), v_maps, v_told, v_kinds, .int (nI la), v_spades, .ref a_part, v_pad, v_padMany, v_slips, v_slipMany, v_made, v_queue, v_depth, v_by, v_from, v_come, v_offOf, v_parent, v_best, v_trees, v_least, v_sums, v_toward, v_kept, v_isKept, v_keptAt, v_isWriting])), (a_part, .inl (gI G, 6, .inl fp))]) [0, 1] rfl)
    have hD9 := (hD.sub (ws' := [(h1, .inr (6, [.int (nI k), v_maps, v_told, v_kinds, .int (nI la), v_spades, .ref a_part, v_pad, v_padMany, v_slips, v_slipMany, v_made, v_queue, v_depth, v_by, v_from, v_come, v_offOf, v_parent, v_best, v_trees, v_least, v_sums, v_toward, v_kept, v_isKept, v_keptAt, v_isWriting])), (a_part, .inl (gI G, 6, .inl fp))]) [0, 1] (by decide) rfl)
    exact W.iret (v := (-1)) hx hb hr (fun t9_ ht9_ hW9_ => ⟨⟨(-1), (), rfl, ldA_1 b3, by rw [ht9_]; exact hP9, hD9⟩, hS.F ht9_⟩) hS.2.2 dX10_land_24

set_option maxHeartbeats 1000000 in
set_option maxRecDepth 100000 in
theorem m2_years (l : Launch) (G : Gy) (sz : Nat) (h1 : Nat) (v_kinds : Value) (v_pad : Value) (v_padMany : Value) (v_slips : Value) (v_slipMany : Value) (v_made : Value) (v_queue : Value) (v_depth : Value) (v_by : Value) (v_from : Value) (v_come : Value) (v_offOf : Value) (v_parent : Value) (v_best : Value) (v_trees : Value) (v_least : Value) (v_sums : Value) (v_toward : Value) (v_kept : Value) (v_isKept : Value) (v_keptAt : Value) (v_isWriting : Value) (a_maps : Nat) (fm : Nat → Int32) (a_part : Nat) (fp : Nat → Int32) (k : Nat) (la : Nat) (told : Int32) (sp : Int32) (p0 : Int32) (hk2 : 2 ≤ k) (hk6 : k ≤ 6) (hp : pOK k fp) (hfm : mapsOK k fm) (hla : la < 5 ^ k) (hsp : inR sp 1 6) : Ci l G yX10_years wsX10_years ({ frames := 2, cells := 0, slots := 0, locals := 46 }) [.ref h1, .int p0] ([(h1, .inr (6, [.int (nI k), .ref a_maps, .int told, v_kinds, .int (nI la), .int sp, .ref a_part, v_pad, v_padMany, v_slips, v_slipMany, v_made, v_queue, v_depth, v_by, v_from, v_come, v_offOf, v_parent, v_best, v_trees, v_least, v_sums, v_toward, v_kept, v_isKept, v_keptAt, v_isWriting])), (a_maps, .inl (gI G, 6, .inl fm)), (a_part, .inl (gI G, 6, .inl fp))]) sz (fun (r : Int32) (_ : Unit) => r = yrA k la told sp (maN fm) p0) (fun (_ : Unit) => [(h1, .inr (6, [.int (nI k), .ref a_maps, .int told, v_kinds, .int (nI la), .int sp, .ref a_part, v_pad, v_padMany, v_slips, v_slipMany, v_made, v_queue, v_depth, v_by, v_from, v_come, v_offOf, v_parent, v_best, v_trees, v_least, v_sums, v_toward, v_kept, v_isKept, v_keptAt, v_isWriting])), (a_maps, .inl (gI G, 6, .inl fm)), (a_part, .inl (gI G, 6, .inl fp))]) 0 0 := by
  refine Met.ofW (cc := cX10_years) (maxL := 2) (ret := (some .int)) (by decide) rfl ?_
  intro p e s m args below meth c s₁ B hml hv
  obtain ⟨rfl, hsz, hP, hD0, E0⟩ := hv
  have hx := B.exec
  have hb := B.bytes
  have hr := B.returns
  have hts := atoms_spec (ws := wsX10_years) B.pre
  have hown : s.vm.findClass RX10 = some m.cls := findClass_of_methodNamed B.named
  have hlocks := B.notSynchronized
  subst hsz
  have hD := hD0.self (sz := s.heap.size)
  generalize hAe : va_A ([(h1, .inr (6, [.int (nI k), .ref a_maps, .int told, v_kinds, .int (nI la), .int sp, .ref a_part, v_pad, v_padMany, v_slips, v_slipMany, v_made, v_queue, v_depth, v_by, v_from, v_come, v_offOf, v_parent, v_best, v_trees, v_least, v_sums, v_toward, v_kept, v_isKept, v_keptAt, v_isWriting])), (a_maps, .inl (gI G, 6, .inl fm)), (a_part, .inl (gI G, 6, .inl fp))]) s.heap.size = A at hD E0 ⊢
  have E : EV G A s s.heap := E0
  have hA : ∀ q : Nat, s.heap.size ≤ q → A q := fun q h => by rw [← hAe]; exact Or.inr h
  have hS : va_S A s.heap s.heap [] := va_S.rf
  have hl := lv_entry ([.ref h1, .int p0]) (n := 2) (Nat.le_of_ble_eq_true rfl)
  rw [lg_entry_eq]
  generalize (lg_sl ([.ref h1, .int p0]) ++ List.replicate (2 - (lg_sl ([.ref h1, .int p0])).length) Slot.unset).toArray = ls at hl ⊢
  have hl : lv_has ls 2 [(0, .ref h1), (1, .int p0)] := hl
  have hP : va_P G.1 vwCl ([(h1, .inr (6, [.int (nI k), .ref a_maps, .int told, v_kinds, .int (nI la), .int sp, .ref a_part, v_pad, v_padMany, v_slips, v_slipMany, v_made, v_queue, v_depth, v_by, v_from, v_come, v_offOf, v_parent, v_best, v_trees, v_least, v_sums, v_toward, v_kept, v_isKept, v_keptAt, v_isWriting])), (a_maps, .inl (gI G, 6, .inl fm)), (a_part, .inl (gI G, 6, .inl fp))]) s.heap := hP
  have hal := p5le hk6
  refine lv_iload_n hx hb dX10_years_0 rfl (lv_at hl 1 rfl) ?_
  refine ca_iR (va_runS (As := [.int p0]) (rest := []) ⟨hx, hb, hml, hown, hts⟩ (m_isMap l G s.heap.size p0) (va_cwS 1 hts gX10_years_X10_isMap rfl rfl rfl (by decide +kernel) ⟨by decide +kernel, by decide +kernel⟩) (pre_S E hP hD hS hA [] (by decide) rfl) rfl rfl hl.1 rfl (lv_room (Nat.le_of_ble_eq_true rfl)) dX10_years_1 ⟨by decide +kernel, by decide +kernel⟩) hS hP hD hA [] rfl (fun r2 _ H locs w1 hP hS => ?_)
  rcases w1 with ⟨rfl, b3⟩ | ⟨rfl, b3⟩
  · refine lv_if_ne (tgt := 9) hx hb dX10_years_4 (by decide) (fun _ => ?_) (fun c4 => False.elim (by revert c4; decide))
    obtain ⟨j_p0, hj_p0, ej_p0⟩ := inR6 b3
    have hl : lv_has ls 2 [(0, .ref h1), (1, .int (nI j_p0))] := by have q := hl; rw [ej_p0] at q; exact q
    refine lv_aload_n hx hb dX10_years_9 rfl (lv_at hl 0 rfl) ?_
    refine lv_iload_n hx hb dX10_years_10 rfl (lv_at hl 1 rfl) ?_
    refine ca_iR (va_runV (As := [.int (nI j_p0)]) (rest := []) ⟨hx, hb, hml, hown, hts⟩ (m_isTold l G H.size h1 (.int (nI k)) (.ref a_maps) v_kinds (.int (nI la)) (.int sp) (.ref a_part) v_pad v_padMany v_slips v_slipMany v_made v_queue v_depth v_by v_from v_come v_offOf v_parent v_best v_trees v_least v_sums v_toward v_kept v_isKept v_keptAt v_isWriting told (nI j_p0)) (cwV 1 hts gX10_years_X10_isTold rfl rfl rfl (by decide +kernel) ⟨by decide +kernel, by decide +kernel⟩) (pre_V E hP hD hS hA [0] (by decide) rfl 0 6 rfl rfl) rfl rfl hl.1 rfl (lv_room (Nat.le_of_ble_eq_true rfl)) dX10_years_11 ⟨by decide +kernel, by decide +kernel⟩) hS hP hD hA [0] rfl (fun r6 _ H locs w5 hP hS => ?_)
    rcases w5 with ⟨rfl, b7⟩ | ⟨rfl, b7⟩
    · refine lv_if_eq (tgt := 46) hx hb dX10_years_14 (by decide) (fun c8 => False.elim (by revert c8; decide)) (fun _ => ?_)
      refine lv_aload_n hx hb dX10_years_17 rfl (lv_at hl 0 rfl) ?_
      refine lv_aload_n hx hb dX10_years_18 rfl (lv_at hl 0 rfl) ?_
      refine va_get (D := G.1) (ci := 6) (v := .int (nI la)) (C := RX10) (T := TX10) (N := 28) hx hb hts (fun _ h => List.mem_cons_of_mem _ (List.mem_append_right _ h)) hown E.K hP 0 rfl rfl 4 (by decide) (hts (.fieldLink RX10 73 "LastMapModel" "land" "I") (by decide +kernel)) (fun _ h9 => h9) rfl dX10_years_19 ?_
      refine lv_aload_n hx hb dX10_years_22 rfl (lv_at hl 0 rfl) ?_
      refine va_get (D := G.1) (ci := 6) (v := .ref a_maps) (C := RX10) (T := TX10) (N := 28) hx hb hts (fun _ h => List.mem_cons_of_mem _ (List.mem_append_right _ h)) hown E.K hP 0 rfl rfl 1 (by decide) (hts (.fieldLink RX10 7 "LastMapModel" "maps" "[I") (by decide +kernel)) (fun _ h9 => h9) rfl dX10_years_23 ?_
      refine lv_iload_n hx hb dX10_years_26 rfl (lv_at hl 1 rfl) ?_
      refine va_iald hx hb E.K hP 1 1 rfl rfl (i := nI j_p0) (vp_in_nI (by omega) (by decide)) dX10_years_27 ?_
      refine lv_topi (fun x9 ex9 => ?_)
      have hmj := maN_ok hk6 hfm hj_p0
      obtain rfl : x9 = nI (maN fm j_p0) := by rw [ex9, nI_clamp (by omega)]; exact hmj.2
      refine ca_iR (va_runV (As := [.int (nI la), .int (nI (maN fm j_p0))]) (rest := []) ⟨hx, hb, hml, hown, hts⟩ (m2_otherThan l G H.size h1 (.ref a_maps) (.int told) v_kinds (.int (nI la)) (.int sp) v_pad v_padMany v_slips v_slipMany v_made v_queue v_depth v_by v_from v_come v_offOf v_parent v_best v_trees v_least v_sums v_toward v_kept v_isKept v_keptAt v_isWriting a_part fp k la (maN fm j_p0) hk2 hk6 hp hla hmj.1) (cwV 2 hts gX10_years_X10_otherThan rfl rfl rfl (by decide +kernel) ⟨by decide +kernel, by decide +kernel⟩) (pre_V E hP hD hS hA [0, 2] (by decide) rfl 0 6 rfl rfl) rfl rfl hl.1 rfl (lv_room (Nat.le_of_ble_eq_true rfl)) dX10_years_28 ⟨by decide +kernel, by decide +kernel⟩) hS hP hD hA [0, 2] rfl (fun r11 _ H locs w10 hP hS => ?_)
      rw [w10]
      refine lv_aload_n hx hb dX10_years_31 rfl (lv_at hl 0 rfl) ?_
      refine va_get (D := G.1) (ci := 6) (v := .int sp) (C := RX10) (T := TX10) (N := 28) hx hb hts (fun _ h => List.mem_cons_of_mem _ (List.mem_append_right _ h)) hown E.K hP 0 rfl rfl 5 (by decide) (hts (.fieldLink RX10 59 "LastMapModel" "spades" "I") (by decide +kernel)) (fun _ h9 => h9) rfl dX10_years_32 ?_
      refine lv_iadd hx hb dX10_years_35 ?_
      refine lv_topi (fun x12 ex12 => ?_)
      refine lv_iconst (v := 1) hx hb dX10_years_36 (by decide) ?_
      refine lv_isub hx hb dX10_years_37 ?_
      refine lv_topi (fun x13 ex13 => ?_)
      refine lv_aload_n hx hb dX10_years_38 rfl (lv_at hl 0 rfl) ?_
      refine va_get (D := G.1) (ci := 6) (v := .int sp) (C := RX10) (T := TX10) (N := 28) hx hb hts (fun _ h => List.mem_cons_of_mem _ (List.mem_append_right _ h)) hown E.K hP 0 rfl rfl 5 (by decide) (hts (.fieldLink RX10 59 "LastMapModel" "spades" "I") (by decide +kernel)) (fun _ h9 => h9) rfl dX10_years_39 ?_
      refine lv_idiv hx hb dX10_years_42 (sp_ne hsp) ?_
      refine lv_topi (fun x14 ex14 => ?_)
      refine lv_goto (tgt := 48) hx hb dX10_years_43 (by decide) ?_
      have hP9 := (hP.sub (ws' := [(h1, .inr (6, [.int (nI k), .ref a_maps, .int told, v_kinds, .int (nI la), .int sp, .ref a_part, v_pad, v_padMany, v_slips, v_slipMany, v_made, v_queue, v_depth, v_by, v_from, v_come, v_offOf, v_parent, v_best, v_trees, v_least, v_sums, v_toward, v_kept, v_isKept, v_keptAt, v_isWriting])), (a_maps, .inl (gI G, 6, .inl fm)), (a_part, .inl (gI G, 6, .inl fp))]) [0, 1, 2] rfl)
      have hD9 := (hD.sub (ws' := [(h1, .inr (6, [.int (nI k), .ref a_maps, .int told, v_kinds, .int (nI la), .int sp, .ref a_part, v_pad, v_padMany, v_slips, v_slipMany, v_made, v_queue, v_depth, v_by, v_from, v_come, v_offOf, v_parent, v_best, v_trees, v_least, v_sums, v_toward, v_kept, v_isKept, v_keptAt, v_isWriting])), (a_maps, .inl (gI G, 6, .inl fm)), (a_part, .inl (gI G, 6, .inl fp))]) [0, 1, 2] (by decide) rfl)
      exact W.iret (v := x14) hx hb hr (fun t9_ ht9_ hW9_ => ⟨⟨x14, (), rfl, by rw [ex14, ex13, ex12]; exact yrA_3 hj_p0 ej_p0 (by rw [ej_p0]; exact b7), by rw [ht9_]; exact hP9, hD9⟩, hS.F ht9_⟩) hS.2.2 dX10_years_48
    · refine lv_if_eq (tgt := 46) hx hb dX10_years_14 (by decide) (fun _ => ?_) (fun c15 => False.elim (by revert c15; decide))
      refine lv_bipush (v := (-3)) hx hb dX10_years_46 (by decide) ?_
      have hP9 := (hP.sub (ws' := [(h1, .inr (6, [.int (nI k), .ref a_maps, .int told, v_kinds, .int (nI la), .int sp, .ref a_part, v_pad, v_padMany, v_slips, v_slipMany, v_made, v_queue, v_depth, v_by, v_from, v_come, v_offOf, v_parent, v_best, v_trees, v_least, v_sums, v_toward, v_kept, v_isKept, v_keptAt, v_isWriting])), (a_maps, .inl (gI G, 6, .inl fm)), (a_part, .inl (gI G, 6, .inl fp))]) [0, 1, 2] rfl)
      have hD9 := (hD.sub (ws' := [(h1, .inr (6, [.int (nI k), .ref a_maps, .int told, v_kinds, .int (nI la), .int sp, .ref a_part, v_pad, v_padMany, v_slips, v_slipMany, v_made, v_queue, v_depth, v_by, v_from, v_come, v_offOf, v_parent, v_best, v_trees, v_least, v_sums, v_toward, v_kept, v_isKept, v_keptAt, v_isWriting])), (a_maps, .inl (gI G, 6, .inl fm)), (a_part, .inl (gI G, 6, .inl fp))]) [0, 1, 2] (by decide) rfl)
      exact W.iret (v := (-3)) hx hb hr (fun t9_ ht9_ hW9_ => ⟨⟨(-3), (), rfl, yrA_2 b3 (fun q9 => b7 (by rw [← ej_p0]; exact q9)), by rw [ht9_]; exact hP9, hD9⟩, hS.F ht9_⟩) hS.2.2 dX10_years_48
  · refine lv_if_ne (tgt := 9) hx hb dX10_years_4 (by decide) (fun c16 => False.elim (by revert c16; decide)) (fun _ => ?_)
    refine lv_iconst (v := (-1)) hx hb dX10_years_7 (by decide) ?_
    have hP9 := (hP.sub (ws' := [(h1, .inr (6, [.int (nI k), .ref a_maps, .int told, v_kinds, .int (nI la), .int sp, .ref a_part, v_pad, v_padMany, v_slips, v_slipMany, v_made, v_queue, v_depth, v_by, v_from, v_come, v_offOf, v_parent, v_best, v_trees, v_least, v_sums, v_toward, v_kept, v_isKept, v_keptAt, v_isWriting])), (a_maps, .inl (gI G, 6, .inl fm)), (a_part, .inl (gI G, 6, .inl fp))]) [0, 1, 2] rfl)
    have hD9 := (hD.sub (ws' := [(h1, .inr (6, [.int (nI k), .ref a_maps, .int told, v_kinds, .int (nI la), .int sp, .ref a_part, v_pad, v_padMany, v_slips, v_slipMany, v_made, v_queue, v_depth, v_by, v_from, v_come, v_offOf, v_parent, v_best, v_trees, v_least, v_sums, v_toward, v_kept, v_isKept, v_keptAt, v_isWriting])), (a_maps, .inl (gI G, 6, .inl fm)), (a_part, .inl (gI G, 6, .inl fp))]) [0, 1, 2] (by decide) rfl)
    exact W.iret (v := (-1)) hx hb hr (fun t9_ ht9_ hW9_ => ⟨⟨(-1), (), rfl, yrA_1 b3, by rw [ht9_]; exact hP9, hD9⟩, hS.F ht9_⟩) hS.2.2 dX10_years_8

set_option maxHeartbeats 1000000 in
set_option maxRecDepth 100000 in
theorem m2_follow (l : Launch) (G : Gy) (sz : Nat) (h1 : Nat) (v_kinds : Value) (v_pad : Value) (v_padMany : Value) (v_slips : Value) (v_slipMany : Value) (v_made : Value) (v_queue : Value) (v_depth : Value) (v_by : Value) (v_from : Value) (v_come : Value) (v_offOf : Value) (v_parent : Value) (v_best : Value) (v_trees : Value) (v_least : Value) (v_sums : Value) (v_toward : Value) (v_kept : Value) (v_isKept : Value) (v_keptAt : Value) (v_isWriting : Value) (a_maps : Nat) (fm : Nat → Int32) (a_part : Nat) (fp : Nat → Int32) (k : Nat) (la : Nat) (told : Int32) (sp : Int32) (p0 : Int32) (p1 : Int32) (hk2 : 2 ≤ k) (hk6 : k ≤ 6) (hp : pOK k fp) (hfm : mapsOK k fm) (hla : la < 5 ^ k) (hsp : inR sp 1 6) : Ci l G yX10_follow wsX10_follow ({ frames := 2, cells := 0, slots := 0, locals := 46 }) [.ref h1, .int p0, .int p1] ([(h1, .inr (6, [.int (nI k), .ref a_maps, .int told, v_kinds, .int (nI la), .int sp, .ref a_part, v_pad, v_padMany, v_slips, v_slipMany, v_made, v_queue, v_depth, v_by, v_from, v_come, v_offOf, v_parent, v_best, v_trees, v_least, v_sums, v_toward, v_kept, v_isKept, v_keptAt, v_isWriting])), (a_maps, .inl (gI G, 6, .inl fm)), (a_part, .inl (gI G, 6, .inl fp))]) sz (fun (r : Int32) (la1 : Nat) => la1 < 5 ^ k ∧ r = (flA k la told sp (maN fm) p0 p1).1 ∧ la1 = (flA k la told sp (maN fm) p0 p1).2) (fun (la1 : Nat) => [(h1, .inr (6, [.int (nI k), .ref a_maps, .int told, v_kinds, .int (nI la1), .int sp, .ref a_part, v_pad, v_padMany, v_slips, v_slipMany, v_made, v_queue, v_depth, v_by, v_from, v_come, v_offOf, v_parent, v_best, v_trees, v_least, v_sums, v_toward, v_kept, v_isKept, v_keptAt, v_isWriting])), (a_maps, .inl (gI G, 6, .inl fm)), (a_part, .inl (gI G, 6, .inl fp))]) 0 0 := by
  refine Met.ofW (cc := cX10_follow) (maxL := 6) (ret := (some .int)) (by decide) rfl ?_
  intro p e s m args below meth c s₁ B hml hv
  obtain ⟨rfl, hsz, hP, hD0, E0⟩ := hv
  have hx := B.exec
  have hb := B.bytes
  have hr := B.returns
  have hts := atoms_spec (ws := wsX10_follow) B.pre
  have hown : s.vm.findClass RX10 = some m.cls := findClass_of_methodNamed B.named
  have hlocks := B.notSynchronized
  subst hsz
  have hD := hD0.self (sz := s.heap.size)
  generalize hAe : va_A ([(h1, .inr (6, [.int (nI k), .ref a_maps, .int told, v_kinds, .int (nI la), .int sp, .ref a_part, v_pad, v_padMany, v_slips, v_slipMany, v_made, v_queue, v_depth, v_by, v_from, v_come, v_offOf, v_parent, v_best, v_trees, v_least, v_sums, v_toward, v_kept, v_isKept, v_keptAt, v_isWriting])), (a_maps, .inl (gI G, 6, .inl fm)), (a_part, .inl (gI G, 6, .inl fp))]) s.heap.size = A at hD E0 ⊢
  have E : EV G A s s.heap := E0
  have hA : ∀ q : Nat, s.heap.size ≤ q → A q := fun q h => by rw [← hAe]; exact Or.inr h
  have hS : va_S A s.heap s.heap [] := va_S.rf
  have hl := lv_entry ([.ref h1, .int p0, .int p1]) (n := 6) (Nat.le_of_ble_eq_true rfl)
  rw [lg_entry_eq]
  generalize (lg_sl ([.ref h1, .int p0, .int p1]) ++ List.replicate (6 - (lg_sl ([.ref h1, .int p0, .int p1])).length) Slot.unset).toArray = ls at hl ⊢
  have hl : lv_has ls 6 [(0, .ref h1), (1, .int p0), (2, .int p1)] := hl
  have hP : va_P G.1 vwCl ([(h1, .inr (6, [.int (nI k), .ref a_maps, .int told, v_kinds, .int (nI la), .int sp, .ref a_part, v_pad, v_padMany, v_slips, v_slipMany, v_made, v_queue, v_depth, v_by, v_from, v_come, v_offOf, v_parent, v_best, v_trees, v_least, v_sums, v_toward, v_kept, v_isKept, v_keptAt, v_isWriting])), (a_maps, .inl (gI G, 6, .inl fm)), (a_part, .inl (gI G, 6, .inl fp))]) s.heap := hP
  have hal := p5le hk6
  refine lv_iload_n hx hb dX10_follow_0 rfl (lv_at hl 1 rfl) ?_
  refine ca_iR (va_runS (As := [.int p0]) (rest := []) ⟨hx, hb, hml, hown, hts⟩ (m_isMap l G s.heap.size p0) (va_cwS 1 hts gX10_follow_X10_isMap rfl rfl rfl (by decide +kernel) ⟨by decide +kernel, by decide +kernel⟩) (pre_S E hP hD hS hA [] (by decide) rfl) rfl rfl hl.1 rfl (lv_room (Nat.le_of_ble_eq_true rfl)) dX10_follow_1 ⟨by decide +kernel, by decide +kernel⟩) hS hP hD hA [] rfl (fun r2 _ H locs w1 hP hS => ?_)
  rcases w1 with ⟨rfl, b3⟩ | ⟨rfl, b3⟩
  · refine lv_if_ne (tgt := 9) hx hb dX10_follow_4 (by decide) (fun _ => ?_) (fun c4 => False.elim (by revert c4; decide))
    obtain ⟨j_p0, hj_p0, ej_p0⟩ := inR6 b3
    have hl : lv_has ls 6 [(0, .ref h1), (1, .int (nI j_p0)), (2, .int p1)] := by have q := hl; rw [ej_p0] at q; exact q
    refine lv_iload_n hx hb dX10_follow_9 rfl (lv_at hl 2 rfl) ?_
    refine lv_i2l hx hb dX10_follow_10 rfl ?_
    refine lv_topl (fun x5 ex5 => ?_)
    refine lv_lconst (v := 0) hx hb dX10_follow_11 (by decide) ?_
    refine lv_ldc2 (v := 9) hx hb hown (hts (.constantLong RX10 183 (9)) (by decide +kernel)) dX10_follow_12 ?_
    refine ca_iR (va_runS (As := [.long x5, .long 0, .long 9]) (rest := []) ⟨hx, hb, hml, hown, hts⟩ (m_in l G H.size x5 0 9 p1 0 9 ex5 (by decide) (by decide)) (va_cwS 3 hts gX10_follow_X10_in rfl rfl rfl (by decide +kernel) ⟨by decide +kernel, by decide +kernel⟩) (pre_S E hP hD hS hA [] (by decide) rfl) rfl rfl hl.1 rfl (lv_room (Nat.le_of_ble_eq_true rfl)) dX10_follow_15 ⟨by decide +kernel, by decide +kernel⟩) hS hP hD hA [] rfl (fun r7 _ H locs w6 hP hS => ?_)
    rcases w6 with ⟨rfl, b8⟩ | ⟨rfl, b8⟩
    · refine lv_if_ne (tgt := 24) hx hb dX10_follow_18 (by decide) (fun _ => ?_) (fun c9 => False.elim (by revert c9; decide))
      obtain ⟨j_p1, hj_p1, ej_p1⟩ := inRn (n := 9) (x := p1) (by decide) b8
      have hl : lv_has ls 6 [(0, .ref h1), (1, .int (nI j_p0)), (2, .int (nI j_p1))] := by have q := hl; rw [ej_p1] at q; exact q
      obtain ⟨sn, hsn1, hsn6, esn⟩ := sp_nat hsp
      have hmul : j_p1 * sn ≤ 9 * 6 := Nat.mul_le_mul hj_p1 hsn6
      have hmj := maN_ok hk6 hfm hj_p0
      refine lv_aload_n hx hb dX10_follow_24 rfl (lv_at hl 0 rfl) ?_
      refine lv_iload_n hx hb dX10_follow_25 rfl (lv_at hl 1 rfl) ?_
      refine ca_iR (va_runV (As := [.int (nI j_p0)]) (rest := []) ⟨hx, hb, hml, hown, hts⟩ (m_isTold l G H.size h1 (.int (nI k)) (.ref a_maps) v_kinds (.int (nI la)) (.int sp) (.ref a_part) v_pad v_padMany v_slips v_slipMany v_made v_queue v_depth v_by v_from v_come v_offOf v_parent v_best v_trees v_least v_sums v_toward v_kept v_isKept v_keptAt v_isWriting told (nI j_p0)) (cwV 1 hts gX10_follow_X10_isTold rfl rfl rfl (by decide +kernel) ⟨by decide +kernel, by decide +kernel⟩) (pre_V E hP hD hS hA [0] (by decide) rfl 0 6 rfl rfl) rfl rfl hl.1 rfl (lv_room (Nat.le_of_ble_eq_true rfl)) dX10_follow_26 ⟨by decide +kernel, by decide +kernel⟩) hS hP hD hA [0] rfl (fun r11 _ H locs w10 hP hS => ?_)
      rcases w10 with ⟨rfl, b12⟩ | ⟨rfl, b12⟩
      · refine lv_if_ne (tgt := 35) hx hb dX10_follow_29 (by decide) (fun _ => ?_) (fun c13 => False.elim (by revert c13; decide))
        refine lv_iload_n hx hb dX10_follow_35 rfl (lv_at hl 2 rfl) ?_
        refine lv_aload_n hx hb dX10_follow_36 rfl (lv_at hl 0 rfl) ?_
        refine va_get (D := G.1) (ci := 6) (v := .int sp) (C := RX10) (T := TX10) (N := 28) hx hb hts (fun _ h => List.mem_cons_of_mem _ (List.mem_append_right _ h)) hown E.K hP 0 rfl rfl 5 (by decide) (hts (.fieldLink RX10 59 "LastMapModel" "spades" "I") (by decide +kernel)) (fun _ h9 => h9) rfl dX10_follow_37 ?_
        refine W.eq (g2 := F0 m 40 ls [.int (nI sn), .int (nI j_p1)]) (by rw [esn]) ?_
        refine lv_imul hx hb dX10_follow_40 ?_
        refine lv_topi (fun x14 ex14 => ?_)
        obtain rfl : x14 = nI (j_p1 * sn) := by rw [ex14]; exact pk_mul j_p1 sn
        refine lv_istore_n (lv' := [(3, .int (nI (j_p1 * sn))), (0, .ref h1), (1, .int (nI j_p0)), (2, .int (nI j_p1))]) hx hb dX10_follow_41 rfl hl (by decide) rfl (fun ls hl => ?_)
        refine lv_iconst (v := 0) hx hb dX10_follow_42 (by decide) ?_
        refine lv_istore (lv' := [(4, .int 0), (3, .int (nI (j_p1 * sn))), (0, .ref h1), (1, .int (nI j_p0)), (2, .int (nI j_p1))]) hx hb dX10_follow_43 hl (by decide) rfl (fun ls hl => ?_)
        refine lp_run (x0 := (0, (j_p1 * sn), la)) (fun xx_ : Nat × Nat × Nat => match xx_ with | (x, dn, bq) => [(h1, .inr (6, [.int (nI k), .ref a_maps, .int told, v_kinds, .int (nI bq), .int sp, .ref a_part, v_pad, v_padMany, v_slips, v_slipMany, v_made, v_queue, v_depth, v_by, v_from, v_come, v_offOf, v_parent, v_best, v_trees, v_least, v_sums, v_toward, v_kept, v_isKept, v_keptAt, v_isWriting])), (a_maps, .inl (gI G, 6, .inl fm)), (a_part, .inl (gI G, 6, .inl fp))]) (fun xx_ : Nat × Nat × Nat => match xx_ with | (x, dn, bq) => [(4, .int (nI x)), (3, .int (nI dn)), (0, .ref h1), (1, .int (nI j_p0)), (2, .int (nI j_p1))]) (fun xx_ : Nat × Nat × Nat => match xx_ with | (x, dn, bq) => (x ≤ k) ∧ (dn ≤ 54) ∧ (bq < 5 ^ k ∧ fol k (maN fm j_p0) k 0 la (j_p1 * sn) = fol k (maN fm j_p0) (k - x) x bq dn)) (fun xx_ : Nat × Nat × Nat => match xx_ with | (x, dn, bq) => k - x) (hP.sub [0, 1, 2] rfl) (hD.sub [0, 1, 2] (by decide) rfl) hS (lv_sub hl [0, 1, 2, 3, 4] rfl) ⟨(by omega), by omega, ⟨hla, by rw [Nat.sub_zero]⟩⟩ ?_
        intro xx_ hI ih45 H locs ls hP hD hS hl
        obtain ⟨x, dn, bq⟩ := xx_
        dsimp only at hI ih45 hP hD hl
        obtain ⟨hx0, hdn, hbq⟩ := hI
        have hl : lv_has ls 6 [(4, .int (nI x)), (3, .int (nI dn)), (0, .ref h1), (1, .int (nI j_p0)), (2, .int (nI j_p1))] := hl
        have hP : va_P G.1 vwCl ([(h1, .inr (6, [.int (nI k), .ref a_maps, .int told, v_kinds, .int (nI bq), .int sp, .ref a_part, v_pad, v_padMany, v_slips, v_slipMany, v_made, v_queue, v_depth, v_by, v_from, v_come, v_offOf, v_parent, v_best, v_trees, v_least, v_sums, v_toward, v_kept, v_isKept, v_keptAt, v_isWriting])), (a_maps, .inl (gI G, 6, .inl fm)), (a_part, .inl (gI G, 6, .inl fp))]) H := hP
        have hD : va_D A ([(h1, .inr (6, [.int (nI k), .ref a_maps, .int told, v_kinds, .int (nI bq), .int sp, .ref a_part, v_pad, v_padMany, v_slips, v_slipMany, v_made, v_queue, v_depth, v_by, v_from, v_come, v_offOf, v_parent, v_best, v_trees, v_least, v_sums, v_toward, v_kept, v_isKept, v_keptAt, v_isWriting])), (a_maps, .inl (gI G, 6, .inl fm)), (a_part, .inl (gI G, 6, .inl fp))]) := hD
        refine lv_iload hx hb dX10_follow_45 (lv_at hl 0 rfl) ?_
        refine lv_aload_n hx hb dX10_follow_47 rfl (lv_at hl 2 rfl) ?_
        refine va_get (D := G.1) (ci := 6) (v := .int (nI k)) (C := RX10) (T := TX10) (N := 28) hx hb hts (fun _ h => List.mem_cons_of_mem _ (List.mem_append_right _ h)) hown E.K hP 0 rfl rfl 0 (by decide) (hts (.fieldLink RX10 67 "LastMapModel" "sites" "I") (by decide +kernel)) (fun _ h9 => h9) rfl dX10_follow_48 ?_
        refine lv_icmp_ge (tgt := 112) hx hb dX10_follow_51 (by decide) (fun c15 => ?_) (fun c15 => ?_)
        · have c15 : k ≤ x := (nI_leI (a := k) (b := x) (by omega) (by omega)).mp c15
          refine lv_aload_n hx hb dX10_follow_112 rfl (lv_at hl 2 rfl) ?_
          refine lv_aload_n hx hb dX10_follow_113 rfl (lv_at hl 2 rfl) ?_
          refine va_get (D := G.1) (ci := 6) (v := .int (nI bq)) (C := RX10) (T := TX10) (N := 28) hx hb hts (fun _ h => List.mem_cons_of_mem _ (List.mem_append_right _ h)) hown E.K hP 0 rfl rfl 4 (by decide) (hts (.fieldLink RX10 73 "LastMapModel" "land" "I") (by decide +kernel)) (fun _ h9 => h9) rfl dX10_follow_114 ?_
          refine lv_aload_n hx hb dX10_follow_117 rfl (lv_at hl 2 rfl) ?_
          refine va_get (D := G.1) (ci := 6) (v := .ref a_maps) (C := RX10) (T := TX10) (N := 28) hx hb hts (fun _ h => List.mem_cons_of_mem _ (List.mem_append_right _ h)) hown E.K hP 0 rfl rfl 1 (by decide) (hts (.fieldLink RX10 7 "LastMapModel" "maps" "[I") (by decide +kernel)) (fun _ h9 => h9) rfl dX10_follow_118 ?_
          refine lv_iload_n hx hb dX10_follow_121 rfl (lv_at hl 3 rfl) ?_
          refine va_iald hx hb E.K hP 1 1 rfl rfl (i := nI j_p0) (vp_in_nI (by omega) (by decide)) dX10_follow_122 ?_
          refine lv_topi (fun x16 ex16 => ?_)
          obtain rfl : x16 = nI (maN fm j_p0) := by rw [ex16, nI_clamp (by omega)]; exact hmj.2
          refine ca_iR (va_runV (As := [.int (nI bq), .int (nI (maN fm j_p0))]) (rest := []) ⟨hx, hb, hml, hown, hts⟩ (m2_otherThan l G H.size h1 (.ref a_maps) (.int told) v_kinds (.int (nI bq)) (.int sp) v_pad v_padMany v_slips v_slipMany v_made v_queue v_depth v_by v_from v_come v_offOf v_parent v_best v_trees v_least v_sums v_toward v_kept v_isKept v_keptAt v_isWriting a_part fp k bq (maN fm j_p0) hk2 hk6 hp hbq.1 hmj.1) (cwV 2 hts gX10_follow_X10_otherThan rfl rfl rfl (by decide +kernel) ⟨by decide +kernel, by decide +kernel⟩) (pre_V E hP hD hS hA [0, 2] (by decide) rfl 0 6 rfl rfl) rfl rfl hl.1 rfl (lv_room (Nat.le_of_ble_eq_true rfl)) dX10_follow_123 ⟨by decide +kernel, by decide +kernel⟩) hS hP hD hA [0, 2] rfl (fun r18 _ H locs w17 hP hS => ?_)
          rw [w17]
          have hP9 := (hP.sub (ws' := [(h1, .inr (6, [.int (nI k), .ref a_maps, .int told, v_kinds, .int (nI bq), .int sp, .ref a_part, v_pad, v_padMany, v_slips, v_slipMany, v_made, v_queue, v_depth, v_by, v_from, v_come, v_offOf, v_parent, v_best, v_trees, v_least, v_sums, v_toward, v_kept, v_isKept, v_keptAt, v_isWriting])), (a_maps, .inl (gI G, 6, .inl fm)), (a_part, .inl (gI G, 6, .inl fp))]) [0, 1, 2] rfl)
          have hD9 := (hD.sub (ws' := [(h1, .inr (6, [.int (nI k), .ref a_maps, .int told, v_kinds, .int (nI bq), .int sp, .ref a_part, v_pad, v_padMany, v_slips, v_slipMany, v_made, v_queue, v_depth, v_by, v_from, v_come, v_offOf, v_parent, v_best, v_trees, v_least, v_sums, v_toward, v_kept, v_isKept, v_keptAt, v_isWriting])), (a_maps, .inl (gI G, 6, .inl fm)), (a_part, .inl (gI G, 6, .inl fp))]) [0, 1, 2] (by decide) rfl)
          exact W.iret (v := (nI (unl k bq (maN fm j_p0) k))) hx hb hr (fun t9_ ht9_ hW9_ => ⟨⟨nI (unl k bq (maN fm j_p0) k), bq, rfl, ⟨hbq.1, by rw [flA_4 hj_p0 ej_p0 hj_p1 ej_p1 hsn6 esn (by rw [ej_p0]; exact b12), hbq.2, show k - x = 0 by omega]; exact ⟨rfl, rfl⟩⟩, by rw [ht9_]; exact hP9, hD9⟩, hS.F ht9_⟩) hS.2.2 dX10_follow_126
        · have c15 : ¬ k ≤ x := fun h9_ => c15 ((nI_leI (a := k) (b := x) (by omega) (by omega)).mpr h9_)
          refine lv_aload_n hx hb dX10_follow_54 rfl (lv_at hl 2 rfl) ?_
          refine lv_aload_n hx hb dX10_follow_55 rfl (lv_at hl 2 rfl) ?_
          refine va_get (D := G.1) (ci := 6) (v := .ref a_maps) (C := RX10) (T := TX10) (N := 28) hx hb hts (fun _ h => List.mem_cons_of_mem _ (List.mem_append_right _ h)) hown E.K hP 0 rfl rfl 1 (by decide) (hts (.fieldLink RX10 7 "LastMapModel" "maps" "[I") (by decide +kernel)) (fun _ h9 => h9) rfl dX10_follow_56 ?_
          refine lv_iload_n hx hb dX10_follow_59 rfl (lv_at hl 3 rfl) ?_
          refine va_iald hx hb E.K hP 1 1 rfl rfl (i := nI j_p0) (vp_in_nI (by omega) (by decide)) dX10_follow_60 ?_
          refine lv_topi (fun x19 ex19 => ?_)
          obtain rfl : x19 = nI (maN fm j_p0) := by rw [ex19, nI_clamp (by omega)]; exact hmj.2
          refine lv_iload hx hb dX10_follow_61 (lv_at hl 0 rfl) ?_
          refine ca_iR (va_runV (As := [.int (nI (maN fm j_p0)), .int (nI x)]) (rest := []) ⟨hx, hb, hml, hown, hts⟩ (m_signAt l G H.size h1 (.int (nI k)) (.ref a_maps) (.int told) v_kinds (.int (nI bq)) (.int sp) v_pad v_padMany v_slips v_slipMany v_made v_queue v_depth v_by v_from v_come v_offOf v_parent v_best v_trees v_least v_sums v_toward v_kept v_isKept v_keptAt v_isWriting a_part fp k (maN fm j_p0) x hk6 hp hmj.1 (by omega)) (cwV 2 hts gX10_follow_X10_signAt rfl rfl rfl (by decide +kernel) ⟨by decide +kernel, by decide +kernel⟩) (pre_V E hP hD hS hA [0, 2] (by decide) rfl 0 6 rfl rfl) rfl rfl hl.1 rfl (lv_room (Nat.le_of_ble_eq_true rfl)) dX10_follow_63 ⟨by decide +kernel, by decide +kernel⟩) hS hP hD hA [0, 2] rfl (fun r21 _ H locs w20 hP hS => ?_)
          rw [w20]
          have hdg8 : (dg k (maN fm j_p0) x) < 5 := dg_lt _ _ _
          refine lv_istore (lv' := [(5, .int (nI (dg k (maN fm j_p0) x))), (4, .int (nI x)), (3, .int (nI dn)), (0, .ref h1), (1, .int (nI j_p0)), (2, .int (nI j_p1))]) hx hb dX10_follow_66 hl (by decide) rfl (fun ls hl => ?_)
          refine lv_iload_n hx hb dX10_follow_68 rfl (lv_at hl 2 rfl) ?_
          refine lv_if_le (tgt := 106) hx hb dX10_follow_69 (by decide) (fun c22 => ?_) (fun c22 => ?_)
          · have c22 : dn ≤ 0 := (nI_leI (a := dn) (b := 0) (by omega) (by omega)).mp c22
            have hnew : bq < 5 ^ k ∧ fol k (maN fm j_p0) k 0 la (j_p1 * sn) = fol k (maN fm j_p0) (k - (x + 1)) (x + 1) bq dn := ⟨hbq.1, by rw [hbq.2, show k - x = (k - (x + 1)) + 1 by omega]; exact fol_f (fun q9 => by first | omega | exact q9.2 c22)⟩
            obtain ⟨x23, ex23⟩ : ∃ yy_ : Int32, yy_ = (nI x) + 1 := ⟨_, rfl⟩
            refine lv_iinc (v := x23) (lv' := [(4, .int x23), (5, .int (nI (dg k (maN fm j_p0) x))), (3, .int (nI dn)), (0, .ref h1), (1, .int (nI j_p0)), (2, .int (nI j_p1))]) hx hb dX10_follow_106 hl (k := 1) rfl (by rw [ex23]; rfl) (by decide) rfl (fun ls hl => ?_)
            obtain rfl : x23 = nI (x + 1) := by rw [ex23]; exact nI_add x 1
            refine lv_goto (tgt := 45) hx hb dX10_follow_109 (by decide) ?_
            refine ih45 ((x + 1), dn, bq) ⟨?_, ?_, ?_⟩ (by first | omega | (dsimp only; omega)) H locs ls (hP.sub [0, 1, 2] rfl) (hD.sub [0, 1, 2] (by decide) rfl) hS (lv_sub hl [0, 2, 3, 4, 5] rfl)
            · try dsimp only
              omega
            · try dsimp only
              omega
            · try dsimp only
              exact hnew
          · have c22 : ¬ dn ≤ 0 := fun h9_ => c22 ((nI_leI (a := dn) (b := 0) (by omega) (by omega)).mpr h9_)
            refine lv_aload_n hx hb dX10_follow_72 rfl (lv_at hl 3 rfl) ?_
            refine lv_aload_n hx hb dX10_follow_73 rfl (lv_at hl 3 rfl) ?_
            refine va_get (D := G.1) (ci := 6) (v := .int (nI bq)) (C := RX10) (T := TX10) (N := 28) hx hb hts (fun _ h => List.mem_cons_of_mem _ (List.mem_append_right _ h)) hown E.K hP 0 rfl rfl 4 (by decide) (hts (.fieldLink RX10 73 "LastMapModel" "land" "I") (by decide +kernel)) (fun _ h9 => h9) rfl dX10_follow_74 ?_
            refine lv_iload hx hb dX10_follow_77 (lv_at hl 1 rfl) ?_
            refine ca_iR (va_runV (As := [.int (nI bq), .int (nI x)]) (rest := []) ⟨hx, hb, hml, hown, hts⟩ (m_signAt l G H.size h1 (.int (nI k)) (.ref a_maps) (.int told) v_kinds (.int (nI bq)) (.int sp) v_pad v_padMany v_slips v_slipMany v_made v_queue v_depth v_by v_from v_come v_offOf v_parent v_best v_trees v_least v_sums v_toward v_kept v_isKept v_keptAt v_isWriting a_part fp k bq x hk6 hp hbq.1 (by omega)) (cwV 2 hts gX10_follow_X10_signAt rfl rfl rfl (by decide +kernel) ⟨by decide +kernel, by decide +kernel⟩) (pre_V E hP hD hS hA [0, 2] (by decide) rfl 0 6 rfl rfl) rfl rfl hl.1 rfl (lv_room (Nat.le_of_ble_eq_true rfl)) dX10_follow_79 ⟨by decide +kernel, by decide +kernel⟩) hS hP hD hA [0, 2] rfl (fun r25 _ H locs w24 hP hS => ?_)
            rw [w24]
            have hdg9 : (dg k bq x) < 5 := dg_lt _ _ _
            refine lv_iload hx hb dX10_follow_82 (lv_at hl 0 rfl) ?_
            refine lv_icmp_eq (tgt := 106) hx hb dX10_follow_84 (by decide) (fun c26 => ?_) (fun c26 => ?_)
            · have c26 : (dg k bq x) = (dg k (maN fm j_p0) x) := (nI_eq (a := (dg k bq x)) (b := (dg k (maN fm j_p0) x)) (by omega) (by omega)).mp c26
              have hnew : bq < 5 ^ k ∧ fol k (maN fm j_p0) k 0 la (j_p1 * sn) = fol k (maN fm j_p0) (k - (x + 1)) (x + 1) bq dn := ⟨hbq.1, by rw [hbq.2, show k - x = (k - (x + 1)) + 1 by omega]; exact fol_f (fun q9 => by first | omega | exact q9.2 c26)⟩
              obtain ⟨x27, ex27⟩ : ∃ yy_ : Int32, yy_ = (nI x) + 1 := ⟨_, rfl⟩
              refine lv_iinc (v := x27) (lv' := [(4, .int x27), (5, .int (nI (dg k (maN fm j_p0) x))), (3, .int (nI dn)), (0, .ref h1), (1, .int (nI j_p0)), (2, .int (nI j_p1))]) hx hb dX10_follow_106 hl (k := 1) rfl (by rw [ex27]; rfl) (by decide) rfl (fun ls hl => ?_)
              obtain rfl : x27 = nI (x + 1) := by rw [ex27]; exact nI_add x 1
              refine lv_goto (tgt := 45) hx hb dX10_follow_109 (by decide) ?_
              refine ih45 ((x + 1), dn, bq) ⟨?_, ?_, ?_⟩ (by first | omega | (dsimp only; omega)) H locs ls (hP.sub [0, 1, 2] rfl) (hD.sub [0, 1, 2] (by decide) rfl) hS (lv_sub hl [0, 2, 3, 4, 5] rfl)
              · try dsimp only
                omega
              · try dsimp only
                omega
              · try dsimp only
                exact hnew
            · have c26 : ¬ (dg k bq x) = (dg k (maN fm j_p0) x) := fun h9_ => c26 ((nI_eq (a := (dg k bq x)) (b := (dg k (maN fm j_p0) x)) (by omega) (by omega)).mpr h9_)
              have hnew : wN k bq x (dg k (maN fm j_p0) x) < 5 ^ k ∧ fol k (maN fm j_p0) k 0 la (j_p1 * sn) = fol k (maN fm j_p0) (k - (x + 1)) (x + 1) (wN k bq x (dg k (maN fm j_p0) x)) (dn - 1) := ⟨wN_lt hbq.1 (by omega) (dg_lt _ _ _), by rw [hbq.2, show k - x = (k - (x + 1)) + 1 by omega]; exact fol_t (by omega) c26⟩
              refine lv_aload_n hx hb dX10_follow_87 rfl (lv_at hl 3 rfl) ?_
              refine lv_aload_n hx hb dX10_follow_88 rfl (lv_at hl 3 rfl) ?_
              refine lv_aload_n hx hb dX10_follow_89 rfl (lv_at hl 3 rfl) ?_
              refine va_get (D := G.1) (ci := 6) (v := .int (nI bq)) (C := RX10) (T := TX10) (N := 28) hx hb hts (fun _ h => List.mem_cons_of_mem _ (List.mem_append_right _ h)) hown E.K hP 0 rfl rfl 4 (by decide) (hts (.fieldLink RX10 73 "LastMapModel" "land" "I") (by decide +kernel)) (fun _ h9 => h9) rfl dX10_follow_90 ?_
              refine lv_iload hx hb dX10_follow_93 (lv_at hl 1 rfl) ?_
              refine lv_iload hx hb dX10_follow_95 (lv_at hl 0 rfl) ?_
              refine ca_iR (va_runV (As := [.int (nI bq), .int (nI x), .int (nI (dg k (maN fm j_p0) x))]) (rest := [.ref h1]) ⟨hx, hb, hml, hown, hts⟩ (m_with l G H.size h1 (.int (nI k)) (.ref a_maps) (.int told) v_kinds (.int (nI bq)) (.int sp) v_pad v_padMany v_slips v_slipMany v_made v_queue v_depth v_by v_from v_come v_offOf v_parent v_best v_trees v_least v_sums v_toward v_kept v_isKept v_keptAt v_isWriting a_part fp k bq x (dg k (maN fm j_p0) x) hk6 hp hbq.1 (by omega)) (cwV 3 hts gX10_follow_X10_with rfl rfl rfl (by decide +kernel) ⟨by decide +kernel, by decide +kernel⟩) (pre_V E hP hD hS hA [0, 2] (by decide) rfl 0 6 rfl rfl) rfl rfl hl.1 rfl (lv_room (Nat.le_of_ble_eq_true rfl)) dX10_follow_97 ⟨by decide +kernel, by decide +kernel⟩) hS hP hD hA [0, 2] rfl (fun r29 _ H locs w28 hP hS => ?_)
              rw [w28]
              refine va_put (D := G.1) (ci := 6) (v := .int (nI (wN k bq x (dg k (maN fm j_p0) x)))) (ty := .int) (C := RX10) (T := TX10) (N := 28) hx hb hts (fun _ h => List.mem_cons_of_mem _ (List.mem_append_right _ h)) tyX10 tyX10_ok nmX10 hown E.K hP hD hS 0 rfl rfl 4 (by decide) (hts (.fieldLink RX10 73 "LastMapModel" "land" "I") (by decide +kernel)) (fun _ h9 => h9) rfl (by decide +kernel) rfl rfl (Nat.le_of_ble_eq_true rfl) dX10_follow_100 (fun H locs hP hD hS => ?_)
              have hP : va_P G.1 vwCl ([(h1, .inr (6, [.int (nI k), .ref a_maps, .int told, v_kinds, .int (nI (wN k bq x (dg k (maN fm j_p0) x))), .int sp, .ref a_part, v_pad, v_padMany, v_slips, v_slipMany, v_made, v_queue, v_depth, v_by, v_from, v_come, v_offOf, v_parent, v_best, v_trees, v_least, v_sums, v_toward, v_kept, v_isKept, v_keptAt, v_isWriting])), (a_maps, .inl (gI G, 6, .inl fm)), (a_part, .inl (gI G, 6, .inl fp))]) H := hP
              have hD : va_D A ([(h1, .inr (6, [.int (nI k), .ref a_maps, .int told, v_kinds, .int (nI (wN k bq x (dg k (maN fm j_p0) x))), .int sp, .ref a_part, v_pad, v_padMany, v_slips, v_slipMany, v_made, v_queue, v_depth, v_by, v_from, v_come, v_offOf, v_parent, v_best, v_trees, v_least, v_sums, v_toward, v_kept, v_isKept, v_keptAt, v_isWriting])), (a_maps, .inl (gI G, 6, .inl fm)), (a_part, .inl (gI G, 6, .inl fp))]) := hD
              obtain ⟨x30, ex30⟩ : ∃ yy_ : Int32, yy_ = (nI dn) + (-1) := ⟨_, rfl⟩
              refine lv_iinc (v := x30) (lv' := [(3, .int x30), (5, .int (nI (dg k (maN fm j_p0) x))), (4, .int (nI x)), (0, .ref h1), (1, .int (nI j_p0)), (2, .int (nI j_p1))]) hx hb dX10_follow_103 hl (k := 2) rfl (by rw [ex30]; rfl) (by decide) rfl (fun ls hl => ?_)
              have hl : lv_has ls 6 [(3, .int (nI (dn - 1))), (5, .int (nI (dg k (maN fm j_p0) x))), (4, .int (nI x)), (0, .ref h1), (1, .int (nI j_p0)), (2, .int (nI j_p1))] := by have q := hl; rw [(show x30 = nI (dn - 1) by rw [ex30]; exact dec_nI (by omega))] at q; exact q
              obtain ⟨x31, ex31⟩ : ∃ yy_ : Int32, yy_ = (nI x) + 1 := ⟨_, rfl⟩
              refine lv_iinc (v := x31) (lv' := [(4, .int x31), (3, .int (nI (dn - 1))), (5, .int (nI (dg k (maN fm j_p0) x))), (0, .ref h1), (1, .int (nI j_p0)), (2, .int (nI j_p1))]) hx hb dX10_follow_106 hl (k := 2) rfl (by rw [ex31]; rfl) (by decide) rfl (fun ls hl => ?_)
              obtain rfl : x31 = nI (x + 1) := by rw [ex31]; exact nI_add x 1
              refine lv_goto (tgt := 45) hx hb dX10_follow_109 (by decide) ?_
              refine ih45 ((x + 1), (dn - 1), (wN k bq x (dg k (maN fm j_p0) x))) ⟨?_, ?_, ?_⟩ (by first | omega | (dsimp only; omega)) H locs ls (hP.sub [0, 1, 2] rfl) (hD.sub [0, 1, 2] (by decide) rfl) hS (lv_sub hl [0, 1, 3, 4, 5] rfl)
              · try dsimp only
                omega
              · try dsimp only
                omega
              · try dsimp only
                exact hnew
      · refine lv_if_ne (tgt := 35) hx hb dX10_follow_29 (by decide) (fun c32 => False.elim (by revert c32; decide)) (fun _ => ?_)
        refine lv_bipush (v := (-3)) hx hb dX10_follow_32 (by decide) ?_
        have hP9 := (hP.sub (ws' := [(h1, .inr (6, [.int (nI k), .ref a_maps, .int told, v_kinds, .int (nI la), .int sp, .ref a_part, v_pad, v_padMany, v_slips, v_slipMany, v_made, v_queue, v_depth, v_by, v_from, v_come, v_offOf, v_parent, v_best, v_trees, v_least, v_sums, v_toward, v_kept, v_isKept, v_keptAt, v_isWriting])), (a_maps, .inl (gI G, 6, .inl fm)), (a_part, .inl (gI G, 6, .inl fp))]) [0, 1, 2] rfl)
        have hD9 := (hD.sub (ws' := [(h1, .inr (6, [.int (nI k), .ref a_maps, .int told, v_kinds, .int (nI la), .int sp, .ref a_part, v_pad, v_padMany, v_slips, v_slipMany, v_made, v_queue, v_depth, v_by, v_from, v_come, v_offOf, v_parent, v_best, v_trees, v_least, v_sums, v_toward, v_kept, v_isKept, v_keptAt, v_isWriting])), (a_maps, .inl (gI G, 6, .inl fm)), (a_part, .inl (gI G, 6, .inl fp))]) [0, 1, 2] (by decide) rfl)
        exact W.iret (v := (-3)) hx hb hr (fun t9_ ht9_ hW9_ => ⟨⟨(-3), la, rfl, ⟨hla, by rw [flA_3 b3 b8 (fun q9 => b12 (by rw [← ej_p0]; exact q9))]; exact ⟨rfl, rfl⟩⟩, by rw [ht9_]; exact hP9, hD9⟩, hS.F ht9_⟩) hS.2.2 dX10_follow_34
    · refine lv_if_ne (tgt := 24) hx hb dX10_follow_18 (by decide) (fun c33 => False.elim (by revert c33; decide)) (fun _ => ?_)
      refine lv_bipush (v := (-2)) hx hb dX10_follow_21 (by decide) ?_
      have hP9 := (hP.sub (ws' := [(h1, .inr (6, [.int (nI k), .ref a_maps, .int told, v_kinds, .int (nI la), .int sp, .ref a_part, v_pad, v_padMany, v_slips, v_slipMany, v_made, v_queue, v_depth, v_by, v_from, v_come, v_offOf, v_parent, v_best, v_trees, v_least, v_sums, v_toward, v_kept, v_isKept, v_keptAt, v_isWriting])), (a_maps, .inl (gI G, 6, .inl fm)), (a_part, .inl (gI G, 6, .inl fp))]) [0, 1, 2] rfl)
      have hD9 := (hD.sub (ws' := [(h1, .inr (6, [.int (nI k), .ref a_maps, .int told, v_kinds, .int (nI la), .int sp, .ref a_part, v_pad, v_padMany, v_slips, v_slipMany, v_made, v_queue, v_depth, v_by, v_from, v_come, v_offOf, v_parent, v_best, v_trees, v_least, v_sums, v_toward, v_kept, v_isKept, v_keptAt, v_isWriting])), (a_maps, .inl (gI G, 6, .inl fm)), (a_part, .inl (gI G, 6, .inl fp))]) [0, 1, 2] (by decide) rfl)
      exact W.iret (v := (-2)) hx hb hr (fun t9_ ht9_ hW9_ => ⟨⟨(-2), la, rfl, ⟨hla, by rw [flA_2 b3 b8]; exact ⟨rfl, rfl⟩⟩, by rw [ht9_]; exact hP9, hD9⟩, hS.F ht9_⟩) hS.2.2 dX10_follow_23
  · refine lv_if_ne (tgt := 9) hx hb dX10_follow_4 (by decide) (fun c34 => False.elim (by revert c34; decide)) (fun _ => ?_)
    refine lv_iconst (v := (-1)) hx hb dX10_follow_7 (by decide) ?_
    have hP9 := (hP.sub (ws' := [(h1, .inr (6, [.int (nI k), .ref a_maps, .int told, v_kinds, .int (nI la), .int sp, .ref a_part, v_pad, v_padMany, v_slips, v_slipMany, v_made, v_queue, v_depth, v_by, v_from, v_come, v_offOf, v_parent, v_best, v_trees, v_least, v_sums, v_toward, v_kept, v_isKept, v_keptAt, v_isWriting])), (a_maps, .inl (gI G, 6, .inl fm)), (a_part, .inl (gI G, 6, .inl fp))]) [0, 1, 2] rfl)
    have hD9 := (hD.sub (ws' := [(h1, .inr (6, [.int (nI k), .ref a_maps, .int told, v_kinds, .int (nI la), .int sp, .ref a_part, v_pad, v_padMany, v_slips, v_slipMany, v_made, v_queue, v_depth, v_by, v_from, v_come, v_offOf, v_parent, v_best, v_trees, v_least, v_sums, v_toward, v_kept, v_isKept, v_keptAt, v_isWriting])), (a_maps, .inl (gI G, 6, .inl fm)), (a_part, .inl (gI G, 6, .inl fp))]) [0, 1, 2] (by decide) rfl)
    exact W.iret (v := (-1)) hx hb hr (fun t9_ ht9_ hW9_ => ⟨⟨(-1), la, rfl, ⟨hla, by rw [flA_1 b3]; exact ⟨rfl, rfl⟩⟩, by rw [ht9_]; exact hP9, hD9⟩, hS.F ht9_⟩) hS.2.2 dX10_follow_8
