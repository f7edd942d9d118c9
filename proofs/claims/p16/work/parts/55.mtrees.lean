def parOK (f : Nat → Int32) : Prop := ∀ j, j < 6 → ∃ q, q ≤ 6 ∧ f j = nI q
theorem lt6_of {x : Nat} (hx : x ≤ 6) (c : ¬ nI (6 - x) - 1 < 0) : x < 6 := by
  rcases Nat.lt_or_ge x 6 with q | q
  · exact q
  · exact absurd (show nI (6 - x) - 1 < 0 by rw [show 6 - x = 0 by omega]; decide) c
theorem eq6_of {x : Nat} (hx : x ≤ 6) (c : nI (6 - x) - 1 < 0) : x = 6 := by
  rcases Nat.lt_or_ge x 6 with q | q
  · exact absurd c (by rw [show 6 - x = (5 - x) + 1 by omega, nI_pred]; exact nI_pos (by omega))
  · omega
theorem nI65 {x : Nat} (hx : x < 6) : nI (6 - x) - 1 = nI (5 - x) := by rw [show 6 - x = (5 - x) + 1 by omega, nI_pred]

set_option maxHeartbeats 1000000 in
set_option maxRecDepth 100000 in
theorem m_findOffs (l : Launch) (G : Gy) (sz : Nat) (h1 : Nat) (v_told : Value) (v_land : Value) (v_spades : Value) (v_pad : Value) (v_padMany : Value) (v_slips : Value) (v_slipMany : Value) (v_made : Value) (v_parent : Value) (v_best : Value) (v_trees : Value) (v_least : Value) (v_sums : Value) (v_toward : Value) (v_kept : Value) (v_isKept : Value) (v_keptAt : Value) (v_isWriting : Value) (a_maps : Nat) (fm : Nat → Int32) (a_kinds : Nat) (a_offOf : Nat) (fk : Nat → Int32) (fo : Nat → Int32) (a_part : Nat) (fp : Nat → Int32) (a_queue : Nat) (a_depth : Nat) (a_by : Nat) (a_from : Nat) (fq : Nat → Int32) (fd : Nat → Int32) (fb : Nat → Int32) (fr : Nat → Int32) (k : Nat) (hh : Nat) (cm0 : Int32) (p1 : Int32) (hk2 : 2 ≤ k) (hk6 : k ≤ 6) (hp : pOK k fp) (hfm : mapsOK k fm) (hhh : hh < 4) : Cv l G yX10_findOffs wsX10_findOffs ({ frames := 4, cells := 0, slots := 0, locals := 98 }) [.ref h1, .int p1, .int (nI hh)] ([(h1, .inr (6, [.int (nI k), .ref a_maps, v_told, .ref a_kinds, v_land, v_spades, .ref a_part, v_pad, v_padMany, v_slips, v_slipMany, v_made, .ref a_queue, .ref a_depth, .ref a_by, .ref a_from, .int cm0, .ref a_offOf, v_parent, v_best, v_trees, v_least, v_sums, v_toward, v_kept, v_isKept, v_keptAt, v_isWriting])), (a_maps, .inl (gI G, 6, .inl fm)), (a_kinds, .inl (gI G, 4, .inl fk)), (a_part, .inl (gI G, 6, .inl fp)), (a_queue, .inl (gI G, 15625, .inl fq)), (a_depth, .inl (gI G, 15625, .inl fd)), (a_by, .inl (gI G, 15625, .inl fb)), (a_from, .inl (gI G, 15625, .inl fr)), (a_offOf, .inl (gI G, 36, .inl fo))]) sz (fun (u : Int32 × (Nat → Int32) × (Nat → Int32) × (Nat → Int32) × (Nat → Int32) × (Nat → Int32)) => match u with | (cm1, gq, gd, gb, gr, go) => True) (fun (u : Int32 × (Nat → Int32) × (Nat → Int32) × (Nat → Int32) × (Nat → Int32) × (Nat → Int32)) => match u with | (cm1, gq, gd, gb, gr, go) => [(h1, .inr (6, [.int (nI k), .ref a_maps, v_told, .ref a_kinds, v_land, v_spades, .ref a_part, v_pad, v_padMany, v_slips, v_slipMany, v_made, .ref a_queue, .ref a_depth, .ref a_by, .ref a_from, .int cm1, .ref a_offOf, v_parent, v_best, v_trees, v_least, v_sums, v_toward, v_kept, v_isKept, v_keptAt, v_isWriting])), (a_maps, .inl (gI G, 6, .inl fm)), (a_kinds, .inl (gI G, 4, .inl fk)), (a_part, .inl (gI G, 6, .inl fp)), (a_queue, .inl (gI G, 15625, .inl gq)), (a_depth, .inl (gI G, 15625, .inl gd)), (a_by, .inl (gI G, 15625, .inl gb)), (a_from, .inl (gI G, 15625, .inl gr)), (a_offOf, .inl (gI G, 36, .inl go))]) 0 0 := by
  refine Met.ofW (cc := cX10_findOffs) (maxL := 5) (ret := none) (by decide) rfl ?_
  intro p e s m args below meth c s₁ B hml hv
  obtain ⟨rfl, hsz, hP, hD0, E0⟩ := hv
  have hx := B.exec
  have hb := B.bytes
  have hr := B.returns
  have hts := atoms_spec (ws := wsX10_findOffs) B.pre
  have hown : s.vm.findClass RX10 = some m.cls := findClass_of_methodNamed B.named
  have hlocks := B.notSynchronized
  subst hsz
  have hD := hD0.self (sz := s.heap.size)
  generalize hAe : va_A ([(h1, .inr (6, [.int (nI k), .ref a_maps, v_told, .ref a_kinds, v_land, v_spades, .ref a_part, v_pad, v_padMany, v_slips, v_slipMany, v_made, .ref a_queue, .ref a_depth, .ref a_by, .ref a_from, .int cm0, .ref a_offOf, v_parent, v_best, v_trees, v_least, v_sums, v_toward, v_kept, v_isKept, v_keptAt, v_isWriting])), (a_maps, .inl (gI G, 6, .inl fm)), (a_kinds, .inl (gI G, 4, .inl fk)), (a_part, .inl (gI G, 6, .inl fp)), (a_queue, .inl (gI G, 15625, .inl fq)), (a_depth, .inl (gI G, 15625, .inl fd)), (a_by, .inl (gI G, 15625, .inl fb)), (a_from, .inl (gI G, 15625, .inl fr)), (a_offOf, .inl (gI G, 36, .inl fo))]) s.heap.size = A at hD E0 ⊢
  have E : EV G A s s.heap := E0
  have hA : ∀ q : Nat, s.heap.size ≤ q → A q := fun q h => by rw [← hAe]; exact Or.inr h
  have hS : va_S A s.heap s.heap [] := va_S.rf
  have hl := lv_entry ([.ref h1, .int p1, .int (nI hh)]) (n := 5) (Nat.le_of_ble_eq_true rfl)
  rw [lg_entry_eq]
  generalize (lg_sl ([.ref h1, .int p1, .int (nI hh)]) ++ List.replicate (5 - (lg_sl ([.ref h1, .int p1, .int (nI hh)])).length) Slot.unset).toArray = ls at hl ⊢
  have hl : lv_has ls 5 [(0, .ref h1), (1, .int p1), (2, .int (nI hh))] := hl
  have hP : va_P G.1 vwCl ([(h1, .inr (6, [.int (nI k), .ref a_maps, v_told, .ref a_kinds, v_land, v_spades, .ref a_part, v_pad, v_padMany, v_slips, v_slipMany, v_made, .ref a_queue, .ref a_depth, .ref a_by, .ref a_from, .int cm0, .ref a_offOf, v_parent, v_best, v_trees, v_least, v_sums, v_toward, v_kept, v_isKept, v_keptAt, v_isWriting])), (a_maps, .inl (gI G, 6, .inl fm)), (a_kinds, .inl (gI G, 4, .inl fk)), (a_part, .inl (gI G, 6, .inl fp)), (a_queue, .inl (gI G, 15625, .inl fq)), (a_depth, .inl (gI G, 15625, .inl fd)), (a_by, .inl (gI G, 15625, .inl fb)), (a_from, .inl (gI G, 15625, .inl fr)), (a_offOf, .inl (gI G, 36, .inl fo))]) s.heap := hP
  have hal := p5le hk6
  refine lv_iconst (v := 0) hx hb dX10_findOffs_0 (by decide) ?_
  refine lv_istore_n (lv' := [(3, .int 0), (0, .ref h1), (1, .int p1), (2, .int (nI hh))]) hx hb dX10_findOffs_1 rfl hl (by decide) rfl (fun ls hl => ?_)
  refine lp_run (x0 := (0, cm0, fq, fd, fb, fr, fo)) (fun xx_ : Nat × Int32 × (Nat → Int32) × (Nat → Int32) × (Nat → Int32) × (Nat → Int32) × (Nat → Int32) => match xx_ with | (x, cm1, fq1, fd1, fb1, fr1, fo1) => [(h1, .inr (6, [.int (nI k), .ref a_maps, v_told, .ref a_kinds, v_land, v_spades, .ref a_part, v_pad, v_padMany, v_slips, v_slipMany, v_made, .ref a_queue, .ref a_depth, .ref a_by, .ref a_from, .int cm1, .ref a_offOf, v_parent, v_best, v_trees, v_least, v_sums, v_toward, v_kept, v_isKept, v_keptAt, v_isWriting])), (a_maps, .inl (gI G, 6, .inl fm)), (a_kinds, .inl (gI G, 4, .inl fk)), (a_part, .inl (gI G, 6, .inl fp)), (a_queue, .inl (gI G, 15625, .inl fq1)), (a_depth, .inl (gI G, 15625, .inl fd1)), (a_by, .inl (gI G, 15625, .inl fb1)), (a_from, .inl (gI G, 15625, .inl fr1)), (a_offOf, .inl (gI G, 36, .inl fo1))]) (fun xx_ : Nat × Int32 × (Nat → Int32) × (Nat → Int32) × (Nat → Int32) × (Nat → Int32) × (Nat → Int32) => match xx_ with | (x, cm1, fq1, fd1, fb1, fr1, fo1) => [(3, .int (nI x)), (0, .ref h1), (1, .int p1), (2, .int (nI hh))]) (fun xx_ : Nat × Int32 × (Nat → Int32) × (Nat → Int32) × (Nat → Int32) × (Nat → Int32) × (Nat → Int32) => match xx_ with | (x, cm1, fq1, fd1, fb1, fr1, fo1) => (x ≤ 6)) (fun xx_ : Nat × Int32 × (Nat → Int32) × (Nat → Int32) × (Nat → Int32) × (Nat → Int32) × (Nat → Int32) => match xx_ with | (x, cm1, fq1, fd1, fb1, fr1, fo1) => 6 - x) (hP.sub [0, 1, 2, 3, 4, 5, 6, 7, 8] rfl) (hD.sub [0, 1, 2, 3, 4, 5, 6, 7, 8] (by decide) rfl) hS (lv_sub hl [0, 1, 2, 3] rfl) (by omega) ?_
  intro xx_ hI ih2 H locs ls hP hD hS hl
  obtain ⟨x, cm1, fq1, fd1, fb1, fr1, fo1⟩ := xx_
  dsimp only at hI ih2 hP hD hl
  have hx0 := hI
  have hl : lv_has ls 5 [(3, .int (nI x)), (0, .ref h1), (1, .int p1), (2, .int (nI hh))] := hl
  have hP : va_P G.1 vwCl ([(h1, .inr (6, [.int (nI k), .ref a_maps, v_told, .ref a_kinds, v_land, v_spades, .ref a_part, v_pad, v_padMany, v_slips, v_slipMany, v_made, .ref a_queue, .ref a_depth, .ref a_by, .ref a_from, .int cm1, .ref a_offOf, v_parent, v_best, v_trees, v_least, v_sums, v_toward, v_kept, v_isKept, v_keptAt, v_isWriting])), (a_maps, .inl (gI G, 6, .inl fm)), (a_kinds, .inl (gI G, 4, .inl fk)), (a_part, .inl (gI G, 6, .inl fp)), (a_queue, .inl (gI G, 15625, .inl fq1)), (a_depth, .inl (gI G, 15625, .inl fd1)), (a_by, .inl (gI G, 15625, .inl fb1)), (a_from, .inl (gI G, 15625, .inl fr1)), (a_offOf, .inl (gI G, 36, .inl fo1))]) H := hP
  have hD : va_D A ([(h1, .inr (6, [.int (nI k), .ref a_maps, v_told, .ref a_kinds, v_land, v_spades, .ref a_part, v_pad, v_padMany, v_slips, v_slipMany, v_made, .ref a_queue, .ref a_depth, .ref a_by, .ref a_from, .int cm1, .ref a_offOf, v_parent, v_best, v_trees, v_least, v_sums, v_toward, v_kept, v_isKept, v_keptAt, v_isWriting])), (a_maps, .inl (gI G, 6, .inl fm)), (a_kinds, .inl (gI G, 4, .inl fk)), (a_part, .inl (gI G, 6, .inl fp)), (a_queue, .inl (gI G, 15625, .inl fq1)), (a_depth, .inl (gI G, 15625, .inl fd1)), (a_by, .inl (gI G, 15625, .inl fb1)), (a_from, .inl (gI G, 15625, .inl fr1)), (a_offOf, .inl (gI G, 36, .inl fo1))]) := hD
  refine lv_iload_n hx hb dX10_findOffs_2 rfl (lv_at hl 0 rfl) ?_
  refine lv_bipush (v := 6) hx hb dX10_findOffs_3 (by decide) ?_
  refine lv_icmp_ge (tgt := 94) hx hb dX10_findOffs_5 (by decide) (fun c1 => ?_) (fun c1 => ?_)
  · have c1 : 6 ≤ x := (nI_leI (a := 6) (b := x) (by omega) (by omega)).mp c1
    have hP9 := (hP.sub (ws' := [(h1, .inr (6, [.int (nI k), .ref a_maps, v_told, .ref a_kinds, v_land, v_spades, .ref a_part, v_pad, v_padMany, v_slips, v_slipMany, v_made, .ref a_queue, .ref a_depth, .ref a_by, .ref a_from, .int cm1, .ref a_offOf, v_parent, v_best, v_trees, v_least, v_sums, v_toward, v_kept, v_isKept, v_keptAt, v_isWriting])), (a_maps, .inl (gI G, 6, .inl fm)), (a_kinds, .inl (gI G, 4, .inl fk)), (a_part, .inl (gI G, 6, .inl fp)), (a_queue, .inl (gI G, 15625, .inl fq1)), (a_depth, .inl (gI G, 15625, .inl fd1)), (a_by, .inl (gI G, 15625, .inl fb1)), (a_from, .inl (gI G, 15625, .inl fr1)), (a_offOf, .inl (gI G, 36, .inl fo1))]) [0, 1, 2, 3, 4, 5, 6, 7, 8] rfl)
    have hD9 := (hD.sub (ws' := [(h1, .inr (6, [.int (nI k), .ref a_maps, v_told, .ref a_kinds, v_land, v_spades, .ref a_part, v_pad, v_padMany, v_slips, v_slipMany, v_made, .ref a_queue, .ref a_depth, .ref a_by, .ref a_from, .int cm1, .ref a_offOf, v_parent, v_best, v_trees, v_least, v_sums, v_toward, v_kept, v_isKept, v_keptAt, v_isWriting])), (a_maps, .inl (gI G, 6, .inl fm)), (a_kinds, .inl (gI G, 4, .inl fk)), (a_part, .inl (gI G, 6, .inl fp)), (a_queue, .inl (gI G, 15625, .inl fq1)), (a_depth, .inl (gI G, 15625, .inl fd1)), (a_by, .inl (gI G, 15625, .inl fb1)), (a_from, .inl (gI G, 15625, .inl fr1)), (a_offOf, .inl (gI G, 36, .inl fo1))]) [0, 1, 2, 3, 4, 5, 6, 7, 8] (by decide) rfl)
    exact W.vret hx hb hr (fun t9_ ht9_ hW9_ => ⟨⟨(cm1, fq1, fd1, fb1, fr1, fo1), rfl, trivial, by rw [ht9_]; exact hP9, hD9⟩, hS.F ht9_⟩) hS.2.2 dX10_findOffs_94
  · have c1 : ¬ 6 ≤ x := fun h9_ => c1 ((nI_leI (a := 6) (b := x) (by omega) (by omega)).mpr h9_)
    refine lv_iload_n hx hb dX10_findOffs_8 rfl (lv_at hl 2 rfl) ?_
    refine lv_iload_n hx hb dX10_findOffs_9 rfl (lv_at hl 0 rfl) ?_
    refine lv_ishr hx hb dX10_findOffs_10 ?_
    refine lv_topi (fun x2 ex2 => ?_)
    refine lv_iconst (v := 1) hx hb dX10_findOffs_11 (by decide) ?_
    refine lv_iand hx hb dX10_findOffs_12 ?_
    refine lv_topi (fun x3 ex3 => ?_)
    refine lv_iconst (v := 1) hx hb dX10_findOffs_13 (by decide) ?_
    refine lv_icmp_ne (tgt := 88) hx hb dX10_findOffs_14 (by decide) (fun c4 => ?_) (fun c4 => ?_)
    · obtain ⟨x5, ex5⟩ : ∃ yy_ : Int32, yy_ = (nI x) + 1 := ⟨_, rfl⟩
      refine lv_iinc (v := x5) (lv' := [(3, .int x5), (0, .ref h1), (1, .int p1), (2, .int (nI hh))]) hx hb dX10_findOffs_88 hl (k := 0) rfl (by rw [ex5]; rfl) (by decide) rfl (fun ls hl => ?_)
      obtain rfl : x5 = nI (x + 1) := by rw [ex5]; exact nI_add x 1
      refine lv_goto (tgt := 2) hx hb dX10_findOffs_91 (by decide) ?_
      refine ih2 ((x + 1), cm1, fq1, fd1, fb1, fr1, fo1) ?_ (by first | omega | (dsimp only; omega)) H locs ls (hP.sub [0, 1, 2, 3, 4, 5, 6, 7, 8] rfl) (hD.sub [0, 1, 2, 3, 4, 5, 6, 7, 8] (by decide) rfl) hS (lv_sub hl [0, 1, 2, 3] rfl)
      try dsimp only
      omega
    · refine lv_aload_n hx hb dX10_findOffs_17 rfl (lv_at hl 1 rfl) ?_
      refine lv_aload_n hx hb dX10_findOffs_18 rfl (lv_at hl 1 rfl) ?_
      refine va_get (D := G.1) (ci := 6) (v := .ref a_maps) (C := RX10) (T := TX10) (N := 28) hx hb hts (fun _ h => List.mem_cons_of_mem _ (List.mem_append_right _ h)) hown E.K hP 0 rfl rfl 1 (by decide) (hts (.fieldLink RX10 7 "LastMapModel" "maps" "[I") (by decide +kernel)) (fun _ h9 => h9) rfl dX10_findOffs_19 ?_
      refine lv_iload_n hx hb dX10_findOffs_22 rfl (lv_at hl 0 rfl) ?_
      refine va_iald hx hb E.K hP 1 1 rfl rfl (i := nI x) (vp_in_nI (by omega) (by decide)) dX10_findOffs_23 ?_
      refine lv_topi (fun x6 ex6 => ?_)
      obtain ⟨a_x6, ha_x6, hvx6⟩ := hfm x (by omega)
      obtain rfl : x6 = nI a_x6 := by rw [ex6, nI_clamp (by omega)]; exact hvx6
      refine lv_aload_n hx hb dX10_findOffs_24 rfl (lv_at hl 1 rfl) ?_
      refine va_get (D := G.1) (ci := 6) (v := .ref a_kinds) (C := RX10) (T := TX10) (N := 28) hx hb hts (fun _ h => List.mem_cons_of_mem _ (List.mem_append_right _ h)) hown E.K hP 0 rfl rfl 3 (by decide) (hts (.fieldLink RX10 13 "LastMapModel" "kinds" "[I") (by decide +kernel)) (fun _ h9 => h9) rfl dX10_findOffs_25 ?_
      refine lv_iload_n hx hb dX10_findOffs_28 rfl (lv_at hl 3 rfl) ?_
      refine va_iald hx hb E.K hP 2 1 rfl rfl (i := nI hh) (vp_in_nI (by omega) (by decide)) dX10_findOffs_29 ?_
      refine lv_topi (fun x7 ex7 => ?_)
      refine ca_v (wr := [(a_maps, .inl (gI G, 6, .inl fm)), (a_kinds, .inl (gI G, 4, .inl fk)), (a_offOf, .inl (gI G, 36, .inl fo1))]) (va_runV (As := [.int (nI a_x6), .int x7]) (rest := []) ⟨hx, hb, hml, hown, hts⟩ (m_goFrom l G H.size h1 (.ref a_maps) v_told (.ref a_kinds) v_land v_spades v_pad v_padMany v_slips v_slipMany v_made (.ref a_offOf) v_parent v_best v_trees v_least v_sums v_toward v_kept v_isKept v_keptAt v_isWriting a_part fp a_queue a_depth a_by a_from fq1 fd1 fb1 fr1 k a_x6 cm1 x7 hk2 hk6 hp (by omega)) (cwV 2 hts gX10_findOffs_X10_goFrom rfl rfl rfl (by decide +kernel) ⟨by decide +kernel, by decide +kernel⟩) (pre_V E hP hD hS hA [0, 3, 4, 5, 6, 7] (by decide) rfl 0 6 rfl rfl) rfl rfl hl.1 rfl (lv_room (Nat.le_of_ble_eq_true rfl)) dX10_findOffs_30 ⟨by decide +kernel, by decide +kernel⟩) hS hP hD hA [0, 3, 4, 5, 6, 7] [1, 2, 8] rfl rfl (by decide) (by decide) (fun u10 H locs w8 hP hD hS => ?_)
      obtain ⟨cm1_11, gq_12, gd_13, gb_14, gr_15⟩ := u10
      try dsimp only at w8 hP hD
      have hP := (hP.sub (ws' := [(h1, .inr (6, [.int (nI k), .ref a_maps, v_told, .ref a_kinds, v_land, v_spades, .ref a_part, v_pad, v_padMany, v_slips, v_slipMany, v_made, .ref a_queue, .ref a_depth, .ref a_by, .ref a_from, .int (nI cm1_11), .ref a_offOf, v_parent, v_best, v_trees, v_least, v_sums, v_toward, v_kept, v_isKept, v_keptAt, v_isWriting])), (a_maps, .inl (gI G, 6, .inl fm)), (a_kinds, .inl (gI G, 4, .inl fk)), (a_part, .inl (gI G, 6, .inl fp)), (a_queue, .inl (gI G, 15625, .inl gq_12)), (a_depth, .inl (gI G, 15625, .inl gd_13)), (a_by, .inl (gI G, 15625, .inl gb_14)), (a_from, .inl (gI G, 15625, .inl gr_15)), (a_offOf, .inl (gI G, 36, .inl fo1))]) [3, 0, 1, 4, 5, 6, 7, 8, 2] rfl)
      have hD := (hD.sub (ws' := [(h1, .inr (6, [.int (nI k), .ref a_maps, v_told, .ref a_kinds, v_land, v_spades, .ref a_part, v_pad, v_padMany, v_slips, v_slipMany, v_made, .ref a_queue, .ref a_depth, .ref a_by, .ref a_from, .int (nI cm1_11), .ref a_offOf, v_parent, v_best, v_trees, v_least, v_sums, v_toward, v_kept, v_isKept, v_keptAt, v_isWriting])), (a_maps, .inl (gI G, 6, .inl fm)), (a_kinds, .inl (gI G, 4, .inl fk)), (a_part, .inl (gI G, 6, .inl fp)), (a_queue, .inl (gI G, 15625, .inl gq_12)), (a_depth, .inl (gI G, 15625, .inl gd_13)), (a_by, .inl (gI G, 15625, .inl gb_14)), (a_from, .inl (gI G, 15625, .inl gr_15)), (a_offOf, .inl (gI G, 36, .inl fo1))]) [3, 0, 1, 4, 5, 6, 7, 8, 2] (by decide) rfl)
      refine lv_iconst (v := 0) hx hb dX10_findOffs_33 (by decide) ?_
      refine lv_istore (lv' := [(4, .int 0), (3, .int (nI x)), (0, .ref h1), (1, .int p1), (2, .int (nI hh))]) hx hb dX10_findOffs_34 hl (by decide) rfl (fun ls hl => ?_)
      refine lp_run (x0 := (0, fo1)) (fun xx_ : Nat × (Nat → Int32) => match xx_ with | (y, fo2) => [(h1, .inr (6, [.int (nI k), .ref a_maps, v_told, .ref a_kinds, v_land, v_spades, .ref a_part, v_pad, v_padMany, v_slips, v_slipMany, v_made, .ref a_queue, .ref a_depth, .ref a_by, .ref a_from, .int (nI cm1_11), .ref a_offOf, v_parent, v_best, v_trees, v_least, v_sums, v_toward, v_kept, v_isKept, v_keptAt, v_isWriting])), (a_maps, .inl (gI G, 6, .inl fm)), (a_kinds, .inl (gI G, 4, .inl fk)), (a_part, .inl (gI G, 6, .inl fp)), (a_queue, .inl (gI G, 15625, .inl gq_12)), (a_depth, .inl (gI G, 15625, .inl gd_13)), (a_by, .inl (gI G, 15625, .inl gb_14)), (a_from, .inl (gI G, 15625, .inl gr_15)), (a_offOf, .inl (gI G, 36, .inl fo2))]) (fun xx_ : Nat × (Nat → Int32) => match xx_ with | (y, fo2) => [(4, .int (nI y)), (3, .int (nI x)), (0, .ref h1), (1, .int p1), (2, .int (nI hh))]) (fun xx_ : Nat × (Nat → Int32) => match xx_ with | (y, fo2) => (y ≤ 6)) (fun xx_ : Nat × (Nat → Int32) => match xx_ with | (y, fo2) => 6 - y) (hP.sub [0, 1, 2, 3, 4, 5, 6, 7, 8] rfl) (hD.sub [0, 1, 2, 3, 4, 5, 6, 7, 8] (by decide) rfl) hS (lv_sub hl [0, 1, 2, 3, 4] rfl) (by omega) ?_
      intro xx_ hI ih36 H locs ls hP hD hS hl
      obtain ⟨y, fo2⟩ := xx_
      dsimp only at hI ih36 hP hD hl
      have hy0 := hI
      have hl : lv_has ls 5 [(4, .int (nI y)), (3, .int (nI x)), (0, .ref h1), (1, .int p1), (2, .int (nI hh))] := hl
      have hP : va_P G.1 vwCl ([(h1, .inr (6, [.int (nI k), .ref a_maps, v_told, .ref a_kinds, v_land, v_spades, .ref a_part, v_pad, v_padMany, v_slips, v_slipMany, v_made, .ref a_queue, .ref a_depth, .ref a_by, .ref a_from, .int (nI cm1_11), .ref a_offOf, v_parent, v_best, v_trees, v_least, v_sums, v_toward, v_kept, v_isKept, v_keptAt, v_isWriting])), (a_maps, .inl (gI G, 6, .inl fm)), (a_kinds, .inl (gI G, 4, .inl fk)), (a_part, .inl (gI G, 6, .inl fp)), (a_queue, .inl (gI G, 15625, .inl gq_12)), (a_depth, .inl (gI G, 15625, .inl gd_13)), (a_by, .inl (gI G, 15625, .inl gb_14)), (a_from, .inl (gI G, 15625, .inl gr_15)), (a_offOf, .inl (gI G, 36, .inl fo2))]) H := hP
      have hD : va_D A ([(h1, .inr (6, [.int (nI k), .ref a_maps, v_told, .ref a_kinds, v_land, v_spades, .ref a_part, v_pad, v_padMany, v_slips, v_slipMany, v_made, .ref a_queue, .ref a_depth, .ref a_by, .ref a_from, .int (nI cm1_11), .ref a_offOf, v_parent, v_best, v_trees, v_least, v_sums, v_toward, v_kept, v_isKept, v_keptAt, v_isWriting])), (a_maps, .inl (gI G, 6, .inl fm)), (a_kinds, .inl (gI G, 4, .inl fk)), (a_part, .inl (gI G, 6, .inl fp)), (a_queue, .inl (gI G, 15625, .inl gq_12)), (a_depth, .inl (gI G, 15625, .inl gd_13)), (a_by, .inl (gI G, 15625, .inl gb_14)), (a_from, .inl (gI G, 15625, .inl gr_15)), (a_offOf, .inl (gI G, 36, .inl fo2))]) := hD
      refine lv_iload hx hb dX10_findOffs_36 (lv_at hl 0 rfl) ?_
      refine lv_bipush (v := 6) hx hb dX10_findOffs_38 (by decide) ?_
      refine lv_icmp_ge (tgt := 88) hx hb dX10_findOffs_40 (by decide) (fun c16 => ?_) (fun c16 => ?_)
      · have c16 : 6 ≤ y := (nI_leI (a := 6) (b := y) (by omega) (by omega)).mp c16
        obtain ⟨x17, ex17⟩ : ∃ yy_ : Int32, yy_ = (nI x) + 1 := ⟨_, rfl⟩
        refine lv_iinc (v := x17) (lv' := [(3, .int x17), (4, .int (nI y)), (0, .ref h1), (1, .int p1), (2, .int (nI hh))]) hx hb dX10_findOffs_88 hl (k := 1) rfl (by rw [ex17]; rfl) (by decide) rfl (fun ls hl => ?_)
        obtain rfl : x17 = nI (x + 1) := by rw [ex17]; exact nI_add x 1
        refine lv_goto (tgt := 2) hx hb dX10_findOffs_91 (by decide) ?_
        refine ih2 ((x + 1), nI cm1_11, gq_12, gd_13, gb_14, gr_15, fo2) ?_ (by first | omega | (dsimp only; omega)) H locs ls (hP.sub [0, 1, 2, 3, 4, 5, 6, 7, 8] rfl) (hD.sub [0, 1, 2, 3, 4, 5, 6, 7, 8] (by decide) rfl) hS (lv_sub hl [0, 2, 3, 4] rfl)
        try dsimp only
        omega
      · have c16 : ¬ 6 ≤ y := fun h9_ => c16 ((nI_leI (a := 6) (b := y) (by omega) (by omega)).mpr h9_)
        refine lv_aload_n hx hb dX10_findOffs_43 rfl (lv_at hl 2 rfl) ?_
        refine va_get (D := G.1) (ci := 6) (v := .ref a_offOf) (C := RX10) (T := TX10) (N := 28) hx hb hts (fun _ h => List.mem_cons_of_mem _ (List.mem_append_right _ h)) hown E.K hP 0 rfl rfl 17 (by decide) (hts (.fieldLink RX10 37 "LastMapModel" "offOf" "[I") (by decide +kernel)) (fun _ h9 => h9) rfl dX10_findOffs_44 ?_
        refine lv_bipush (v := 6) hx hb dX10_findOffs_47 (by decide) ?_
        refine lv_iload_n hx hb dX10_findOffs_49 rfl (lv_at hl 1 rfl) ?_
        refine lv_imul hx hb dX10_findOffs_50 ?_
        refine lv_topi (fun x18 ex18 => ?_)
        obtain rfl : x18 = nI (6 * x) := by rw [ex18]; exact pk_mul 6 x
        refine lv_iload hx hb dX10_findOffs_51 (lv_at hl 0 rfl) ?_
        refine lv_iadd hx hb dX10_findOffs_53 ?_
        refine lv_topi (fun x19 ex19 => ?_)
        obtain rfl : x19 = nI ((6 * x) + y) := by rw [ex19]; exact nI_add (6 * x) y
        refine lv_iload_n hx hb dX10_findOffs_54 rfl (lv_at hl 3 rfl) ?_
        refine lv_iload hx hb dX10_findOffs_55 (lv_at hl 0 rfl) ?_
        refine lv_ishr hx hb dX10_findOffs_57 ?_
        refine lv_topi (fun x20 ex20 => ?_)
        refine lv_iconst (v := 1) hx hb dX10_findOffs_58 (by decide) ?_
        refine lv_iand hx hb dX10_findOffs_59 ?_
        refine lv_topi (fun x21 ex21 => ?_)
        refine lv_iconst (v := 1) hx hb dX10_findOffs_60 (by decide) ?_
        refine lv_icmp_ne (tgt := 79) hx hb dX10_findOffs_61 (by decide) (fun c22 => ?_) (fun c22 => ?_)
        · refine lv_bipush (v := (-6)) hx hb dX10_findOffs_79 (by decide) ?_
          refine va_iast hx hb E.K hP hD hS 8 1 rfl rfl (i := nI ((6 * x) + y)) (vp_in_nI (by omega) (by decide)) dX10_findOffs_81 (fun H locs hP hD hS => ?_)
          obtain ⟨f23, ef23⟩ : ∃ yy_ : Nat → Int32, yy_ = upd fo2 (nI ((6 * x) + y)).toNatClampNeg (-6) := ⟨_, rfl⟩
          have hP : va_P G.1 vwCl ([(h1, .inr (6, [.int (nI k), .ref a_maps, v_told, .ref a_kinds, v_land, v_spades, .ref a_part, v_pad, v_padMany, v_slips, v_slipMany, v_made, .ref a_queue, .ref a_depth, .ref a_by, .ref a_from, .int (nI cm1_11), .ref a_offOf, v_parent, v_best, v_trees, v_least, v_sums, v_toward, v_kept, v_isKept, v_keptAt, v_isWriting])), (a_maps, .inl (gI G, 6, .inl fm)), (a_kinds, .inl (gI G, 4, .inl fk)), (a_part, .inl (gI G, 6, .inl fp)), (a_queue, .inl (gI G, 15625, .inl gq_12)), (a_depth, .inl (gI G, 15625, .inl gd_13)), (a_by, .inl (gI G, 15625, .inl gb_14)), (a_from, .inl (gI G, 15625, .inl gr_15)), (a_offOf, .inl (gI G, 36, .inl f23))]) H := by rw [ef23]; exact hP
          have hD : va_D A ([(h1, .inr (6, [.int (nI k), .ref a_maps, v_told, .ref a_kinds, v_land, v_spades, .ref a_part, v_pad, v_padMany, v_slips, v_slipMany, v_made, .ref a_queue, .ref a_depth, .ref a_by, .ref a_from, .int (nI cm1_11), .ref a_offOf, v_parent, v_best, v_trees, v_least, v_sums, v_toward, v_kept, v_isKept, v_keptAt, v_isWriting])), (a_maps, .inl (gI G, 6, .inl fm)), (a_kinds, .inl (gI G, 4, .inl fk)), (a_part, .inl (gI G, 6, .inl fp)), (a_queue, .inl (gI G, 15625, .inl gq_12)), (a_depth, .inl (gI G, 15625, .inl gd_13)), (a_by, .inl (gI G, 15625, .inl gb_14)), (a_from, .inl (gI G, 15625, .inl gr_15)), (a_offOf, .inl (gI G, 36, .inl f23))]) := by rw [ef23]; exact hD
          obtain ⟨x24, ex24⟩ : ∃ yy_ : Int32, yy_ = (nI y) + 1 := ⟨_, rfl⟩
          refine lv_iinc (v := x24) (lv' := [(4, .int x24), (3, .int (nI x)), (0, .ref h1), (1, .int p1), (2, .int (nI hh))]) hx hb dX10_findOffs_82 hl (k := 0) rfl (by rw [ex24]; rfl) (by decide) rfl (fun ls hl => ?_)
          obtain rfl : x24 = nI (y + 1) := by rw [ex24]; exact nI_add y 1
          refine lv_goto (tgt := 36) hx hb dX10_findOffs_85 (by decide) ?_
          refine ih36 ((y + 1), f23) ?_ (by first | omega | (dsimp only; omega)) H locs ls (hP.sub [0, 1, 2, 3, 4, 5, 6, 7, 8] rfl) (hD.sub [0, 1, 2, 3, 4, 5, 6, 7, 8] (by decide) rfl) hS (lv_sub hl [0, 1, 2, 3, 4] rfl)
          try dsimp only
          omega
        · refine lv_aload_n hx hb dX10_findOffs_64 rfl (lv_at hl 2 rfl) ?_
          refine va_get (D := G.1) (ci := 6) (v := .ref a_depth) (C := RX10) (T := TX10) (N := 28) hx hb hts (fun _ h => List.mem_cons_of_mem _ (List.mem_append_right _ h)) hown E.K hP 0 rfl rfl 13 (by decide) (hts (.fieldLink RX10 28 "LastMapModel" "depth" "[I") (by decide +kernel)) (fun _ h9 => h9) rfl dX10_findOffs_65 ?_
          refine lv_aload_n hx hb dX10_findOffs_68 rfl (lv_at hl 2 rfl) ?_
          refine va_get (D := G.1) (ci := 6) (v := .ref a_maps) (C := RX10) (T := TX10) (N := 28) hx hb hts (fun _ h => List.mem_cons_of_mem _ (List.mem_append_right _ h)) hown E.K hP 0 rfl rfl 1 (by decide) (hts (.fieldLink RX10 7 "LastMapModel" "maps" "[I") (by decide +kernel)) (fun _ h9 => h9) rfl dX10_findOffs_69 ?_
          refine lv_iload hx hb dX10_findOffs_72 (lv_at hl 0 rfl) ?_
          refine va_iald hx hb E.K hP 1 1 rfl rfl (i := nI y) (vp_in_nI (by omega) (by decide)) dX10_findOffs_74 ?_
          refine lv_topi (fun x25 ex25 => ?_)
          obtain ⟨a_x25, ha_x25, hvx25⟩ := hfm y (by omega)
          obtain rfl : x25 = nI a_x25 := by rw [ex25, nI_clamp (by omega)]; exact hvx25
          refine va_iald hx hb E.K hP 5 1 rfl rfl (i := nI a_x25) (vp_in_nI (by omega) (by decide)) dX10_findOffs_75 ?_
          refine lv_topi (fun x26 ex26 => ?_)
          refine lv_goto (tgt := 81) hx hb dX10_findOffs_76 (by decide) ?_
          refine va_iast hx hb E.K hP hD hS 8 1 rfl rfl (i := nI ((6 * x) + y)) (vp_in_nI (by omega) (by decide)) dX10_findOffs_81 (fun H locs hP hD hS => ?_)
          obtain ⟨f27, ef27⟩ : ∃ yy_ : Nat → Int32, yy_ = upd fo2 (nI ((6 * x) + y)).toNatClampNeg x26 := ⟨_, rfl⟩
          have hP : va_P G.1 vwCl ([(h1, .inr (6, [.int (nI k), .ref a_maps, v_told, .ref a_kinds, v_land, v_spades, .ref a_part, v_pad, v_padMany, v_slips, v_slipMany, v_made, .ref a_queue, .ref a_depth, .ref a_by, .ref a_from, .int (nI cm1_11), .ref a_offOf, v_parent, v_best, v_trees, v_least, v_sums, v_toward, v_kept, v_isKept, v_keptAt, v_isWriting])), (a_maps, .inl (gI G, 6, .inl fm)), (a_kinds, .inl (gI G, 4, .inl fk)), (a_part, .inl (gI G, 6, .inl fp)), (a_queue, .inl (gI G, 15625, .inl gq_12)), (a_depth, .inl (gI G, 15625, .inl gd_13)), (a_by, .inl (gI G, 15625, .inl gb_14)), (a_from, .inl (gI G, 15625, .inl gr_15)), (a_offOf, .inl (gI G, 36, .inl f27))]) H := by rw [ef27]; exact hP
          have hD : va_D A ([(h1, .inr (6, [.int (nI k), .ref a_maps, v_told, .ref a_kinds, v_land, v_spades, .ref a_part, v_pad, v_padMany, v_slips, v_slipMany, v_made, .ref a_queue, .ref a_depth, .ref a_by, .ref a_from, .int (nI cm1_11), .ref a_offOf, v_parent, v_best, v_trees, v_least, v_sums, v_toward, v_kept, v_isKept, v_keptAt, v_isWriting])), (a_maps, .inl (gI G, 6, .inl fm)), (a_kinds, .inl (gI G, 4, .inl fk)), (a_part, .inl (gI G, 6, .inl fp)), (a_queue, .inl (gI G, 15625, .inl gq_12)), (a_depth, .inl (gI G, 15625, .inl gd_13)), (a_by, .inl (gI G, 15625, .inl gb_14)), (a_from, .inl (gI G, 15625, .inl gr_15)), (a_offOf, .inl (gI G, 36, .inl f27))]) := by rw [ef27]; exact hD
          obtain ⟨x28, ex28⟩ : ∃ yy_ : Int32, yy_ = (nI y) + 1 := ⟨_, rfl⟩
          refine lv_iinc (v := x28) (lv' := [(4, .int x28), (3, .int (nI x)), (0, .ref h1), (1, .int p1), (2, .int (nI hh))]) hx hb dX10_findOffs_82 hl (k := 0) rfl (by rw [ex28]; rfl) (by decide) rfl (fun ls hl => ?_)
          obtain rfl : x28 = nI (y + 1) := by rw [ex28]; exact nI_add y 1
          refine lv_goto (tgt := 36) hx hb dX10_findOffs_85 (by decide) ?_
          refine ih36 ((y + 1), f27) ?_ (by first | omega | (dsimp only; omega)) H locs ls (hP.sub [0, 1, 2, 3, 4, 5, 6, 7, 8] rfl) (hD.sub [0, 1, 2, 3, 4, 5, 6, 7, 8] (by decide) rfl) hS (lv_sub hl [0, 1, 2, 3, 4] rfl)
          try dsimp only
          omega

set_option maxHeartbeats 1000000 in
set_option maxRecDepth 100000 in
theorem m_noRounds (l : Launch) (G : Gy) (sz : Nat) (h1 : Nat) (v_sites : Value) (v_maps : Value) (v_told : Value) (v_kinds : Value) (v_land : Value) (v_spades : Value) (v_part : Value) (v_pad : Value) (v_padMany : Value) (v_slips : Value) (v_slipMany : Value) (v_made : Value) (v_queue : Value) (v_depth : Value) (v_by : Value) (v_from : Value) (v_come : Value) (v_offOf : Value) (v_best : Value) (v_trees : Value) (v_least : Value) (v_sums : Value) (v_toward : Value) (v_kept : Value) (v_isKept : Value) (v_keptAt : Value) (v_isWriting : Value) (a_parent : Nat) (fpa : Nat → Int32) (p1 : Int32) (hpa : parOK fpa) : Ci l G yX10_noRounds wsX10_noRounds ({ frames := 0, cells := 0, slots := 0, locals := 0 }) [.ref h1, .int p1] ([(h1, .inr (6, [v_sites, v_maps, v_told, v_kinds, v_land, v_spades, v_part, v_pad, v_padMany, v_slips, v_slipMany, v_made, v_queue, v_depth, v_by, v_from, v_come, v_offOf, .ref a_parent, v_best, v_trees, v_least, v_sums, v_toward, v_kept, v_isKept, v_keptAt, v_isWriting])), (a_parent, .inl (gI G, 6, .inl fpa))]) sz (fun (r : Int32) (_ : Unit) => (r = 1 ∧ True) ∨ (r = 0 ∧ True)) (fun (_ : Unit) => [(h1, .inr (6, [v_sites, v_maps, v_told, v_kinds, v_land, v_spades, v_part, v_pad, v_padMany, v_slips, v_slipMany, v_made, v_queue, v_depth, v_by, v_from, v_come, v_offOf, .ref a_parent, v_best, v_trees, v_least, v_sums, v_toward, v_kept, v_isKept, v_keptAt, v_isWriting])), (a_parent, .inl (gI G, 6, .inl fpa))]) 0 0 := by
  refine Met.ofW (cc := cX10_noRounds) (maxL := 6) (ret := (some .boolean)) (by decide) rfl ?_
  intro p e s m args below meth c s₁ B hml hv
  obtain ⟨rfl, hsz, hP, hD0, E0⟩ := hv
  have hx := B.exec
  have hb := B.bytes
  have hr := B.returns
  have hts := atoms_spec (ws := wsX10_noRounds) B.pre
  have hown : s.vm.findClass RX10 = some m.cls := findClass_of_methodNamed B.named
  have hlocks := B.notSynchronized
  subst hsz
  have hD := hD0.self (sz := s.heap.size)
  generalize hAe : va_A ([(h1, .inr (6, [v_sites, v_maps, v_told, v_kinds, v_land, v_spades, v_part, v_pad, v_padMany, v_slips, v_slipMany, v_made, v_queue, v_depth, v_by, v_from, v_come, v_offOf, .ref a_parent, v_best, v_trees, v_least, v_sums, v_toward, v_kept, v_isKept, v_keptAt, v_isWriting])), (a_parent, .inl (gI G, 6, .inl fpa))]) s.heap.size = A at hD E0 ⊢
  have E : EV G A s s.heap := E0
  have hA : ∀ q : Nat, s.heap.size ≤ q → A q := fun q h => by rw [← hAe]; exact Or.inr h
  have hS : va_S A s.heap s.heap [] := va_S.rf
  have hl := lv_entry ([.ref h1, .int p1]) (n := 6) (Nat.le_of_ble_eq_true rfl)
  rw [lg_entry_eq]
  generalize (lg_sl ([.ref h1, .int p1]) ++ List.replicate (6 - (lg_sl ([.ref h1, .int p1])).length) Slot.unset).toArray = ls at hl ⊢
  have hl : lv_has ls 6 [(0, .ref h1), (1, .int p1)] := hl
  have hP : va_P G.1 vwCl ([(h1, .inr (6, [v_sites, v_maps, v_told, v_kinds, v_land, v_spades, v_part, v_pad, v_padMany, v_slips, v_slipMany, v_made, v_queue, v_depth, v_by, v_from, v_come, v_offOf, .ref a_parent, v_best, v_trees, v_least, v_sums, v_toward, v_kept, v_isKept, v_keptAt, v_isWriting])), (a_parent, .inl (gI G, 6, .inl fpa))]) s.heap := hP
  refine lv_iconst (v := 1) hx hb dX10_noRounds_0 (by decide) ?_
  refine lv_istore_n (lv' := [(2, .int 1), (0, .ref h1), (1, .int p1)]) hx hb dX10_noRounds_1 rfl hl (by decide) rfl (fun ls hl => ?_)
  refine lv_iconst (v := 0) hx hb dX10_noRounds_2 (by decide) ?_
  refine lv_istore_n (lv' := [(3, .int 0), (2, .int 1), (0, .ref h1), (1, .int p1)]) hx hb dX10_noRounds_3 rfl hl (by decide) rfl (fun ls hl => ?_)
  refine lp_run (x0 := (0, 1)) (fun xx_ : Nat × Int32 => match xx_ with | (x, no) => [(h1, .inr (6, [v_sites, v_maps, v_told, v_kinds, v_land, v_spades, v_part, v_pad, v_padMany, v_slips, v_slipMany, v_made, v_queue, v_depth, v_by, v_from, v_come, v_offOf, .ref a_parent, v_best, v_trees, v_least, v_sums, v_toward, v_kept, v_isKept, v_keptAt, v_isWriting])), (a_parent, .inl (gI G, 6, .inl fpa))]) (fun xx_ : Nat × Int32 => match xx_ with | (x, no) => [(3, .int (nI x)), (2, .int no), (0, .ref h1), (1, .int p1)]) (fun xx_ : Nat × Int32 => match xx_ with | (x, no) => (x ≤ 6) ∧ (no = 0 ∨ no = 1)) (fun xx_ : Nat × Int32 => match xx_ with | (x, no) => 6 - x) (hP.sub [0, 1] rfl) (hD.sub [0, 1] (by decide) rfl) hS (lv_sub hl [0, 1, 2, 3] rfl) ⟨(by omega), Or.inr rfl⟩ ?_
  intro xx_ hI ih4 H locs ls hP hD hS hl
  obtain ⟨x, no⟩ := xx_
  dsimp only at hI ih4 hP hD hl
  obtain ⟨hx0, hno⟩ := hI
  have hl : lv_has ls 6 [(3, .int (nI x)), (2, .int no), (0, .ref h1), (1, .int p1)] := hl
  have hP : va_P G.1 vwCl ([(h1, .inr (6, [v_sites, v_maps, v_told, v_kinds, v_land, v_spades, v_part, v_pad, v_padMany, v_slips, v_slipMany, v_made, v_queue, v_depth, v_by, v_from, v_come, v_offOf, .ref a_parent, v_best, v_trees, v_least, v_sums, v_toward, v_kept, v_isKept, v_keptAt, v_isWriting])), (a_parent, .inl (gI G, 6, .inl fpa))]) H := hP
  have hD : va_D A ([(h1, .inr (6, [v_sites, v_maps, v_told, v_kinds, v_land, v_spades, v_part, v_pad, v_padMany, v_slips, v_slipMany, v_made, v_queue, v_depth, v_by, v_from, v_come, v_offOf, .ref a_parent, v_best, v_trees, v_least, v_sums, v_toward, v_kept, v_isKept, v_keptAt, v_isWriting])), (a_parent, .inl (gI G, 6, .inl fpa))]) := hD
  refine lv_iload_n hx hb dX10_noRounds_4 rfl (lv_at hl 0 rfl) ?_
  refine lv_bipush (v := 6) hx hb dX10_noRounds_5 (by decide) ?_
  refine lv_icmp_ge (tgt := 76) hx hb dX10_noRounds_7 (by decide) (fun c1 => ?_) (fun c1 => ?_)
  · have c1 : 6 ≤ x := (nI_leI (a := 6) (b := x) (by omega) (by omega)).mp c1
    refine lv_iload_n hx hb dX10_noRounds_76 rfl (lv_at hl 1 rfl) ?_
    have hP9 := (hP.sub (ws' := [(h1, .inr (6, [v_sites, v_maps, v_told, v_kinds, v_land, v_spades, v_part, v_pad, v_padMany, v_slips, v_slipMany, v_made, v_queue, v_depth, v_by, v_from, v_come, v_offOf, .ref a_parent, v_best, v_trees, v_least, v_sums, v_toward, v_kept, v_isKept, v_keptAt, v_isWriting])), (a_parent, .inl (gI G, 6, .inl fpa))]) [0, 1] rfl)
    have hD9 := (hD.sub (ws' := [(h1, .inr (6, [v_sites, v_maps, v_told, v_kinds, v_land, v_spades, v_part, v_pad, v_padMany, v_slips, v_slipMany, v_made, v_queue, v_depth, v_by, v_from, v_come, v_offOf, .ref a_parent, v_best, v_trees, v_least, v_sums, v_toward, v_kept, v_isKept, v_keptAt, v_isWriting])), (a_parent, .inl (gI G, 6, .inl fpa))]) [0, 1] (by decide) rfl)
    exact W.zret (v := no) hx hb hr (by rcases hno with q | q <;> rw [q] <;> decide) (fun t9_ ht9_ hW9_ => ⟨⟨no, (), rfl, hno.elim (fun q => Or.inr ⟨q, trivial⟩) (fun q => Or.inl ⟨q, trivial⟩), by rw [ht9_]; exact hP9, hD9⟩, hS.F ht9_⟩) hS.2.2 dX10_noRounds_77
  · have c1 : ¬ 6 ≤ x := fun h9_ => c1 ((nI_leI (a := 6) (b := x) (by omega) (by omega)).mpr h9_)
    refine lv_iload_n hx hb dX10_noRounds_10 rfl (lv_at hl 0 rfl) ?_
    refine lv_istore (lv' := [(4, .int (nI x)), (3, .int (nI x)), (2, .int no), (0, .ref h1), (1, .int p1)]) hx hb dX10_noRounds_11 hl (by decide) rfl (fun ls hl => ?_)
    refine lv_iconst (v := 0) hx hb dX10_noRounds_13 (by decide) ?_
    refine lv_istore (lv' := [(5, .int 0), (4, .int (nI x)), (3, .int (nI x)), (2, .int no), (0, .ref h1), (1, .int p1)]) hx hb dX10_noRounds_14 hl (by decide) rfl (fun ls hl => ?_)
    refine lp_run (x0 := (0, x)) (fun xx_ : Nat × Nat => match xx_ with | (y, nw) => [(h1, .inr (6, [v_sites, v_maps, v_told, v_kinds, v_land, v_spades, v_part, v_pad, v_padMany, v_slips, v_slipMany, v_made, v_queue, v_depth, v_by, v_from, v_come, v_offOf, .ref a_parent, v_best, v_trees, v_least, v_sums, v_toward, v_kept, v_isKept, v_keptAt, v_isWriting])), (a_parent, .inl (gI G, 6, .inl fpa))]) (fun xx_ : Nat × Nat => match xx_ with | (y, nw) => [(5, .int (nI y)), (4, .int (nI nw)), (3, .int (nI x)), (2, .int no), (0, .ref h1), (1, .int p1)]) (fun xx_ : Nat × Nat => match xx_ with | (y, nw) => (y ≤ 6) ∧ (nw ≤ 6)) (fun xx_ : Nat × Nat => match xx_ with | (y, nw) => 6 - y) (hP.sub [0, 1] rfl) (hD.sub [0, 1] (by decide) rfl) hS (lv_sub hl [0, 1, 2, 3, 4, 5] rfl) ⟨(by omega), by omega⟩ ?_
    intro xx_ hI ih16 H locs ls hP hD hS hl
    obtain ⟨y, nw⟩ := xx_
    dsimp only at hI ih16 hP hD hl
    obtain ⟨hy0, hnw⟩ := hI
    have hl : lv_has ls 6 [(5, .int (nI y)), (4, .int (nI nw)), (3, .int (nI x)), (2, .int no), (0, .ref h1), (1, .int p1)] := hl
    have hP : va_P G.1 vwCl ([(h1, .inr (6, [v_sites, v_maps, v_told, v_kinds, v_land, v_spades, v_part, v_pad, v_padMany, v_slips, v_slipMany, v_made, v_queue, v_depth, v_by, v_from, v_come, v_offOf, .ref a_parent, v_best, v_trees, v_least, v_sums, v_toward, v_kept, v_isKept, v_keptAt, v_isWriting])), (a_parent, .inl (gI G, 6, .inl fpa))]) H := hP
    have hD : va_D A ([(h1, .inr (6, [v_sites, v_maps, v_told, v_kinds, v_land, v_spades, v_part, v_pad, v_padMany, v_slips, v_slipMany, v_made, v_queue, v_depth, v_by, v_from, v_come, v_offOf, .ref a_parent, v_best, v_trees, v_least, v_sums, v_toward, v_kept, v_isKept, v_keptAt, v_isWriting])), (a_parent, .inl (gI G, 6, .inl fpa))]) := hD
    refine lv_iload hx hb dX10_noRounds_16 (lv_at hl 0 rfl) ?_
    refine lv_bipush (v := 6) hx hb dX10_noRounds_18 (by decide) ?_
    refine lv_icmp_ge (tgt := 45) hx hb dX10_noRounds_20 (by decide) (fun c2 => ?_) (fun c2 => ?_)
    · have c2 : 6 ≤ y := (nI_leI (a := 6) (b := y) (by omega) (by omega)).mp c2
      refine lv_iload_n hx hb dX10_noRounds_45 rfl (lv_at hl 3 rfl) ?_
      refine lv_if_eq (tgt := 68) hx hb dX10_noRounds_46 (by decide) (fun c3 => ?_) (fun c3 => ?_)
      · refine lv_iconst (v := 0) hx hb dX10_noRounds_68 (by decide) ?_
        refine lv_istore_n (lv' := [(2, .int 0), (5, .int (nI y)), (4, .int (nI nw)), (3, .int (nI x)), (0, .ref h1), (1, .int p1)]) hx hb dX10_noRounds_69 rfl hl (by decide) rfl (fun ls hl => ?_)
        obtain ⟨x4, ex4⟩ : ∃ yy_ : Int32, yy_ = (nI x) + 1 := ⟨_, rfl⟩
        refine lv_iinc (v := x4) (lv' := [(3, .int x4), (2, .int 0), (5, .int (nI y)), (4, .int (nI nw)), (0, .ref h1), (1, .int p1)]) hx hb dX10_noRounds_70 hl (k := 3) rfl (by rw [ex4]; rfl) (by decide) rfl (fun ls hl => ?_)
        obtain rfl : x4 = nI (x + 1) := by rw [ex4]; exact nI_add x 1
        refine lv_goto (tgt := 4) hx hb dX10_noRounds_73 (by decide) ?_
        refine ih4 ((x + 1), 0) ⟨?_, ?_⟩ (by first | omega | (dsimp only; omega)) H locs ls (hP.sub [0, 1] rfl) (hD.sub [0, 1] (by decide) rfl) hS (lv_sub hl [0, 1, 4, 5] rfl)
        · try dsimp only
          omega
        · try dsimp only
          exact Or.inl rfl
      · refine lv_iload_n hx hb dX10_noRounds_49 rfl (lv_at hl 5 rfl) ?_
        refine lv_iload_n hx hb dX10_noRounds_50 rfl (lv_at hl 2 rfl) ?_
        refine lv_ishr hx hb dX10_noRounds_51 ?_
        refine lv_topi (fun x5 ex5 => ?_)
        refine lv_iconst (v := 1) hx hb dX10_noRounds_52 (by decide) ?_
        refine lv_iand hx hb dX10_noRounds_53 ?_
        refine lv_topi (fun x6 ex6 => ?_)
        refine lv_if_eq (tgt := 64) hx hb dX10_noRounds_54 (by decide) (fun c7 => ?_) (fun c7 => ?_)
        · refine lv_iconst (v := 1) hx hb dX10_noRounds_64 (by decide) ?_
          refine lv_goto (tgt := 69) hx hb dX10_noRounds_65 (by decide) ?_
          refine lv_istore_n (lv' := [(2, .int 1), (5, .int (nI y)), (4, .int (nI nw)), (3, .int (nI x)), (0, .ref h1), (1, .int p1)]) hx hb dX10_noRounds_69 rfl hl (by decide) rfl (fun ls hl => ?_)
          obtain ⟨x8, ex8⟩ : ∃ yy_ : Int32, yy_ = (nI x) + 1 := ⟨_, rfl⟩
          refine lv_iinc (v := x8) (lv' := [(3, .int x8), (2, .int 1), (5, .int (nI y)), (4, .int (nI nw)), (0, .ref h1), (1, .int p1)]) hx hb dX10_noRounds_70 hl (k := 3) rfl (by rw [ex8]; rfl) (by decide) rfl (fun ls hl => ?_)
          obtain rfl : x8 = nI (x + 1) := by rw [ex8]; exact nI_add x 1
          refine lv_goto (tgt := 4) hx hb dX10_noRounds_73 (by decide) ?_
          refine ih4 ((x + 1), 1) ⟨?_, ?_⟩ (by first | omega | (dsimp only; omega)) H locs ls (hP.sub [0, 1] rfl) (hD.sub [0, 1] (by decide) rfl) hS (lv_sub hl [0, 1, 4, 5] rfl)
          · try dsimp only
            omega
          · try dsimp only
            exact Or.inr rfl
        · refine lv_iload hx hb dX10_noRounds_57 (lv_at hl 1 rfl) ?_
          refine lv_bipush (v := 6) hx hb dX10_noRounds_59 (by decide) ?_
          refine lv_icmp_ne (tgt := 68) hx hb dX10_noRounds_61 (by decide) (fun c9 => ?_) (fun c9 => ?_)
          · have c9 : ¬ nw = 6 := fun h9_ => c9 ((nI_eq (a := nw) (b := 6) (by omega) (by omega)).mpr h9_)
            refine lv_iconst (v := 0) hx hb dX10_noRounds_68 (by decide) ?_
            refine lv_istore_n (lv' := [(2, .int 0), (5, .int (nI y)), (4, .int (nI nw)), (3, .int (nI x)), (0, .ref h1), (1, .int p1)]) hx hb dX10_noRounds_69 rfl hl (by decide) rfl (fun ls hl => ?_)
            obtain ⟨x10, ex10⟩ : ∃ yy_ : Int32, yy_ = (nI x) + 1 := ⟨_, rfl⟩
            refine lv_iinc (v := x10) (lv' := [(3, .int x10), (2, .int 0), (5, .int (nI y)), (4, .int (nI nw)), (0, .ref h1), (1, .int p1)]) hx hb dX10_noRounds_70 hl (k := 3) rfl (by rw [ex10]; rfl) (by decide) rfl (fun ls hl => ?_)
            obtain rfl : x10 = nI (x + 1) := by rw [ex10]; exact nI_add x 1
            refine lv_goto (tgt := 4) hx hb dX10_noRounds_73 (by decide) ?_
            refine ih4 ((x + 1), 0) ⟨?_, ?_⟩ (by first | omega | (dsimp only; omega)) H locs ls (hP.sub [0, 1] rfl) (hD.sub [0, 1] (by decide) rfl) hS (lv_sub hl [0, 1, 4, 5] rfl)
            · try dsimp only
              omega
            · try dsimp only
              exact Or.inl rfl
          · have c9 : nw = 6 := (nI_eq (a := nw) (b := 6) (by omega) (by omega)).mp c9
            refine lv_iconst (v := 1) hx hb dX10_noRounds_64 (by decide) ?_
            refine lv_goto (tgt := 69) hx hb dX10_noRounds_65 (by decide) ?_
            refine lv_istore_n (lv' := [(2, .int 1), (5, .int (nI y)), (4, .int (nI nw)), (3, .int (nI x)), (0, .ref h1), (1, .int p1)]) hx hb dX10_noRounds_69 rfl hl (by decide) rfl (fun ls hl => ?_)
            obtain ⟨x11, ex11⟩ : ∃ yy_ : Int32, yy_ = (nI x) + 1 := ⟨_, rfl⟩
            refine lv_iinc (v := x11) (lv' := [(3, .int x11), (2, .int 1), (5, .int (nI y)), (4, .int (nI nw)), (0, .ref h1), (1, .int p1)]) hx hb dX10_noRounds_70 hl (k := 3) rfl (by rw [ex11]; rfl) (by decide) rfl (fun ls hl => ?_)
            obtain rfl : x11 = nI (x + 1) := by rw [ex11]; exact nI_add x 1
            refine lv_goto (tgt := 4) hx hb dX10_noRounds_73 (by decide) ?_
            refine ih4 ((x + 1), 1) ⟨?_, ?_⟩ (by first | omega | (dsimp only; omega)) H locs ls (hP.sub [0, 1] rfl) (hD.sub [0, 1] (by decide) rfl) hS (lv_sub hl [0, 1, 4, 5] rfl)
            · try dsimp only
              omega
            · try dsimp only
              exact Or.inr rfl
    · have c2 : ¬ 6 ≤ y := fun h9_ => c2 ((nI_leI (a := 6) (b := y) (by omega) (by omega)).mpr h9_)
      refine lv_iload hx hb dX10_noRounds_23 (lv_at hl 1 rfl) ?_
      refine lv_bipush (v := 6) hx hb dX10_noRounds_25 (by decide) ?_
      refine lv_icmp_ge (tgt := 45) hx hb dX10_noRounds_27 (by decide) (fun c12 => ?_) (fun c12 => ?_)
      · have c12 : 6 ≤ nw := (nI_leI (a := 6) (b := nw) (by omega) (by omega)).mp c12
        refine lv_iload_n hx hb dX10_noRounds_45 rfl (lv_at hl 3 rfl) ?_
        refine lv_if_eq (tgt := 68) hx hb dX10_noRounds_46 (by decide) (fun c13 => ?_) (fun c13 => ?_)
        · refine lv_iconst (v := 0) hx hb dX10_noRounds_68 (by decide) ?_
          refine lv_istore_n (lv' := [(2, .int 0), (5, .int (nI y)), (4, .int (nI nw)), (3, .int (nI x)), (0, .ref h1), (1, .int p1)]) hx hb dX10_noRounds_69 rfl hl (by decide) rfl (fun ls hl => ?_)
          obtain ⟨x14, ex14⟩ : ∃ yy_ : Int32, yy_ = (nI x) + 1 := ⟨_, rfl⟩
          refine lv_iinc (v := x14) (lv' := [(3, .int x14), (2, .int 0), (5, .int (nI y)), (4, .int (nI nw)), (0, .ref h1), (1, .int p1)]) hx hb dX10_noRounds_70 hl (k := 3) rfl (by rw [ex14]; rfl) (by decide) rfl (fun ls hl => ?_)
          obtain rfl : x14 = nI (x + 1) := by rw [ex14]; exact nI_add x 1
          refine lv_goto (tgt := 4) hx hb dX10_noRounds_73 (by decide) ?_
          refine ih4 ((x + 1), 0) ⟨?_, ?_⟩ (by first | omega | (dsimp only; omega)) H locs ls (hP.sub [0, 1] rfl) (hD.sub [0, 1] (by decide) rfl) hS (lv_sub hl [0, 1, 4, 5] rfl)
          · try dsimp only
            omega
          · try dsimp only
            exact Or.inl rfl
        · refine lv_iload_n hx hb dX10_noRounds_49 rfl (lv_at hl 5 rfl) ?_
          refine lv_iload_n hx hb dX10_noRounds_50 rfl (lv_at hl 2 rfl) ?_
          refine lv_ishr hx hb dX10_noRounds_51 ?_
          refine lv_topi (fun x15 ex15 => ?_)
          refine lv_iconst (v := 1) hx hb dX10_noRounds_52 (by decide) ?_
          refine lv_iand hx hb dX10_noRounds_53 ?_
          refine lv_topi (fun x16 ex16 => ?_)
          refine lv_if_eq (tgt := 64) hx hb dX10_noRounds_54 (by decide) (fun c17 => ?_) (fun c17 => ?_)
          · refine lv_iconst (v := 1) hx hb dX10_noRounds_64 (by decide) ?_
            refine lv_goto (tgt := 69) hx hb dX10_noRounds_65 (by decide) ?_
            refine lv_istore_n (lv' := [(2, .int 1), (5, .int (nI y)), (4, .int (nI nw)), (3, .int (nI x)), (0, .ref h1), (1, .int p1)]) hx hb dX10_noRounds_69 rfl hl (by decide) rfl (fun ls hl => ?_)
            obtain ⟨x18, ex18⟩ : ∃ yy_ : Int32, yy_ = (nI x) + 1 := ⟨_, rfl⟩
            refine lv_iinc (v := x18) (lv' := [(3, .int x18), (2, .int 1), (5, .int (nI y)), (4, .int (nI nw)), (0, .ref h1), (1, .int p1)]) hx hb dX10_noRounds_70 hl (k := 3) rfl (by rw [ex18]; rfl) (by decide) rfl (fun ls hl => ?_)
            obtain rfl : x18 = nI (x + 1) := by rw [ex18]; exact nI_add x 1
            refine lv_goto (tgt := 4) hx hb dX10_noRounds_73 (by decide) ?_
            refine ih4 ((x + 1), 1) ⟨?_, ?_⟩ (by first | omega | (dsimp only; omega)) H locs ls (hP.sub [0, 1] rfl) (hD.sub [0, 1] (by decide) rfl) hS (lv_sub hl [0, 1, 4, 5] rfl)
            · try dsimp only
              omega
            · try dsimp only
              exact Or.inr rfl
          · refine lv_iload hx hb dX10_noRounds_57 (lv_at hl 1 rfl) ?_
            refine lv_bipush (v := 6) hx hb dX10_noRounds_59 (by decide) ?_
            refine lv_icmp_ne (tgt := 68) hx hb dX10_noRounds_61 (by decide) (fun c19 => ?_) (fun c19 => ?_)
            · have c19 : ¬ nw = 6 := fun h9_ => c19 ((nI_eq (a := nw) (b := 6) (by omega) (by omega)).mpr h9_)
              refine lv_iconst (v := 0) hx hb dX10_noRounds_68 (by decide) ?_
              refine lv_istore_n (lv' := [(2, .int 0), (5, .int (nI y)), (4, .int (nI nw)), (3, .int (nI x)), (0, .ref h1), (1, .int p1)]) hx hb dX10_noRounds_69 rfl hl (by decide) rfl (fun ls hl => ?_)
              obtain ⟨x20, ex20⟩ : ∃ yy_ : Int32, yy_ = (nI x) + 1 := ⟨_, rfl⟩
              refine lv_iinc (v := x20) (lv' := [(3, .int x20), (2, .int 0), (5, .int (nI y)), (4, .int (nI nw)), (0, .ref h1), (1, .int p1)]) hx hb dX10_noRounds_70 hl (k := 3) rfl (by rw [ex20]; rfl) (by decide) rfl (fun ls hl => ?_)
              obtain rfl : x20 = nI (x + 1) := by rw [ex20]; exact nI_add x 1
              refine lv_goto (tgt := 4) hx hb dX10_noRounds_73 (by decide) ?_
              refine ih4 ((x + 1), 0) ⟨?_, ?_⟩ (by first | omega | (dsimp only; omega)) H locs ls (hP.sub [0, 1] rfl) (hD.sub [0, 1] (by decide) rfl) hS (lv_sub hl [0, 1, 4, 5] rfl)
              · try dsimp only
                omega
              · try dsimp only
                exact Or.inl rfl
            · have c19 : nw = 6 := (nI_eq (a := nw) (b := 6) (by omega) (by omega)).mp c19
              refine lv_iconst (v := 1) hx hb dX10_noRounds_64 (by decide) ?_
              refine lv_goto (tgt := 69) hx hb dX10_noRounds_65 (by decide) ?_
              refine lv_istore_n (lv' := [(2, .int 1), (5, .int (nI y)), (4, .int (nI nw)), (3, .int (nI x)), (0, .ref h1), (1, .int p1)]) hx hb dX10_noRounds_69 rfl hl (by decide) rfl (fun ls hl => ?_)
              obtain ⟨x21, ex21⟩ : ∃ yy_ : Int32, yy_ = (nI x) + 1 := ⟨_, rfl⟩
              refine lv_iinc (v := x21) (lv' := [(3, .int x21), (2, .int 1), (5, .int (nI y)), (4, .int (nI nw)), (0, .ref h1), (1, .int p1)]) hx hb dX10_noRounds_70 hl (k := 3) rfl (by rw [ex21]; rfl) (by decide) rfl (fun ls hl => ?_)
              obtain rfl : x21 = nI (x + 1) := by rw [ex21]; exact nI_add x 1
              refine lv_goto (tgt := 4) hx hb dX10_noRounds_73 (by decide) ?_
              refine ih4 ((x + 1), 1) ⟨?_, ?_⟩ (by first | omega | (dsimp only; omega)) H locs ls (hP.sub [0, 1] rfl) (hD.sub [0, 1] (by decide) rfl) hS (lv_sub hl [0, 1, 4, 5] rfl)
              · try dsimp only
                omega
              · try dsimp only
                exact Or.inr rfl
      · have c12 : ¬ 6 ≤ nw := fun h9_ => c12 ((nI_leI (a := 6) (b := nw) (by omega) (by omega)).mpr h9_)
        refine lv_aload_n hx hb dX10_noRounds_30 rfl (lv_at hl 4 rfl) ?_
        refine va_get (D := G.1) (ci := 6) (v := .ref a_parent) (C := RX10) (T := TX10) (N := 28) hx hb hts (fun _ h => List.mem_cons_of_mem _ (List.mem_append_right _ h)) hown E.K hP 0 rfl rfl 18 (by decide) (hts (.fieldLink RX10 40 "LastMapModel" "parent" "[I") (by decide +kernel)) (fun _ h9 => h9) rfl dX10_noRounds_31 ?_
        refine lv_iload hx hb dX10_noRounds_34 (lv_at hl 1 rfl) ?_
        refine va_iald hx hb E.K hP 1 1 rfl rfl (i := nI nw) (vp_in_nI (by omega) (by decide)) dX10_noRounds_36 ?_
        refine lv_topi (fun x22 ex22 => ?_)
        obtain ⟨a_x22, ha_x22, hvx22⟩ := hpa nw (by omega)
        obtain rfl : x22 = nI a_x22 := by rw [ex22, nI_clamp (by omega)]; exact hvx22
        refine lv_istore (lv' := [(4, .int (nI a_x22)), (5, .int (nI y)), (3, .int (nI x)), (2, .int no), (0, .ref h1), (1, .int p1)]) hx hb dX10_noRounds_37 hl (by decide) rfl (fun ls hl => ?_)
        obtain ⟨x23, ex23⟩ : ∃ yy_ : Int32, yy_ = (nI y) + 1 := ⟨_, rfl⟩
        refine lv_iinc (v := x23) (lv' := [(5, .int x23), (4, .int (nI a_x22)), (3, .int (nI x)), (2, .int no), (0, .ref h1), (1, .int p1)]) hx hb dX10_noRounds_39 hl (k := 1) rfl (by rw [ex23]; rfl) (by decide) rfl (fun ls hl => ?_)
        obtain rfl : x23 = nI (y + 1) := by rw [ex23]; exact nI_add y 1
        refine lv_goto (tgt := 16) hx hb dX10_noRounds_42 (by decide) ?_
        refine ih16 ((y + 1), a_x22) ⟨?_, ?_⟩ (by first | omega | (dsimp only; omega)) H locs ls (hP.sub [0, 1] rfl) (hD.sub [0, 1] (by decide) rfl) hS (lv_sub hl [0, 1, 2, 3, 4, 5] rfl)
        · try dsimp only
          omega
        · try dsimp only
          omega

set_option maxHeartbeats 1000000 in
set_option maxRecDepth 100000 in
theorem m_layTree (l : Launch) (G : Gy) (sz : Nat) (h1 : Nat) (v_sites : Value) (v_maps : Value) (v_told : Value) (v_kinds : Value) (v_land : Value) (v_spades : Value) (v_part : Value) (v_pad : Value) (v_padMany : Value) (v_slips : Value) (v_slipMany : Value) (v_made : Value) (v_queue : Value) (v_depth : Value) (v_by : Value) (v_from : Value) (v_come : Value) (v_best : Value) (v_trees : Value) (v_least : Value) (v_sums : Value) (v_toward : Value) (v_kept : Value) (v_isKept : Value) (v_keptAt : Value) (v_isWriting : Value) (a_parent : Nat) (fpa : Nat → Int32) (a_offOf : Nat) (nu : Nat) (fo : Nat → Int32) (p1 : Int32) (hnu : nu < 2 ^ 20) : Ci l G yX10_layTree wsX10_layTree ({ frames := 1, cells := 0, slots := 0, locals := 25 }) [.ref h1, .int p1, .int (nI nu)] ([(h1, .inr (6, [v_sites, v_maps, v_told, v_kinds, v_land, v_spades, v_part, v_pad, v_padMany, v_slips, v_slipMany, v_made, v_queue, v_depth, v_by, v_from, v_come, .ref a_offOf, .ref a_parent, v_best, v_trees, v_least, v_sums, v_toward, v_kept, v_isKept, v_keptAt, v_isWriting])), (a_parent, .inl (gI G, 6, .inl fpa)), (a_offOf, .inl (gI G, 36, .inl fo))]) sz (fun (r : Int32) (gpa : Nat → Int32) => (r = 1 ∧ parOK gpa) ∨ (r = 0 ∧ parOK gpa)) (fun (gpa : Nat → Int32) => [(h1, .inr (6, [v_sites, v_maps, v_told, v_kinds, v_land, v_spades, v_part, v_pad, v_padMany, v_slips, v_slipMany, v_made, v_queue, v_depth, v_by, v_from, v_come, .ref a_offOf, .ref a_parent, v_best, v_trees, v_least, v_sums, v_toward, v_kept, v_isKept, v_keptAt, v_isWriting])), (a_parent, .inl (gI G, 6, .inl gpa)), (a_offOf, .inl (gI G, 36, .inl fo))]) 0 0 := by
  refine Met.ofW (cc := cX10_layTree) (maxL := 8) (ret := (some .boolean)) (by decide) rfl ?_
  intro p e s m args below meth c s₁ B hml hv
  obtain ⟨rfl, hsz, hP, hD0, E0⟩ := hv
  have hx := B.exec
  have hb := B.bytes
  have hr := B.returns
  have hts := atoms_spec (ws := wsX10_layTree) B.pre
  have hown : s.vm.findClass RX10 = some m.cls := findClass_of_methodNamed B.named
  have hlocks := B.notSynchronized
  subst hsz
  have hD := hD0.self (sz := s.heap.size)
  generalize hAe : va_A ([(h1, .inr (6, [v_sites, v_maps, v_told, v_kinds, v_land, v_spades, v_part, v_pad, v_padMany, v_slips, v_slipMany, v_made, v_queue, v_depth, v_by, v_from, v_come, .ref a_offOf, .ref a_parent, v_best, v_trees, v_least, v_sums, v_toward, v_kept, v_isKept, v_keptAt, v_isWriting])), (a_parent, .inl (gI G, 6, .inl fpa)), (a_offOf, .inl (gI G, 36, .inl fo))]) s.heap.size = A at hD E0 ⊢
  have E : EV G A s s.heap := E0
  have hA : ∀ q : Nat, s.heap.size ≤ q → A q := fun q h => by rw [← hAe]; exact Or.inr h
  have hS : va_S A s.heap s.heap [] := va_S.rf
  have hl := lv_entry ([.ref h1, .int p1, .int (nI nu)]) (n := 8) (Nat.le_of_ble_eq_true rfl)
  rw [lg_entry_eq]
  generalize (lg_sl ([.ref h1, .int p1, .int (nI nu)]) ++ List.replicate (8 - (lg_sl ([.ref h1, .int p1, .int (nI nu)])).length) Slot.unset).toArray = ls at hl ⊢
  have hl : lv_has ls 8 [(0, .ref h1), (1, .int p1), (2, .int (nI nu))] := hl
  have hP : va_P G.1 vwCl ([(h1, .inr (6, [v_sites, v_maps, v_told, v_kinds, v_land, v_spades, v_part, v_pad, v_padMany, v_slips, v_slipMany, v_made, v_queue, v_depth, v_by, v_from, v_come, .ref a_offOf, .ref a_parent, v_best, v_trees, v_least, v_sums, v_toward, v_kept, v_isKept, v_keptAt, v_isWriting])), (a_parent, .inl (gI G, 6, .inl fpa)), (a_offOf, .inl (gI G, 36, .inl fo))]) s.heap := hP
  refine lv_iload_n hx hb dX10_layTree_0 rfl (lv_at hl 2 rfl) ?_
  refine lv_istore_n (lv' := [(3, .int (nI nu)), (0, .ref h1), (1, .int p1), (2, .int (nI nu))]) hx hb dX10_layTree_1 rfl hl (by decide) rfl (fun ls hl => ?_)
  refine lv_iconst (v := 0) hx hb dX10_layTree_2 (by decide) ?_
  refine lv_istore (lv' := [(4, .int 0), (3, .int (nI nu)), (0, .ref h1), (1, .int p1), (2, .int (nI nu))]) hx hb dX10_layTree_3 hl (by decide) rfl (fun ls hl => ?_)
  refine lv_iconst (v := 1) hx hb dX10_layTree_5 (by decide) ?_
  refine lv_istore (lv' := [(5, .int 1), (4, .int 0), (3, .int (nI nu)), (0, .ref h1), (1, .int p1), (2, .int (nI nu))]) hx hb dX10_layTree_6 hl (by decide) rfl (fun ls hl => ?_)
  refine lv_iconst (v := 5) hx hb dX10_layTree_8 (by decide) ?_
  refine lv_istore (lv' := [(6, .int 5), (5, .int 1), (4, .int 0), (3, .int (nI nu)), (0, .ref h1), (1, .int p1), (2, .int (nI nu))]) hx hb dX10_layTree_9 hl (by decide) rfl (fun ls hl => ?_)
  refine lp_run (x0 := (0, nu, 0, 1, fpa)) (fun xx_ : Nat × Nat × Int32 × Int32 × (Nat → Int32) => match xx_ with | (x, le, fi_, go_, fpx) => [(h1, .inr (6, [v_sites, v_maps, v_told, v_kinds, v_land, v_spades, v_part, v_pad, v_padMany, v_slips, v_slipMany, v_made, v_queue, v_depth, v_by, v_from, v_come, .ref a_offOf, .ref a_parent, v_best, v_trees, v_least, v_sums, v_toward, v_kept, v_isKept, v_keptAt, v_isWriting])), (a_parent, .inl (gI G, 6, .inl fpx)), (a_offOf, .inl (gI G, 36, .inl fo))]) (fun xx_ : Nat × Nat × Int32 × Int32 × (Nat → Int32) => match xx_ with | (x, le, fi_, go_, fpx) => [(6, .int (nI (6 - x) - 1)), (5, .int go_), (4, .int fi_), (3, .int (nI le)), (0, .ref h1), (1, .int p1), (2, .int (nI nu))]) (fun xx_ : Nat × Nat × Int32 × Int32 × (Nat → Int32) => match xx_ with | (x, le, fi_, go_, fpx) => (x ≤ 6) ∧ (le < 2 ^ 20) ∧ (∀ j : Nat, 6 - x ≤ j → j < 6 → ∃ q, q ≤ 6 ∧ fpx j = nI q)) (fun xx_ : Nat × Nat × Int32 × Int32 × (Nat → Int32) => match xx_ with | (x, le, fi_, go_, fpx) => 6 - x) (hP.sub [0, 1, 2] rfl) (hD.sub [0, 1, 2] (by decide) rfl) hS (lv_sub hl [0, 1, 2, 3, 4, 5, 6] rfl) ⟨by omega, hnu, by intro j h1 h2; omega⟩ ?_
  intro xx_ hI ih11 H locs ls hP hD hS hl
  obtain ⟨x, le, fi_, go_, fpx⟩ := xx_
  dsimp only at hI ih11 hP hD hl
  obtain ⟨hx0, hle, hpx⟩ := hI
  have hl : lv_has ls 8 [(6, .int (nI (6 - x) - 1)), (5, .int go_), (4, .int fi_), (3, .int (nI le)), (0, .ref h1), (1, .int p1), (2, .int (nI nu))] := hl
  have hP : va_P G.1 vwCl ([(h1, .inr (6, [v_sites, v_maps, v_told, v_kinds, v_land, v_spades, v_part, v_pad, v_padMany, v_slips, v_slipMany, v_made, v_queue, v_depth, v_by, v_from, v_come, .ref a_offOf, .ref a_parent, v_best, v_trees, v_least, v_sums, v_toward, v_kept, v_isKept, v_keptAt, v_isWriting])), (a_parent, .inl (gI G, 6, .inl fpx)), (a_offOf, .inl (gI G, 36, .inl fo))]) H := hP
  have hD : va_D A ([(h1, .inr (6, [v_sites, v_maps, v_told, v_kinds, v_land, v_spades, v_part, v_pad, v_padMany, v_slips, v_slipMany, v_made, v_queue, v_depth, v_by, v_from, v_come, .ref a_offOf, .ref a_parent, v_best, v_trees, v_least, v_sums, v_toward, v_kept, v_isKept, v_keptAt, v_isWriting])), (a_parent, .inl (gI G, 6, .inl fpx)), (a_offOf, .inl (gI G, 36, .inl fo))]) := hD
  refine lv_iload hx hb dX10_layTree_11 (lv_at hl 0 rfl) ?_
  refine lv_if_lt (tgt := 130) hx hb dX10_layTree_13 (by decide) (fun c1 => ?_) (fun c1 => ?_)
  · have hx6 := eq6_of hx0 c1
    have hpk : parOK fpx := fun j hj => hpx j (by omega) hj
    refine lv_iload hx hb dX10_layTree_130 (lv_at hl 1 rfl) ?_
    refine lv_if_eq (tgt := 153) hx hb dX10_layTree_132 (by decide) (fun c2 => ?_) (fun c2 => ?_)
    · refine lv_iconst (v := 0) hx hb dX10_layTree_153 (by decide) ?_
      have hP9 := (hP.sub (ws' := [(h1, .inr (6, [v_sites, v_maps, v_told, v_kinds, v_land, v_spades, v_part, v_pad, v_padMany, v_slips, v_slipMany, v_made, v_queue, v_depth, v_by, v_from, v_come, .ref a_offOf, .ref a_parent, v_best, v_trees, v_least, v_sums, v_toward, v_kept, v_isKept, v_keptAt, v_isWriting])), (a_parent, .inl (gI G, 6, .inl fpx)), (a_offOf, .inl (gI G, 36, .inl fo))]) [0, 1, 2] rfl)
      have hD9 := (hD.sub (ws' := [(h1, .inr (6, [v_sites, v_maps, v_told, v_kinds, v_land, v_spades, v_part, v_pad, v_padMany, v_slips, v_slipMany, v_made, v_queue, v_depth, v_by, v_from, v_come, .ref a_offOf, .ref a_parent, v_best, v_trees, v_least, v_sums, v_toward, v_kept, v_isKept, v_keptAt, v_isWriting])), (a_parent, .inl (gI G, 6, .inl fpx)), (a_offOf, .inl (gI G, 36, .inl fo))]) [0, 1, 2] (by decide) rfl)
      exact W.zret (v := 0) hx hb hr (by decide) (fun t9_ ht9_ hW9_ => ⟨⟨0, fpx, rfl, Or.inr ⟨rfl, hpk⟩, by rw [ht9_]; exact hP9, hD9⟩, hS.F ht9_⟩) hS.2.2 dX10_layTree_154
    · refine lv_iload hx hb dX10_layTree_135 (lv_at hl 2 rfl) ?_
      refine lv_iconst (v := 1) hx hb dX10_layTree_137 (by decide) ?_
      refine lv_icmp_ne (tgt := 153) hx hb dX10_layTree_138 (by decide) (fun c3 => ?_) (fun c3 => ?_)
      · refine lv_iconst (v := 0) hx hb dX10_layTree_153 (by decide) ?_
        have hP9 := (hP.sub (ws' := [(h1, .inr (6, [v_sites, v_maps, v_told, v_kinds, v_land, v_spades, v_part, v_pad, v_padMany, v_slips, v_slipMany, v_made, v_queue, v_depth, v_by, v_from, v_come, .ref a_offOf, .ref a_parent, v_best, v_trees, v_least, v_sums, v_toward, v_kept, v_isKept, v_keptAt, v_isWriting])), (a_parent, .inl (gI G, 6, .inl fpx)), (a_offOf, .inl (gI G, 36, .inl fo))]) [0, 1, 2] rfl)
        have hD9 := (hD.sub (ws' := [(h1, .inr (6, [v_sites, v_maps, v_told, v_kinds, v_land, v_spades, v_part, v_pad, v_padMany, v_slips, v_slipMany, v_made, v_queue, v_depth, v_by, v_from, v_come, .ref a_offOf, .ref a_parent, v_best, v_trees, v_least, v_sums, v_toward, v_kept, v_isKept, v_keptAt, v_isWriting])), (a_parent, .inl (gI G, 6, .inl fpx)), (a_offOf, .inl (gI G, 36, .inl fo))]) [0, 1, 2] (by decide) rfl)
        exact W.zret (v := 0) hx hb hr (by decide) (fun t9_ ht9_ hW9_ => ⟨⟨0, fpx, rfl, Or.inr ⟨rfl, hpk⟩, by rw [ht9_]; exact hP9, hD9⟩, hS.F ht9_⟩) hS.2.2 dX10_layTree_154
      · refine lv_aload_n hx hb dX10_layTree_141 rfl (lv_at hl 4 rfl) ?_
        refine lv_iload_n hx hb dX10_layTree_142 rfl (lv_at hl 5 rfl) ?_
        refine ca_iR (va_runV (As := [.int p1]) (rest := []) ⟨hx, hb, hml, hown, hts⟩ (m_noRounds l G H.size h1 v_sites v_maps v_told v_kinds v_land v_spades v_part v_pad v_padMany v_slips v_slipMany v_made v_queue v_depth v_by v_from v_come (.ref a_offOf) v_best v_trees v_least v_sums v_toward v_kept v_isKept v_keptAt v_isWriting a_parent fpx p1 hpk) (cwV 1 hts gX10_layTree_X10_noRounds rfl rfl rfl (by decide +kernel) ⟨by decide +kernel, by decide +kernel⟩) (pre_V E hP hD hS hA [0, 1] (by decide) rfl 0 6 rfl rfl) rfl rfl hl.1 rfl (lv_room (Nat.le_of_ble_eq_true rfl)) dX10_layTree_143 ⟨by decide +kernel, by decide +kernel⟩) hS hP hD hA [0, 1] rfl (fun r5 _ H locs w4 hP hS => ?_)
        rcases w4 with ⟨rfl, b6⟩ | ⟨rfl, b6⟩
        · refine lv_if_eq (tgt := 153) hx hb dX10_layTree_146 (by decide) (fun c7 => False.elim (by revert c7; decide)) (fun _ => ?_)
          refine lv_iconst (v := 1) hx hb dX10_layTree_149 (by decide) ?_
          refine lv_goto (tgt := 154) hx hb dX10_layTree_150 (by decide) ?_
          have hP9 := (hP.sub (ws' := [(h1, .inr (6, [v_sites, v_maps, v_told, v_kinds, v_land, v_spades, v_part, v_pad, v_padMany, v_slips, v_slipMany, v_made, v_queue, v_depth, v_by, v_from, v_come, .ref a_offOf, .ref a_parent, v_best, v_trees, v_least, v_sums, v_toward, v_kept, v_isKept, v_keptAt, v_isWriting])), (a_parent, .inl (gI G, 6, .inl fpx)), (a_offOf, .inl (gI G, 36, .inl fo))]) [0, 1, 2] rfl)
          have hD9 := (hD.sub (ws' := [(h1, .inr (6, [v_sites, v_maps, v_told, v_kinds, v_land, v_spades, v_part, v_pad, v_padMany, v_slips, v_slipMany, v_made, v_queue, v_depth, v_by, v_from, v_come, .ref a_offOf, .ref a_parent, v_best, v_trees, v_least, v_sums, v_toward, v_kept, v_isKept, v_keptAt, v_isWriting])), (a_parent, .inl (gI G, 6, .inl fpx)), (a_offOf, .inl (gI G, 36, .inl fo))]) [0, 1, 2] (by decide) rfl)
          exact W.zret (v := 1) hx hb hr (by decide) (fun t9_ ht9_ hW9_ => ⟨⟨1, fpx, rfl, Or.inl ⟨rfl, hpk⟩, by rw [ht9_]; exact hP9, hD9⟩, hS.F ht9_⟩) hS.2.2 dX10_layTree_154
        · refine lv_if_eq (tgt := 153) hx hb dX10_layTree_146 (by decide) (fun _ => ?_) (fun c8 => False.elim (by revert c8; decide))
          refine lv_iconst (v := 0) hx hb dX10_layTree_153 (by decide) ?_
          have hP9 := (hP.sub (ws' := [(h1, .inr (6, [v_sites, v_maps, v_told, v_kinds, v_land, v_spades, v_part, v_pad, v_padMany, v_slips, v_slipMany, v_made, v_queue, v_depth, v_by, v_from, v_come, .ref a_offOf, .ref a_parent, v_best, v_trees, v_least, v_sums, v_toward, v_kept, v_isKept, v_keptAt, v_isWriting])), (a_parent, .inl (gI G, 6, .inl fpx)), (a_offOf, .inl (gI G, 36, .inl fo))]) [0, 1, 2] rfl)
          have hD9 := (hD.sub (ws' := [(h1, .inr (6, [v_sites, v_maps, v_told, v_kinds, v_land, v_spades, v_part, v_pad, v_padMany, v_slips, v_slipMany, v_made, v_queue, v_depth, v_by, v_from, v_come, .ref a_offOf, .ref a_parent, v_best, v_trees, v_least, v_sums, v_toward, v_kept, v_isKept, v_keptAt, v_isWriting])), (a_parent, .inl (gI G, 6, .inl fpx)), (a_offOf, .inl (gI G, 36, .inl fo))]) [0, 1, 2] (by decide) rfl)
          exact W.zret (v := 0) hx hb hr (by decide) (fun t9_ ht9_ hW9_ => ⟨⟨0, fpx, rfl, Or.inr ⟨rfl, hpk⟩, by rw [ht9_]; exact hP9, hD9⟩, hS.F ht9_⟩) hS.2.2 dX10_layTree_154
  · have hx6 := lt6_of hx0 c1
    have hl : lv_has ls 8 [(6, .int (nI (5 - x))), (5, .int go_), (4, .int fi_), (3, .int (nI le)), (0, .ref h1), (1, .int p1), (2, .int (nI nu))] := by have q := hl; rw [nI65 hx6] at q; exact q
    refine lv_aload_n hx hb dX10_layTree_16 rfl (lv_at hl 4 rfl) ?_
    refine va_get (D := G.1) (ci := 6) (v := .ref a_parent) (C := RX10) (T := TX10) (N := 28) hx hb hts (fun _ h => List.mem_cons_of_mem _ (List.mem_append_right _ h)) hown E.K hP 0 rfl rfl 18 (by decide) (hts (.fieldLink RX10 40 "LastMapModel" "parent" "[I") (by decide +kernel)) (fun _ h9 => h9) rfl dX10_layTree_17 ?_
    refine lv_iload hx hb dX10_layTree_20 (lv_at hl 0 rfl) ?_
    refine lv_bipush (v := 6) hx hb dX10_layTree_22 (by decide) ?_
    refine va_iast hx hb E.K hP hD hS 1 1 rfl rfl (i := nI (5 - x)) (vp_in_nI (by omega) (by decide)) dX10_layTree_24 (fun H locs hP hD hS => ?_)
    obtain ⟨f9, ef9⟩ : ∃ yy_ : Nat → Int32, yy_ = upd fpx (nI (5 - x)).toNatClampNeg 6 := ⟨_, rfl⟩
    have hP : va_P G.1 vwCl ([(h1, .inr (6, [v_sites, v_maps, v_told, v_kinds, v_land, v_spades, v_part, v_pad, v_padMany, v_slips, v_slipMany, v_made, v_queue, v_depth, v_by, v_from, v_come, .ref a_offOf, .ref a_parent, v_best, v_trees, v_least, v_sums, v_toward, v_kept, v_isKept, v_keptAt, v_isWriting])), (a_parent, .inl (gI G, 6, .inl f9)), (a_offOf, .inl (gI G, 36, .inl fo))]) H := by rw [ef9]; exact hP
    have hD : va_D A ([(h1, .inr (6, [v_sites, v_maps, v_told, v_kinds, v_land, v_spades, v_part, v_pad, v_padMany, v_slips, v_slipMany, v_made, v_queue, v_depth, v_by, v_from, v_come, .ref a_offOf, .ref a_parent, v_best, v_trees, v_least, v_sums, v_toward, v_kept, v_isKept, v_keptAt, v_isWriting])), (a_parent, .inl (gI G, 6, .inl f9)), (a_offOf, .inl (gI G, 36, .inl fo))]) := by rw [ef9]; exact hD
    refine lv_iload_n hx hb dX10_layTree_25 rfl (lv_at hl 5 rfl) ?_
    refine lv_iload hx hb dX10_layTree_26 (lv_at hl 0 rfl) ?_
    refine lv_ishr hx hb dX10_layTree_28 ?_
    refine lv_topi (fun x10 ex10 => ?_)
    refine lv_iconst (v := 1) hx hb dX10_layTree_29 (by decide) ?_
    refine lv_iand hx hb dX10_layTree_30 ?_
    refine lv_topi (fun x11 ex11 => ?_)
    refine lv_iconst (v := 1) hx hb dX10_layTree_31 (by decide) ?_
    refine lv_icmp_ne (tgt := 124) hx hb dX10_layTree_32 (by decide) (fun c12 => ?_) (fun c12 => ?_)
    · obtain ⟨x13, ex13⟩ : ∃ yy_ : Int32, yy_ = (nI (5 - x)) + (-1) := ⟨_, rfl⟩
      refine lv_iinc (v := x13) (lv' := [(6, .int x13), (5, .int go_), (4, .int fi_), (3, .int (nI le)), (0, .ref h1), (1, .int p1), (2, .int (nI nu))]) hx hb dX10_layTree_124 hl (k := 0) rfl (by rw [ex13]; rfl) (by decide) rfl (fun ls hl => ?_)
      refine lv_goto (tgt := 11) hx hb dX10_layTree_127 (by decide) ?_
      have hs : x13 = nI (6 - (x + 1)) - 1 := by rw [ex13, show 6 - (x + 1) = 5 - x by omega]; exact (Int32.sub_eq_add_neg _ _).symm
      subst hs
      refine ih11 (x + 1, le, fi_, go_, f9) ⟨?_, ?_, ?_⟩ (by first | omega | (dsimp only; omega)) H locs ls (hP.sub [0, 1, 2] rfl) (hD.sub [0, 1, 2] (by decide) rfl) hS (lv_sub hl [0, 1, 2, 3, 4, 5, 6] rfl)
      · try dsimp only
        omega
      · try dsimp only
        omega
      · try dsimp only
        intro j h1 h2; rw [ef9, nI_clamp (by omega)]
        by_cases e9 : j = 5 - x
        · subst e9; rw [pk_us]; exact ⟨6, by omega, rfl⟩
        · rw [pk_un e9]; exact hpx j (by omega) h2
    · refine lv_iload_n hx hb dX10_layTree_35 rfl (lv_at hl 3 rfl) ?_
      refine lv_bipush (v := 7) hx hb dX10_layTree_36 (by decide) ?_
      refine lv_irem hx hb dX10_layTree_38 (by decide) ?_
      refine lv_topi (fun x14 ex14 => ?_)
      obtain rfl : x14 = nI (le % 7) := by rw [ex14]; exact pk_rem (show le < 2 ^ 31 by omega) (show 0 < 7 by decide) (by decide)
      refine lv_istore (lv' := [(7, .int (nI (le % 7))), (6, .int (nI (5 - x))), (5, .int go_), (4, .int fi_), (3, .int (nI le)), (0, .ref h1), (1, .int p1), (2, .int (nI nu))]) hx hb dX10_layTree_39 hl (by decide) rfl (fun ls hl => ?_)
      refine lv_iload_n hx hb dX10_layTree_41 rfl (lv_at hl 4 rfl) ?_
      refine lv_bipush (v := 7) hx hb dX10_layTree_42 (by decide) ?_
      refine lv_idiv hx hb dX10_layTree_44 (by decide) ?_
      refine lv_topi (fun x15 ex15 => ?_)
      obtain rfl : x15 = nI (le / 7) := by rw [ex15]; exact pk_div (show le < 2 ^ 31 by omega) (show 0 < 7 by decide) (by decide)
      refine lv_istore_n (lv' := [(3, .int (nI (le / 7))), (7, .int (nI (le % 7))), (6, .int (nI (5 - x))), (5, .int go_), (4, .int fi_), (0, .ref h1), (1, .int p1), (2, .int (nI nu))]) hx hb dX10_layTree_45 rfl hl (by decide) rfl (fun ls hl => ?_)
      refine lv_aload_n hx hb dX10_layTree_46 rfl (lv_at hl 5 rfl) ?_
      refine va_get (D := G.1) (ci := 6) (v := .ref a_parent) (C := RX10) (T := TX10) (N := 28) hx hb hts (fun _ h => List.mem_cons_of_mem _ (List.mem_append_right _ h)) hown E.K hP 0 rfl rfl 18 (by decide) (hts (.fieldLink RX10 40 "LastMapModel" "parent" "[I") (by decide +kernel)) (fun _ h9 => h9) rfl dX10_layTree_47 ?_
      refine lv_iload hx hb dX10_layTree_50 (lv_at hl 2 rfl) ?_
      refine lv_iload hx hb dX10_layTree_52 (lv_at hl 1 rfl) ?_
      refine va_iast hx hb E.K hP hD hS 1 1 rfl rfl (i := nI (5 - x)) (vp_in_nI (by omega) (by decide)) dX10_layTree_54 (fun H locs hP hD hS => ?_)
      obtain ⟨f16, ef16⟩ : ∃ yy_ : Nat → Int32, yy_ = upd f9 (nI (5 - x)).toNatClampNeg (nI (le % 7)) := ⟨_, rfl⟩
      have hP : va_P G.1 vwCl ([(h1, .inr (6, [v_sites, v_maps, v_told, v_kinds, v_land, v_spades, v_part, v_pad, v_padMany, v_slips, v_slipMany, v_made, v_queue, v_depth, v_by, v_from, v_come, .ref a_offOf, .ref a_parent, v_best, v_trees, v_least, v_sums, v_toward, v_kept, v_isKept, v_keptAt, v_isWriting])), (a_parent, .inl (gI G, 6, .inl f16)), (a_offOf, .inl (gI G, 36, .inl fo))]) H := by rw [ef16]; exact hP
      have hD : va_D A ([(h1, .inr (6, [v_sites, v_maps, v_told, v_kinds, v_land, v_spades, v_part, v_pad, v_padMany, v_slips, v_slipMany, v_made, v_queue, v_depth, v_by, v_from, v_come, .ref a_offOf, .ref a_parent, v_best, v_trees, v_least, v_sums, v_toward, v_kept, v_isKept, v_keptAt, v_isWriting])), (a_parent, .inl (gI G, 6, .inl f16)), (a_offOf, .inl (gI G, 36, .inl fo))]) := by rw [ef16]; exact hD
      refine lv_iload hx hb dX10_layTree_55 (lv_at hl 4 rfl) ?_
      refine lv_iload hx hb dX10_layTree_57 (lv_at hl 1 rfl) ?_
      refine lv_bipush (v := 6) hx hb dX10_layTree_59 (by decide) ?_
      refine lv_icmp_ne (tgt := 68) hx hb dX10_layTree_61 (by decide) (fun c17 => ?_) (fun c17 => ?_)
      · have c17 : ¬ (le % 7) = 6 := fun h9_ => c17 ((nI_eq (a := (le % 7)) (b := 6) (by omega) (by omega)).mpr h9_)
        refine lv_iconst (v := 0) hx hb dX10_layTree_68 (by decide) ?_
        refine lv_iadd hx hb dX10_layTree_69 ?_
        refine lv_topi (fun x18 ex18 => ?_)
        refine lv_istore (lv' := [(4, .int x18), (3, .int (nI (le / 7))), (7, .int (nI (le % 7))), (6, .int (nI (5 - x))), (5, .int go_), (0, .ref h1), (1, .int p1), (2, .int (nI nu))]) hx hb dX10_layTree_70 hl (by decide) rfl (fun ls hl => ?_)
        refine lv_iload hx hb dX10_layTree_72 (lv_at hl 4 rfl) ?_
        refine lv_if_eq (tgt := 121) hx hb dX10_layTree_74 (by decide) (fun c19 => ?_) (fun c19 => ?_)
        · refine lv_iconst (v := 0) hx hb dX10_layTree_121 (by decide) ?_
          refine lv_istore (lv' := [(5, .int 0), (4, .int x18), (3, .int (nI (le / 7))), (7, .int (nI (le % 7))), (6, .int (nI (5 - x))), (0, .ref h1), (1, .int p1), (2, .int (nI nu))]) hx hb dX10_layTree_122 hl (by decide) rfl (fun ls hl => ?_)
          obtain ⟨x20, ex20⟩ : ∃ yy_ : Int32, yy_ = (nI (5 - x)) + (-1) := ⟨_, rfl⟩
          refine lv_iinc (v := x20) (lv' := [(6, .int x20), (5, .int 0), (4, .int x18), (3, .int (nI (le / 7))), (7, .int (nI (le % 7))), (0, .ref h1), (1, .int p1), (2, .int (nI nu))]) hx hb dX10_layTree_124 hl (k := 4) rfl (by rw [ex20]; rfl) (by decide) rfl (fun ls hl => ?_)
          refine lv_goto (tgt := 11) hx hb dX10_layTree_127 (by decide) ?_
          have hs : x20 = nI (6 - (x + 1)) - 1 := by rw [ex20, show 6 - (x + 1) = 5 - x by omega]; exact (Int32.sub_eq_add_neg _ _).symm
          subst hs
          refine ih11 (x + 1, (le / 7), x18, 0, f16) ⟨?_, ?_, ?_⟩ (by first | omega | (dsimp only; omega)) H locs ls (hP.sub [0, 1, 2] rfl) (hD.sub [0, 1, 2] (by decide) rfl) hS (lv_sub hl [0, 1, 2, 3, 5, 6, 7] rfl)
          · try dsimp only
            omega
          · try dsimp only
            omega
          · try dsimp only
            intro j h1 h2; rw [ef16, ef9, nI_clamp (by omega)]
            by_cases e9 : j = 5 - x
            · subst e9; rw [pk_us]; exact ⟨_, by omega, rfl⟩
            · rw [pk_un e9, pk_un e9]; exact hpx j (by omega) h2
        · refine lv_iload hx hb dX10_layTree_77 (lv_at hl 2 rfl) ?_
          refine lv_bipush (v := 6) hx hb dX10_layTree_79 (by decide) ?_
          refine lv_icmp_eq (tgt := 117) hx hb dX10_layTree_81 (by decide) (fun c21 => ?_) (fun c21 => ?_)
          · have c21 : (le % 7) = 6 := (nI_eq (a := (le % 7)) (b := 6) (by omega) (by omega)).mp c21
            refine lv_iconst (v := 1) hx hb dX10_layTree_117 (by decide) ?_
            refine lv_goto (tgt := 122) hx hb dX10_layTree_118 (by decide) ?_
            refine lv_istore (lv' := [(5, .int 1), (4, .int x18), (3, .int (nI (le / 7))), (7, .int (nI (le % 7))), (6, .int (nI (5 - x))), (0, .ref h1), (1, .int p1), (2, .int (nI nu))]) hx hb dX10_layTree_122 hl (by decide) rfl (fun ls hl => ?_)
            obtain ⟨x22, ex22⟩ : ∃ yy_ : Int32, yy_ = (nI (5 - x)) + (-1) := ⟨_, rfl⟩
            refine lv_iinc (v := x22) (lv' := [(6, .int x22), (5, .int 1), (4, .int x18), (3, .int (nI (le / 7))), (7, .int (nI (le % 7))), (0, .ref h1), (1, .int p1), (2, .int (nI nu))]) hx hb dX10_layTree_124 hl (k := 4) rfl (by rw [ex22]; rfl) (by decide) rfl (fun ls hl => ?_)
            refine lv_goto (tgt := 11) hx hb dX10_layTree_127 (by decide) ?_
            have hs : x22 = nI (6 - (x + 1)) - 1 := by rw [ex22, show 6 - (x + 1) = 5 - x by omega]; exact (Int32.sub_eq_add_neg _ _).symm
            subst hs
            refine ih11 (x + 1, (le / 7), x18, 1, f16) ⟨?_, ?_, ?_⟩ (by first | omega | (dsimp only; omega)) H locs ls (hP.sub [0, 1, 2] rfl) (hD.sub [0, 1, 2] (by decide) rfl) hS (lv_sub hl [0, 1, 2, 3, 5, 6, 7] rfl)
            · try dsimp only
              omega
            · try dsimp only
              omega
            · try dsimp only
              intro j h1 h2; rw [ef16, ef9, nI_clamp (by omega)]
              by_cases e9 : j = 5 - x
              · subst e9; rw [pk_us]; exact ⟨_, by omega, rfl⟩
              · rw [pk_un e9, pk_un e9]; exact hpx j (by omega) h2
          · have c21 : ¬ (le % 7) = 6 := fun h9_ => c21 ((nI_eq (a := (le % 7)) (b := 6) (by omega) (by omega)).mpr h9_)
            refine lv_iload hx hb dX10_layTree_84 (lv_at hl 2 rfl) ?_
            refine lv_iload hx hb dX10_layTree_86 (lv_at hl 3 rfl) ?_
            refine lv_icmp_eq (tgt := 121) hx hb dX10_layTree_88 (by decide) (fun c23 => ?_) (fun c23 => ?_)
            · have c23 : (le % 7) = (5 - x) := (nI_eq (a := (le % 7)) (b := (5 - x)) (by omega) (by omega)).mp c23
              refine lv_iconst (v := 0) hx hb dX10_layTree_121 (by decide) ?_
              refine lv_istore (lv' := [(5, .int 0), (4, .int x18), (3, .int (nI (le / 7))), (7, .int (nI (le % 7))), (6, .int (nI (5 - x))), (0, .ref h1), (1, .int p1), (2, .int (nI nu))]) hx hb dX10_layTree_122 hl (by decide) rfl (fun ls hl => ?_)
              obtain ⟨x24, ex24⟩ : ∃ yy_ : Int32, yy_ = (nI (5 - x)) + (-1) := ⟨_, rfl⟩
              refine lv_iinc (v := x24) (lv' := [(6, .int x24), (5, .int 0), (4, .int x18), (3, .int (nI (le / 7))), (7, .int (nI (le % 7))), (0, .ref h1), (1, .int p1), (2, .int (nI nu))]) hx hb dX10_layTree_124 hl (k := 4) rfl (by rw [ex24]; rfl) (by decide) rfl (fun ls hl => ?_)
              refine lv_goto (tgt := 11) hx hb dX10_layTree_127 (by decide) ?_
              have hs : x24 = nI (6 - (x + 1)) - 1 := by rw [ex24, show 6 - (x + 1) = 5 - x by omega]; exact (Int32.sub_eq_add_neg _ _).symm
              subst hs
              refine ih11 (x + 1, (le / 7), x18, 0, f16) ⟨?_, ?_, ?_⟩ (by first | omega | (dsimp only; omega)) H locs ls (hP.sub [0, 1, 2] rfl) (hD.sub [0, 1, 2] (by decide) rfl) hS (lv_sub hl [0, 1, 2, 3, 5, 6, 7] rfl)
              · try dsimp only
                omega
              · try dsimp only
                omega
              · try dsimp only
                intro j h1 h2; rw [ef16, ef9, nI_clamp (by omega)]
                by_cases e9 : j = 5 - x
                · subst e9; rw [pk_us]; exact ⟨_, by omega, rfl⟩
                · rw [pk_un e9, pk_un e9]; exact hpx j (by omega) h2
            · have c23 : ¬ (le % 7) = (5 - x) := fun h9_ => c23 ((nI_eq (a := (le % 7)) (b := (5 - x)) (by omega) (by omega)).mpr h9_)
              refine lv_iload_n hx hb dX10_layTree_91 rfl (lv_at hl 6 rfl) ?_
              refine lv_iload hx hb dX10_layTree_92 (lv_at hl 2 rfl) ?_
              refine lv_ishr hx hb dX10_layTree_94 ?_
              refine lv_topi (fun x25 ex25 => ?_)
              refine lv_iconst (v := 1) hx hb dX10_layTree_95 (by decide) ?_
              refine lv_iand hx hb dX10_layTree_96 ?_
              refine lv_topi (fun x26 ex26 => ?_)
              refine lv_iconst (v := 1) hx hb dX10_layTree_97 (by decide) ?_
              refine lv_icmp_ne (tgt := 121) hx hb dX10_layTree_98 (by decide) (fun c27 => ?_) (fun c27 => ?_)
              · refine lv_iconst (v := 0) hx hb dX10_layTree_121 (by decide) ?_
                refine lv_istore (lv' := [(5, .int 0), (4, .int x18), (3, .int (nI (le / 7))), (7, .int (nI (le % 7))), (6, .int (nI (5 - x))), (0, .ref h1), (1, .int p1), (2, .int (nI nu))]) hx hb dX10_layTree_122 hl (by decide) rfl (fun ls hl => ?_)
                obtain ⟨x28, ex28⟩ : ∃ yy_ : Int32, yy_ = (nI (5 - x)) + (-1) := ⟨_, rfl⟩
                refine lv_iinc (v := x28) (lv' := [(6, .int x28), (5, .int 0), (4, .int x18), (3, .int (nI (le / 7))), (7, .int (nI (le % 7))), (0, .ref h1), (1, .int p1), (2, .int (nI nu))]) hx hb dX10_layTree_124 hl (k := 4) rfl (by rw [ex28]; rfl) (by decide) rfl (fun ls hl => ?_)
                refine lv_goto (tgt := 11) hx hb dX10_layTree_127 (by decide) ?_
                have hs : x28 = nI (6 - (x + 1)) - 1 := by rw [ex28, show 6 - (x + 1) = 5 - x by omega]; exact (Int32.sub_eq_add_neg _ _).symm
                subst hs
                refine ih11 (x + 1, (le / 7), x18, 0, f16) ⟨?_, ?_, ?_⟩ (by first | omega | (dsimp only; omega)) H locs ls (hP.sub [0, 1, 2] rfl) (hD.sub [0, 1, 2] (by decide) rfl) hS (lv_sub hl [0, 1, 2, 3, 5, 6, 7] rfl)
                · try dsimp only
                  omega
                · try dsimp only
                  omega
                · try dsimp only
                  intro j h1 h2; rw [ef16, ef9, nI_clamp (by omega)]
                  by_cases e9 : j = 5 - x
                  · subst e9; rw [pk_us]; exact ⟨_, by omega, rfl⟩
                  · rw [pk_un e9, pk_un e9]; exact hpx j (by omega) h2
              · refine lv_aload_n hx hb dX10_layTree_101 rfl (lv_at hl 5 rfl) ?_
                refine va_get (D := G.1) (ci := 6) (v := .ref a_offOf) (C := RX10) (T := TX10) (N := 28) hx hb hts (fun _ h => List.mem_cons_of_mem _ (List.mem_append_right _ h)) hown E.K hP 0 rfl rfl 17 (by decide) (hts (.fieldLink RX10 37 "LastMapModel" "offOf" "[I") (by decide +kernel)) (fun _ h9 => h9) rfl dX10_layTree_102 ?_
                refine lv_bipush (v := 6) hx hb dX10_layTree_105 (by decide) ?_
                refine lv_iload hx hb dX10_layTree_107 (lv_at hl 2 rfl) ?_
                refine lv_imul hx hb dX10_layTree_109 ?_
                refine lv_topi (fun x29 ex29 => ?_)
                obtain rfl : x29 = nI (6 * (le % 7)) := by rw [ex29]; exact pk_mul 6 (le % 7)
                refine lv_iload hx hb dX10_layTree_110 (lv_at hl 3 rfl) ?_
                refine lv_iadd hx hb dX10_layTree_112 ?_
                refine lv_topi (fun x30 ex30 => ?_)
                obtain rfl : x30 = nI ((6 * (le % 7)) + (5 - x)) := by rw [ex30]; exact nI_add (6 * (le % 7)) (5 - x)
                refine va_iald hx hb E.K hP 2 1 rfl rfl (i := nI ((6 * (le % 7)) + (5 - x))) (vp_in_nI (by omega) (by decide)) dX10_layTree_113 ?_
                refine lv_topi (fun x31 ex31 => ?_)
                refine lv_if_lt (tgt := 121) hx hb dX10_layTree_114 (by decide) (fun c32 => ?_) (fun c32 => ?_)
                · refine lv_iconst (v := 0) hx hb dX10_layTree_121 (by decide) ?_
                  refine lv_istore (lv' := [(5, .int 0), (4, .int x18), (3, .int (nI (le / 7))), (7, .int (nI (le % 7))), (6, .int (nI (5 - x))), (0, .ref h1), (1, .int p1), (2, .int (nI nu))]) hx hb dX10_layTree_122 hl (by decide) rfl (fun ls hl => ?_)
                  obtain ⟨x33, ex33⟩ : ∃ yy_ : Int32, yy_ = (nI (5 - x)) + (-1) := ⟨_, rfl⟩
                  refine lv_iinc (v := x33) (lv' := [(6, .int x33), (5, .int 0), (4, .int x18), (3, .int (nI (le / 7))), (7, .int (nI (le % 7))), (0, .ref h1), (1, .int p1), (2, .int (nI nu))]) hx hb dX10_layTree_124 hl (k := 4) rfl (by rw [ex33]; rfl) (by decide) rfl (fun ls hl => ?_)
                  refine lv_goto (tgt := 11) hx hb dX10_layTree_127 (by decide) ?_
                  have hs : x33 = nI (6 - (x + 1)) - 1 := by rw [ex33, show 6 - (x + 1) = 5 - x by omega]; exact (Int32.sub_eq_add_neg _ _).symm
                  subst hs
                  refine ih11 (x + 1, (le / 7), x18, 0, f16) ⟨?_, ?_, ?_⟩ (by first | omega | (dsimp only; omega)) H locs ls (hP.sub [0, 1, 2] rfl) (hD.sub [0, 1, 2] (by decide) rfl) hS (lv_sub hl [0, 1, 2, 3, 5, 6, 7] rfl)
                  · try dsimp only
                    omega
                  · try dsimp only
                    omega
                  · try dsimp only
                    intro j h1 h2; rw [ef16, ef9, nI_clamp (by omega)]
                    by_cases e9 : j = 5 - x
                    · subst e9; rw [pk_us]; exact ⟨_, by omega, rfl⟩
                    · rw [pk_un e9, pk_un e9]; exact hpx j (by omega) h2
                · refine lv_iconst (v := 1) hx hb dX10_layTree_117 (by decide) ?_
                  refine lv_goto (tgt := 122) hx hb dX10_layTree_118 (by decide) ?_
                  refine lv_istore (lv' := [(5, .int 1), (4, .int x18), (3, .int (nI (le / 7))), (7, .int (nI (le % 7))), (6, .int (nI (5 - x))), (0, .ref h1), (1, .int p1), (2, .int (nI nu))]) hx hb dX10_layTree_122 hl (by decide) rfl (fun ls hl => ?_)
                  obtain ⟨x34, ex34⟩ : ∃ yy_ : Int32, yy_ = (nI (5 - x)) + (-1) := ⟨_, rfl⟩
                  refine lv_iinc (v := x34) (lv' := [(6, .int x34), (5, .int 1), (4, .int x18), (3, .int (nI (le / 7))), (7, .int (nI (le % 7))), (0, .ref h1), (1, .int p1), (2, .int (nI nu))]) hx hb dX10_layTree_124 hl (k := 4) rfl (by rw [ex34]; rfl) (by decide) rfl (fun ls hl => ?_)
                  refine lv_goto (tgt := 11) hx hb dX10_layTree_127 (by decide) ?_
                  have hs : x34 = nI (6 - (x + 1)) - 1 := by rw [ex34, show 6 - (x + 1) = 5 - x by omega]; exact (Int32.sub_eq_add_neg _ _).symm
                  subst hs
                  refine ih11 (x + 1, (le / 7), x18, 1, f16) ⟨?_, ?_, ?_⟩ (by first | omega | (dsimp only; omega)) H locs ls (hP.sub [0, 1, 2] rfl) (hD.sub [0, 1, 2] (by decide) rfl) hS (lv_sub hl [0, 1, 2, 3, 5, 6, 7] rfl)
                  · try dsimp only
                    omega
                  · try dsimp only
                    omega
                  · try dsimp only
                    intro j h1 h2; rw [ef16, ef9, nI_clamp (by omega)]
                    by_cases e9 : j = 5 - x
                    · subst e9; rw [pk_us]; exact ⟨_, by omega, rfl⟩
                    · rw [pk_un e9, pk_un e9]; exact hpx j (by omega) h2
      · have c17 : (le % 7) = 6 := (nI_eq (a := (le % 7)) (b := 6) (by omega) (by omega)).mp c17
        refine lv_iconst (v := 1) hx hb dX10_layTree_64 (by decide) ?_
        refine lv_goto (tgt := 69) hx hb dX10_layTree_65 (by decide) ?_
        refine lv_iadd hx hb dX10_layTree_69 ?_
        refine lv_topi (fun x35 ex35 => ?_)
        refine lv_istore (lv' := [(4, .int x35), (3, .int (nI (le / 7))), (7, .int (nI (le % 7))), (6, .int (nI (5 - x))), (5, .int go_), (0, .ref h1), (1, .int p1), (2, .int (nI nu))]) hx hb dX10_layTree_70 hl (by decide) rfl (fun ls hl => ?_)
        refine lv_iload hx hb dX10_layTree_72 (lv_at hl 4 rfl) ?_
        refine lv_if_eq (tgt := 121) hx hb dX10_layTree_74 (by decide) (fun c36 => ?_) (fun c36 => ?_)
        · refine lv_iconst (v := 0) hx hb dX10_layTree_121 (by decide) ?_
          refine lv_istore (lv' := [(5, .int 0), (4, .int x35), (3, .int (nI (le / 7))), (7, .int (nI (le % 7))), (6, .int (nI (5 - x))), (0, .ref h1), (1, .int p1), (2, .int (nI nu))]) hx hb dX10_layTree_122 hl (by decide) rfl (fun ls hl => ?_)
          obtain ⟨x37, ex37⟩ : ∃ yy_ : Int32, yy_ = (nI (5 - x)) + (-1) := ⟨_, rfl⟩
          refine lv_iinc (v := x37) (lv' := [(6, .int x37), (5, .int 0), (4, .int x35), (3, .int (nI (le / 7))), (7, .int (nI (le % 7))), (0, .ref h1), (1, .int p1), (2, .int (nI nu))]) hx hb dX10_layTree_124 hl (k := 4) rfl (by rw [ex37]; rfl) (by decide) rfl (fun ls hl => ?_)
          refine lv_goto (tgt := 11) hx hb dX10_layTree_127 (by decide) ?_
          have hs : x37 = nI (6 - (x + 1)) - 1 := by rw [ex37, show 6 - (x + 1) = 5 - x by omega]; exact (Int32.sub_eq_add_neg _ _).symm
          subst hs
          refine ih11 (x + 1, (le / 7), x35, 0, f16) ⟨?_, ?_, ?_⟩ (by first | omega | (dsimp only; omega)) H locs ls (hP.sub [0, 1, 2] rfl) (hD.sub [0, 1, 2] (by decide) rfl) hS (lv_sub hl [0, 1, 2, 3, 5, 6, 7] rfl)
          · try dsimp only
            omega
          · try dsimp only
            omega
          · try dsimp only
            intro j h1 h2; rw [ef16, ef9, nI_clamp (by omega)]
            by_cases e9 : j = 5 - x
            · subst e9; rw [pk_us]; exact ⟨_, by omega, rfl⟩
            · rw [pk_un e9, pk_un e9]; exact hpx j (by omega) h2
        · refine lv_iload hx hb dX10_layTree_77 (lv_at hl 2 rfl) ?_
          refine lv_bipush (v := 6) hx hb dX10_layTree_79 (by decide) ?_
          refine lv_icmp_eq (tgt := 117) hx hb dX10_layTree_81 (by decide) (fun c38 => ?_) (fun c38 => ?_)
          · have c38 : (le % 7) = 6 := (nI_eq (a := (le % 7)) (b := 6) (by omega) (by omega)).mp c38
            refine lv_iconst (v := 1) hx hb dX10_layTree_117 (by decide) ?_
            refine lv_goto (tgt := 122) hx hb dX10_layTree_118 (by decide) ?_
            refine lv_istore (lv' := [(5, .int 1), (4, .int x35), (3, .int (nI (le / 7))), (7, .int (nI (le % 7))), (6, .int (nI (5 - x))), (0, .ref h1), (1, .int p1), (2, .int (nI nu))]) hx hb dX10_layTree_122 hl (by decide) rfl (fun ls hl => ?_)
            obtain ⟨x39, ex39⟩ : ∃ yy_ : Int32, yy_ = (nI (5 - x)) + (-1) := ⟨_, rfl⟩
            refine lv_iinc (v := x39) (lv' := [(6, .int x39), (5, .int 1), (4, .int x35), (3, .int (nI (le / 7))), (7, .int (nI (le % 7))), (0, .ref h1), (1, .int p1), (2, .int (nI nu))]) hx hb dX10_layTree_124 hl (k := 4) rfl (by rw [ex39]; rfl) (by decide) rfl (fun ls hl => ?_)
            refine lv_goto (tgt := 11) hx hb dX10_layTree_127 (by decide) ?_
            have hs : x39 = nI (6 - (x + 1)) - 1 := by rw [ex39, show 6 - (x + 1) = 5 - x by omega]; exact (Int32.sub_eq_add_neg _ _).symm
            subst hs
            refine ih11 (x + 1, (le / 7), x35, 1, f16) ⟨?_, ?_, ?_⟩ (by first | omega | (dsimp only; omega)) H locs ls (hP.sub [0, 1, 2] rfl) (hD.sub [0, 1, 2] (by decide) rfl) hS (lv_sub hl [0, 1, 2, 3, 5, 6, 7] rfl)
            · try dsimp only
              omega
            · try dsimp only
              omega
            · try dsimp only
              intro j h1 h2; rw [ef16, ef9, nI_clamp (by omega)]
              by_cases e9 : j = 5 - x
              · subst e9; rw [pk_us]; exact ⟨_, by omega, rfl⟩
              · rw [pk_un e9, pk_un e9]; exact hpx j (by omega) h2
          · have c38 : ¬ (le % 7) = 6 := fun h9_ => c38 ((nI_eq (a := (le % 7)) (b := 6) (by omega) (by omega)).mpr h9_)
            refine lv_iload hx hb dX10_layTree_84 (lv_at hl 2 rfl) ?_
            refine lv_iload hx hb dX10_layTree_86 (lv_at hl 3 rfl) ?_
            refine lv_icmp_eq (tgt := 121) hx hb dX10_layTree_88 (by decide) (fun c40 => ?_) (fun c40 => ?_)
            · have c40 : (le % 7) = (5 - x) := (nI_eq (a := (le % 7)) (b := (5 - x)) (by omega) (by omega)).mp c40
              refine lv_iconst (v := 0) hx hb dX10_layTree_121 (by decide) ?_
              refine lv_istore (lv' := [(5, .int 0), (4, .int x35), (3, .int (nI (le / 7))), (7, .int (nI (le % 7))), (6, .int (nI (5 - x))), (0, .ref h1), (1, .int p1), (2, .int (nI nu))]) hx hb dX10_layTree_122 hl (by decide) rfl (fun ls hl => ?_)
              obtain ⟨x41, ex41⟩ : ∃ yy_ : Int32, yy_ = (nI (5 - x)) + (-1) := ⟨_, rfl⟩
              refine lv_iinc (v := x41) (lv' := [(6, .int x41), (5, .int 0), (4, .int x35), (3, .int (nI (le / 7))), (7, .int (nI (le % 7))), (0, .ref h1), (1, .int p1), (2, .int (nI nu))]) hx hb dX10_layTree_124 hl (k := 4) rfl (by rw [ex41]; rfl) (by decide) rfl (fun ls hl => ?_)
              refine lv_goto (tgt := 11) hx hb dX10_layTree_127 (by decide) ?_
              have hs : x41 = nI (6 - (x + 1)) - 1 := by rw [ex41, show 6 - (x + 1) = 5 - x by omega]; exact (Int32.sub_eq_add_neg _ _).symm
              subst hs
              refine ih11 (x + 1, (le / 7), x35, 0, f16) ⟨?_, ?_, ?_⟩ (by first | omega | (dsimp only; omega)) H locs ls (hP.sub [0, 1, 2] rfl) (hD.sub [0, 1, 2] (by decide) rfl) hS (lv_sub hl [0, 1, 2, 3, 5, 6, 7] rfl)
              · try dsimp only
                omega
              · try dsimp only
                omega
              · try dsimp only
                intro j h1 h2; rw [ef16, ef9, nI_clamp (by omega)]
                by_cases e9 : j = 5 - x
                · subst e9; rw [pk_us]; exact ⟨_, by omega, rfl⟩
                · rw [pk_un e9, pk_un e9]; exact hpx j (by omega) h2
            · have c40 : ¬ (le % 7) = (5 - x) := fun h9_ => c40 ((nI_eq (a := (le % 7)) (b := (5 - x)) (by omega) (by omega)).mpr h9_)
              refine lv_iload_n hx hb dX10_layTree_91 rfl (lv_at hl 6 rfl) ?_
              refine lv_iload hx hb dX10_layTree_92 (lv_at hl 2 rfl) ?_
              refine lv_ishr hx hb dX10_layTree_94 ?_
              refine lv_topi (fun x42 ex42 => ?_)
              refine lv_iconst (v := 1) hx hb dX10_layTree_95 (by decide) ?_
              refine lv_iand hx hb dX10_layTree_96 ?_
              refine lv_topi (fun x43 ex43 => ?_)
              refine lv_iconst (v := 1) hx hb dX10_layTree_97 (by decide) ?_
              refine lv_icmp_ne (tgt := 121) hx hb dX10_layTree_98 (by decide) (fun c44 => ?_) (fun c44 => ?_)
              · refine lv_iconst (v := 0) hx hb dX10_layTree_121 (by decide) ?_
                refine lv_istore (lv' := [(5, .int 0), (4, .int x35), (3, .int (nI (le / 7))), (7, .int (nI (le % 7))), (6, .int (nI (5 - x))), (0, .ref h1), (1, .int p1), (2, .int (nI nu))]) hx hb dX10_layTree_122 hl (by decide) rfl (fun ls hl => ?_)
                obtain ⟨x45, ex45⟩ : ∃ yy_ : Int32, yy_ = (nI (5 - x)) + (-1) := ⟨_, rfl⟩
                refine lv_iinc (v := x45) (lv' := [(6, .int x45), (5, .int 0), (4, .int x35), (3, .int (nI (le / 7))), (7, .int (nI (le % 7))), (0, .ref h1), (1, .int p1), (2, .int (nI nu))]) hx hb dX10_layTree_124 hl (k := 4) rfl (by rw [ex45]; rfl) (by decide) rfl (fun ls hl => ?_)
                refine lv_goto (tgt := 11) hx hb dX10_layTree_127 (by decide) ?_
                have hs : x45 = nI (6 - (x + 1)) - 1 := by rw [ex45, show 6 - (x + 1) = 5 - x by omega]; exact (Int32.sub_eq_add_neg _ _).symm
                subst hs
                refine ih11 (x + 1, (le / 7), x35, 0, f16) ⟨?_, ?_, ?_⟩ (by first | omega | (dsimp only; omega)) H locs ls (hP.sub [0, 1, 2] rfl) (hD.sub [0, 1, 2] (by decide) rfl) hS (lv_sub hl [0, 1, 2, 3, 5, 6, 7] rfl)
                · try dsimp only
                  omega
                · try dsimp only
                  omega
                · try dsimp only
                  intro j h1 h2; rw [ef16, ef9, nI_clamp (by omega)]
                  by_cases e9 : j = 5 - x
                  · subst e9; rw [pk_us]; exact ⟨_, by omega, rfl⟩
                  · rw [pk_un e9, pk_un e9]; exact hpx j (by omega) h2
              · refine lv_aload_n hx hb dX10_layTree_101 rfl (lv_at hl 5 rfl) ?_
                refine va_get (D := G.1) (ci := 6) (v := .ref a_offOf) (C := RX10) (T := TX10) (N := 28) hx hb hts (fun _ h => List.mem_cons_of_mem _ (List.mem_append_right _ h)) hown E.K hP 0 rfl rfl 17 (by decide) (hts (.fieldLink RX10 37 "LastMapModel" "offOf" "[I") (by decide +kernel)) (fun _ h9 => h9) rfl dX10_layTree_102 ?_
                refine lv_bipush (v := 6) hx hb dX10_layTree_105 (by decide) ?_
                refine lv_iload hx hb dX10_layTree_107 (lv_at hl 2 rfl) ?_
                refine lv_imul hx hb dX10_layTree_109 ?_
                refine lv_topi (fun x46 ex46 => ?_)
                obtain rfl : x46 = nI (6 * (le % 7)) := by rw [ex46]; exact pk_mul 6 (le % 7)
                refine lv_iload hx hb dX10_layTree_110 (lv_at hl 3 rfl) ?_
                refine lv_iadd hx hb dX10_layTree_112 ?_
                refine lv_topi (fun x47 ex47 => ?_)
                obtain rfl : x47 = nI ((6 * (le % 7)) + (5 - x)) := by rw [ex47]; exact nI_add (6 * (le % 7)) (5 - x)
                refine va_iald hx hb E.K hP 2 1 rfl rfl (i := nI ((6 * (le % 7)) + (5 - x))) (vp_in_nI (by omega) (by decide)) dX10_layTree_113 ?_
                refine lv_topi (fun x48 ex48 => ?_)
                refine lv_if_lt (tgt := 121) hx hb dX10_layTree_114 (by decide) (fun c49 => ?_) (fun c49 => ?_)
                · refine lv_iconst (v := 0) hx hb dX10_layTree_121 (by decide) ?_
                  refine lv_istore (lv' := [(5, .int 0), (4, .int x35), (3, .int (nI (le / 7))), (7, .int (nI (le % 7))), (6, .int (nI (5 - x))), (0, .ref h1), (1, .int p1), (2, .int (nI nu))]) hx hb dX10_layTree_122 hl (by decide) rfl (fun ls hl => ?_)
                  obtain ⟨x50, ex50⟩ : ∃ yy_ : Int32, yy_ = (nI (5 - x)) + (-1) := ⟨_, rfl⟩
                  refine lv_iinc (v := x50) (lv' := [(6, .int x50), (5, .int 0), (4, .int x35), (3, .int (nI (le / 7))), (7, .int (nI (le % 7))), (0, .ref h1), (1, .int p1), (2, .int (nI nu))]) hx hb dX10_layTree_124 hl (k := 4) rfl (by rw [ex50]; rfl) (by decide) rfl (fun ls hl => ?_)
                  refine lv_goto (tgt := 11) hx hb dX10_layTree_127 (by decide) ?_
                  have hs : x50 = nI (6 - (x + 1)) - 1 := by rw [ex50, show 6 - (x + 1) = 5 - x by omega]; exact (Int32.sub_eq_add_neg _ _).symm
                  subst hs
                  refine ih11 (x + 1, (le / 7), x35, 0, f16) ⟨?_, ?_, ?_⟩ (by first | omega | (dsimp only; omega)) H locs ls (hP.sub [0, 1, 2] rfl) (hD.sub [0, 1, 2] (by decide) rfl) hS (lv_sub hl [0, 1, 2, 3, 5, 6, 7] rfl)
                  · try dsimp only
                    omega
                  · try dsimp only
                    omega
                  · try dsimp only
                    intro j h1 h2; rw [ef16, ef9, nI_clamp (by omega)]
                    by_cases e9 : j = 5 - x
                    · subst e9; rw [pk_us]; exact ⟨_, by omega, rfl⟩
                    · rw [pk_un e9, pk_un e9]; exact hpx j (by omega) h2
                · refine lv_iconst (v := 1) hx hb dX10_layTree_117 (by decide) ?_
                  refine lv_goto (tgt := 122) hx hb dX10_layTree_118 (by decide) ?_
                  refine lv_istore (lv' := [(5, .int 1), (4, .int x35), (3, .int (nI (le / 7))), (7, .int (nI (le % 7))), (6, .int (nI (5 - x))), (0, .ref h1), (1, .int p1), (2, .int (nI nu))]) hx hb dX10_layTree_122 hl (by decide) rfl (fun ls hl => ?_)
                  obtain ⟨x51, ex51⟩ : ∃ yy_ : Int32, yy_ = (nI (5 - x)) + (-1) := ⟨_, rfl⟩
                  refine lv_iinc (v := x51) (lv' := [(6, .int x51), (5, .int 1), (4, .int x35), (3, .int (nI (le / 7))), (7, .int (nI (le % 7))), (0, .ref h1), (1, .int p1), (2, .int (nI nu))]) hx hb dX10_layTree_124 hl (k := 4) rfl (by rw [ex51]; rfl) (by decide) rfl (fun ls hl => ?_)
                  refine lv_goto (tgt := 11) hx hb dX10_layTree_127 (by decide) ?_
                  have hs : x51 = nI (6 - (x + 1)) - 1 := by rw [ex51, show 6 - (x + 1) = 5 - x by omega]; exact (Int32.sub_eq_add_neg _ _).symm
                  subst hs
                  refine ih11 (x + 1, (le / 7), x35, 1, f16) ⟨?_, ?_, ?_⟩ (by first | omega | (dsimp only; omega)) H locs ls (hP.sub [0, 1, 2] rfl) (hD.sub [0, 1, 2] (by decide) rfl) hS (lv_sub hl [0, 1, 2, 3, 5, 6, 7] rfl)
                  · try dsimp only
                    omega
                  · try dsimp only
                    omega
                  · try dsimp only
                    intro j h1 h2; rw [ef16, ef9, nI_clamp (by omega)]
                    by_cases e9 : j = 5 - x
                    · subst e9; rw [pk_us]; exact ⟨_, by omega, rfl⟩
                    · rw [pk_un e9, pk_un e9]; exact hpx j (by omega) h2

set_option maxHeartbeats 1000000 in
set_option maxRecDepth 100000 in
theorem m_sumOfTree (l : Launch) (G : Gy) (sz : Nat) (h1 : Nat) (v_sites : Value) (v_maps : Value) (v_told : Value) (v_kinds : Value) (v_land : Value) (v_spades : Value) (v_part : Value) (v_pad : Value) (v_padMany : Value) (v_slips : Value) (v_slipMany : Value) (v_made : Value) (v_queue : Value) (v_depth : Value) (v_by : Value) (v_from : Value) (v_come : Value) (v_best : Value) (v_trees : Value) (v_least : Value) (v_sums : Value) (v_toward : Value) (v_kept : Value) (v_isKept : Value) (v_keptAt : Value) (v_isWriting : Value) (a_parent : Nat) (fpa : Nat → Int32) (a_offOf : Nat) (fo : Nat → Int32) (p1 : Int32) (hpa : parOK fpa) : Ci l G yX10_sumOfTree wsX10_sumOfTree ({ frames := 0, cells := 0, slots := 0, locals := 0 }) [.ref h1, .int p1] ([(h1, .inr (6, [v_sites, v_maps, v_told, v_kinds, v_land, v_spades, v_part, v_pad, v_padMany, v_slips, v_slipMany, v_made, v_queue, v_depth, v_by, v_from, v_come, .ref a_offOf, .ref a_parent, v_best, v_trees, v_least, v_sums, v_toward, v_kept, v_isKept, v_keptAt, v_isWriting])), (a_parent, .inl (gI G, 6, .inl fpa)), (a_offOf, .inl (gI G, 36, .inl fo))]) sz (fun (r : Int32) (_ : Unit) => True) (fun (_ : Unit) => [(h1, .inr (6, [v_sites, v_maps, v_told, v_kinds, v_land, v_spades, v_part, v_pad, v_padMany, v_slips, v_slipMany, v_made, v_queue, v_depth, v_by, v_from, v_come, .ref a_offOf, .ref a_parent, v_best, v_trees, v_least, v_sums, v_toward, v_kept, v_isKept, v_keptAt, v_isWriting])), (a_parent, .inl (gI G, 6, .inl fpa)), (a_offOf, .inl (gI G, 36, .inl fo))]) 0 0 := by
  refine Met.ofW (cc := cX10_sumOfTree) (maxL := 4) (ret := (some .int)) (by decide) rfl ?_
  intro p e s m args below meth c s₁ B hml hv
  obtain ⟨rfl, hsz, hP, hD0, E0⟩ := hv
  have hx := B.exec
  have hb := B.bytes
  have hr := B.returns
  have hts := atoms_spec (ws := wsX10_sumOfTree) B.pre
  have hown : s.vm.findClass RX10 = some m.cls := findClass_of_methodNamed B.named
  have hlocks := B.notSynchronized
  subst hsz
  have hD := hD0.self (sz := s.heap.size)
  generalize hAe : va_A ([(h1, .inr (6, [v_sites, v_maps, v_told, v_kinds, v_land, v_spades, v_part, v_pad, v_padMany, v_slips, v_slipMany, v_made, v_queue, v_depth, v_by, v_from, v_come, .ref a_offOf, .ref a_parent, v_best, v_trees, v_least, v_sums, v_toward, v_kept, v_isKept, v_keptAt, v_isWriting])), (a_parent, .inl (gI G, 6, .inl fpa)), (a_offOf, .inl (gI G, 36, .inl fo))]) s.heap.size = A at hD E0 ⊢
  have E : EV G A s s.heap := E0
  have hA : ∀ q : Nat, s.heap.size ≤ q → A q := fun q h => by rw [← hAe]; exact Or.inr h
  have hS : va_S A s.heap s.heap [] := va_S.rf
  have hl := lv_entry ([.ref h1, .int p1]) (n := 4) (Nat.le_of_ble_eq_true rfl)
  rw [lg_entry_eq]
  generalize (lg_sl ([.ref h1, .int p1]) ++ List.replicate (4 - (lg_sl ([.ref h1, .int p1])).length) Slot.unset).toArray = ls at hl ⊢
  have hl : lv_has ls 4 [(0, .ref h1), (1, .int p1)] := hl
  have hP : va_P G.1 vwCl ([(h1, .inr (6, [v_sites, v_maps, v_told, v_kinds, v_land, v_spades, v_part, v_pad, v_padMany, v_slips, v_slipMany, v_made, v_queue, v_depth, v_by, v_from, v_come, .ref a_offOf, .ref a_parent, v_best, v_trees, v_least, v_sums, v_toward, v_kept, v_isKept, v_keptAt, v_isWriting])), (a_parent, .inl (gI G, 6, .inl fpa)), (a_offOf, .inl (gI G, 36, .inl fo))]) s.heap := hP
  refine lv_iconst (v := 0) hx hb dX10_sumOfTree_0 (by decide) ?_
  refine lv_istore_n (lv' := [(2, .int 0), (0, .ref h1), (1, .int p1)]) hx hb dX10_sumOfTree_1 rfl hl (by decide) rfl (fun ls hl => ?_)
  refine lv_iconst (v := 0) hx hb dX10_sumOfTree_2 (by decide) ?_
  refine lv_istore_n (lv' := [(3, .int 0), (2, .int 0), (0, .ref h1), (1, .int p1)]) hx hb dX10_sumOfTree_3 rfl hl (by decide) rfl (fun ls hl => ?_)
  refine lp_run (x0 := (0, 0)) (fun xx_ : Nat × Int32 => match xx_ with | (x, su) => [(h1, .inr (6, [v_sites, v_maps, v_told, v_kinds, v_land, v_spades, v_part, v_pad, v_padMany, v_slips, v_slipMany, v_made, v_queue, v_depth, v_by, v_from, v_come, .ref a_offOf, .ref a_parent, v_best, v_trees, v_least, v_sums, v_toward, v_kept, v_isKept, v_keptAt, v_isWriting])), (a_parent, .inl (gI G, 6, .inl fpa)), (a_offOf, .inl (gI G, 36, .inl fo))]) (fun xx_ : Nat × Int32 => match xx_ with | (x, su) => [(3, .int (nI x)), (2, .int su), (0, .ref h1), (1, .int p1)]) (fun xx_ : Nat × Int32 => match xx_ with | (x, su) => (x ≤ 6)) (fun xx_ : Nat × Int32 => match xx_ with | (x, su) => 6 - x) (hP.sub [0, 1, 2] rfl) (hD.sub [0, 1, 2] (by decide) rfl) hS (lv_sub hl [0, 1, 2, 3] rfl) (by omega) ?_
  intro xx_ hI ih4 H locs ls hP hD hS hl
  obtain ⟨x, su⟩ := xx_
  dsimp only at hI ih4 hP hD hl
  have hx0 := hI
  have hl : lv_has ls 4 [(3, .int (nI x)), (2, .int su), (0, .ref h1), (1, .int p1)] := hl
  have hP : va_P G.1 vwCl ([(h1, .inr (6, [v_sites, v_maps, v_told, v_kinds, v_land, v_spades, v_part, v_pad, v_padMany, v_slips, v_slipMany, v_made, v_queue, v_depth, v_by, v_from, v_come, .ref a_offOf, .ref a_parent, v_best, v_trees, v_least, v_sums, v_toward, v_kept, v_isKept, v_keptAt, v_isWriting])), (a_parent, .inl (gI G, 6, .inl fpa)), (a_offOf, .inl (gI G, 36, .inl fo))]) H := hP
  have hD : va_D A ([(h1, .inr (6, [v_sites, v_maps, v_told, v_kinds, v_land, v_spades, v_part, v_pad, v_padMany, v_slips, v_slipMany, v_made, v_queue, v_depth, v_by, v_from, v_come, .ref a_offOf, .ref a_parent, v_best, v_trees, v_least, v_sums, v_toward, v_kept, v_isKept, v_keptAt, v_isWriting])), (a_parent, .inl (gI G, 6, .inl fpa)), (a_offOf, .inl (gI G, 36, .inl fo))]) := hD
  refine lv_iload_n hx hb dX10_sumOfTree_4 rfl (lv_at hl 0 rfl) ?_
  refine lv_bipush (v := 6) hx hb dX10_sumOfTree_5 (by decide) ?_
  refine lv_icmp_ge (tgt := 59) hx hb dX10_sumOfTree_7 (by decide) (fun c1 => ?_) (fun c1 => ?_)
  · have c1 : 6 ≤ x := (nI_leI (a := 6) (b := x) (by omega) (by omega)).mp c1
    refine lv_iload_n hx hb dX10_sumOfTree_59 rfl (lv_at hl 1 rfl) ?_
    have hP9 := (hP.sub (ws' := [(h1, .inr (6, [v_sites, v_maps, v_told, v_kinds, v_land, v_spades, v_part, v_pad, v_padMany, v_slips, v_slipMany, v_made, v_queue, v_depth, v_by, v_from, v_come, .ref a_offOf, .ref a_parent, v_best, v_trees, v_least, v_sums, v_toward, v_kept, v_isKept, v_keptAt, v_isWriting])), (a_parent, .inl (gI G, 6, .inl fpa)), (a_offOf, .inl (gI G, 36, .inl fo))]) [0, 1, 2] rfl)
    have hD9 := (hD.sub (ws' := [(h1, .inr (6, [v_sites, v_maps, v_told, v_kinds, v_land, v_spades, v_part, v_pad, v_padMany, v_slips, v_slipMany, v_made, v_queue, v_depth, v_by, v_from, v_come, .ref a_offOf, .ref a_parent, v_best, v_trees, v_least, v_sums, v_toward, v_kept, v_isKept, v_keptAt, v_isWriting])), (a_parent, .inl (gI G, 6, .inl fpa)), (a_offOf, .inl (gI G, 36, .inl fo))]) [0, 1, 2] (by decide) rfl)
    exact W.iret (v := su) hx hb hr (fun t9_ ht9_ hW9_ => ⟨⟨su, (), rfl, trivial, by rw [ht9_]; exact hP9, hD9⟩, hS.F ht9_⟩) hS.2.2 dX10_sumOfTree_60
  · have c1 : ¬ 6 ≤ x := fun h9_ => c1 ((nI_leI (a := 6) (b := x) (by omega) (by omega)).mpr h9_)
    obtain ⟨qa, hqa, eqa⟩ := hpa x (by omega)
    refine lv_iload_n hx hb dX10_sumOfTree_10 rfl (lv_at hl 1 rfl) ?_
    refine lv_iload_n hx hb dX10_sumOfTree_11 rfl (lv_at hl 3 rfl) ?_
    refine lv_iload_n hx hb dX10_sumOfTree_12 rfl (lv_at hl 0 rfl) ?_
    refine lv_ishr hx hb dX10_sumOfTree_13 ?_
    refine lv_topi (fun x2 ex2 => ?_)
    refine lv_iconst (v := 1) hx hb dX10_sumOfTree_14 (by decide) ?_
    refine lv_iand hx hb dX10_sumOfTree_15 ?_
    refine lv_topi (fun x3 ex3 => ?_)
    refine lv_iconst (v := 1) hx hb dX10_sumOfTree_16 (by decide) ?_
    refine lv_icmp_ne (tgt := 50) hx hb dX10_sumOfTree_17 (by decide) (fun c4 => ?_) (fun c4 => ?_)
    · refine lv_iconst (v := 0) hx hb dX10_sumOfTree_50 (by decide) ?_
      refine lv_iadd hx hb dX10_sumOfTree_51 ?_
      refine lv_topi (fun x5 ex5 => ?_)
      refine lv_istore_n (lv' := [(2, .int x5), (3, .int (nI x)), (0, .ref h1), (1, .int p1)]) hx hb dX10_sumOfTree_52 rfl hl (by decide) rfl (fun ls hl => ?_)
      obtain ⟨x6, ex6⟩ : ∃ yy_ : Int32, yy_ = (nI x) + 1 := ⟨_, rfl⟩
      refine lv_iinc (v := x6) (lv' := [(3, .int x6), (2, .int x5), (0, .ref h1), (1, .int p1)]) hx hb dX10_sumOfTree_53 hl (k := 1) rfl (by rw [ex6]; rfl) (by decide) rfl (fun ls hl => ?_)
      obtain rfl : x6 = nI (x + 1) := by rw [ex6]; exact nI_add x 1
      refine lv_goto (tgt := 4) hx hb dX10_sumOfTree_56 (by decide) ?_
      refine ih4 ((x + 1), x5) ?_ (by first | omega | (dsimp only; omega)) H locs ls (hP.sub [0, 1, 2] rfl) (hD.sub [0, 1, 2] (by decide) rfl) hS (lv_sub hl [0, 1, 2, 3] rfl)
      try dsimp only
      omega
    · refine lv_aload_n hx hb dX10_sumOfTree_20 rfl (lv_at hl 2 rfl) ?_
      refine va_get (D := G.1) (ci := 6) (v := .ref a_parent) (C := RX10) (T := TX10) (N := 28) hx hb hts (fun _ h => List.mem_cons_of_mem _ (List.mem_append_right _ h)) hown E.K hP 0 rfl rfl 18 (by decide) (hts (.fieldLink RX10 40 "LastMapModel" "parent" "[I") (by decide +kernel)) (fun _ h9 => h9) rfl dX10_sumOfTree_21 ?_
      refine lv_iload_n hx hb dX10_sumOfTree_24 rfl (lv_at hl 0 rfl) ?_
      refine va_iald hx hb E.K hP 1 1 rfl rfl (i := nI x) (vp_in_nI (by omega) (by decide)) dX10_sumOfTree_25 ?_
      refine lv_topi (fun x7 ex7 => ?_)
      obtain rfl : x7 = nI qa := by rw [ex7, nI_clamp (by omega)]; exact eqa
      refine lv_bipush (v := 6) hx hb dX10_sumOfTree_26 (by decide) ?_
      refine lv_icmp_ge (tgt := 50) hx hb dX10_sumOfTree_28 (by decide) (fun c8 => ?_) (fun c8 => ?_)
      · have c8 : 6 ≤ qa := (nI_leI (a := 6) (b := qa) (by omega) (by omega)).mp c8
        refine lv_iconst (v := 0) hx hb dX10_sumOfTree_50 (by decide) ?_
        refine lv_iadd hx hb dX10_sumOfTree_51 ?_
        refine lv_topi (fun x9 ex9 => ?_)
        refine lv_istore_n (lv' := [(2, .int x9), (3, .int (nI x)), (0, .ref h1), (1, .int p1)]) hx hb dX10_sumOfTree_52 rfl hl (by decide) rfl (fun ls hl => ?_)
        obtain ⟨x10, ex10⟩ : ∃ yy_ : Int32, yy_ = (nI x) + 1 := ⟨_, rfl⟩
        refine lv_iinc (v := x10) (lv' := [(3, .int x10), (2, .int x9), (0, .ref h1), (1, .int p1)]) hx hb dX10_sumOfTree_53 hl (k := 1) rfl (by rw [ex10]; rfl) (by decide) rfl (fun ls hl => ?_)
        obtain rfl : x10 = nI (x + 1) := by rw [ex10]; exact nI_add x 1
        refine lv_goto (tgt := 4) hx hb dX10_sumOfTree_56 (by decide) ?_
        refine ih4 ((x + 1), x9) ?_ (by first | omega | (dsimp only; omega)) H locs ls (hP.sub [0, 1, 2] rfl) (hD.sub [0, 1, 2] (by decide) rfl) hS (lv_sub hl [0, 1, 2, 3] rfl)
        try dsimp only
        omega
      · have c8 : ¬ 6 ≤ qa := fun h9_ => c8 ((nI_leI (a := 6) (b := qa) (by omega) (by omega)).mpr h9_)
        refine lv_aload_n hx hb dX10_sumOfTree_31 rfl (lv_at hl 2 rfl) ?_
        refine va_get (D := G.1) (ci := 6) (v := .ref a_offOf) (C := RX10) (T := TX10) (N := 28) hx hb hts (fun _ h => List.mem_cons_of_mem _ (List.mem_append_right _ h)) hown E.K hP 0 rfl rfl 17 (by decide) (hts (.fieldLink RX10 37 "LastMapModel" "offOf" "[I") (by decide +kernel)) (fun _ h9 => h9) rfl dX10_sumOfTree_32 ?_
        refine lv_bipush (v := 6) hx hb dX10_sumOfTree_35 (by decide) ?_
        refine lv_aload_n hx hb dX10_sumOfTree_37 rfl (lv_at hl 2 rfl) ?_
        refine va_get (D := G.1) (ci := 6) (v := .ref a_parent) (C := RX10) (T := TX10) (N := 28) hx hb hts (fun _ h => List.mem_cons_of_mem _ (List.mem_append_right _ h)) hown E.K hP 0 rfl rfl 18 (by decide) (hts (.fieldLink RX10 40 "LastMapModel" "parent" "[I") (by decide +kernel)) (fun _ h9 => h9) rfl dX10_sumOfTree_38 ?_
        refine lv_iload_n hx hb dX10_sumOfTree_41 rfl (lv_at hl 0 rfl) ?_
        refine va_iald hx hb E.K hP 1 1 rfl rfl (i := nI x) (vp_in_nI (by omega) (by decide)) dX10_sumOfTree_42 ?_
        refine lv_topi (fun x11 ex11 => ?_)
        obtain rfl : x11 = nI qa := by rw [ex11, nI_clamp (by omega)]; exact eqa
        refine lv_imul hx hb dX10_sumOfTree_43 ?_
        refine lv_topi (fun x12 ex12 => ?_)
        obtain rfl : x12 = nI (6 * qa) := by rw [ex12]; exact pk_mul 6 qa
        refine lv_iload_n hx hb dX10_sumOfTree_44 rfl (lv_at hl 0 rfl) ?_
        refine lv_iadd hx hb dX10_sumOfTree_45 ?_
        refine lv_topi (fun x13 ex13 => ?_)
        obtain rfl : x13 = nI ((6 * qa) + x) := by rw [ex13]; exact nI_add (6 * qa) x
        refine va_iald hx hb E.K hP 2 1 rfl rfl (i := nI ((6 * qa) + x)) (vp_in_nI (by omega) (by decide)) dX10_sumOfTree_46 ?_
        refine lv_topi (fun x14 ex14 => ?_)
        refine lv_goto (tgt := 51) hx hb dX10_sumOfTree_47 (by decide) ?_
        refine lv_iadd hx hb dX10_sumOfTree_51 ?_
        refine lv_topi (fun x15 ex15 => ?_)
        refine lv_istore_n (lv' := [(2, .int x15), (3, .int (nI x)), (0, .ref h1), (1, .int p1)]) hx hb dX10_sumOfTree_52 rfl hl (by decide) rfl (fun ls hl => ?_)
        obtain ⟨x16, ex16⟩ : ∃ yy_ : Int32, yy_ = (nI x) + 1 := ⟨_, rfl⟩
        refine lv_iinc (v := x16) (lv' := [(3, .int x16), (2, .int x15), (0, .ref h1), (1, .int p1)]) hx hb dX10_sumOfTree_53 hl (k := 1) rfl (by rw [ex16]; rfl) (by decide) rfl (fun ls hl => ?_)
        obtain rfl : x16 = nI (x + 1) := by rw [ex16]; exact nI_add x 1
        refine lv_goto (tgt := 4) hx hb dX10_sumOfTree_56 (by decide) ?_
        refine ih4 ((x + 1), x15) ?_ (by first | omega | (dsimp only; omega)) H locs ls (hP.sub [0, 1, 2] rfl) (hD.sub [0, 1, 2] (by decide) rfl) hS (lv_sub hl [0, 1, 2, 3] rfl)
        try dsimp only
        omega

set_option maxHeartbeats 1000000 in
set_option maxRecDepth 100000 in
theorem m_findTrees (l : Launch) (G : Gy) (sz : Nat) (h1 : Nat) (v_told : Value) (v_land : Value) (v_spades : Value) (v_pad : Value) (v_padMany : Value) (v_slips : Value) (v_slipMany : Value) (v_made : Value) (v_sums : Value) (v_toward : Value) (v_kept : Value) (v_isKept : Value) (v_keptAt : Value) (v_isWriting : Value) (a_maps : Nat) (fm : Nat → Int32) (a_kinds : Nat) (a_offOf : Nat) (a_best : Nat) (a_parent : Nat) (fpa : Nat → Int32) (fk : Nat → Int32) (fo : Nat → Int32) (fbe : Nat → Int32) (a_part : Nat) (fp : Nat → Int32) (a_queue : Nat) (a_depth : Nat) (a_by : Nat) (a_from : Nat) (fq : Nat → Int32) (fd : Nat → Int32) (fb : Nat → Int32) (fr : Nat → Int32) (k : Nat) (cm0 : Int32) (tr0 : Int32) (le0 : Int32) (hh : Nat) (p1 : Int32) (hk2 : 2 ≤ k) (hk6 : k ≤ 6) (hp : pOK k fp) (hfm : mapsOK k fm) (hhh : hh < 4) : Cv l G yX10_findTrees wsX10_findTrees ({ frames := 5, cells := 0, slots := 0, locals := 122 }) [.ref h1, .int p1, .int (nI hh)] ([(h1, .inr (6, [.int (nI k), .ref a_maps, v_told, .ref a_kinds, v_land, v_spades, .ref a_part, v_pad, v_padMany, v_slips, v_slipMany, v_made, .ref a_queue, .ref a_depth, .ref a_by, .ref a_from, .int cm0, .ref a_offOf, .ref a_parent, .ref a_best, .int tr0, .int le0, v_sums, v_toward, v_kept, v_isKept, v_keptAt, v_isWriting])), (a_maps, .inl (gI G, 6, .inl fm)), (a_kinds, .inl (gI G, 4, .inl fk)), (a_part, .inl (gI G, 6, .inl fp)), (a_queue, .inl (gI G, 15625, .inl fq)), (a_depth, .inl (gI G, 15625, .inl fd)), (a_by, .inl (gI G, 15625, .inl fb)), (a_from, .inl (gI G, 15625, .inl fr)), (a_offOf, .inl (gI G, 36, .inl fo)), (a_parent, .inl (gI G, 6, .inl fpa)), (a_best, .inl (gI G, 6, .inl fbe))]) sz (fun (u : Int32 × (Nat → Int32) × (Nat → Int32) × (Nat → Int32) × (Nat → Int32) × (Nat → Int32) × (Nat → Int32) × (Nat → Int32) × Int32 × Int32) => match u with | (cm1, gq, gd, gb, gr, go, gpa, gbe, tr1, le1) => True) (fun (u : Int32 × (Nat → Int32) × (Nat → Int32) × (Nat → Int32) × (Nat → Int32) × (Nat → Int32) × (Nat → Int32) × (Nat → Int32) × Int32 × Int32) => match u with | (cm1, gq, gd, gb, gr, go, gpa, gbe, tr1, le1) => [(h1, .inr (6, [.int (nI k), .ref a_maps, v_told, .ref a_kinds, v_land, v_spades, .ref a_part, v_pad, v_padMany, v_slips, v_slipMany, v_made, .ref a_queue, .ref a_depth, .ref a_by, .ref a_from, .int cm1, .ref a_offOf, .ref a_parent, .ref a_best, .int tr1, .int le1, v_sums, v_toward, v_kept, v_isKept, v_keptAt, v_isWriting])), (a_maps, .inl (gI G, 6, .inl fm)), (a_kinds, .inl (gI G, 4, .inl fk)), (a_part, .inl (gI G, 6, .inl fp)), (a_queue, .inl (gI G, 15625, .inl gq)), (a_depth, .inl (gI G, 15625, .inl gd)), (a_by, .inl (gI G, 15625, .inl gb)), (a_from, .inl (gI G, 15625, .inl gr)), (a_offOf, .inl (gI G, 36, .inl go)), (a_parent, .inl (gI G, 6, .inl gpa)), (a_best, .inl (gI G, 6, .inl gbe))]) 0 0 := by
  refine Met.ofW (cc := cX10_findTrees) (maxL := 7) (ret := none) (by decide) rfl ?_
  intro p e s m args below meth c s₁ B hml hv
  obtain ⟨rfl, hsz, hP, hD0, E0⟩ := hv
  have hx := B.exec
  have hb := B.bytes
  have hr := B.returns
  have hts := atoms_spec (ws := wsX10_findTrees) B.pre
  have hown : s.vm.findClass RX10 = some m.cls := findClass_of_methodNamed B.named
  have hlocks := B.notSynchronized
  subst hsz
  have hD := hD0.self (sz := s.heap.size)
  generalize hAe : va_A ([(h1, .inr (6, [.int (nI k), .ref a_maps, v_told, .ref a_kinds, v_land, v_spades, .ref a_part, v_pad, v_padMany, v_slips, v_slipMany, v_made, .ref a_queue, .ref a_depth, .ref a_by, .ref a_from, .int cm0, .ref a_offOf, .ref a_parent, .ref a_best, .int tr0, .int le0, v_sums, v_toward, v_kept, v_isKept, v_keptAt, v_isWriting])), (a_maps, .inl (gI G, 6, .inl fm)), (a_kinds, .inl (gI G, 4, .inl fk)), (a_part, .inl (gI G, 6, .inl fp)), (a_queue, .inl (gI G, 15625, .inl fq)), (a_depth, .inl (gI G, 15625, .inl fd)), (a_by, .inl (gI G, 15625, .inl fb)), (a_from, .inl (gI G, 15625, .inl fr)), (a_offOf, .inl (gI G, 36, .inl fo)), (a_parent, .inl (gI G, 6, .inl fpa)), (a_best, .inl (gI G, 6, .inl fbe))]) s.heap.size = A at hD E0 ⊢
  have E : EV G A s s.heap := E0
  have hA : ∀ q : Nat, s.heap.size ≤ q → A q := fun q h => by rw [← hAe]; exact Or.inr h
  have hS : va_S A s.heap s.heap [] := va_S.rf
  have hl := lv_entry ([.ref h1, .int p1, .int (nI hh)]) (n := 7) (Nat.le_of_ble_eq_true rfl)
  rw [lg_entry_eq]
  generalize (lg_sl ([.ref h1, .int p1, .int (nI hh)]) ++ List.replicate (7 - (lg_sl ([.ref h1, .int p1, .int (nI hh)])).length) Slot.unset).toArray = ls at hl ⊢
  have hl : lv_has ls 7 [(0, .ref h1), (1, .int p1), (2, .int (nI hh))] := hl
  have hP : va_P G.1 vwCl ([(h1, .inr (6, [.int (nI k), .ref a_maps, v_told, .ref a_kinds, v_land, v_spades, .ref a_part, v_pad, v_padMany, v_slips, v_slipMany, v_made, .ref a_queue, .ref a_depth, .ref a_by, .ref a_from, .int cm0, .ref a_offOf, .ref a_parent, .ref a_best, .int tr0, .int le0, v_sums, v_toward, v_kept, v_isKept, v_keptAt, v_isWriting])), (a_maps, .inl (gI G, 6, .inl fm)), (a_kinds, .inl (gI G, 4, .inl fk)), (a_part, .inl (gI G, 6, .inl fp)), (a_queue, .inl (gI G, 15625, .inl fq)), (a_depth, .inl (gI G, 15625, .inl fd)), (a_by, .inl (gI G, 15625, .inl fb)), (a_from, .inl (gI G, 15625, .inl fr)), (a_offOf, .inl (gI G, 36, .inl fo)), (a_parent, .inl (gI G, 6, .inl fpa)), (a_best, .inl (gI G, 6, .inl fbe))]) s.heap := hP
  have hal := p5le hk6
  refine lv_aload_n hx hb dX10_findTrees_0 rfl (lv_at hl 0 rfl) ?_
  refine lv_iload_n hx hb dX10_findTrees_1 rfl (lv_at hl 1 rfl) ?_
  refine lv_iload_n hx hb dX10_findTrees_2 rfl (lv_at hl 2 rfl) ?_
  refine ca_v (wr := [(a_parent, .inl (gI G, 6, .inl fpa)), (a_best, .inl (gI G, 6, .inl fbe))]) (va_runV (As := [.int p1, .int (nI hh)]) (rest := []) ⟨hx, hb, hml, hown, hts⟩ (m_findOffs l G s.heap.size h1 v_told v_land v_spades v_pad v_padMany v_slips v_slipMany v_made (.ref a_parent) (.ref a_best) (.int tr0) (.int le0) v_sums v_toward v_kept v_isKept v_keptAt v_isWriting a_maps fm a_kinds a_offOf fk fo a_part fp a_queue a_depth a_by a_from fq fd fb fr k hh cm0 p1 hk2 hk6 hp hfm (by omega)) (cwV 2 hts gX10_findTrees_X10_findOffs rfl rfl rfl (by decide +kernel) ⟨by decide +kernel, by decide +kernel⟩) (pre_V E hP hD hS hA [0, 1, 2, 3, 4, 5, 6, 7, 8] (by decide) rfl 0 6 rfl rfl) rfl rfl hl.1 rfl (lv_room (Nat.le_of_ble_eq_true rfl)) dX10_findTrees_3 ⟨by decide +kernel, by decide +kernel⟩) hS hP hD hA [0, 1, 2, 3, 4, 5, 6, 7, 8] [9, 10] rfl rfl (by decide) (by decide) (fun u3 H locs w1 hP hD hS => ?_)
  obtain ⟨cm1_4, gq_5, gd_6, gb_7, gr_8, go_9⟩ := u3
  try dsimp only at w1 hP hD
  have hP := (hP.sub (ws' := [(h1, .inr (6, [.int (nI k), .ref a_maps, v_told, .ref a_kinds, v_land, v_spades, .ref a_part, v_pad, v_padMany, v_slips, v_slipMany, v_made, .ref a_queue, .ref a_depth, .ref a_by, .ref a_from, .int cm1_4, .ref a_offOf, .ref a_parent, .ref a_best, .int tr0, .int le0, v_sums, v_toward, v_kept, v_isKept, v_keptAt, v_isWriting])), (a_maps, .inl (gI G, 6, .inl fm)), (a_kinds, .inl (gI G, 4, .inl fk)), (a_part, .inl (gI G, 6, .inl fp)), (a_queue, .inl (gI G, 15625, .inl gq_5)), (a_depth, .inl (gI G, 15625, .inl gd_6)), (a_by, .inl (gI G, 15625, .inl gb_7)), (a_from, .inl (gI G, 15625, .inl gr_8)), (a_offOf, .inl (gI G, 36, .inl go_9)), (a_parent, .inl (gI G, 6, .inl fpa)), (a_best, .inl (gI G, 6, .inl fbe))]) [2, 3, 4, 5, 6, 7, 8, 9, 10, 0, 1] rfl)
  have hD := (hD.sub (ws' := [(h1, .inr (6, [.int (nI k), .ref a_maps, v_told, .ref a_kinds, v_land, v_spades, .ref a_part, v_pad, v_padMany, v_slips, v_slipMany, v_made, .ref a_queue, .ref a_depth, .ref a_by, .ref a_from, .int cm1_4, .ref a_offOf, .ref a_parent, .ref a_best, .int tr0, .int le0, v_sums, v_toward, v_kept, v_isKept, v_keptAt, v_isWriting])), (a_maps, .inl (gI G, 6, .inl fm)), (a_kinds, .inl (gI G, 4, .inl fk)), (a_part, .inl (gI G, 6, .inl fp)), (a_queue, .inl (gI G, 15625, .inl gq_5)), (a_depth, .inl (gI G, 15625, .inl gd_6)), (a_by, .inl (gI G, 15625, .inl gb_7)), (a_from, .inl (gI G, 15625, .inl gr_8)), (a_offOf, .inl (gI G, 36, .inl go_9)), (a_parent, .inl (gI G, 6, .inl fpa)), (a_best, .inl (gI G, 6, .inl fbe))]) [2, 3, 4, 5, 6, 7, 8, 9, 10, 0, 1] (by decide) rfl)
  refine lv_aload_n hx hb dX10_findTrees_6 rfl (lv_at hl 0 rfl) ?_
  refine lv_iconst (v := 0) hx hb dX10_findTrees_7 (by decide) ?_
  refine va_put (D := G.1) (ci := 6) (v := .int 0) (ty := .int) (C := RX10) (T := TX10) (N := 28) hx hb hts (fun _ h => List.mem_cons_of_mem _ (List.mem_append_right _ h)) tyX10 tyX10_ok nmX10 hown E.K hP hD hS 0 rfl rfl 20 (by decide) (hts (.fieldLink RX10 191 "LastMapModel" "trees" "I") (by decide +kernel)) (fun _ h9 => h9) rfl (by decide +kernel) rfl rfl (Nat.le_of_ble_eq_true rfl) dX10_findTrees_8 (fun H locs hP hD hS => ?_)
  have hP : va_P G.1 vwCl ([(h1, .inr (6, [.int (nI k), .ref a_maps, v_told, .ref a_kinds, v_land, v_spades, .ref a_part, v_pad, v_padMany, v_slips, v_slipMany, v_made, .ref a_queue, .ref a_depth, .ref a_by, .ref a_from, .int cm1_4, .ref a_offOf, .ref a_parent, .ref a_best, .int 0, .int le0, v_sums, v_toward, v_kept, v_isKept, v_keptAt, v_isWriting])), (a_maps, .inl (gI G, 6, .inl fm)), (a_kinds, .inl (gI G, 4, .inl fk)), (a_part, .inl (gI G, 6, .inl fp)), (a_queue, .inl (gI G, 15625, .inl gq_5)), (a_depth, .inl (gI G, 15625, .inl gd_6)), (a_by, .inl (gI G, 15625, .inl gb_7)), (a_from, .inl (gI G, 15625, .inl gr_8)), (a_offOf, .inl (gI G, 36, .inl go_9)), (a_parent, .inl (gI G, 6, .inl fpa)), (a_best, .inl (gI G, 6, .inl fbe))]) H := hP
  have hD : va_D A ([(h1, .inr (6, [.int (nI k), .ref a_maps, v_told, .ref a_kinds, v_land, v_spades, .ref a_part, v_pad, v_padMany, v_slips, v_slipMany, v_made, .ref a_queue, .ref a_depth, .ref a_by, .ref a_from, .int cm1_4, .ref a_offOf, .ref a_parent, .ref a_best, .int 0, .int le0, v_sums, v_toward, v_kept, v_isKept, v_keptAt, v_isWriting])), (a_maps, .inl (gI G, 6, .inl fm)), (a_kinds, .inl (gI G, 4, .inl fk)), (a_part, .inl (gI G, 6, .inl fp)), (a_queue, .inl (gI G, 15625, .inl gq_5)), (a_depth, .inl (gI G, 15625, .inl gd_6)), (a_by, .inl (gI G, 15625, .inl gb_7)), (a_from, .inl (gI G, 15625, .inl gr_8)), (a_offOf, .inl (gI G, 36, .inl go_9)), (a_parent, .inl (gI G, 6, .inl fpa)), (a_best, .inl (gI G, 6, .inl fbe))]) := hD
  refine lv_aload_n hx hb dX10_findTrees_11 rfl (lv_at hl 0 rfl) ?_
  refine lv_bipush (v := (-6)) hx hb dX10_findTrees_12 (by decide) ?_
  refine va_put (D := G.1) (ci := 6) (v := .int (-6)) (ty := .int) (C := RX10) (T := TX10) (N := 28) hx hb hts (fun _ h => List.mem_cons_of_mem _ (List.mem_append_right _ h)) tyX10 tyX10_ok nmX10 hown E.K hP hD hS 0 rfl rfl 21 (by decide) (hts (.fieldLink RX10 194 "LastMapModel" "least" "I") (by decide +kernel)) (fun _ h9 => h9) rfl (by decide +kernel) rfl rfl (Nat.le_of_ble_eq_true rfl) dX10_findTrees_14 (fun H locs hP hD hS => ?_)
  have hP : va_P G.1 vwCl ([(h1, .inr (6, [.int (nI k), .ref a_maps, v_told, .ref a_kinds, v_land, v_spades, .ref a_part, v_pad, v_padMany, v_slips, v_slipMany, v_made, .ref a_queue, .ref a_depth, .ref a_by, .ref a_from, .int cm1_4, .ref a_offOf, .ref a_parent, .ref a_best, .int 0, .int (-6), v_sums, v_toward, v_kept, v_isKept, v_keptAt, v_isWriting])), (a_maps, .inl (gI G, 6, .inl fm)), (a_kinds, .inl (gI G, 4, .inl fk)), (a_part, .inl (gI G, 6, .inl fp)), (a_queue, .inl (gI G, 15625, .inl gq_5)), (a_depth, .inl (gI G, 15625, .inl gd_6)), (a_by, .inl (gI G, 15625, .inl gb_7)), (a_from, .inl (gI G, 15625, .inl gr_8)), (a_offOf, .inl (gI G, 36, .inl go_9)), (a_parent, .inl (gI G, 6, .inl fpa)), (a_best, .inl (gI G, 6, .inl fbe))]) H := hP
  have hD : va_D A ([(h1, .inr (6, [.int (nI k), .ref a_maps, v_told, .ref a_kinds, v_land, v_spades, .ref a_part, v_pad, v_padMany, v_slips, v_slipMany, v_made, .ref a_queue, .ref a_depth, .ref a_by, .ref a_from, .int cm1_4, .ref a_offOf, .ref a_parent, .ref a_best, .int 0, .int (-6), v_sums, v_toward, v_kept, v_isKept, v_keptAt, v_isWriting])), (a_maps, .inl (gI G, 6, .inl fm)), (a_kinds, .inl (gI G, 4, .inl fk)), (a_part, .inl (gI G, 6, .inl fp)), (a_queue, .inl (gI G, 15625, .inl gq_5)), (a_depth, .inl (gI G, 15625, .inl gd_6)), (a_by, .inl (gI G, 15625, .inl gb_7)), (a_from, .inl (gI G, 15625, .inl gr_8)), (a_offOf, .inl (gI G, 36, .inl go_9)), (a_parent, .inl (gI G, 6, .inl fpa)), (a_best, .inl (gI G, 6, .inl fbe))]) := hD
  refine lv_iconst (v := 1) hx hb dX10_findTrees_17 (by decide) ?_
  refine lv_istore_n (lv' := [(3, .int 1), (0, .ref h1), (1, .int p1), (2, .int (nI hh))]) hx hb dX10_findTrees_18 rfl hl (by decide) rfl (fun ls hl => ?_)
  refine lv_iconst (v := 0) hx hb dX10_findTrees_19 (by decide) ?_
  refine lv_istore (lv' := [(4, .int 0), (3, .int 1), (0, .ref h1), (1, .int p1), (2, .int (nI hh))]) hx hb dX10_findTrees_20 hl (by decide) rfl (fun ls hl => ?_)
  refine lp_run (x0 := (0, 1)) (fun xx_ : Nat × Nat => match xx_ with | (x, ww) => [(h1, .inr (6, [.int (nI k), .ref a_maps, v_told, .ref a_kinds, v_land, v_spades, .ref a_part, v_pad, v_padMany, v_slips, v_slipMany, v_made, .ref a_queue, .ref a_depth, .ref a_by, .ref a_from, .int cm1_4, .ref a_offOf, .ref a_parent, .ref a_best, .int 0, .int (-6), v_sums, v_toward, v_kept, v_isKept, v_keptAt, v_isWriting])), (a_maps, .inl (gI G, 6, .inl fm)), (a_kinds, .inl (gI G, 4, .inl fk)), (a_part, .inl (gI G, 6, .inl fp)), (a_queue, .inl (gI G, 15625, .inl gq_5)), (a_depth, .inl (gI G, 15625, .inl gd_6)), (a_by, .inl (gI G, 15625, .inl gb_7)), (a_from, .inl (gI G, 15625, .inl gr_8)), (a_offOf, .inl (gI G, 36, .inl go_9)), (a_parent, .inl (gI G, 6, .inl fpa)), (a_best, .inl (gI G, 6, .inl fbe))]) (fun xx_ : Nat × Nat => match xx_ with | (x, ww) => [(4, .int (nI x)), (3, .int (nI ww)), (0, .ref h1), (1, .int p1), (2, .int (nI hh))]) (fun xx_ : Nat × Nat => match xx_ with | (x, ww) => (x ≤ 6) ∧ (ww ≤ 7 ^ x)) (fun xx_ : Nat × Nat => match xx_ with | (x, ww) => 6 - x) (hP.sub [0, 1, 2, 3, 4, 5, 6, 7, 8, 9, 10] rfl) (hD.sub [0, 1, 2, 3, 4, 5, 6, 7, 8, 9, 10] (by decide) rfl) hS (lv_sub hl [0, 1, 2, 3, 4] rfl) ⟨(by omega), by decide⟩ ?_
  intro xx_ hI ih22 H locs ls hP hD hS hl
  obtain ⟨x, ww⟩ := xx_
  dsimp only at hI ih22 hP hD hl
  obtain ⟨hx0, hww⟩ := hI
  have hl : lv_has ls 7 [(4, .int (nI x)), (3, .int (nI ww)), (0, .ref h1), (1, .int p1), (2, .int (nI hh))] := hl
  have hP : va_P G.1 vwCl ([(h1, .inr (6, [.int (nI k), .ref a_maps, v_told, .ref a_kinds, v_land, v_spades, .ref a_part, v_pad, v_padMany, v_slips, v_slipMany, v_made, .ref a_queue, .ref a_depth, .ref a_by, .ref a_from, .int cm1_4, .ref a_offOf, .ref a_parent, .ref a_best, .int 0, .int (-6), v_sums, v_toward, v_kept, v_isKept, v_keptAt, v_isWriting])), (a_maps, .inl (gI G, 6, .inl fm)), (a_kinds, .inl (gI G, 4, .inl fk)), (a_part, .inl (gI G, 6, .inl fp)), (a_queue, .inl (gI G, 15625, .inl gq_5)), (a_depth, .inl (gI G, 15625, .inl gd_6)), (a_by, .inl (gI G, 15625, .inl gb_7)), (a_from, .inl (gI G, 15625, .inl gr_8)), (a_offOf, .inl (gI G, 36, .inl go_9)), (a_parent, .inl (gI G, 6, .inl fpa)), (a_best, .inl (gI G, 6, .inl fbe))]) H := hP
  have hD : va_D A ([(h1, .inr (6, [.int (nI k), .ref a_maps, v_told, .ref a_kinds, v_land, v_spades, .ref a_part, v_pad, v_padMany, v_slips, v_slipMany, v_made, .ref a_queue, .ref a_depth, .ref a_by, .ref a_from, .int cm1_4, .ref a_offOf, .ref a_parent, .ref a_best, .int 0, .int (-6), v_sums, v_toward, v_kept, v_isKept, v_keptAt, v_isWriting])), (a_maps, .inl (gI G, 6, .inl fm)), (a_kinds, .inl (gI G, 4, .inl fk)), (a_part, .inl (gI G, 6, .inl fp)), (a_queue, .inl (gI G, 15625, .inl gq_5)), (a_depth, .inl (gI G, 15625, .inl gd_6)), (a_by, .inl (gI G, 15625, .inl gb_7)), (a_from, .inl (gI G, 15625, .inl gr_8)), (a_offOf, .inl (gI G, 36, .inl go_9)), (a_parent, .inl (gI G, 6, .inl fpa)), (a_best, .inl (gI G, 6, .inl fbe))]) := hD
  refine lv_iload hx hb dX10_findTrees_22 (lv_at hl 0 rfl) ?_
  refine lv_bipush (v := 6) hx hb dX10_findTrees_24 (by decide) ?_
  refine lv_icmp_ge (tgt := 54) hx hb dX10_findTrees_26 (by decide) (fun c10 => ?_) (fun c10 => ?_)
  · have c10 : 6 ≤ x := (nI_leI (a := 6) (b := x) (by omega) (by omega)).mp c10
    have hwb : ww ≤ 117649 := Nat.le_trans hww (by rw [show x = 6 by omega]; decide)
    refine lv_iconst (v := 0) hx hb dX10_findTrees_54 (by decide) ?_
    refine lv_istore (lv' := [(4, .int 0), (3, .int (nI ww)), (0, .ref h1), (1, .int p1), (2, .int (nI hh))]) hx hb dX10_findTrees_55 hl (by decide) rfl (fun ls hl => ?_)
    refine lp_run (x0 := (0, 0, (-6), fpa, fbe)) (fun xx_ : Nat × Int32 × Int32 × (Nat → Int32) × (Nat → Int32) => match xx_ with | (y, tr9, le9, fp1, fb9) => [(h1, .inr (6, [.int (nI k), .ref a_maps, v_told, .ref a_kinds, v_land, v_spades, .ref a_part, v_pad, v_padMany, v_slips, v_slipMany, v_made, .ref a_queue, .ref a_depth, .ref a_by, .ref a_from, .int cm1_4, .ref a_offOf, .ref a_parent, .ref a_best, .int tr9, .int le9, v_sums, v_toward, v_kept, v_isKept, v_keptAt, v_isWriting])), (a_maps, .inl (gI G, 6, .inl fm)), (a_kinds, .inl (gI G, 4, .inl fk)), (a_part, .inl (gI G, 6, .inl fp)), (a_queue, .inl (gI G, 15625, .inl gq_5)), (a_depth, .inl (gI G, 15625, .inl gd_6)), (a_by, .inl (gI G, 15625, .inl gb_7)), (a_from, .inl (gI G, 15625, .inl gr_8)), (a_offOf, .inl (gI G, 36, .inl go_9)), (a_parent, .inl (gI G, 6, .inl fp1)), (a_best, .inl (gI G, 6, .inl fb9))]) (fun xx_ : Nat × Int32 × Int32 × (Nat → Int32) × (Nat → Int32) => match xx_ with | (y, tr9, le9, fp1, fb9) => [(4, .int (nI y)), (3, .int (nI ww)), (0, .ref h1), (1, .int p1), (2, .int (nI hh))]) (fun xx_ : Nat × Int32 × Int32 × (Nat → Int32) × (Nat → Int32) => match xx_ with | (y, tr9, le9, fp1, fb9) => (y ≤ ww)) (fun xx_ : Nat × Int32 × Int32 × (Nat → Int32) × (Nat → Int32) => match xx_ with | (y, tr9, le9, fp1, fb9) => ww - y) (hP.sub [0, 1, 2, 3, 4, 5, 6, 7, 8, 9, 10] rfl) (hD.sub [0, 1, 2, 3, 4, 5, 6, 7, 8, 9, 10] (by decide) rfl) hS (lv_sub hl [0, 1, 2, 3, 4] rfl) (by omega) ?_
    intro xx_ hI ih57 H locs ls hP hD hS hl
    obtain ⟨y, tr9, le9, fp1, fb9⟩ := xx_
    dsimp only at hI ih57 hP hD hl
    have hy0 := hI
    have hl : lv_has ls 7 [(4, .int (nI y)), (3, .int (nI ww)), (0, .ref h1), (1, .int p1), (2, .int (nI hh))] := hl
    have hP : va_P G.1 vwCl ([(h1, .inr (6, [.int (nI k), .ref a_maps, v_told, .ref a_kinds, v_land, v_spades, .ref a_part, v_pad, v_padMany, v_slips, v_slipMany, v_made, .ref a_queue, .ref a_depth, .ref a_by, .ref a_from, .int cm1_4, .ref a_offOf, .ref a_parent, .ref a_best, .int tr9, .int le9, v_sums, v_toward, v_kept, v_isKept, v_keptAt, v_isWriting])), (a_maps, .inl (gI G, 6, .inl fm)), (a_kinds, .inl (gI G, 4, .inl fk)), (a_part, .inl (gI G, 6, .inl fp)), (a_queue, .inl (gI G, 15625, .inl gq_5)), (a_depth, .inl (gI G, 15625, .inl gd_6)), (a_by, .inl (gI G, 15625, .inl gb_7)), (a_from, .inl (gI G, 15625, .inl gr_8)), (a_offOf, .inl (gI G, 36, .inl go_9)), (a_parent, .inl (gI G, 6, .inl fp1)), (a_best, .inl (gI G, 6, .inl fb9))]) H := hP
    have hD : va_D A ([(h1, .inr (6, [.int (nI k), .ref a_maps, v_told, .ref a_kinds, v_land, v_spades, .ref a_part, v_pad, v_padMany, v_slips, v_slipMany, v_made, .ref a_queue, .ref a_depth, .ref a_by, .ref a_from, .int cm1_4, .ref a_offOf, .ref a_parent, .ref a_best, .int tr9, .int le9, v_sums, v_toward, v_kept, v_isKept, v_keptAt, v_isWriting])), (a_maps, .inl (gI G, 6, .inl fm)), (a_kinds, .inl (gI G, 4, .inl fk)), (a_part, .inl (gI G, 6, .inl fp)), (a_queue, .inl (gI G, 15625, .inl gq_5)), (a_depth, .inl (gI G, 15625, .inl gd_6)), (a_by, .inl (gI G, 15625, .inl gb_7)), (a_from, .inl (gI G, 15625, .inl gr_8)), (a_offOf, .inl (gI G, 36, .inl go_9)), (a_parent, .inl (gI G, 6, .inl fp1)), (a_best, .inl (gI G, 6, .inl fb9))]) := hD
    refine lv_iload hx hb dX10_findTrees_57 (lv_at hl 0 rfl) ?_
    refine lv_iload_n hx hb dX10_findTrees_59 rfl (lv_at hl 1 rfl) ?_
    refine lv_icmp_ge (tgt := 166) hx hb dX10_findTrees_60 (by decide) (fun c11 => ?_) (fun c11 => ?_)
    · have c11 : ww ≤ y := (nI_leI (a := ww) (b := y) (by omega) (by omega)).mp c11
      have hP9 := (hP.sub (ws' := [(h1, .inr (6, [.int (nI k), .ref a_maps, v_told, .ref a_kinds, v_land, v_spades, .ref a_part, v_pad, v_padMany, v_slips, v_slipMany, v_made, .ref a_queue, .ref a_depth, .ref a_by, .ref a_from, .int cm1_4, .ref a_offOf, .ref a_parent, .ref a_best, .int tr9, .int le9, v_sums, v_toward, v_kept, v_isKept, v_keptAt, v_isWriting])), (a_maps, .inl (gI G, 6, .inl fm)), (a_kinds, .inl (gI G, 4, .inl fk)), (a_part, .inl (gI G, 6, .inl fp)), (a_queue, .inl (gI G, 15625, .inl gq_5)), (a_depth, .inl (gI G, 15625, .inl gd_6)), (a_by, .inl (gI G, 15625, .inl gb_7)), (a_from, .inl (gI G, 15625, .inl gr_8)), (a_offOf, .inl (gI G, 36, .inl go_9)), (a_parent, .inl (gI G, 6, .inl fp1)), (a_best, .inl (gI G, 6, .inl fb9))]) [0, 1, 2, 3, 4, 5, 6, 7, 8, 9, 10] rfl)
      have hD9 := (hD.sub (ws' := [(h1, .inr (6, [.int (nI k), .ref a_maps, v_told, .ref a_kinds, v_land, v_spades, .ref a_part, v_pad, v_padMany, v_slips, v_slipMany, v_made, .ref a_queue, .ref a_depth, .ref a_by, .ref a_from, .int cm1_4, .ref a_offOf, .ref a_parent, .ref a_best, .int tr9, .int le9, v_sums, v_toward, v_kept, v_isKept, v_keptAt, v_isWriting])), (a_maps, .inl (gI G, 6, .inl fm)), (a_kinds, .inl (gI G, 4, .inl fk)), (a_part, .inl (gI G, 6, .inl fp)), (a_queue, .inl (gI G, 15625, .inl gq_5)), (a_depth, .inl (gI G, 15625, .inl gd_6)), (a_by, .inl (gI G, 15625, .inl gb_7)), (a_from, .inl (gI G, 15625, .inl gr_8)), (a_offOf, .inl (gI G, 36, .inl go_9)), (a_parent, .inl (gI G, 6, .inl fp1)), (a_best, .inl (gI G, 6, .inl fb9))]) [0, 1, 2, 3, 4, 5, 6, 7, 8, 9, 10] (by decide) rfl)
      exact W.vret hx hb hr (fun t9_ ht9_ hW9_ => ⟨⟨(cm1_4, gq_5, gd_6, gb_7, gr_8, go_9, fp1, fb9, tr9, le9), rfl, trivial, by rw [ht9_]; exact hP9, hD9⟩, hS.F ht9_⟩) hS.2.2 dX10_findTrees_166
    · have c11 : ¬ ww ≤ y := fun h9_ => c11 ((nI_leI (a := ww) (b := y) (by omega) (by omega)).mpr h9_)
      refine lv_aload_n hx hb dX10_findTrees_63 rfl (lv_at hl 2 rfl) ?_
      refine lv_iload_n hx hb dX10_findTrees_64 rfl (lv_at hl 3 rfl) ?_
      refine lv_iload hx hb dX10_findTrees_65 (lv_at hl 0 rfl) ?_
      refine ca_i (wr := [(a_maps, .inl (gI G, 6, .inl fm)), (a_kinds, .inl (gI G, 4, .inl fk)), (a_part, .inl (gI G, 6, .inl fp)), (a_queue, .inl (gI G, 15625, .inl gq_5)), (a_depth, .inl (gI G, 15625, .inl gd_6)), (a_by, .inl (gI G, 15625, .inl gb_7)), (a_from, .inl (gI G, 15625, .inl gr_8)), (a_best, .inl (gI G, 6, .inl fb9))]) (va_runV (As := [.int p1, .int (nI y)]) (rest := []) ⟨hx, hb, hml, hown, hts⟩ (m_layTree l G H.size h1 (.int (nI k)) (.ref a_maps) v_told (.ref a_kinds) v_land v_spades (.ref a_part) v_pad v_padMany v_slips v_slipMany v_made (.ref a_queue) (.ref a_depth) (.ref a_by) (.ref a_from) (.int cm1_4) (.ref a_best) (.int tr9) (.int le9) v_sums v_toward v_kept v_isKept v_keptAt v_isWriting a_parent fp1 a_offOf y go_9 p1 (by omega)) (cwV 2 hts gX10_findTrees_X10_layTree rfl rfl rfl (by decide +kernel) ⟨by decide +kernel, by decide +kernel⟩) (pre_V E hP hD hS hA [0, 9, 8] (by decide) rfl 0 6 rfl rfl) rfl rfl hl.1 rfl (lv_room (Nat.le_of_ble_eq_true rfl)) dX10_findTrees_67 ⟨by decide +kernel, by decide +kernel⟩) hS hP hD hA [0, 9, 8] [1, 2, 3, 4, 5, 6, 7, 10] rfl rfl (by decide) (by decide) (fun r13 u14 H locs w12 hP hD hS => ?_)
      obtain ⟨gpa_15, rfl⟩ : ∃ z, z = u14 := ⟨_, rfl⟩
      try dsimp only at w12 hP hD
      have hP := (hP.sub (ws' := [(h1, .inr (6, [.int (nI k), .ref a_maps, v_told, .ref a_kinds, v_land, v_spades, .ref a_part, v_pad, v_padMany, v_slips, v_slipMany, v_made, .ref a_queue, .ref a_depth, .ref a_by, .ref a_from, .int cm1_4, .ref a_offOf, .ref a_parent, .ref a_best, .int tr9, .int le9, v_sums, v_toward, v_kept, v_isKept, v_keptAt, v_isWriting])), (a_maps, .inl (gI G, 6, .inl fm)), (a_kinds, .inl (gI G, 4, .inl fk)), (a_part, .inl (gI G, 6, .inl fp)), (a_queue, .inl (gI G, 15625, .inl gq_5)), (a_depth, .inl (gI G, 15625, .inl gd_6)), (a_by, .inl (gI G, 15625, .inl gb_7)), (a_from, .inl (gI G, 15625, .inl gr_8)), (a_offOf, .inl (gI G, 36, .inl go_9)), (a_parent, .inl (gI G, 6, .inl gpa_15)), (a_best, .inl (gI G, 6, .inl fb9))]) [8, 0, 1, 2, 3, 4, 5, 6, 10, 9, 7] rfl)
      have hD := (hD.sub (ws' := [(h1, .inr (6, [.int (nI k), .ref a_maps, v_told, .ref a_kinds, v_land, v_spades, .ref a_part, v_pad, v_padMany, v_slips, v_slipMany, v_made, .ref a_queue, .ref a_depth, .ref a_by, .ref a_from, .int cm1_4, .ref a_offOf, .ref a_parent, .ref a_best, .int tr9, .int le9, v_sums, v_toward, v_kept, v_isKept, v_keptAt, v_isWriting])), (a_maps, .inl (gI G, 6, .inl fm)), (a_kinds, .inl (gI G, 4, .inl fk)), (a_part, .inl (gI G, 6, .inl fp)), (a_queue, .inl (gI G, 15625, .inl gq_5)), (a_depth, .inl (gI G, 15625, .inl gd_6)), (a_by, .inl (gI G, 15625, .inl gb_7)), (a_from, .inl (gI G, 15625, .inl gr_8)), (a_offOf, .inl (gI G, 36, .inl go_9)), (a_parent, .inl (gI G, 6, .inl gpa_15)), (a_best, .inl (gI G, 6, .inl fb9))]) [8, 0, 1, 2, 3, 4, 5, 6, 10, 9, 7] (by decide) rfl)
      rcases w12 with ⟨rfl, b16⟩ | ⟨rfl, b16⟩
      · refine lv_if_eq (tgt := 160) hx hb dX10_findTrees_70 (by decide) (fun c17 => False.elim (by revert c17; decide)) (fun _ => ?_)
        refine lv_aload_n hx hb dX10_findTrees_73 rfl (lv_at hl 2 rfl) ?_
        refine lv_iload_n hx hb dX10_findTrees_74 rfl (lv_at hl 3 rfl) ?_
        refine ca_iR (va_runV (As := [.int p1]) (rest := []) ⟨hx, hb, hml, hown, hts⟩ (m_sumOfTree l G H.size h1 (.int (nI k)) (.ref a_maps) v_told (.ref a_kinds) v_land v_spades (.ref a_part) v_pad v_padMany v_slips v_slipMany v_made (.ref a_queue) (.ref a_depth) (.ref a_by) (.ref a_from) (.int cm1_4) (.ref a_best) (.int tr9) (.int le9) v_sums v_toward v_kept v_isKept v_keptAt v_isWriting a_parent gpa_15 a_offOf go_9 p1 b16) (cwV 1 hts gX10_findTrees_X10_sumOfTree rfl rfl rfl (by decide +kernel) ⟨by decide +kernel, by decide +kernel⟩) (pre_V E hP hD hS hA [0, 9, 8] (by decide) rfl 0 6 rfl rfl) rfl rfl hl.1 rfl (lv_room (Nat.le_of_ble_eq_true rfl)) dX10_findTrees_75 ⟨by decide +kernel, by decide +kernel⟩) hS hP hD hA [0, 9, 8] rfl (fun r19 _ H locs w18 hP hS => ?_)
        refine lv_istore (lv' := [(5, .int r19), (4, .int (nI y)), (3, .int (nI ww)), (0, .ref h1), (1, .int p1), (2, .int (nI hh))]) hx hb dX10_findTrees_78 hl (by decide) rfl (fun ls hl => ?_)
        refine lv_aload_n hx hb dX10_findTrees_80 rfl (lv_at hl 3 rfl) ?_
        refine va_get (D := G.1) (ci := 6) (v := .int le9) (C := RX10) (T := TX10) (N := 28) hx hb hts (fun _ h => List.mem_cons_of_mem _ (List.mem_append_right _ h)) hown E.K hP 0 rfl rfl 21 (by decide) (hts (.fieldLink RX10 194 "LastMapModel" "least" "I") (by decide +kernel)) (fun _ h9 => h9) rfl dX10_findTrees_81 ?_
        refine lv_if_lt (tgt := 96) hx hb dX10_findTrees_84 (by decide) (fun c20 => ?_) (fun c20 => ?_)
        · refine lv_aload_n hx hb dX10_findTrees_96 rfl (lv_at hl 3 rfl) ?_
          refine lv_iload hx hb dX10_findTrees_97 (lv_at hl 0 rfl) ?_
          refine va_put (D := G.1) (ci := 6) (v := .int r19) (ty := .int) (C := RX10) (T := TX10) (N := 28) hx hb hts (fun _ h => List.mem_cons_of_mem _ (List.mem_append_right _ h)) tyX10 tyX10_ok nmX10 hown E.K hP hD hS 0 rfl rfl 21 (by decide) (hts (.fieldLink RX10 194 "LastMapModel" "least" "I") (by decide +kernel)) (fun _ h9 => h9) rfl (by decide +kernel) rfl rfl (Nat.le_of_ble_eq_true rfl) dX10_findTrees_99 (fun H locs hP hD hS => ?_)
          have hP : va_P G.1 vwCl ([(h1, .inr (6, [.int (nI k), .ref a_maps, v_told, .ref a_kinds, v_land, v_spades, .ref a_part, v_pad, v_padMany, v_slips, v_slipMany, v_made, .ref a_queue, .ref a_depth, .ref a_by, .ref a_from, .int cm1_4, .ref a_offOf, .ref a_parent, .ref a_best, .int tr9, .int r19, v_sums, v_toward, v_kept, v_isKept, v_keptAt, v_isWriting])), (a_maps, .inl (gI G, 6, .inl fm)), (a_kinds, .inl (gI G, 4, .inl fk)), (a_part, .inl (gI G, 6, .inl fp)), (a_queue, .inl (gI G, 15625, .inl gq_5)), (a_depth, .inl (gI G, 15625, .inl gd_6)), (a_by, .inl (gI G, 15625, .inl gb_7)), (a_from, .inl (gI G, 15625, .inl gr_8)), (a_offOf, .inl (gI G, 36, .inl go_9)), (a_parent, .inl (gI G, 6, .inl gpa_15)), (a_best, .inl (gI G, 6, .inl fb9))]) H := hP
          have hD : va_D A ([(h1, .inr (6, [.int (nI k), .ref a_maps, v_told, .ref a_kinds, v_land, v_spades, .ref a_part, v_pad, v_padMany, v_slips, v_slipMany, v_made, .ref a_queue, .ref a_depth, .ref a_by, .ref a_from, .int cm1_4, .ref a_offOf, .ref a_parent, .ref a_best, .int tr9, .int r19, v_sums, v_toward, v_kept, v_isKept, v_keptAt, v_isWriting])), (a_maps, .inl (gI G, 6, .inl fm)), (a_kinds, .inl (gI G, 4, .inl fk)), (a_part, .inl (gI G, 6, .inl fp)), (a_queue, .inl (gI G, 15625, .inl gq_5)), (a_depth, .inl (gI G, 15625, .inl gd_6)), (a_by, .inl (gI G, 15625, .inl gb_7)), (a_from, .inl (gI G, 15625, .inl gr_8)), (a_offOf, .inl (gI G, 36, .inl go_9)), (a_parent, .inl (gI G, 6, .inl gpa_15)), (a_best, .inl (gI G, 6, .inl fb9))]) := hD
          refine lv_aload_n hx hb dX10_findTrees_102 rfl (lv_at hl 3 rfl) ?_
          refine lv_iconst (v := 0) hx hb dX10_findTrees_103 (by decide) ?_
          refine va_put (D := G.1) (ci := 6) (v := .int 0) (ty := .int) (C := RX10) (T := TX10) (N := 28) hx hb hts (fun _ h => List.mem_cons_of_mem _ (List.mem_append_right _ h)) tyX10 tyX10_ok nmX10 hown E.K hP hD hS 0 rfl rfl 20 (by decide) (hts (.fieldLink RX10 191 "LastMapModel" "trees" "I") (by decide +kernel)) (fun _ h9 => h9) rfl (by decide +kernel) rfl rfl (Nat.le_of_ble_eq_true rfl) dX10_findTrees_104 (fun H locs hP hD hS => ?_)
          have hP : va_P G.1 vwCl ([(h1, .inr (6, [.int (nI k), .ref a_maps, v_told, .ref a_kinds, v_land, v_spades, .ref a_part, v_pad, v_padMany, v_slips, v_slipMany, v_made, .ref a_queue, .ref a_depth, .ref a_by, .ref a_from, .int cm1_4, .ref a_offOf, .ref a_parent, .ref a_best, .int 0, .int r19, v_sums, v_toward, v_kept, v_isKept, v_keptAt, v_isWriting])), (a_maps, .inl (gI G, 6, .inl fm)), (a_kinds, .inl (gI G, 4, .inl fk)), (a_part, .inl (gI G, 6, .inl fp)), (a_queue, .inl (gI G, 15625, .inl gq_5)), (a_depth, .inl (gI G, 15625, .inl gd_6)), (a_by, .inl (gI G, 15625, .inl gb_7)), (a_from, .inl (gI G, 15625, .inl gr_8)), (a_offOf, .inl (gI G, 36, .inl go_9)), (a_parent, .inl (gI G, 6, .inl gpa_15)), (a_best, .inl (gI G, 6, .inl fb9))]) H := hP
          have hD : va_D A ([(h1, .inr (6, [.int (nI k), .ref a_maps, v_told, .ref a_kinds, v_land, v_spades, .ref a_part, v_pad, v_padMany, v_slips, v_slipMany, v_made, .ref a_queue, .ref a_depth, .ref a_by, .ref a_from, .int cm1_4, .ref a_offOf, .ref a_parent, .ref a_best, .int 0, .int r19, v_sums, v_toward, v_kept, v_isKept, v_keptAt, v_isWriting])), (a_maps, .inl (gI G, 6, .inl fm)), (a_kinds, .inl (gI G, 4, .inl fk)), (a_part, .inl (gI G, 6, .inl fp)), (a_queue, .inl (gI G, 15625, .inl gq_5)), (a_depth, .inl (gI G, 15625, .inl gd_6)), (a_by, .inl (gI G, 15625, .inl gb_7)), (a_from, .inl (gI G, 15625, .inl gr_8)), (a_offOf, .inl (gI G, 36, .inl go_9)), (a_parent, .inl (gI G, 6, .inl gpa_15)), (a_best, .inl (gI G, 6, .inl fb9))]) := hD
          refine lv_iconst (v := 0) hx hb dX10_findTrees_107 (by decide) ?_
          refine lv_istore (lv' := [(6, .int 0), (5, .int r19), (4, .int (nI y)), (3, .int (nI ww)), (0, .ref h1), (1, .int p1), (2, .int (nI hh))]) hx hb dX10_findTrees_108 hl (by decide) rfl (fun ls hl => ?_)
          refine lp_run (x0 := (0, fb9)) (fun xx_ : Nat × (Nat → Int32) => match xx_ with | (z, fb8) => [(h1, .inr (6, [.int (nI k), .ref a_maps, v_told, .ref a_kinds, v_land, v_spades, .ref a_part, v_pad, v_padMany, v_slips, v_slipMany, v_made, .ref a_queue, .ref a_depth, .ref a_by, .ref a_from, .int cm1_4, .ref a_offOf, .ref a_parent, .ref a_best, .int 0, .int r19, v_sums, v_toward, v_kept, v_isKept, v_keptAt, v_isWriting])), (a_maps, .inl (gI G, 6, .inl fm)), (a_kinds, .inl (gI G, 4, .inl fk)), (a_part, .inl (gI G, 6, .inl fp)), (a_queue, .inl (gI G, 15625, .inl gq_5)), (a_depth, .inl (gI G, 15625, .inl gd_6)), (a_by, .inl (gI G, 15625, .inl gb_7)), (a_from, .inl (gI G, 15625, .inl gr_8)), (a_offOf, .inl (gI G, 36, .inl go_9)), (a_parent, .inl (gI G, 6, .inl gpa_15)), (a_best, .inl (gI G, 6, .inl fb8))]) (fun xx_ : Nat × (Nat → Int32) => match xx_ with | (z, fb8) => [(6, .int (nI z)), (5, .int r19), (4, .int (nI y)), (3, .int (nI ww)), (0, .ref h1), (1, .int p1), (2, .int (nI hh))]) (fun xx_ : Nat × (Nat → Int32) => match xx_ with | (z, fb8) => (z ≤ 6)) (fun xx_ : Nat × (Nat → Int32) => match xx_ with | (z, fb8) => 6 - z) (hP.sub [0, 1, 2, 3, 4, 5, 6, 7, 8, 9, 10] rfl) (hD.sub [0, 1, 2, 3, 4, 5, 6, 7, 8, 9, 10] (by decide) rfl) hS (lv_sub hl [0, 1, 2, 3, 4, 5, 6] rfl) (by omega) ?_
          intro xx_ hI ih110 H locs ls hP hD hS hl
          obtain ⟨z, fb8⟩ := xx_
          dsimp only at hI ih110 hP hD hl
          have hz0 := hI
          have hl : lv_has ls 7 [(6, .int (nI z)), (5, .int r19), (4, .int (nI y)), (3, .int (nI ww)), (0, .ref h1), (1, .int p1), (2, .int (nI hh))] := hl
          have hP : va_P G.1 vwCl ([(h1, .inr (6, [.int (nI k), .ref a_maps, v_told, .ref a_kinds, v_land, v_spades, .ref a_part, v_pad, v_padMany, v_slips, v_slipMany, v_made, .ref a_queue, .ref a_depth, .ref a_by, .ref a_from, .int cm1_4, .ref a_offOf, .ref a_parent, .ref a_best, .int 0, .int r19, v_sums, v_toward, v_kept, v_isKept, v_keptAt, v_isWriting])), (a_maps, .inl (gI G, 6, .inl fm)), (a_kinds, .inl (gI G, 4, .inl fk)), (a_part, .inl (gI G, 6, .inl fp)), (a_queue, .inl (gI G, 15625, .inl gq_5)), (a_depth, .inl (gI G, 15625, .inl gd_6)), (a_by, .inl (gI G, 15625, .inl gb_7)), (a_from, .inl (gI G, 15625, .inl gr_8)), (a_offOf, .inl (gI G, 36, .inl go_9)), (a_parent, .inl (gI G, 6, .inl gpa_15)), (a_best, .inl (gI G, 6, .inl fb8))]) H := hP
          have hD : va_D A ([(h1, .inr (6, [.int (nI k), .ref a_maps, v_told, .ref a_kinds, v_land, v_spades, .ref a_part, v_pad, v_padMany, v_slips, v_slipMany, v_made, .ref a_queue, .ref a_depth, .ref a_by, .ref a_from, .int cm1_4, .ref a_offOf, .ref a_parent, .ref a_best, .int 0, .int r19, v_sums, v_toward, v_kept, v_isKept, v_keptAt, v_isWriting])), (a_maps, .inl (gI G, 6, .inl fm)), (a_kinds, .inl (gI G, 4, .inl fk)), (a_part, .inl (gI G, 6, .inl fp)), (a_queue, .inl (gI G, 15625, .inl gq_5)), (a_depth, .inl (gI G, 15625, .inl gd_6)), (a_by, .inl (gI G, 15625, .inl gb_7)), (a_from, .inl (gI G, 15625, .inl gr_8)), (a_offOf, .inl (gI G, 36, .inl go_9)), (a_parent, .inl (gI G, 6, .inl gpa_15)), (a_best, .inl (gI G, 6, .inl fb8))]) := hD
          refine lv_iload hx hb dX10_findTrees_110 (lv_at hl 0 rfl) ?_
          refine lv_bipush (v := 6) hx hb dX10_findTrees_112 (by decide) ?_
          refine lv_icmp_ge (tgt := 137) hx hb dX10_findTrees_114 (by decide) (fun c21 => ?_) (fun c21 => ?_)
          · have c21 : 6 ≤ z := (nI_leI (a := 6) (b := z) (by omega) (by omega)).mp c21
            refine lv_aload_n hx hb dX10_findTrees_137 rfl (lv_at hl 4 rfl) ?_
            refine lv_dup hx hb dX10_findTrees_138 rfl ?_
            refine va_get (D := G.1) (ci := 6) (v := .int 0) (C := RX10) (T := TX10) (N := 28) hx hb hts (fun _ h => List.mem_cons_of_mem _ (List.mem_append_right _ h)) hown E.K hP 0 rfl rfl 20 (by decide) (hts (.fieldLink RX10 191 "LastMapModel" "trees" "I") (by decide +kernel)) (fun _ h9 => h9) rfl dX10_findTrees_139 ?_
            refine lv_iload hx hb dX10_findTrees_142 (lv_at hl 1 rfl) ?_
            refine lv_aload_n hx hb dX10_findTrees_144 rfl (lv_at hl 4 rfl) ?_
            refine va_get (D := G.1) (ci := 6) (v := .int r19) (C := RX10) (T := TX10) (N := 28) hx hb hts (fun _ h => List.mem_cons_of_mem _ (List.mem_append_right _ h)) hown E.K hP 0 rfl rfl 21 (by decide) (hts (.fieldLink RX10 194 "LastMapModel" "least" "I") (by decide +kernel)) (fun _ h9 => h9) rfl dX10_findTrees_145 ?_
            refine lv_icmp_ne (tgt := 155) hx hb dX10_findTrees_148 (by decide) (fun c22 => ?_) (fun c22 => ?_)
            · refine lv_iconst (v := 0) hx hb dX10_findTrees_155 (by decide) ?_
              refine lv_iadd hx hb dX10_findTrees_156 ?_
              refine lv_topi (fun x23 ex23 => ?_)
              obtain rfl : x23 = 0 := by rw [ex23]; decide
              refine va_put (D := G.1) (ci := 6) (v := .int 0) (ty := .int) (C := RX10) (T := TX10) (N := 28) hx hb hts (fun _ h => List.mem_cons_of_mem _ (List.mem_append_right _ h)) tyX10 tyX10_ok nmX10 hown E.K hP hD hS 0 rfl rfl 20 (by decide) (hts (.fieldLink RX10 191 "LastMapModel" "trees" "I") (by decide +kernel)) (fun _ h9 => h9) rfl (by decide +kernel) rfl rfl (Nat.le_of_ble_eq_true rfl) dX10_findTrees_157 (fun H locs hP hD hS => ?_)
              have hP : va_P G.1 vwCl ([(h1, .inr (6, [.int (nI k), .ref a_maps, v_told, .ref a_kinds, v_land, v_spades, .ref a_part, v_pad, v_padMany, v_slips, v_slipMany, v_made, .ref a_queue, .ref a_depth, .ref a_by, .ref a_from, .int cm1_4, .ref a_offOf, .ref a_parent, .ref a_best, .int 0, .int r19, v_sums, v_toward, v_kept, v_isKept, v_keptAt, v_isWriting])), (a_maps, .inl (gI G, 6, .inl fm)), (a_kinds, .inl (gI G, 4, .inl fk)), (a_part, .inl (gI G, 6, .inl fp)), (a_queue, .inl (gI G, 15625, .inl gq_5)), (a_depth, .inl (gI G, 15625, .inl gd_6)), (a_by, .inl (gI G, 15625, .inl gb_7)), (a_from, .inl (gI G, 15625, .inl gr_8)), (a_offOf, .inl (gI G, 36, .inl go_9)), (a_parent, .inl (gI G, 6, .inl gpa_15)), (a_best, .inl (gI G, 6, .inl fb8))]) H := hP
              have hD : va_D A ([(h1, .inr (6, [.int (nI k), .ref a_maps, v_told, .ref a_kinds, v_land, v_spades, .ref a_part, v_pad, v_padMany, v_slips, v_slipMany, v_made, .ref a_queue, .ref a_depth, .ref a_by, .ref a_from, .int cm1_4, .ref a_offOf, .ref a_parent, .ref a_best, .int 0, .int r19, v_sums, v_toward, v_kept, v_isKept, v_keptAt, v_isWriting])), (a_maps, .inl (gI G, 6, .inl fm)), (a_kinds, .inl (gI G, 4, .inl fk)), (a_part, .inl (gI G, 6, .inl fp)), (a_queue, .inl (gI G, 15625, .inl gq_5)), (a_depth, .inl (gI G, 15625, .inl gd_6)), (a_by, .inl (gI G, 15625, .inl gb_7)), (a_from, .inl (gI G, 15625, .inl gr_8)), (a_offOf, .inl (gI G, 36, .inl go_9)), (a_parent, .inl (gI G, 6, .inl gpa_15)), (a_best, .inl (gI G, 6, .inl fb8))]) := hD
              obtain ⟨x24, ex24⟩ : ∃ yy_ : Int32, yy_ = (nI y) + 1 := ⟨_, rfl⟩
              refine lv_iinc (v := x24) (lv' := [(4, .int x24), (6, .int (nI z)), (5, .int r19), (3, .int (nI ww)), (0, .ref h1), (1, .int p1), (2, .int (nI hh))]) hx hb dX10_findTrees_160 hl (k := 2) rfl (by rw [ex24]; rfl) (by decide) rfl (fun ls hl => ?_)
              obtain rfl : x24 = nI (y + 1) := by rw [ex24]; exact nI_add y 1
              refine lv_goto (tgt := 57) hx hb dX10_findTrees_163 (by decide) ?_
              refine ih57 ((y + 1), 0, r19, gpa_15, fb8) ?_ (by first | omega | (dsimp only; omega)) H locs ls (hP.sub [0, 1, 2, 3, 4, 5, 6, 7, 8, 9, 10] rfl) (hD.sub [0, 1, 2, 3, 4, 5, 6, 7, 8, 9, 10] (by decide) rfl) hS (lv_sub hl [0, 3, 4, 5, 6] rfl)
              try dsimp only
              omega
            · refine lv_iconst (v := 1) hx hb dX10_findTrees_151 (by decide) ?_
              refine lv_goto (tgt := 156) hx hb dX10_findTrees_152 (by decide) ?_
              refine lv_iadd hx hb dX10_findTrees_156 ?_
              refine lv_topi (fun x25 ex25 => ?_)
              obtain rfl : x25 = 1 := by rw [ex25]; decide
              refine va_put (D := G.1) (ci := 6) (v := .int 1) (ty := .int) (C := RX10) (T := TX10) (N := 28) hx hb hts (fun _ h => List.mem_cons_of_mem _ (List.mem_append_right _ h)) tyX10 tyX10_ok nmX10 hown E.K hP hD hS 0 rfl rfl 20 (by decide) (hts (.fieldLink RX10 191 "LastMapModel" "trees" "I") (by decide +kernel)) (fun _ h9 => h9) rfl (by decide +kernel) rfl rfl (Nat.le_of_ble_eq_true rfl) dX10_findTrees_157 (fun H locs hP hD hS => ?_)
              have hP : va_P G.1 vwCl ([(h1, .inr (6, [.int (nI k), .ref a_maps, v_told, .ref a_kinds, v_land, v_spades, .ref a_part, v_pad, v_padMany, v_slips, v_slipMany, v_made, .ref a_queue, .ref a_depth, .ref a_by, .ref a_from, .int cm1_4, .ref a_offOf, .ref a_parent, .ref a_best, .int 1, .int r19, v_sums, v_toward, v_kept, v_isKept, v_keptAt, v_isWriting])), (a_maps, .inl (gI G, 6, .inl fm)), (a_kinds, .inl (gI G, 4, .inl fk)), (a_part, .inl (gI G, 6, .inl fp)), (a_queue, .inl (gI G, 15625, .inl gq_5)), (a_depth, .inl (gI G, 15625, .inl gd_6)), (a_by, .inl (gI G, 15625, .inl gb_7)), (a_from, .inl (gI G, 15625, .inl gr_8)), (a_offOf, .inl (gI G, 36, .inl go_9)), (a_parent, .inl (gI G, 6, .inl gpa_15)), (a_best, .inl (gI G, 6, .inl fb8))]) H := hP
              have hD : va_D A ([(h1, .inr (6, [.int (nI k), .ref a_maps, v_told, .ref a_kinds, v_land, v_spades, .ref a_part, v_pad, v_padMany, v_slips, v_slipMany, v_made, .ref a_queue, .ref a_depth, .ref a_by, .ref a_from, .int cm1_4, .ref a_offOf, .ref a_parent, .ref a_best, .int 1, .int r19, v_sums, v_toward, v_kept, v_isKept, v_keptAt, v_isWriting])), (a_maps, .inl (gI G, 6, .inl fm)), (a_kinds, .inl (gI G, 4, .inl fk)), (a_part, .inl (gI G, 6, .inl fp)), (a_queue, .inl (gI G, 15625, .inl gq_5)), (a_depth, .inl (gI G, 15625, .inl gd_6)), (a_by, .inl (gI G, 15625, .inl gb_7)), (a_from, .inl (gI G, 15625, .inl gr_8)), (a_offOf, .inl (gI G, 36, .inl go_9)), (a_parent, .inl (gI G, 6, .inl gpa_15)), (a_best, .inl (gI G, 6, .inl fb8))]) := hD
              obtain ⟨x26, ex26⟩ : ∃ yy_ : Int32, yy_ = (nI y) + 1 := ⟨_, rfl⟩
              refine lv_iinc (v := x26) (lv' := [(4, .int x26), (6, .int (nI z)), (5, .int r19), (3, .int (nI ww)), (0, .ref h1), (1, .int p1), (2, .int (nI hh))]) hx hb dX10_findTrees_160 hl (k := 2) rfl (by rw [ex26]; rfl) (by decide) rfl (fun ls hl => ?_)
              obtain rfl : x26 = nI (y + 1) := by rw [ex26]; exact nI_add y 1
              refine lv_goto (tgt := 57) hx hb dX10_findTrees_163 (by decide) ?_
              refine ih57 ((y + 1), 1, r19, gpa_15, fb8) ?_ (by first | omega | (dsimp only; omega)) H locs ls (hP.sub [0, 1, 2, 3, 4, 5, 6, 7, 8, 9, 10] rfl) (hD.sub [0, 1, 2, 3, 4, 5, 6, 7, 8, 9, 10] (by decide) rfl) hS (lv_sub hl [0, 3, 4, 5, 6] rfl)
              try dsimp only
              omega
          · have c21 : ¬ 6 ≤ z := fun h9_ => c21 ((nI_leI (a := 6) (b := z) (by omega) (by omega)).mpr h9_)
            refine lv_aload_n hx hb dX10_findTrees_117 rfl (lv_at hl 4 rfl) ?_
            refine va_get (D := G.1) (ci := 6) (v := .ref a_best) (C := RX10) (T := TX10) (N := 28) hx hb hts (fun _ h => List.mem_cons_of_mem _ (List.mem_append_right _ h)) hown E.K hP 0 rfl rfl 19 (by decide) (hts (.fieldLink RX10 43 "LastMapModel" "best" "[I") (by decide +kernel)) (fun _ h9 => h9) rfl dX10_findTrees_118 ?_
            refine lv_iload hx hb dX10_findTrees_121 (lv_at hl 0 rfl) ?_
            refine lv_aload_n hx hb dX10_findTrees_123 rfl (lv_at hl 4 rfl) ?_
            refine va_get (D := G.1) (ci := 6) (v := .ref a_parent) (C := RX10) (T := TX10) (N := 28) hx hb hts (fun _ h => List.mem_cons_of_mem _ (List.mem_append_right _ h)) hown E.K hP 0 rfl rfl 18 (by decide) (hts (.fieldLink RX10 40 "LastMapModel" "parent" "[I") (by decide +kernel)) (fun _ h9 => h9) rfl dX10_findTrees_124 ?_
            refine lv_iload hx hb dX10_findTrees_127 (lv_at hl 0 rfl) ?_
            refine va_iald hx hb E.K hP 9 1 rfl rfl (i := nI z) (vp_in_nI (by omega) (by decide)) dX10_findTrees_129 ?_
            refine lv_topi (fun x27 ex27 => ?_)
            refine va_iast hx hb E.K hP hD hS 10 1 rfl rfl (i := nI z) (vp_in_nI (by omega) (by decide)) dX10_findTrees_130 (fun H locs hP hD hS => ?_)
            obtain ⟨f28, ef28⟩ : ∃ yy_ : Nat → Int32, yy_ = upd fb8 (nI z).toNatClampNeg x27 := ⟨_, rfl⟩
            have hP : va_P G.1 vwCl ([(h1, .inr (6, [.int (nI k), .ref a_maps, v_told, .ref a_kinds, v_land, v_spades, .ref a_part, v_pad, v_padMany, v_slips, v_slipMany, v_made, .ref a_queue, .ref a_depth, .ref a_by, .ref a_from, .int cm1_4, .ref a_offOf, .ref a_parent, .ref a_best, .int 0, .int r19, v_sums, v_toward, v_kept, v_isKept, v_keptAt, v_isWriting])), (a_maps, .inl (gI G, 6, .inl fm)), (a_kinds, .inl (gI G, 4, .inl fk)), (a_part, .inl (gI G, 6, .inl fp)), (a_queue, .inl (gI G, 15625, .inl gq_5)), (a_depth, .inl (gI G, 15625, .inl gd_6)), (a_by, .inl (gI G, 15625, .inl gb_7)), (a_from, .inl (gI G, 15625, .inl gr_8)), (a_offOf, .inl (gI G, 36, .inl go_9)), (a_parent, .inl (gI G, 6, .inl gpa_15)), (a_best, .inl (gI G, 6, .inl f28))]) H := by rw [ef28]; exact hP
            have hD : va_D A ([(h1, .inr (6, [.int (nI k), .ref a_maps, v_told, .ref a_kinds, v_land, v_spades, .ref a_part, v_pad, v_padMany, v_slips, v_slipMany, v_made, .ref a_queue, .ref a_depth, .ref a_by, .ref a_from, .int cm1_4, .ref a_offOf, .ref a_parent, .ref a_best, .int 0, .int r19, v_sums, v_toward, v_kept, v_isKept, v_keptAt, v_isWriting])), (a_maps, .inl (gI G, 6, .inl fm)), (a_kinds, .inl (gI G, 4, .inl fk)), (a_part, .inl (gI G, 6, .inl fp)), (a_queue, .inl (gI G, 15625, .inl gq_5)), (a_depth, .inl (gI G, 15625, .inl gd_6)), (a_by, .inl (gI G, 15625, .inl gb_7)), (a_from, .inl (gI G, 15625, .inl gr_8)), (a_offOf, .inl (gI G, 36, .inl go_9)), (a_parent, .inl (gI G, 6, .inl gpa_15)), (a_best, .inl (gI G, 6, .inl f28))]) := by rw [ef28]; exact hD
            obtain ⟨x29, ex29⟩ : ∃ yy_ : Int32, yy_ = (nI z) + 1 := ⟨_, rfl⟩
            refine lv_iinc (v := x29) (lv' := [(6, .int x29), (5, .int r19), (4, .int (nI y)), (3, .int (nI ww)), (0, .ref h1), (1, .int p1), (2, .int (nI hh))]) hx hb dX10_findTrees_131 hl (k := 0) rfl (by rw [ex29]; rfl) (by decide) rfl (fun ls hl => ?_)
            obtain rfl : x29 = nI (z + 1) := by rw [ex29]; exact nI_add z 1
            refine lv_goto (tgt := 110) hx hb dX10_findTrees_134 (by decide) ?_
            refine ih110 ((z + 1), f28) ?_ (by first | omega | (dsimp only; omega)) H locs ls (hP.sub [0, 1, 2, 3, 4, 5, 6, 7, 8, 9, 10] rfl) (hD.sub [0, 1, 2, 3, 4, 5, 6, 7, 8, 9, 10] (by decide) rfl) hS (lv_sub hl [0, 1, 2, 3, 4, 5, 6] rfl)
            try dsimp only
            omega
        · refine lv_iload hx hb dX10_findTrees_87 (lv_at hl 0 rfl) ?_
          refine lv_aload_n hx hb dX10_findTrees_89 rfl (lv_at hl 3 rfl) ?_
          refine va_get (D := G.1) (ci := 6) (v := .int le9) (C := RX10) (T := TX10) (N := 28) hx hb hts (fun _ h => List.mem_cons_of_mem _ (List.mem_append_right _ h)) hown E.K hP 0 rfl rfl 21 (by decide) (hts (.fieldLink RX10 194 "LastMapModel" "least" "I") (by decide +kernel)) (fun _ h9 => h9) rfl dX10_findTrees_90 ?_
          refine lv_icmp_ge (tgt := 137) hx hb dX10_findTrees_93 (by decide) (fun c30 => ?_) (fun c30 => ?_)
          · refine lv_aload_n hx hb dX10_findTrees_137 rfl (lv_at hl 3 rfl) ?_
            refine lv_dup hx hb dX10_findTrees_138 rfl ?_
            refine va_get (D := G.1) (ci := 6) (v := .int tr9) (C := RX10) (T := TX10) (N := 28) hx hb hts (fun _ h => List.mem_cons_of_mem _ (List.mem_append_right _ h)) hown E.K hP 0 rfl rfl 20 (by decide) (hts (.fieldLink RX10 191 "LastMapModel" "trees" "I") (by decide +kernel)) (fun _ h9 => h9) rfl dX10_findTrees_139 ?_
            refine lv_iload hx hb dX10_findTrees_142 (lv_at hl 0 rfl) ?_
            refine lv_aload_n hx hb dX10_findTrees_144 rfl (lv_at hl 3 rfl) ?_
            refine va_get (D := G.1) (ci := 6) (v := .int le9) (C := RX10) (T := TX10) (N := 28) hx hb hts (fun _ h => List.mem_cons_of_mem _ (List.mem_append_right _ h)) hown E.K hP 0 rfl rfl 21 (by decide) (hts (.fieldLink RX10 194 "LastMapModel" "least" "I") (by decide +kernel)) (fun _ h9 => h9) rfl dX10_findTrees_145 ?_
            refine lv_icmp_ne (tgt := 155) hx hb dX10_findTrees_148 (by decide) (fun c31 => ?_) (fun c31 => ?_)
            · refine lv_iconst (v := 0) hx hb dX10_findTrees_155 (by decide) ?_
              refine lv_iadd hx hb dX10_findTrees_156 ?_
              refine lv_topi (fun x32 ex32 => ?_)
              refine va_put (D := G.1) (ci := 6) (v := .int x32) (ty := .int) (C := RX10) (T := TX10) (N := 28) hx hb hts (fun _ h => List.mem_cons_of_mem _ (List.mem_append_right _ h)) tyX10 tyX10_ok nmX10 hown E.K hP hD hS 0 rfl rfl 20 (by decide) (hts (.fieldLink RX10 191 "LastMapModel" "trees" "I") (by decide +kernel)) (fun _ h9 => h9) rfl (by decide +kernel) rfl rfl (Nat.le_of_ble_eq_true rfl) dX10_findTrees_157 (fun H locs hP hD hS => ?_)
              have hP : va_P G.1 vwCl ([(h1, .inr (6, [.int (nI k), .ref a_maps, v_told, .ref a_kinds, v_land, v_spades, .ref a_part, v_pad, v_padMany, v_slips, v_slipMany, v_made, .ref a_queue, .ref a_depth, .ref a_by, .ref a_from, .int cm1_4, .ref a_offOf, .ref a_parent, .ref a_best, .int x32, .int le9, v_sums, v_toward, v_kept, v_isKept, v_keptAt, v_isWriting])), (a_maps, .inl (gI G, 6, .inl fm)), (a_kinds, .inl (gI G, 4, .inl fk)), (a_part, .inl (gI G, 6, .inl fp)), (a_queue, .inl (gI G, 15625, .inl gq_5)), (a_depth, .inl (gI G, 15625, .inl gd_6)), (a_by, .inl (gI G, 15625, .inl gb_7)), (a_from, .inl (gI G, 15625, .inl gr_8)), (a_offOf, .inl (gI G, 36, .inl go_9)), (a_parent, .inl (gI G, 6, .inl gpa_15)), (a_best, .inl (gI G, 6, .inl fb9))]) H := hP
              have hD : va_D A ([(h1, .inr (6, [.int (nI k), .ref a_maps, v_told, .ref a_kinds, v_land, v_spades, .ref a_part, v_pad, v_padMany, v_slips, v_slipMany, v_made, .ref a_queue, .ref a_depth, .ref a_by, .ref a_from, .int cm1_4, .ref a_offOf, .ref a_parent, .ref a_best, .int x32, .int le9, v_sums, v_toward, v_kept, v_isKept, v_keptAt, v_isWriting])), (a_maps, .inl (gI G, 6, .inl fm)), (a_kinds, .inl (gI G, 4, .inl fk)), (a_part, .inl (gI G, 6, .inl fp)), (a_queue, .inl (gI G, 15625, .inl gq_5)), (a_depth, .inl (gI G, 15625, .inl gd_6)), (a_by, .inl (gI G, 15625, .inl gb_7)), (a_from, .inl (gI G, 15625, .inl gr_8)), (a_offOf, .inl (gI G, 36, .inl go_9)), (a_parent, .inl (gI G, 6, .inl gpa_15)), (a_best, .inl (gI G, 6, .inl fb9))]) := hD
              obtain ⟨x33, ex33⟩ : ∃ yy_ : Int32, yy_ = (nI y) + 1 := ⟨_, rfl⟩
              refine lv_iinc (v := x33) (lv' := [(4, .int x33), (5, .int r19), (3, .int (nI ww)), (0, .ref h1), (1, .int p1), (2, .int (nI hh))]) hx hb dX10_findTrees_160 hl (k := 1) rfl (by rw [ex33]; rfl) (by decide) rfl (fun ls hl => ?_)
              obtain rfl : x33 = nI (y + 1) := by rw [ex33]; exact nI_add y 1
              refine lv_goto (tgt := 57) hx hb dX10_findTrees_163 (by decide) ?_
              refine ih57 ((y + 1), x32, le9, gpa_15, fb9) ?_ (by first | omega | (dsimp only; omega)) H locs ls (hP.sub [0, 1, 2, 3, 4, 5, 6, 7, 8, 9, 10] rfl) (hD.sub [0, 1, 2, 3, 4, 5, 6, 7, 8, 9, 10] (by decide) rfl) hS (lv_sub hl [0, 2, 3, 4, 5] rfl)
              try dsimp only
              omega
            · refine lv_iconst (v := 1) hx hb dX10_findTrees_151 (by decide) ?_
              refine lv_goto (tgt := 156) hx hb dX10_findTrees_152 (by decide) ?_
              refine lv_iadd hx hb dX10_findTrees_156 ?_
              refine lv_topi (fun x34 ex34 => ?_)
              refine va_put (D := G.1) (ci := 6) (v := .int x34) (ty := .int) (C := RX10) (T := TX10) (N := 28) hx hb hts (fun _ h => List.mem_cons_of_mem _ (List.mem_append_right _ h)) tyX10 tyX10_ok nmX10 hown E.K hP hD hS 0 rfl rfl 20 (by decide) (hts (.fieldLink RX10 191 "LastMapModel" "trees" "I") (by decide +kernel)) (fun _ h9 => h9) rfl (by decide +kernel) rfl rfl (Nat.le_of_ble_eq_true rfl) dX10_findTrees_157 (fun H locs hP hD hS => ?_)
              have hP : va_P G.1 vwCl ([(h1, .inr (6, [.int (nI k), .ref a_maps, v_told, .ref a_kinds, v_land, v_spades, .ref a_part, v_pad, v_padMany, v_slips, v_slipMany, v_made, .ref a_queue, .ref a_depth, .ref a_by, .ref a_from, .int cm1_4, .ref a_offOf, .ref a_parent, .ref a_best, .int x34, .int le9, v_sums, v_toward, v_kept, v_isKept, v_keptAt, v_isWriting])), (a_maps, .inl (gI G, 6, .inl fm)), (a_kinds, .inl (gI G, 4, .inl fk)), (a_part, .inl (gI G, 6, .inl fp)), (a_queue, .inl (gI G, 15625, .inl gq_5)), (a_depth, .inl (gI G, 15625, .inl gd_6)), (a_by, .inl (gI G, 15625, .inl gb_7)), (a_from, .inl (gI G, 15625, .inl gr_8)), (a_offOf, .inl (gI G, 36, .inl go_9)), (a_parent, .inl (gI G, 6, .inl gpa_15)), (a_best, .inl (gI G, 6, .inl fb9))]) H := hP
              have hD : va_D A ([(h1, .inr (6, [.int (nI k), .ref a_maps, v_told, .ref a_kinds, v_land, v_spades, .ref a_part, v_pad, v_padMany, v_slips, v_slipMany, v_made, .ref a_queue, .ref a_depth, .ref a_by, .ref a_from, .int cm1_4, .ref a_offOf, .ref a_parent, .ref a_best, .int x34, .int le9, v_sums, v_toward, v_kept, v_isKept, v_keptAt, v_isWriting])), (a_maps, .inl (gI G, 6, .inl fm)), (a_kinds, .inl (gI G, 4, .inl fk)), (a_part, .inl (gI G, 6, .inl fp)), (a_queue, .inl (gI G, 15625, .inl gq_5)), (a_depth, .inl (gI G, 15625, .inl gd_6)), (a_by, .inl (gI G, 15625, .inl gb_7)), (a_from, .inl (gI G, 15625, .inl gr_8)), (a_offOf, .inl (gI G, 36, .inl go_9)), (a_parent, .inl (gI G, 6, .inl gpa_15)), (a_best, .inl (gI G, 6, .inl fb9))]) := hD
              obtain ⟨x35, ex35⟩ : ∃ yy_ : Int32, yy_ = (nI y) + 1 := ⟨_, rfl⟩
              refine lv_iinc (v := x35) (lv' := [(4, .int x35), (5, .int r19), (3, .int (nI ww)), (0, .ref h1), (1, .int p1), (2, .int (nI hh))]) hx hb dX10_findTrees_160 hl (k := 1) rfl (by rw [ex35]; rfl) (by decide) rfl (fun ls hl => ?_)
              obtain rfl : x35 = nI (y + 1) := by rw [ex35]; exact nI_add y 1
              refine lv_goto (tgt := 57) hx hb dX10_findTrees_163 (by decide) ?_
              refine ih57 ((y + 1), x34, le9, gpa_15, fb9) ?_ (by first | omega | (dsimp only; omega)) H locs ls (hP.sub [0, 1, 2, 3, 4, 5, 6, 7, 8, 9, 10] rfl) (hD.sub [0, 1, 2, 3, 4, 5, 6, 7, 8, 9, 10] (by decide) rfl) hS (lv_sub hl [0, 2, 3, 4, 5] rfl)
              try dsimp only
              omega
          · refine lv_aload_n hx hb dX10_findTrees_96 rfl (lv_at hl 3 rfl) ?_
            refine lv_iload hx hb dX10_findTrees_97 (lv_at hl 0 rfl) ?_
            refine va_put (D := G.1) (ci := 6) (v := .int r19) (ty := .int) (C := RX10) (T := TX10) (N := 28) hx hb hts (fun _ h => List.mem_cons_of_mem _ (List.mem_append_right _ h)) tyX10 tyX10_ok nmX10 hown E.K hP hD hS 0 rfl rfl 21 (by decide) (hts (.fieldLink RX10 194 "LastMapModel" "least" "I") (by decide +kernel)) (fun _ h9 => h9) rfl (by decide +kernel) rfl rfl (Nat.le_of_ble_eq_true rfl) dX10_findTrees_99 (fun H locs hP hD hS => ?_)
            have hP : va_P G.1 vwCl ([(h1, .inr (6, [.int (nI k), .ref a_maps, v_told, .ref a_kinds, v_land, v_spades, .ref a_part, v_pad, v_padMany, v_slips, v_slipMany, v_made, .ref a_queue, .ref a_depth, .ref a_by, .ref a_from, .int cm1_4, .ref a_offOf, .ref a_parent, .ref a_best, .int tr9, .int r19, v_sums, v_toward, v_kept, v_isKept, v_keptAt, v_isWriting])), (a_maps, .inl (gI G, 6, .inl fm)), (a_kinds, .inl (gI G, 4, .inl fk)), (a_part, .inl (gI G, 6, .inl fp)), (a_queue, .inl (gI G, 15625, .inl gq_5)), (a_depth, .inl (gI G, 15625, .inl gd_6)), (a_by, .inl (gI G, 15625, .inl gb_7)), (a_from, .inl (gI G, 15625, .inl gr_8)), (a_offOf, .inl (gI G, 36, .inl go_9)), (a_parent, .inl (gI G, 6, .inl gpa_15)), (a_best, .inl (gI G, 6, .inl fb9))]) H := hP
            have hD : va_D A ([(h1, .inr (6, [.int (nI k), .ref a_maps, v_told, .ref a_kinds, v_land, v_spades, .ref a_part, v_pad, v_padMany, v_slips, v_slipMany, v_made, .ref a_queue, .ref a_depth, .ref a_by, .ref a_from, .int cm1_4, .ref a_offOf, .ref a_parent, .ref a_best, .int tr9, .int r19, v_sums, v_toward, v_kept, v_isKept, v_keptAt, v_isWriting])), (a_maps, .inl (gI G, 6, .inl fm)), (a_kinds, .inl (gI G, 4, .inl fk)), (a_part, .inl (gI G, 6, .inl fp)), (a_queue, .inl (gI G, 15625, .inl gq_5)), (a_depth, .inl (gI G, 15625, .inl gd_6)), (a_by, .inl (gI G, 15625, .inl gb_7)), (a_from, .inl (gI G, 15625, .inl gr_8)), (a_offOf, .inl (gI G, 36, .inl go_9)), (a_parent, .inl (gI G, 6, .inl gpa_15)), (a_best, .inl (gI G, 6, .inl fb9))]) := hD
            refine lv_aload_n hx hb dX10_findTrees_102 rfl (lv_at hl 3 rfl) ?_
            refine lv_iconst (v := 0) hx hb dX10_findTrees_103 (by decide) ?_
            refine va_put (D := G.1) (ci := 6) (v := .int 0) (ty := .int) (C := RX10) (T := TX10) (N := 28) hx hb hts (fun _ h => List.mem_cons_of_mem _ (List.mem_append_right _ h)) tyX10 tyX10_ok nmX10 hown E.K hP hD hS 0 rfl rfl 20 (by decide) (hts (.fieldLink RX10 191 "LastMapModel" "trees" "I") (by decide +kernel)) (fun _ h9 => h9) rfl (by decide +kernel) rfl rfl (Nat.le_of_ble_eq_true rfl) dX10_findTrees_104 (fun H locs hP hD hS => ?_)
            have hP : va_P G.1 vwCl ([(h1, .inr (6, [.int (nI k), .ref a_maps, v_told, .ref a_kinds, v_land, v_spades, .ref a_part, v_pad, v_padMany, v_slips, v_slipMany, v_made, .ref a_queue, .ref a_depth, .ref a_by, .ref a_from, .int cm1_4, .ref a_offOf, .ref a_parent, .ref a_best, .int 0, .int r19, v_sums, v_toward, v_kept, v_isKept, v_keptAt, v_isWriting])), (a_maps, .inl (gI G, 6, .inl fm)), (a_kinds, .inl (gI G, 4, .inl fk)), (a_part, .inl (gI G, 6, .inl fp)), (a_queue, .inl (gI G, 15625, .inl gq_5)), (a_depth, .inl (gI G, 15625, .inl gd_6)), (a_by, .inl (gI G, 15625, .inl gb_7)), (a_from, .inl (gI G, 15625, .inl gr_8)), (a_offOf, .inl (gI G, 36, .inl go_9)), (a_parent, .inl (gI G, 6, .inl gpa_15)), (a_best, .inl (gI G, 6, .inl fb9))]) H := hP
            have hD : va_D A ([(h1, .inr (6, [.int (nI k), .ref a_maps, v_told, .ref a_kinds, v_land, v_spades, .ref a_part, v_pad, v_padMany, v_slips, v_slipMany, v_made, .ref a_queue, .ref a_depth, .ref a_by, .ref a_from, .int cm1_4, .ref a_offOf, .ref a_parent, .ref a_best, .int 0, .int r19, v_sums, v_toward, v_kept, v_isKept, v_keptAt, v_isWriting])), (a_maps, .inl (gI G, 6, .inl fm)), (a_kinds, .inl (gI G, 4, .inl fk)), (a_part, .inl (gI G, 6, .inl fp)), (a_queue, .inl (gI G, 15625, .inl gq_5)), (a_depth, .inl (gI G, 15625, .inl gd_6)), (a_by, .inl (gI G, 15625, .inl gb_7)), (a_from, .inl (gI G, 15625, .inl gr_8)), (a_offOf, .inl (gI G, 36, .inl go_9)), (a_parent, .inl (gI G, 6, .inl gpa_15)), (a_best, .inl (gI G, 6, .inl fb9))]) := hD
            refine lv_iconst (v := 0) hx hb dX10_findTrees_107 (by decide) ?_
            refine lv_istore (lv' := [(6, .int 0), (5, .int r19), (4, .int (nI y)), (3, .int (nI ww)), (0, .ref h1), (1, .int p1), (2, .int (nI hh))]) hx hb dX10_findTrees_108 hl (by decide) rfl (fun ls hl => ?_)
            refine lp_run (x0 := (0, fb9)) (fun xx_ : Nat × (Nat → Int32) => match xx_ with | (z, fb8) => [(h1, .inr (6, [.int (nI k), .ref a_maps, v_told, .ref a_kinds, v_land, v_spades, .ref a_part, v_pad, v_padMany, v_slips, v_slipMany, v_made, .ref a_queue, .ref a_depth, .ref a_by, .ref a_from, .int cm1_4, .ref a_offOf, .ref a_parent, .ref a_best, .int 0, .int r19, v_sums, v_toward, v_kept, v_isKept, v_keptAt, v_isWriting])), (a_maps, .inl (gI G, 6, .inl fm)), (a_kinds, .inl (gI G, 4, .inl fk)), (a_part, .inl (gI G, 6, .inl fp)), (a_queue, .inl (gI G, 15625, .inl gq_5)), (a_depth, .inl (gI G, 15625, .inl gd_6)), (a_by, .inl (gI G, 15625, .inl gb_7)), (a_from, .inl (gI G, 15625, .inl gr_8)), (a_offOf, .inl (gI G, 36, .inl go_9)), (a_parent, .inl (gI G, 6, .inl gpa_15)), (a_best, .inl (gI G, 6, .inl fb8))]) (fun xx_ : Nat × (Nat → Int32) => match xx_ with | (z, fb8) => [(6, .int (nI z)), (5, .int r19), (4, .int (nI y)), (3, .int (nI ww)), (0, .ref h1), (1, .int p1), (2, .int (nI hh))]) (fun xx_ : Nat × (Nat → Int32) => match xx_ with | (z, fb8) => (z ≤ 6)) (fun xx_ : Nat × (Nat → Int32) => match xx_ with | (z, fb8) => 6 - z) (hP.sub [0, 1, 2, 3, 4, 5, 6, 7, 8, 9, 10] rfl) (hD.sub [0, 1, 2, 3, 4, 5, 6, 7, 8, 9, 10] (by decide) rfl) hS (lv_sub hl [0, 1, 2, 3, 4, 5, 6] rfl) (by omega) ?_
            intro xx_ hI ih110 H locs ls hP hD hS hl
            obtain ⟨z, fb8⟩ := xx_
            dsimp only at hI ih110 hP hD hl
            have hz0 := hI
            have hl : lv_has ls 7 [(6, .int (nI z)), (5, .int r19), (4, .int (nI y)), (3, .int (nI ww)), (0, .ref h1), (1, .int p1), (2, .int (nI hh))] := hl
            have hP : va_P G.1 vwCl ([(h1, .inr (6, [.int (nI k), .ref a_maps, v_told, .ref a_kinds, v_land, v_spades, .ref a_part, v_pad, v_padMany, v_slips, v_slipMany, v_made, .ref a_queue, .ref a_depth, .ref a_by, .ref a_from, .int cm1_4, .ref a_offOf, .ref a_parent, .ref a_best, .int 0, .int r19, v_sums, v_toward, v_kept, v_isKept, v_keptAt, v_isWriting])), (a_maps, .inl (gI G, 6, .inl fm)), (a_kinds, .inl (gI G, 4, .inl fk)), (a_part, .inl (gI G, 6, .inl fp)), (a_queue, .inl (gI G, 15625, .inl gq_5)), (a_depth, .inl (gI G, 15625, .inl gd_6)), (a_by, .inl (gI G, 15625, .inl gb_7)), (a_from, .inl (gI G, 15625, .inl gr_8)), (a_offOf, .inl (gI G, 36, .inl go_9)), (a_parent, .inl (gI G, 6, .inl gpa_15)), (a_best, .inl (gI G, 6, .inl fb8))]) H := hP
            have hD : va_D A ([(h1, .inr (6, [.int (nI k), .ref a_maps, v_told, .ref a_kinds, v_land, v_spades, .ref a_part, v_pad, v_padMany, v_slips, v_slipMany, v_made, .ref a_queue, .ref a_depth, .ref a_by, .ref a_from, .int cm1_4, .ref a_offOf, .ref a_parent, .ref a_best, .int 0, .int r19, v_sums, v_toward, v_kept, v_isKept, v_keptAt, v_isWriting])), (a_maps, .inl (gI G, 6, .inl fm)), (a_kinds, .inl (gI G, 4, .inl fk)), (a_part, .inl (gI G, 6, .inl fp)), (a_queue, .inl (gI G, 15625, .inl gq_5)), (a_depth, .inl (gI G, 15625, .inl gd_6)), (a_by, .inl (gI G, 15625, .inl gb_7)), (a_from, .inl (gI G, 15625, .inl gr_8)), (a_offOf, .inl (gI G, 36, .inl go_9)), (a_parent, .inl (gI G, 6, .inl gpa_15)), (a_best, .inl (gI G, 6, .inl fb8))]) := hD
            refine lv_iload hx hb dX10_findTrees_110 (lv_at hl 0 rfl) ?_
            refine lv_bipush (v := 6) hx hb dX10_findTrees_112 (by decide) ?_
            refine lv_icmp_ge (tgt := 137) hx hb dX10_findTrees_114 (by decide) (fun c36 => ?_) (fun c36 => ?_)
            · have c36 : 6 ≤ z := (nI_leI (a := 6) (b := z) (by omega) (by omega)).mp c36
              refine lv_aload_n hx hb dX10_findTrees_137 rfl (lv_at hl 4 rfl) ?_
              refine lv_dup hx hb dX10_findTrees_138 rfl ?_
              refine va_get (D := G.1) (ci := 6) (v := .int 0) (C := RX10) (T := TX10) (N := 28) hx hb hts (fun _ h => List.mem_cons_of_mem _ (List.mem_append_right _ h)) hown E.K hP 0 rfl rfl 20 (by decide) (hts (.fieldLink RX10 191 "LastMapModel" "trees" "I") (by decide +kernel)) (fun _ h9 => h9) rfl dX10_findTrees_139 ?_
              refine lv_iload hx hb dX10_findTrees_142 (lv_at hl 1 rfl) ?_
              refine lv_aload_n hx hb dX10_findTrees_144 rfl (lv_at hl 4 rfl) ?_
              refine va_get (D := G.1) (ci := 6) (v := .int r19) (C := RX10) (T := TX10) (N := 28) hx hb hts (fun _ h => List.mem_cons_of_mem _ (List.mem_append_right _ h)) hown E.K hP 0 rfl rfl 21 (by decide) (hts (.fieldLink RX10 194 "LastMapModel" "least" "I") (by decide +kernel)) (fun _ h9 => h9) rfl dX10_findTrees_145 ?_
              refine lv_icmp_ne (tgt := 155) hx hb dX10_findTrees_148 (by decide) (fun c37 => ?_) (fun c37 => ?_)
              · refine lv_iconst (v := 0) hx hb dX10_findTrees_155 (by decide) ?_
                refine lv_iadd hx hb dX10_findTrees_156 ?_
                refine lv_topi (fun x38 ex38 => ?_)
                obtain rfl : x38 = 0 := by rw [ex38]; decide
                refine va_put (D := G.1) (ci := 6) (v := .int 0) (ty := .int) (C := RX10) (T := TX10) (N := 28) hx hb hts (fun _ h => List.mem_cons_of_mem _ (List.mem_append_right _ h)) tyX10 tyX10_ok nmX10 hown E.K hP hD hS 0 rfl rfl 20 (by decide) (hts (.fieldLink RX10 191 "LastMapModel" "trees" "I") (by decide +kernel)) (fun _ h9 => h9) rfl (by decide +kernel) rfl rfl (Nat.le_of_ble_eq_true rfl) dX10_findTrees_157 (fun H locs hP hD hS => ?_)
                have hP : va_P G.1 vwCl ([(h1, .inr (6, [.int (nI k), .ref a_maps, v_told, .ref a_kinds, v_land, v_spades, .ref a_part, v_pad, v_padMany, v_slips, v_slipMany, v_made, .ref a_queue, .ref a_depth, .ref a_by, .ref a_from, .int cm1_4, .ref a_offOf, .ref a_parent, .ref a_best, .int 0, .int r19, v_sums, v_toward, v_kept, v_isKept, v_keptAt, v_isWriting])), (a_maps, .inl (gI G, 6, .inl fm)), (a_kinds, .inl (gI G, 4, .inl fk)), (a_part, .inl (gI G, 6, .inl fp)), (a_queue, .inl (gI G, 15625, .inl gq_5)), (a_depth, .inl (gI G, 15625, .inl gd_6)), (a_by, .inl (gI G, 15625, .inl gb_7)), (a_from, .inl (gI G, 15625, .inl gr_8)), (a_offOf, .inl (gI G, 36, .inl go_9)), (a_parent, .inl (gI G, 6, .inl gpa_15)), (a_best, .inl (gI G, 6, .inl fb8))]) H := hP
                have hD : va_D A ([(h1, .inr (6, [.int (nI k), .ref a_maps, v_told, .ref a_kinds, v_land, v_spades, .ref a_part, v_pad, v_padMany, v_slips, v_slipMany, v_made, .ref a_queue, .ref a_depth, .ref a_by, .ref a_from, .int cm1_4, .ref a_offOf, .ref a_parent, .ref a_best, .int 0, .int r19, v_sums, v_toward, v_kept, v_isKept, v_keptAt, v_isWriting])), (a_maps, .inl (gI G, 6, .inl fm)), (a_kinds, .inl (gI G, 4, .inl fk)), (a_part, .inl (gI G, 6, .inl fp)), (a_queue, .inl (gI G, 15625, .inl gq_5)), (a_depth, .inl (gI G, 15625, .inl gd_6)), (a_by, .inl (gI G, 15625, .inl gb_7)), (a_from, .inl (gI G, 15625, .inl gr_8)), (a_offOf, .inl (gI G, 36, .inl go_9)), (a_parent, .inl (gI G, 6, .inl gpa_15)), (a_best, .inl (gI G, 6, .inl fb8))]) := hD
                obtain ⟨x39, ex39⟩ : ∃ yy_ : Int32, yy_ = (nI y) + 1 := ⟨_, rfl⟩
                refine lv_iinc (v := x39) (lv' := [(4, .int x39), (6, .int (nI z)), (5, .int r19), (3, .int (nI ww)), (0, .ref h1), (1, .int p1), (2, .int (nI hh))]) hx hb dX10_findTrees_160 hl (k := 2) rfl (by rw [ex39]; rfl) (by decide) rfl (fun ls hl => ?_)
                obtain rfl : x39 = nI (y + 1) := by rw [ex39]; exact nI_add y 1
                refine lv_goto (tgt := 57) hx hb dX10_findTrees_163 (by decide) ?_
                refine ih57 ((y + 1), 0, r19, gpa_15, fb8) ?_ (by first | omega | (dsimp only; omega)) H locs ls (hP.sub [0, 1, 2, 3, 4, 5, 6, 7, 8, 9, 10] rfl) (hD.sub [0, 1, 2, 3, 4, 5, 6, 7, 8, 9, 10] (by decide) rfl) hS (lv_sub hl [0, 3, 4, 5, 6] rfl)
                try dsimp only
                omega
              · refine lv_iconst (v := 1) hx hb dX10_findTrees_151 (by decide) ?_
                refine lv_goto (tgt := 156) hx hb dX10_findTrees_152 (by decide) ?_
                refine lv_iadd hx hb dX10_findTrees_156 ?_
                refine lv_topi (fun x40 ex40 => ?_)
                obtain rfl : x40 = 1 := by rw [ex40]; decide
                refine va_put (D := G.1) (ci := 6) (v := .int 1) (ty := .int) (C := RX10) (T := TX10) (N := 28) hx hb hts (fun _ h => List.mem_cons_of_mem _ (List.mem_append_right _ h)) tyX10 tyX10_ok nmX10 hown E.K hP hD hS 0 rfl rfl 20 (by decide) (hts (.fieldLink RX10 191 "LastMapModel" "trees" "I") (by decide +kernel)) (fun _ h9 => h9) rfl (by decide +kernel) rfl rfl (Nat.le_of_ble_eq_true rfl) dX10_findTrees_157 (fun H locs hP hD hS => ?_)
                have hP : va_P G.1 vwCl ([(h1, .inr (6, [.int (nI k), .ref a_maps, v_told, .ref a_kinds, v_land, v_spades, .ref a_part, v_pad, v_padMany, v_slips, v_slipMany, v_made, .ref a_queue, .ref a_depth, .ref a_by, .ref a_from, .int cm1_4, .ref a_offOf, .ref a_parent, .ref a_best, .int 1, .int r19, v_sums, v_toward, v_kept, v_isKept, v_keptAt, v_isWriting])), (a_maps, .inl (gI G, 6, .inl fm)), (a_kinds, .inl (gI G, 4, .inl fk)), (a_part, .inl (gI G, 6, .inl fp)), (a_queue, .inl (gI G, 15625, .inl gq_5)), (a_depth, .inl (gI G, 15625, .inl gd_6)), (a_by, .inl (gI G, 15625, .inl gb_7)), (a_from, .inl (gI G, 15625, .inl gr_8)), (a_offOf, .inl (gI G, 36, .inl go_9)), (a_parent, .inl (gI G, 6, .inl gpa_15)), (a_best, .inl (gI G, 6, .inl fb8))]) H := hP
                have hD : va_D A ([(h1, .inr (6, [.int (nI k), .ref a_maps, v_told, .ref a_kinds, v_land, v_spades, .ref a_part, v_pad, v_padMany, v_slips, v_slipMany, v_made, .ref a_queue, .ref a_depth, .ref a_by, .ref a_from, .int cm1_4, .ref a_offOf, .ref a_parent, .ref a_best, .int 1, .int r19, v_sums, v_toward, v_kept, v_isKept, v_keptAt, v_isWriting])), (a_maps, .inl (gI G, 6, .inl fm)), (a_kinds, .inl (gI G, 4, .inl fk)), (a_part, .inl (gI G, 6, .inl fp)), (a_queue, .inl (gI G, 15625, .inl gq_5)), (a_depth, .inl (gI G, 15625, .inl gd_6)), (a_by, .inl (gI G, 15625, .inl gb_7)), (a_from, .inl (gI G, 15625, .inl gr_8)), (a_offOf, .inl (gI G, 36, .inl go_9)), (a_parent, .inl (gI G, 6, .inl gpa_15)), (a_best, .inl (gI G, 6, .inl fb8))]) := hD
                obtain ⟨x41, ex41⟩ : ∃ yy_ : Int32, yy_ = (nI y) + 1 := ⟨_, rfl⟩
                refine lv_iinc (v := x41) (lv' := [(4, .int x41), (6, .int (nI z)), (5, .int r19), (3, .int (nI ww)), (0, .ref h1), (1, .int p1), (2, .int (nI hh))]) hx hb dX10_findTrees_160 hl (k := 2) rfl (by rw [ex41]; rfl) (by decide) rfl (fun ls hl => ?_)
                obtain rfl : x41 = nI (y + 1) := by rw [ex41]; exact nI_add y 1
                refine lv_goto (tgt := 57) hx hb dX10_findTrees_163 (by decide) ?_
                refine ih57 ((y + 1), 1, r19, gpa_15, fb8) ?_ (by first | omega | (dsimp only; omega)) H locs ls (hP.sub [0, 1, 2, 3, 4, 5, 6, 7, 8, 9, 10] rfl) (hD.sub [0, 1, 2, 3, 4, 5, 6, 7, 8, 9, 10] (by decide) rfl) hS (lv_sub hl [0, 3, 4, 5, 6] rfl)
                try dsimp only
                omega
            · have c36 : ¬ 6 ≤ z := fun h9_ => c36 ((nI_leI (a := 6) (b := z) (by omega) (by omega)).mpr h9_)
              refine lv_aload_n hx hb dX10_findTrees_117 rfl (lv_at hl 4 rfl) ?_
              refine va_get (D := G.1) (ci := 6) (v := .ref a_best) (C := RX10) (T := TX10) (N := 28) hx hb hts (fun _ h => List.mem_cons_of_mem _ (List.mem_append_right _ h)) hown E.K hP 0 rfl rfl 19 (by decide) (hts (.fieldLink RX10 43 "LastMapModel" "best" "[I") (by decide +kernel)) (fun _ h9 => h9) rfl dX10_findTrees_118 ?_
              refine lv_iload hx hb dX10_findTrees_121 (lv_at hl 0 rfl) ?_
              refine lv_aload_n hx hb dX10_findTrees_123 rfl (lv_at hl 4 rfl) ?_
              refine va_get (D := G.1) (ci := 6) (v := .ref a_parent) (C := RX10) (T := TX10) (N := 28) hx hb hts (fun _ h => List.mem_cons_of_mem _ (List.mem_append_right _ h)) hown E.K hP 0 rfl rfl 18 (by decide) (hts (.fieldLink RX10 40 "LastMapModel" "parent" "[I") (by decide +kernel)) (fun _ h9 => h9) rfl dX10_findTrees_124 ?_
              refine lv_iload hx hb dX10_findTrees_127 (lv_at hl 0 rfl) ?_
              refine va_iald hx hb E.K hP 9 1 rfl rfl (i := nI z) (vp_in_nI (by omega) (by decide)) dX10_findTrees_129 ?_
              refine lv_topi (fun x42 ex42 => ?_)
              refine va_iast hx hb E.K hP hD hS 10 1 rfl rfl (i := nI z) (vp_in_nI (by omega) (by decide)) dX10_findTrees_130 (fun H locs hP hD hS => ?_)
              obtain ⟨f43, ef43⟩ : ∃ yy_ : Nat → Int32, yy_ = upd fb8 (nI z).toNatClampNeg x42 := ⟨_, rfl⟩
              have hP : va_P G.1 vwCl ([(h1, .inr (6, [.int (nI k), .ref a_maps, v_told, .ref a_kinds, v_land, v_spades, .ref a_part, v_pad, v_padMany, v_slips, v_slipMany, v_made, .ref a_queue, .ref a_depth, .ref a_by, .ref a_from, .int cm1_4, .ref a_offOf, .ref a_parent, .ref a_best, .int 0, .int r19, v_sums, v_toward, v_kept, v_isKept, v_keptAt, v_isWriting])), (a_maps, .inl (gI G, 6, .inl fm)), (a_kinds, .inl (gI G, 4, .inl fk)), (a_part, .inl (gI G, 6, .inl fp)), (a_queue, .inl (gI G, 15625, .inl gq_5)), (a_depth, .inl (gI G, 15625, .inl gd_6)), (a_by, .inl (gI G, 15625, .inl gb_7)), (a_from, .inl (gI G, 15625, .inl gr_8)), (a_offOf, .inl (gI G, 36, .inl go_9)), (a_parent, .inl (gI G, 6, .inl gpa_15)), (a_best, .inl (gI G, 6, .inl f43))]) H := by rw [ef43]; exact hP
              have hD : va_D A ([(h1, .inr (6, [.int (nI k), .ref a_maps, v_told, .ref a_kinds, v_land, v_spades, .ref a_part, v_pad, v_padMany, v_slips, v_slipMany, v_made, .ref a_queue, .ref a_depth, .ref a_by, .ref a_from, .int cm1_4, .ref a_offOf, .ref a_parent, .ref a_best, .int 0, .int r19, v_sums, v_toward, v_kept, v_isKept, v_keptAt, v_isWriting])), (a_maps, .inl (gI G, 6, .inl fm)), (a_kinds, .inl (gI G, 4, .inl fk)), (a_part, .inl (gI G, 6, .inl fp)), (a_queue, .inl (gI G, 15625, .inl gq_5)), (a_depth, .inl (gI G, 15625, .inl gd_6)), (a_by, .inl (gI G, 15625, .inl gb_7)), (a_from, .inl (gI G, 15625, .inl gr_8)), (a_offOf, .inl (gI G, 36, .inl go_9)), (a_parent, .inl (gI G, 6, .inl gpa_15)), (a_best, .inl (gI G, 6, .inl f43))]) := by rw [ef43]; exact hD
              obtain ⟨x44, ex44⟩ : ∃ yy_ : Int32, yy_ = (nI z) + 1 := ⟨_, rfl⟩
              refine lv_iinc (v := x44) (lv' := [(6, .int x44), (5, .int r19), (4, .int (nI y)), (3, .int (nI ww)), (0, .ref h1), (1, .int p1), (2, .int (nI hh))]) hx hb dX10_findTrees_131 hl (k := 0) rfl (by rw [ex44]; rfl) (by decide) rfl (fun ls hl => ?_)
              obtain rfl : x44 = nI (z + 1) := by rw [ex44]; exact nI_add z 1
              refine lv_goto (tgt := 110) hx hb dX10_findTrees_134 (by decide) ?_
              refine ih110 ((z + 1), f43) ?_ (by first | omega | (dsimp only; omega)) H locs ls (hP.sub [0, 1, 2, 3, 4, 5, 6, 7, 8, 9, 10] rfl) (hD.sub [0, 1, 2, 3, 4, 5, 6, 7, 8, 9, 10] (by decide) rfl) hS (lv_sub hl [0, 1, 2, 3, 4, 5, 6] rfl)
              try dsimp only
              omega
      · refine lv_if_eq (tgt := 160) hx hb dX10_findTrees_70 (by decide) (fun _ => ?_) (fun c45 => False.elim (by revert c45; decide))
        obtain ⟨x46, ex46⟩ : ∃ yy_ : Int32, yy_ = (nI y) + 1 := ⟨_, rfl⟩
        refine lv_iinc (v := x46) (lv' := [(4, .int x46), (3, .int (nI ww)), (0, .ref h1), (1, .int p1), (2, .int (nI hh))]) hx hb dX10_findTrees_160 hl (k := 0) rfl (by rw [ex46]; rfl) (by decide) rfl (fun ls hl => ?_)
        obtain rfl : x46 = nI (y + 1) := by rw [ex46]; exact nI_add y 1
        refine lv_goto (tgt := 57) hx hb dX10_findTrees_163 (by decide) ?_
        refine ih57 ((y + 1), tr9, le9, gpa_15, fb9) ?_ (by first | omega | (dsimp only; omega)) H locs ls (hP.sub [0, 1, 2, 3, 4, 5, 6, 7, 8, 9, 10] rfl) (hD.sub [0, 1, 2, 3, 4, 5, 6, 7, 8, 9, 10] (by decide) rfl) hS (lv_sub hl [0, 1, 2, 3, 4] rfl)
        try dsimp only
        omega
  · have c10 : ¬ 6 ≤ x := fun h9_ => c10 ((nI_leI (a := 6) (b := x) (by omega) (by omega)).mpr h9_)
    refine lv_iload_n hx hb dX10_findTrees_29 rfl (lv_at hl 1 rfl) ?_
    refine lv_iload_n hx hb dX10_findTrees_30 rfl (lv_at hl 3 rfl) ?_
    refine lv_iload hx hb dX10_findTrees_31 (lv_at hl 0 rfl) ?_
    refine lv_ishr hx hb dX10_findTrees_33 ?_
    refine lv_topi (fun x47 ex47 => ?_)
    refine lv_iconst (v := 1) hx hb dX10_findTrees_34 (by decide) ?_
    refine lv_iand hx hb dX10_findTrees_35 ?_
    refine lv_topi (fun x48 ex48 => ?_)
    refine lv_iconst (v := 1) hx hb dX10_findTrees_36 (by decide) ?_
    refine lv_icmp_ne (tgt := 45) hx hb dX10_findTrees_37 (by decide) (fun c49 => ?_) (fun c49 => ?_)
    · refine lv_iconst (v := 1) hx hb dX10_findTrees_45 (by decide) ?_
      refine lv_imul hx hb dX10_findTrees_46 ?_
      refine lv_topi (fun x50 ex50 => ?_)
      obtain rfl : x50 = nI (ww * 1) := by rw [ex50]; exact pk_mul ww 1
      refine lv_istore_n (lv' := [(3, .int (nI (ww * 1))), (4, .int (nI x)), (0, .ref h1), (1, .int p1), (2, .int (nI hh))]) hx hb dX10_findTrees_47 rfl hl (by decide) rfl (fun ls hl => ?_)
      obtain ⟨x51, ex51⟩ : ∃ yy_ : Int32, yy_ = (nI x) + 1 := ⟨_, rfl⟩
      refine lv_iinc (v := x51) (lv' := [(4, .int x51), (3, .int (nI (ww * 1))), (0, .ref h1), (1, .int p1), (2, .int (nI hh))]) hx hb dX10_findTrees_48 hl (k := 1) rfl (by rw [ex51]; rfl) (by decide) rfl (fun ls hl => ?_)
      obtain rfl : x51 = nI (x + 1) := by rw [ex51]; exact nI_add x 1
      refine lv_goto (tgt := 22) hx hb dX10_findTrees_51 (by decide) ?_
      refine ih22 ((x + 1), (ww * 1)) ⟨?_, ?_⟩ (by first | omega | (dsimp only; omega)) H locs ls (hP.sub [0, 1, 2, 3, 4, 5, 6, 7, 8, 9, 10] rfl) (hD.sub [0, 1, 2, 3, 4, 5, 6, 7, 8, 9, 10] (by decide) rfl) hS (lv_sub hl [0, 1, 2, 3, 4] rfl)
      · try dsimp only
        omega
      · try dsimp only
        rw [Nat.pow_succ]; omega
    · refine lv_bipush (v := 7) hx hb dX10_findTrees_40 (by decide) ?_
      refine lv_goto (tgt := 46) hx hb dX10_findTrees_42 (by decide) ?_
      refine lv_imul hx hb dX10_findTrees_46 ?_
      refine lv_topi (fun x52 ex52 => ?_)
      obtain rfl : x52 = nI (ww * 7) := by rw [ex52]; exact pk_mul ww 7
      refine lv_istore_n (lv' := [(3, .int (nI (ww * 7))), (4, .int (nI x)), (0, .ref h1), (1, .int p1), (2, .int (nI hh))]) hx hb dX10_findTrees_47 rfl hl (by decide) rfl (fun ls hl => ?_)
      obtain ⟨x53, ex53⟩ : ∃ yy_ : Int32, yy_ = (nI x) + 1 := ⟨_, rfl⟩
      refine lv_iinc (v := x53) (lv' := [(4, .int x53), (3, .int (nI (ww * 7))), (0, .ref h1), (1, .int p1), (2, .int (nI hh))]) hx hb dX10_findTrees_48 hl (k := 1) rfl (by rw [ex53]; rfl) (by decide) rfl (fun ls hl => ?_)
      obtain rfl : x53 = nI (x + 1) := by rw [ex53]; exact nI_add x 1
      refine lv_goto (tgt := 22) hx hb dX10_findTrees_51 (by decide) ?_
      refine ih22 ((x + 1), (ww * 7)) ⟨?_, ?_⟩ (by first | omega | (dsimp only; omega)) H locs ls (hP.sub [0, 1, 2, 3, 4, 5, 6, 7, 8, 9, 10] rfl) (hD.sub [0, 1, 2, 3, 4, 5, 6, 7, 8, 9, 10] (by decide) rfl) hS (lv_sub hl [0, 1, 2, 3, 4] rfl)
      · try dsimp only
        omega
      · try dsimp only
        rw [Nat.pow_succ]; omega

set_option maxHeartbeats 1000000 in
set_option maxRecDepth 100000 in
theorem m_tree (l : Launch) (G : Gy) (sz : Nat) (h1 : Nat) (v_land : Value) (v_spades : Value) (v_pad : Value) (v_padMany : Value) (v_slips : Value) (v_slipMany : Value) (v_made : Value) (v_sums : Value) (v_toward : Value) (v_kept : Value) (v_isKept : Value) (v_keptAt : Value) (v_isWriting : Value) (a_maps : Nat) (fm : Nat → Int32) (a_kinds : Nat) (a_offOf : Nat) (a_best : Nat) (a_parent : Nat) (fpa : Nat → Int32) (fk : Nat → Int32) (fo : Nat → Int32) (fbe : Nat → Int32) (a_part : Nat) (fp : Nat → Int32) (a_queue : Nat) (a_depth : Nat) (a_by : Nat) (a_from : Nat) (fq : Nat → Int32) (fd : Nat → Int32) (fb : Nat → Int32) (fr : Nat → Int32) (k : Nat) (cm0 : Int32) (tr0 : Int32) (le0 : Int32) (told : Int32) (p0 : Int32) (p1 : Int32) (p2 : Int32) (hk2 : 2 ≤ k) (hk6 : k ≤ 6) (hp : pOK k fp) (hfm : mapsOK k fm) : Ci l G yX10_tree wsX10_tree ({ frames := 6, cells := 0, slots := 0, locals := 148 }) [.ref h1, .int p0, .int p1, .int p2] ([(h1, .inr (6, [.int (nI k), .ref a_maps, .int told, .ref a_kinds, v_land, v_spades, .ref a_part, v_pad, v_padMany, v_slips, v_slipMany, v_made, .ref a_queue, .ref a_depth, .ref a_by, .ref a_from, .int cm0, .ref a_offOf, .ref a_parent, .ref a_best, .int tr0, .int le0, v_sums, v_toward, v_kept, v_isKept, v_keptAt, v_isWriting])), (a_maps, .inl (gI G, 6, .inl fm)), (a_kinds, .inl (gI G, 4, .inl fk)), (a_part, .inl (gI G, 6, .inl fp)), (a_queue, .inl (gI G, 15625, .inl fq)), (a_depth, .inl (gI G, 15625, .inl fd)), (a_by, .inl (gI G, 15625, .inl fb)), (a_from, .inl (gI G, 15625, .inl fr)), (a_offOf, .inl (gI G, 36, .inl fo)), (a_parent, .inl (gI G, 6, .inl fpa)), (a_best, .inl (gI G, 6, .inl fbe))]) sz (fun (r : Int32) (u : Int32 × (Nat → Int32) × (Nat → Int32) × (Nat → Int32) × (Nat → Int32) × (Nat → Int32) × (Nat → Int32) × (Nat → Int32) × Int32 × Int32) => match u with | (cm1, gq, gd, gb, gr, go, gpa, gbe, tr1, le1) => True) (fun (u : Int32 × (Nat → Int32) × (Nat → Int32) × (Nat → Int32) × (Nat → Int32) × (Nat → Int32) × (Nat → Int32) × (Nat → Int32) × Int32 × Int32) => match u with | (cm1, gq, gd, gb, gr, go, gpa, gbe, tr1, le1) => [(h1, .inr (6, [.int (nI k), .ref a_maps, .int told, .ref a_kinds, v_land, v_spades, .ref a_part, v_pad, v_padMany, v_slips, v_slipMany, v_made, .ref a_queue, .ref a_depth, .ref a_by, .ref a_from, .int cm1, .ref a_offOf, .ref a_parent, .ref a_best, .int tr1, .int le1, v_sums, v_toward, v_kept, v_isKept, v_keptAt, v_isWriting])), (a_maps, .inl (gI G, 6, .inl fm)), (a_kinds, .inl (gI G, 4, .inl fk)), (a_part, .inl (gI G, 6, .inl fp)), (a_queue, .inl (gI G, 15625, .inl gq)), (a_depth, .inl (gI G, 15625, .inl gd)), (a_by, .inl (gI G, 15625, .inl gb)), (a_from, .inl (gI G, 15625, .inl gr)), (a_offOf, .inl (gI G, 36, .inl go)), (a_parent, .inl (gI G, 6, .inl gpa)), (a_best, .inl (gI G, 6, .inl gbe))]) 0 0 := by
  refine Met.ofW (cc := cX10_tree) (maxL := 5) (ret := (some .int)) (by decide) rfl ?_
  intro p e s m args below meth c s₁ B hml hv
  obtain ⟨rfl, hsz, hP, hD0, E0⟩ := hv
  have hx := B.exec
  have hb := B.bytes
  have hr := B.returns
  have hts := atoms_spec (ws := wsX10_tree) B.pre
  have hown : s.vm.findClass RX10 = some m.cls := findClass_of_methodNamed B.named
  have hlocks := B.notSynchronized
  subst hsz
  have hD := hD0.self (sz := s.heap.size)
  generalize hAe : va_A ([(h1, .inr (6, [.int (nI k), .ref a_maps, .int told, .ref a_kinds, v_land, v_spades, .ref a_part, v_pad, v_padMany, v_slips, v_slipMany, v_made, .ref a_queue, .ref a_depth, .ref a_by, .ref a_from, .int cm0, .ref a_offOf, .ref a_parent, .ref a_best, .int tr0, .int le0, v_sums, v_toward, v_kept, v_isKept, v_keptAt, v_isWriting])), (a_maps, .inl (gI G, 6, .inl fm)), (a_kinds, .inl (gI G, 4, .inl fk)), (a_part, .inl (gI G, 6, .inl fp)), (a_queue, .inl (gI G, 15625, .inl fq)), (a_depth, .inl (gI G, 15625, .inl fd)), (a_by, .inl (gI G, 15625, .inl fb)), (a_from, .inl (gI G, 15625, .inl fr)), (a_offOf, .inl (gI G, 36, .inl fo)), (a_parent, .inl (gI G, 6, .inl fpa)), (a_best, .inl (gI G, 6, .inl fbe))]) s.heap.size = A at hD E0 ⊢
  have E : EV G A s s.heap := E0
  have hA : ∀ q : Nat, s.heap.size ≤ q → A q := fun q h => by rw [← hAe]; exact Or.inr h
  have hS : va_S A s.heap s.heap [] := va_S.rf
  have hl := lv_entry ([.ref h1, .int p0, .int p1, .int p2]) (n := 5) (Nat.le_of_ble_eq_true rfl)
  rw [lg_entry_eq]
  generalize (lg_sl ([.ref h1, .int p0, .int p1, .int p2]) ++ List.replicate (5 - (lg_sl ([.ref h1, .int p0, .int p1, .int p2])).length) Slot.unset).toArray = ls at hl ⊢
  have hl : lv_has ls 5 [(0, .ref h1), (1, .int p0), (2, .int p1), (3, .int p2)] := hl
  have hP : va_P G.1 vwCl ([(h1, .inr (6, [.int (nI k), .ref a_maps, .int told, .ref a_kinds, v_land, v_spades, .ref a_part, v_pad, v_padMany, v_slips, v_slipMany, v_made, .ref a_queue, .ref a_depth, .ref a_by, .ref a_from, .int cm0, .ref a_offOf, .ref a_parent, .ref a_best, .int tr0, .int le0, v_sums, v_toward, v_kept, v_isKept, v_keptAt, v_isWriting])), (a_maps, .inl (gI G, 6, .inl fm)), (a_kinds, .inl (gI G, 4, .inl fk)), (a_part, .inl (gI G, 6, .inl fp)), (a_queue, .inl (gI G, 15625, .inl fq)), (a_depth, .inl (gI G, 15625, .inl fd)), (a_by, .inl (gI G, 15625, .inl fb)), (a_from, .inl (gI G, 15625, .inl fr)), (a_offOf, .inl (gI G, 36, .inl fo)), (a_parent, .inl (gI G, 6, .inl fpa)), (a_best, .inl (gI G, 6, .inl fbe))]) s.heap := hP
  have hal := p5le hk6
  refine lv_iload_n hx hb dX10_tree_0 rfl (lv_at hl 2 rfl) ?_
  refine ca_iR (va_runS (As := [.int p1]) (rest := []) ⟨hx, hb, hml, hown, hts⟩ (m_isHand l G s.heap.size p1) (va_cwS 1 hts gX10_tree_X10_isHand rfl rfl rfl (by decide +kernel) ⟨by decide +kernel, by decide +kernel⟩) (pre_S E hP hD hS hA [] (by decide) rfl) rfl rfl hl.1 rfl (lv_room (Nat.le_of_ble_eq_true rfl)) dX10_tree_1 ⟨by decide +kernel, by decide +kernel⟩) hS hP hD hA [] rfl (fun r2 _ H locs w1 hP hS => ?_)
  rcases w1 with ⟨rfl, b3⟩ | ⟨rfl, b3⟩
  · refine lv_if_ne (tgt := 9) hx hb dX10_tree_4 (by decide) (fun _ => ?_) (fun c4 => False.elim (by revert c4; decide))
    obtain ⟨j_p1, hj_p1, ej_p1⟩ := inR4 b3
    have hl : lv_has ls 5 [(0, .ref h1), (1, .int p0), (2, .int (nI j_p1)), (3, .int p2)] := by have q := hl; rw [ej_p1] at q; exact q
    refine lv_iload_n hx hb dX10_tree_9 rfl (lv_at hl 3 rfl) ?_
    refine lv_bipush (v := 10) hx hb dX10_tree_10 (by decide) ?_
    refine lv_icmp_lt (tgt := 29) hx hb dX10_tree_12 (by decide) (fun c5 => ?_) (fun c5 => ?_)
    · refine lv_iconst (v := 0) hx hb dX10_tree_29 (by decide) ?_
      refine lv_istore (lv' := [(4, .int 0), (0, .ref h1), (1, .int p0), (2, .int (nI j_p1)), (3, .int p2)]) hx hb dX10_tree_30 hl (by decide) rfl (fun ls hl => ?_)
      refine lv_iload_n hx hb dX10_tree_32 rfl (lv_at hl 2 rfl) ?_
      refine lv_i2l hx hb dX10_tree_33 rfl ?_
      refine lv_topl (fun x6 ex6 => ?_)
      refine lv_lconst (v := 1) hx hb dX10_tree_34 (by decide) ?_
      refine lv_ldc2 (v := 63) hx hb hown (hts (.constantLong RX10 203 (63)) (by decide +kernel)) dX10_tree_35 ?_
      refine ca_iR (va_runS (As := [.long x6, .long 1, .long 63]) (rest := []) ⟨hx, hb, hml, hown, hts⟩ (m_in l G H.size x6 1 63 p0 1 63 ex6 (by decide) (by decide)) (va_cwS 3 hts gX10_tree_X10_in rfl rfl rfl (by decide +kernel) ⟨by decide +kernel, by decide +kernel⟩) (pre_S E hP hD hS hA [] (by decide) rfl) rfl rfl hl.1 rfl (lv_room (Nat.le_of_ble_eq_true rfl)) dX10_tree_38 ⟨by decide +kernel, by decide +kernel⟩) hS hP hD hA [] rfl (fun r8 _ H locs w7 hP hS => ?_)
      rcases w7 with ⟨rfl, b9⟩ | ⟨rfl, b9⟩
      · refine lv_if_eq (tgt := 70) hx hb dX10_tree_41 (by decide) (fun c10 => False.elim (by revert c10; decide)) (fun _ => ?_)
        refine lv_iload_n hx hb dX10_tree_44 rfl (lv_at hl 4 rfl) ?_
        refine lv_i2l hx hb dX10_tree_45 rfl ?_
        refine lv_topl (fun x11 ex11 => ?_)
        refine lv_lconst (v := 0) hx hb dX10_tree_46 (by decide) ?_
        refine lv_lconst (v := 1) hx hb dX10_tree_47 (by decide) ?_
        refine ca_iR (va_runS (As := [.long x11, .long 0, .long 1]) (rest := []) ⟨hx, hb, hml, hown, hts⟩ (m_in l G H.size x11 0 1 p2 0 1 ex11 (by decide) (by decide)) (va_cwS 3 hts gX10_tree_X10_in rfl rfl rfl (by decide +kernel) ⟨by decide +kernel, by decide +kernel⟩) (pre_S E hP hD hS hA [] (by decide) rfl) rfl rfl hl.1 rfl (lv_room (Nat.le_of_ble_eq_true rfl)) dX10_tree_48 ⟨by decide +kernel, by decide +kernel⟩) hS hP hD hA [] rfl (fun r13 _ H locs w12 hP hS => ?_)
        rcases w12 with ⟨rfl, b14⟩ | ⟨rfl, b14⟩
        · refine lv_if_ne (tgt := 73) hx hb dX10_tree_51 (by decide) (fun _ => ?_) (fun c15 => False.elim (by revert c15; decide))
          refine lv_aload_n hx hb dX10_tree_73 rfl (lv_at hl 1 rfl) ?_
          refine lv_iload_n hx hb dX10_tree_74 rfl (lv_at hl 2 rfl) ?_
          refine ca_iR (va_runV (As := [.int p0]) (rest := []) ⟨hx, hb, hml, hown, hts⟩ (m_areTold l G H.size h1 (.int (nI k)) (.ref a_maps) (.ref a_kinds) v_land v_spades (.ref a_part) v_pad v_padMany v_slips v_slipMany v_made (.ref a_queue) (.ref a_depth) (.ref a_by) (.ref a_from) (.int cm0) (.ref a_offOf) (.ref a_parent) (.ref a_best) (.int tr0) (.int le0) v_sums v_toward v_kept v_isKept v_keptAt v_isWriting told p0) (cwV 1 hts gX10_tree_X10_areTold rfl rfl rfl (by decide +kernel) ⟨by decide +kernel, by decide +kernel⟩) (pre_V E hP hD hS hA [0] (by decide) rfl 0 6 rfl rfl) rfl rfl hl.1 rfl (lv_room (Nat.le_of_ble_eq_true rfl)) dX10_tree_75 ⟨by decide +kernel, by decide +kernel⟩) hS hP hD hA [0] rfl (fun r17 _ H locs w16 hP hS => ?_)
          rcases w16 with ⟨rfl, b18⟩ | ⟨rfl, b18⟩
          · refine lv_if_ne (tgt := 84) hx hb dX10_tree_78 (by decide) (fun _ => ?_) (fun c19 => False.elim (by revert c19; decide))
            refine lv_aload_n hx hb dX10_tree_84 rfl (lv_at hl 1 rfl) ?_
            refine lv_iload_n hx hb dX10_tree_85 rfl (lv_at hl 2 rfl) ?_
            refine lv_iload_n hx hb dX10_tree_86 rfl (lv_at hl 3 rfl) ?_
            refine ca_v (wr := []) (va_runV (As := [.int p0, .int (nI j_p1)]) (rest := []) ⟨hx, hb, hml, hown, hts⟩ (m_findTrees l G H.size h1 (.int told) v_land v_spades v_pad v_padMany v_slips v_slipMany v_made v_sums v_toward v_kept v_isKept v_keptAt v_isWriting a_maps fm a_kinds a_offOf a_best a_parent fpa fk fo fbe a_part fp a_queue a_depth a_by a_from fq fd fb fr k cm0 tr0 le0 j_p1 p0 hk2 hk6 hp hfm (by omega)) (cwV 2 hts gX10_tree_X10_findTrees rfl rfl rfl (by decide +kernel) ⟨by decide +kernel, by decide +kernel⟩) (pre_V E hP hD hS hA [0, 1, 2, 3, 4, 5, 6, 7, 8, 9, 10] (by decide) rfl 0 6 rfl rfl) rfl rfl hl.1 rfl (lv_room (Nat.le_of_ble_eq_true rfl)) dX10_tree_87 ⟨by decide +kernel, by decide +kernel⟩) hS hP hD hA [0, 1, 2, 3, 4, 5, 6, 7, 8, 9, 10] [] rfl rfl (by decide) (by decide) (fun u22 H locs w20 hP hD hS => ?_)
            obtain ⟨cm1_23, gq_24, gd_25, gb_26, gr_27, go_28, gpa_29, gbe_30, tr1_31, le1_32⟩ := u22
            try dsimp only at w20 hP hD
            have hP := (hP.sub (ws' := [(h1, .inr (6, [.int (nI k), .ref a_maps, .int told, .ref a_kinds, v_land, v_spades, .ref a_part, v_pad, v_padMany, v_slips, v_slipMany, v_made, .ref a_queue, .ref a_depth, .ref a_by, .ref a_from, .int cm1_23, .ref a_offOf, .ref a_parent, .ref a_best, .int tr1_31, .int le1_32, v_sums, v_toward, v_kept, v_isKept, v_keptAt, v_isWriting])), (a_maps, .inl (gI G, 6, .inl fm)), (a_kinds, .inl (gI G, 4, .inl fk)), (a_part, .inl (gI G, 6, .inl fp)), (a_queue, .inl (gI G, 15625, .inl gq_24)), (a_depth, .inl (gI G, 15625, .inl gd_25)), (a_by, .inl (gI G, 15625, .inl gb_26)), (a_from, .inl (gI G, 15625, .inl gr_27)), (a_offOf, .inl (gI G, 36, .inl go_28)), (a_parent, .inl (gI G, 6, .inl gpa_29)), (a_best, .inl (gI G, 6, .inl gbe_30))]) [0, 1, 2, 3, 4, 5, 6, 7, 8, 9, 10] rfl)
            have hD := (hD.sub (ws' := [(h1, .inr (6, [.int (nI k), .ref a_maps, .int told, .ref a_kinds, v_land, v_spades, .ref a_part, v_pad, v_padMany, v_slips, v_slipMany, v_made, .ref a_queue, .ref a_depth, .ref a_by, .ref a_from, .int cm1_23, .ref a_offOf, .ref a_parent, .ref a_best, .int tr1_31, .int le1_32, v_sums, v_toward, v_kept, v_isKept, v_keptAt, v_isWriting])), (a_maps, .inl (gI G, 6, .inl fm)), (a_kinds, .inl (gI G, 4, .inl fk)), (a_part, .inl (gI G, 6, .inl fp)), (a_queue, .inl (gI G, 15625, .inl gq_24)), (a_depth, .inl (gI G, 15625, .inl gd_25)), (a_by, .inl (gI G, 15625, .inl gb_26)), (a_from, .inl (gI G, 15625, .inl gr_27)), (a_offOf, .inl (gI G, 36, .inl go_28)), (a_parent, .inl (gI G, 6, .inl gpa_29)), (a_best, .inl (gI G, 6, .inl gbe_30))]) [0, 1, 2, 3, 4, 5, 6, 7, 8, 9, 10] (by decide) rfl)
            refine lv_iload hx hb dX10_tree_90 (lv_at hl 0 rfl) ?_
            refine lv_if_ne (tgt := 112) hx hb dX10_tree_92 (by decide) (fun c33 => False.elim (by revert c33; decide)) (fun _ => ?_)
            refine lv_iload_n hx hb dX10_tree_95 rfl (lv_at hl 4 rfl) ?_
            refine lv_iconst (v := 1) hx hb dX10_tree_96 (by decide) ?_
            refine lv_icmp_ne (tgt := 107) hx hb dX10_tree_97 (by decide) (fun c34 => ?_) (fun c34 => ?_)
            · refine lv_aload_n hx hb dX10_tree_107 rfl (lv_at hl 1 rfl) ?_
              refine va_get (D := G.1) (ci := 6) (v := .int le1_32) (C := RX10) (T := TX10) (N := 28) hx hb hts (fun _ h => List.mem_cons_of_mem _ (List.mem_append_right _ h)) hown E.K hP 0 rfl rfl 21 (by decide) (hts (.fieldLink RX10 194 "LastMapModel" "least" "I") (by decide +kernel)) (fun _ h9 => h9) rfl dX10_tree_108 ?_
              have hP9 := (hP.sub (ws' := [(h1, .inr (6, [.int (nI k), .ref a_maps, .int told, .ref a_kinds, v_land, v_spades, .ref a_part, v_pad, v_padMany, v_slips, v_slipMany, v_made, .ref a_queue, .ref a_depth, .ref a_by, .ref a_from, .int cm1_23, .ref a_offOf, .ref a_parent, .ref a_best, .int tr1_31, .int le1_32, v_sums, v_toward, v_kept, v_isKept, v_keptAt, v_isWriting])), (a_maps, .inl (gI G, 6, .inl fm)), (a_kinds, .inl (gI G, 4, .inl fk)), (a_part, .inl (gI G, 6, .inl fp)), (a_queue, .inl (gI G, 15625, .inl gq_24)), (a_depth, .inl (gI G, 15625, .inl gd_25)), (a_by, .inl (gI G, 15625, .inl gb_26)), (a_from, .inl (gI G, 15625, .inl gr_27)), (a_offOf, .inl (gI G, 36, .inl go_28)), (a_parent, .inl (gI G, 6, .inl gpa_29)), (a_best, .inl (gI G, 6, .inl gbe_30))]) [0, 1, 2, 3, 4, 5, 6, 7, 8, 9, 10] rfl)
              have hD9 := (hD.sub (ws' := [(h1, .inr (6, [.int (nI k), .ref a_maps, .int told, .ref a_kinds, v_land, v_spades, .ref a_part, v_pad, v_padMany, v_slips, v_slipMany, v_made, .ref a_queue, .ref a_depth, .ref a_by, .ref a_from, .int cm1_23, .ref a_offOf, .ref a_parent, .ref a_best, .int tr1_31, .int le1_32, v_sums, v_toward, v_kept, v_isKept, v_keptAt, v_isWriting])), (a_maps, .inl (gI G, 6, .inl fm)), (a_kinds, .inl (gI G, 4, .inl fk)), (a_part, .inl (gI G, 6, .inl fp)), (a_queue, .inl (gI G, 15625, .inl gq_24)), (a_depth, .inl (gI G, 15625, .inl gd_25)), (a_by, .inl (gI G, 15625, .inl gb_26)), (a_from, .inl (gI G, 15625, .inl gr_27)), (a_offOf, .inl (gI G, 36, .inl go_28)), (a_parent, .inl (gI G, 6, .inl gpa_29)), (a_best, .inl (gI G, 6, .inl gbe_30))]) [0, 1, 2, 3, 4, 5, 6, 7, 8, 9, 10] (by decide) rfl)
              exact W.iret (v := le1_32) hx hb hr (fun t9_ ht9_ hW9_ => ⟨⟨le1_32, (cm1_23, gq_24, gd_25, gb_26, gr_27, go_28, gpa_29, gbe_30, tr1_31, le1_32), rfl, trivial, by rw [ht9_]; exact hP9, hD9⟩, hS.F ht9_⟩) hS.2.2 dX10_tree_111
            · refine lv_aload_n hx hb dX10_tree_100 rfl (lv_at hl 1 rfl) ?_
              refine va_get (D := G.1) (ci := 6) (v := .int tr1_31) (C := RX10) (T := TX10) (N := 28) hx hb hts (fun _ h => List.mem_cons_of_mem _ (List.mem_append_right _ h)) hown E.K hP 0 rfl rfl 20 (by decide) (hts (.fieldLink RX10 191 "LastMapModel" "trees" "I") (by decide +kernel)) (fun _ h9 => h9) rfl dX10_tree_101 ?_
              refine lv_goto (tgt := 111) hx hb dX10_tree_104 (by decide) ?_
              have hP9 := (hP.sub (ws' := [(h1, .inr (6, [.int (nI k), .ref a_maps, .int told, .ref a_kinds, v_land, v_spades, .ref a_part, v_pad, v_padMany, v_slips, v_slipMany, v_made, .ref a_queue, .ref a_depth, .ref a_by, .ref a_from, .int cm1_23, .ref a_offOf, .ref a_parent, .ref a_best, .int tr1_31, .int le1_32, v_sums, v_toward, v_kept, v_isKept, v_keptAt, v_isWriting])), (a_maps, .inl (gI G, 6, .inl fm)), (a_kinds, .inl (gI G, 4, .inl fk)), (a_part, .inl (gI G, 6, .inl fp)), (a_queue, .inl (gI G, 15625, .inl gq_24)), (a_depth, .inl (gI G, 15625, .inl gd_25)), (a_by, .inl (gI G, 15625, .inl gb_26)), (a_from, .inl (gI G, 15625, .inl gr_27)), (a_offOf, .inl (gI G, 36, .inl go_28)), (a_parent, .inl (gI G, 6, .inl gpa_29)), (a_best, .inl (gI G, 6, .inl gbe_30))]) [0, 1, 2, 3, 4, 5, 6, 7, 8, 9, 10] rfl)
              have hD9 := (hD.sub (ws' := [(h1, .inr (6, [.int (nI k), .ref a_maps, .int told, .ref a_kinds, v_land, v_spades, .ref a_part, v_pad, v_padMany, v_slips, v_slipMany, v_made, .ref a_queue, .ref a_depth, .ref a_by, .ref a_from, .int cm1_23, .ref a_offOf, .ref a_parent, .ref a_best, .int tr1_31, .int le1_32, v_sums, v_toward, v_kept, v_isKept, v_keptAt, v_isWriting])), (a_maps, .inl (gI G, 6, .inl fm)), (a_kinds, .inl (gI G, 4, .inl fk)), (a_part, .inl (gI G, 6, .inl fp)), (a_queue, .inl (gI G, 15625, .inl gq_24)), (a_depth, .inl (gI G, 15625, .inl gd_25)), (a_by, .inl (gI G, 15625, .inl gb_26)), (a_from, .inl (gI G, 15625, .inl gr_27)), (a_offOf, .inl (gI G, 36, .inl go_28)), (a_parent, .inl (gI G, 6, .inl gpa_29)), (a_best, .inl (gI G, 6, .inl gbe_30))]) [0, 1, 2, 3, 4, 5, 6, 7, 8, 9, 10] (by decide) rfl)
              exact W.iret (v := tr1_31) hx hb hr (fun t9_ ht9_ hW9_ => ⟨⟨tr1_31, (cm1_23, gq_24, gd_25, gb_26, gr_27, go_28, gpa_29, gbe_30, tr1_31, le1_32), rfl, trivial, by rw [ht9_]; exact hP9, hD9⟩, hS.F ht9_⟩) hS.2.2 dX10_tree_111
          · refine lv_if_ne (tgt := 84) hx hb dX10_tree_78 (by decide) (fun c35 => False.elim (by revert c35; decide)) (fun _ => ?_)
            refine lv_bipush (v := (-3)) hx hb dX10_tree_81 (by decide) ?_
            have hP9 := (hP.sub (ws' := [(h1, .inr (6, [.int (nI k), .ref a_maps, .int told, .ref a_kinds, v_land, v_spades, .ref a_part, v_pad, v_padMany, v_slips, v_slipMany, v_made, .ref a_queue, .ref a_depth, .ref a_by, .ref a_from, .int cm0, .ref a_offOf, .ref a_parent, .ref a_best, .int tr0, .int le0, v_sums, v_toward, v_kept, v_isKept, v_keptAt, v_isWriting])), (a_maps, .inl (gI G, 6, .inl fm)), (a_kinds, .inl (gI G, 4, .inl fk)), (a_part, .inl (gI G, 6, .inl fp)), (a_queue, .inl (gI G, 15625, .inl fq)), (a_depth, .inl (gI G, 15625, .inl fd)), (a_by, .inl (gI G, 15625, .inl fb)), (a_from, .inl (gI G, 15625, .inl fr)), (a_offOf, .inl (gI G, 36, .inl fo)), (a_parent, .inl (gI G, 6, .inl fpa)), (a_best, .inl (gI G, 6, .inl fbe))]) [0, 1, 2, 3, 4, 5, 6, 7, 8, 9, 10] rfl)
            have hD9 := (hD.sub (ws' := [(h1, .inr (6, [.int (nI k), .ref a_maps, .int told, .ref a_kinds, v_land, v_spades, .ref a_part, v_pad, v_padMany, v_slips, v_slipMany, v_made, .ref a_queue, .ref a_depth, .ref a_by, .ref a_from, .int cm0, .ref a_offOf, .ref a_parent, .ref a_best, .int tr0, .int le0, v_sums, v_toward, v_kept, v_isKept, v_keptAt, v_isWriting])), (a_maps, .inl (gI G, 6, .inl fm)), (a_kinds, .inl (gI G, 4, .inl fk)), (a_part, .inl (gI G, 6, .inl fp)), (a_queue, .inl (gI G, 15625, .inl fq)), (a_depth, .inl (gI G, 15625, .inl fd)), (a_by, .inl (gI G, 15625, .inl fb)), (a_from, .inl (gI G, 15625, .inl fr)), (a_offOf, .inl (gI G, 36, .inl fo)), (a_parent, .inl (gI G, 6, .inl fpa)), (a_best, .inl (gI G, 6, .inl fbe))]) [0, 1, 2, 3, 4, 5, 6, 7, 8, 9, 10] (by decide) rfl)
            exact W.iret (v := (-3)) hx hb hr (fun t9_ ht9_ hW9_ => ⟨⟨(-3), (cm0, fq, fd, fb, fr, fo, fpa, fbe, tr0, le0), rfl, trivial, by rw [ht9_]; exact hP9, hD9⟩, hS.F ht9_⟩) hS.2.2 dX10_tree_83
        · refine lv_if_ne (tgt := 73) hx hb dX10_tree_51 (by decide) (fun c36 => False.elim (by revert c36; decide)) (fun _ => ?_)
          refine lv_iload hx hb dX10_tree_54 (lv_at hl 0 rfl) ?_
          refine lv_if_eq (tgt := 70) hx hb dX10_tree_56 (by decide) (fun _ => ?_) (fun c37 => False.elim (by revert c37; decide))
          refine lv_bipush (v := (-2)) hx hb dX10_tree_70 (by decide) ?_
          have hP9 := (hP.sub (ws' := [(h1, .inr (6, [.int (nI k), .ref a_maps, .int told, .ref a_kinds, v_land, v_spades, .ref a_part, v_pad, v_padMany, v_slips, v_slipMany, v_made, .ref a_queue, .ref a_depth, .ref a_by, .ref a_from, .int cm0, .ref a_offOf, .ref a_parent, .ref a_best, .int tr0, .int le0, v_sums, v_toward, v_kept, v_isKept, v_keptAt, v_isWriting])), (a_maps, .inl (gI G, 6, .inl fm)), (a_kinds, .inl (gI G, 4, .inl fk)), (a_part, .inl (gI G, 6, .inl fp)), (a_queue, .inl (gI G, 15625, .inl fq)), (a_depth, .inl (gI G, 15625, .inl fd)), (a_by, .inl (gI G, 15625, .inl fb)), (a_from, .inl (gI G, 15625, .inl fr)), (a_offOf, .inl (gI G, 36, .inl fo)), (a_parent, .inl (gI G, 6, .inl fpa)), (a_best, .inl (gI G, 6, .inl fbe))]) [0, 1, 2, 3, 4, 5, 6, 7, 8, 9, 10] rfl)
          have hD9 := (hD.sub (ws' := [(h1, .inr (6, [.int (nI k), .ref a_maps, .int told, .ref a_kinds, v_land, v_spades, .ref a_part, v_pad, v_padMany, v_slips, v_slipMany, v_made, .ref a_queue, .ref a_depth, .ref a_by, .ref a_from, .int cm0, .ref a_offOf, .ref a_parent, .ref a_best, .int tr0, .int le0, v_sums, v_toward, v_kept, v_isKept, v_keptAt, v_isWriting])), (a_maps, .inl (gI G, 6, .inl fm)), (a_kinds, .inl (gI G, 4, .inl fk)), (a_part, .inl (gI G, 6, .inl fp)), (a_queue, .inl (gI G, 15625, .inl fq)), (a_depth, .inl (gI G, 15625, .inl fd)), (a_by, .inl (gI G, 15625, .inl fb)), (a_from, .inl (gI G, 15625, .inl fr)), (a_offOf, .inl (gI G, 36, .inl fo)), (a_parent, .inl (gI G, 6, .inl fpa)), (a_best, .inl (gI G, 6, .inl fbe))]) [0, 1, 2, 3, 4, 5, 6, 7, 8, 9, 10] (by decide) rfl)
          exact W.iret (v := (-2)) hx hb hr (fun t9_ ht9_ hW9_ => ⟨⟨(-2), (cm0, fq, fd, fb, fr, fo, fpa, fbe, tr0, le0), rfl, trivial, by rw [ht9_]; exact hP9, hD9⟩, hS.F ht9_⟩) hS.2.2 dX10_tree_72
      · refine lv_if_eq (tgt := 70) hx hb dX10_tree_41 (by decide) (fun _ => ?_) (fun c38 => False.elim (by revert c38; decide))
        refine lv_bipush (v := (-2)) hx hb dX10_tree_70 (by decide) ?_
        have hP9 := (hP.sub (ws' := [(h1, .inr (6, [.int (nI k), .ref a_maps, .int told, .ref a_kinds, v_land, v_spades, .ref a_part, v_pad, v_padMany, v_slips, v_slipMany, v_made, .ref a_queue, .ref a_depth, .ref a_by, .ref a_from, .int cm0, .ref a_offOf, .ref a_parent, .ref a_best, .int tr0, .int le0, v_sums, v_toward, v_kept, v_isKept, v_keptAt, v_isWriting])), (a_maps, .inl (gI G, 6, .inl fm)), (a_kinds, .inl (gI G, 4, .inl fk)), (a_part, .inl (gI G, 6, .inl fp)), (a_queue, .inl (gI G, 15625, .inl fq)), (a_depth, .inl (gI G, 15625, .inl fd)), (a_by, .inl (gI G, 15625, .inl fb)), (a_from, .inl (gI G, 15625, .inl fr)), (a_offOf, .inl (gI G, 36, .inl fo)), (a_parent, .inl (gI G, 6, .inl fpa)), (a_best, .inl (gI G, 6, .inl fbe))]) [0, 1, 2, 3, 4, 5, 6, 7, 8, 9, 10] rfl)
        have hD9 := (hD.sub (ws' := [(h1, .inr (6, [.int (nI k), .ref a_maps, .int told, .ref a_kinds, v_land, v_spades, .ref a_part, v_pad, v_padMany, v_slips, v_slipMany, v_made, .ref a_queue, .ref a_depth, .ref a_by, .ref a_from, .int cm0, .ref a_offOf, .ref a_parent, .ref a_best, .int tr0, .int le0, v_sums, v_toward, v_kept, v_isKept, v_keptAt, v_isWriting])), (a_maps, .inl (gI G, 6, .inl fm)), (a_kinds, .inl (gI G, 4, .inl fk)), (a_part, .inl (gI G, 6, .inl fp)), (a_queue, .inl (gI G, 15625, .inl fq)), (a_depth, .inl (gI G, 15625, .inl fd)), (a_by, .inl (gI G, 15625, .inl fb)), (a_from, .inl (gI G, 15625, .inl fr)), (a_offOf, .inl (gI G, 36, .inl fo)), (a_parent, .inl (gI G, 6, .inl fpa)), (a_best, .inl (gI G, 6, .inl fbe))]) [0, 1, 2, 3, 4, 5, 6, 7, 8, 9, 10] (by decide) rfl)
        exact W.iret (v := (-2)) hx hb hr (fun t9_ ht9_ hW9_ => ⟨⟨(-2), (cm0, fq, fd, fb, fr, fo, fpa, fbe, tr0, le0), rfl, trivial, by rw [ht9_]; exact hP9, hD9⟩, hS.F ht9_⟩) hS.2.2 dX10_tree_72
    · refine lv_iload_n hx hb dX10_tree_15 rfl (lv_at hl 3 rfl) ?_
      refine lv_bipush (v := 10) hx hb dX10_tree_16 (by decide) ?_
      refine lv_isub hx hb dX10_tree_18 ?_
      refine lv_topi (fun x39 ex39 => ?_)
      refine ca_iR (va_runS (As := [.int x39]) (rest := []) ⟨hx, hb, hml, hown, hts⟩ (m_isMap l G H.size x39) (va_cwS 1 hts gX10_tree_X10_isMap rfl rfl rfl (by decide +kernel) ⟨by decide +kernel, by decide +kernel⟩) (pre_S E hP hD hS hA [] (by decide) rfl) rfl rfl hl.1 rfl (lv_room (Nat.le_of_ble_eq_true rfl)) dX10_tree_19 ⟨by decide +kernel, by decide +kernel⟩) hS hP hD hA [] rfl (fun r41 _ H locs w40 hP hS => ?_)
      rcases w40 with ⟨rfl, b42⟩ | ⟨rfl, b42⟩
      · refine lv_if_eq (tgt := 29) hx hb dX10_tree_22 (by decide) (fun c43 => False.elim (by revert c43; decide)) (fun _ => ?_)
        refine lv_iconst (v := 1) hx hb dX10_tree_25 (by decide) ?_
        refine lv_goto (tgt := 30) hx hb dX10_tree_26 (by decide) ?_
        refine lv_istore (lv' := [(4, .int 1), (0, .ref h1), (1, .int p0), (2, .int (nI j_p1)), (3, .int p2)]) hx hb dX10_tree_30 hl (by decide) rfl (fun ls hl => ?_)
        refine lv_iload_n hx hb dX10_tree_32 rfl (lv_at hl 2 rfl) ?_
        refine lv_i2l hx hb dX10_tree_33 rfl ?_
        refine lv_topl (fun x44 ex44 => ?_)
        refine lv_lconst (v := 1) hx hb dX10_tree_34 (by decide) ?_
        refine lv_ldc2 (v := 63) hx hb hown (hts (.constantLong RX10 203 (63)) (by decide +kernel)) dX10_tree_35 ?_
        refine ca_iR (va_runS (As := [.long x44, .long 1, .long 63]) (rest := []) ⟨hx, hb, hml, hown, hts⟩ (m_in l G H.size x44 1 63 p0 1 63 ex44 (by decide) (by decide)) (va_cwS 3 hts gX10_tree_X10_in rfl rfl rfl (by decide +kernel) ⟨by decide +kernel, by decide +kernel⟩) (pre_S E hP hD hS hA [] (by decide) rfl) rfl rfl hl.1 rfl (lv_room (Nat.le_of_ble_eq_true rfl)) dX10_tree_38 ⟨by decide +kernel, by decide +kernel⟩) hS hP hD hA [] rfl (fun r46 _ H locs w45 hP hS => ?_)
        rcases w45 with ⟨rfl, b47⟩ | ⟨rfl, b47⟩
        · refine lv_if_eq (tgt := 70) hx hb dX10_tree_41 (by decide) (fun c48 => False.elim (by revert c48; decide)) (fun _ => ?_)
          refine lv_iload_n hx hb dX10_tree_44 rfl (lv_at hl 4 rfl) ?_
          refine lv_i2l hx hb dX10_tree_45 rfl ?_
          refine lv_topl (fun x49 ex49 => ?_)
          refine lv_lconst (v := 0) hx hb dX10_tree_46 (by decide) ?_
          refine lv_lconst (v := 1) hx hb dX10_tree_47 (by decide) ?_
          refine ca_iR (va_runS (As := [.long x49, .long 0, .long 1]) (rest := []) ⟨hx, hb, hml, hown, hts⟩ (m_in l G H.size x49 0 1 p2 0 1 ex49 (by decide) (by decide)) (va_cwS 3 hts gX10_tree_X10_in rfl rfl rfl (by decide +kernel) ⟨by decide +kernel, by decide +kernel⟩) (pre_S E hP hD hS hA [] (by decide) rfl) rfl rfl hl.1 rfl (lv_room (Nat.le_of_ble_eq_true rfl)) dX10_tree_48 ⟨by decide +kernel, by decide +kernel⟩) hS hP hD hA [] rfl (fun r51 _ H locs w50 hP hS => ?_)
          rcases w50 with ⟨rfl, b52⟩ | ⟨rfl, b52⟩
          · refine lv_if_ne (tgt := 73) hx hb dX10_tree_51 (by decide) (fun _ => ?_) (fun c53 => False.elim (by revert c53; decide))
            refine lv_aload_n hx hb dX10_tree_73 rfl (lv_at hl 1 rfl) ?_
            refine lv_iload_n hx hb dX10_tree_74 rfl (lv_at hl 2 rfl) ?_
            refine ca_iR (va_runV (As := [.int p0]) (rest := []) ⟨hx, hb, hml, hown, hts⟩ (m_areTold l G H.size h1 (.int (nI k)) (.ref a_maps) (.ref a_kinds) v_land v_spades (.ref a_part) v_pad v_padMany v_slips v_slipMany v_made (.ref a_queue) (.ref a_depth) (.ref a_by) (.ref a_from) (.int cm0) (.ref a_offOf) (.ref a_parent) (.ref a_best) (.int tr0) (.int le0) v_sums v_toward v_kept v_isKept v_keptAt v_isWriting told p0) (cwV 1 hts gX10_tree_X10_areTold rfl rfl rfl (by decide +kernel) ⟨by decide +kernel, by decide +kernel⟩) (pre_V E hP hD hS hA [0] (by decide) rfl 0 6 rfl rfl) rfl rfl hl.1 rfl (lv_room (Nat.le_of_ble_eq_true rfl)) dX10_tree_75 ⟨by decide +kernel, by decide +kernel⟩) hS hP hD hA [0] rfl (fun r55 _ H locs w54 hP hS => ?_)
            rcases w54 with ⟨rfl, b56⟩ | ⟨rfl, b56⟩
            · refine lv_if_ne (tgt := 84) hx hb dX10_tree_78 (by decide) (fun _ => ?_) (fun c57 => False.elim (by revert c57; decide))
              refine lv_aload_n hx hb dX10_tree_84 rfl (lv_at hl 1 rfl) ?_
              refine lv_iload_n hx hb dX10_tree_85 rfl (lv_at hl 2 rfl) ?_
              refine lv_iload_n hx hb dX10_tree_86 rfl (lv_at hl 3 rfl) ?_
              refine ca_v (wr := []) (va_runV (As := [.int p0, .int (nI j_p1)]) (rest := []) ⟨hx, hb, hml, hown, hts⟩ (m_findTrees l G H.size h1 (.int told) v_land v_spades v_pad v_padMany v_slips v_slipMany v_made v_sums v_toward v_kept v_isKept v_keptAt v_isWriting a_maps fm a_kinds a_offOf a_best a_parent fpa fk fo fbe a_part fp a_queue a_depth a_by a_from fq fd fb fr k cm0 tr0 le0 j_p1 p0 hk2 hk6 hp hfm (by omega)) (cwV 2 hts gX10_tree_X10_findTrees rfl rfl rfl (by decide +kernel) ⟨by decide +kernel, by decide +kernel⟩) (pre_V E hP hD hS hA [0, 1, 2, 3, 4, 5, 6, 7, 8, 9, 10] (by decide) rfl 0 6 rfl rfl) rfl rfl hl.1 rfl (lv_room (Nat.le_of_ble_eq_true rfl)) dX10_tree_87 ⟨by decide +kernel, by decide +kernel⟩) hS hP hD hA [0, 1, 2, 3, 4, 5, 6, 7, 8, 9, 10] [] rfl rfl (by decide) (by decide) (fun u60 H locs w58 hP hD hS => ?_)
              obtain ⟨cm1_61, gq_62, gd_63, gb_64, gr_65, go_66, gpa_67, gbe_68, tr1_69, le1_70⟩ := u60
              try dsimp only at w58 hP hD
              have hP := (hP.sub (ws' := [(h1, .inr (6, [.int (nI k), .ref a_maps, .int told, .ref a_kinds, v_land, v_spades, .ref a_part, v_pad, v_padMany, v_slips, v_slipMany, v_made, .ref a_queue, .ref a_depth, .ref a_by, .ref a_from, .int cm1_61, .ref a_offOf, .ref a_parent, .ref a_best, .int tr1_69, .int le1_70, v_sums, v_toward, v_kept, v_isKept, v_keptAt, v_isWriting])), (a_maps, .inl (gI G, 6, .inl fm)), (a_kinds, .inl (gI G, 4, .inl fk)), (a_part, .inl (gI G, 6, .inl fp)), (a_queue, .inl (gI G, 15625, .inl gq_62)), (a_depth, .inl (gI G, 15625, .inl gd_63)), (a_by, .inl (gI G, 15625, .inl gb_64)), (a_from, .inl (gI G, 15625, .inl gr_65)), (a_offOf, .inl (gI G, 36, .inl go_66)), (a_parent, .inl (gI G, 6, .inl gpa_67)), (a_best, .inl (gI G, 6, .inl gbe_68))]) [0, 1, 2, 3, 4, 5, 6, 7, 8, 9, 10] rfl)
              have hD := (hD.sub (ws' := [(h1, .inr (6, [.int (nI k), .ref a_maps, .int told, .ref a_kinds, v_land, v_spades, .ref a_part, v_pad, v_padMany, v_slips, v_slipMany, v_made, .ref a_queue, .ref a_depth, .ref a_by, .ref a_from, .int cm1_61, .ref a_offOf, .ref a_parent, .ref a_best, .int tr1_69, .int le1_70, v_sums, v_toward, v_kept, v_isKept, v_keptAt, v_isWriting])), (a_maps, .inl (gI G, 6, .inl fm)), (a_kinds, .inl (gI G, 4, .inl fk)), (a_part, .inl (gI G, 6, .inl fp)), (a_queue, .inl (gI G, 15625, .inl gq_62)), (a_depth, .inl (gI G, 15625, .inl gd_63)), (a_by, .inl (gI G, 15625, .inl gb_64)), (a_from, .inl (gI G, 15625, .inl gr_65)), (a_offOf, .inl (gI G, 36, .inl go_66)), (a_parent, .inl (gI G, 6, .inl gpa_67)), (a_best, .inl (gI G, 6, .inl gbe_68))]) [0, 1, 2, 3, 4, 5, 6, 7, 8, 9, 10] (by decide) rfl)
              refine lv_iload hx hb dX10_tree_90 (lv_at hl 0 rfl) ?_
              refine lv_if_ne (tgt := 112) hx hb dX10_tree_92 (by decide) (fun _ => ?_) (fun c71 => False.elim (by revert c71; decide))
              refine lv_aload_n hx hb dX10_tree_112 rfl (lv_at hl 1 rfl) ?_
              refine va_get (D := G.1) (ci := 6) (v := .int le1_70) (C := RX10) (T := TX10) (N := 28) hx hb hts (fun _ h => List.mem_cons_of_mem _ (List.mem_append_right _ h)) hown E.K hP 0 rfl rfl 21 (by decide) (hts (.fieldLink RX10 194 "LastMapModel" "least" "I") (by decide +kernel)) (fun _ h9 => h9) rfl dX10_tree_113 ?_
              refine lv_if_lt (tgt := 133) hx hb dX10_tree_116 (by decide) (fun c72 => ?_) (fun c72 => ?_)
              · refine lv_bipush (v := (-6)) hx hb dX10_tree_133 (by decide) ?_
                refine lv_goto (tgt := 147) hx hb dX10_tree_135 (by decide) ?_
                have hP9 := (hP.sub (ws' := [(h1, .inr (6, [.int (nI k), .ref a_maps, .int told, .ref a_kinds, v_land, v_spades, .ref a_part, v_pad, v_padMany, v_slips, v_slipMany, v_made, .ref a_queue, .ref a_depth, .ref a_by, .ref a_from, .int cm1_61, .ref a_offOf, .ref a_parent, .ref a_best, .int tr1_69, .int le1_70, v_sums, v_toward, v_kept, v_isKept, v_keptAt, v_isWriting])), (a_maps, .inl (gI G, 6, .inl fm)), (a_kinds, .inl (gI G, 4, .inl fk)), (a_part, .inl (gI G, 6, .inl fp)), (a_queue, .inl (gI G, 15625, .inl gq_62)), (a_depth, .inl (gI G, 15625, .inl gd_63)), (a_by, .inl (gI G, 15625, .inl gb_64)), (a_from, .inl (gI G, 15625, .inl gr_65)), (a_offOf, .inl (gI G, 36, .inl go_66)), (a_parent, .inl (gI G, 6, .inl gpa_67)), (a_best, .inl (gI G, 6, .inl gbe_68))]) [0, 1, 2, 3, 4, 5, 6, 7, 8, 9, 10] rfl)
                have hD9 := (hD.sub (ws' := [(h1, .inr (6, [.int (nI k), .ref a_maps, .int told, .ref a_kinds, v_land, v_spades, .ref a_part, v_pad, v_padMany, v_slips, v_slipMany, v_made, .ref a_queue, .ref a_depth, .ref a_by, .ref a_from, .int cm1_61, .ref a_offOf, .ref a_parent, .ref a_best, .int tr1_69, .int le1_70, v_sums, v_toward, v_kept, v_isKept, v_keptAt, v_isWriting])), (a_maps, .inl (gI G, 6, .inl fm)), (a_kinds, .inl (gI G, 4, .inl fk)), (a_part, .inl (gI G, 6, .inl fp)), (a_queue, .inl (gI G, 15625, .inl gq_62)), (a_depth, .inl (gI G, 15625, .inl gd_63)), (a_by, .inl (gI G, 15625, .inl gb_64)), (a_from, .inl (gI G, 15625, .inl gr_65)), (a_offOf, .inl (gI G, 36, .inl go_66)), (a_parent, .inl (gI G, 6, .inl gpa_67)), (a_best, .inl (gI G, 6, .inl gbe_68))]) [0, 1, 2, 3, 4, 5, 6, 7, 8, 9, 10] (by decide) rfl)
                exact W.iret (v := (-6)) hx hb hr (fun t9_ ht9_ hW9_ => ⟨⟨(-6), (cm1_61, gq_62, gd_63, gb_64, gr_65, go_66, gpa_67, gbe_68, tr1_69, le1_70), rfl, trivial, by rw [ht9_]; exact hP9, hD9⟩, hS.F ht9_⟩) hS.2.2 dX10_tree_147
              · refine lv_aload_n hx hb dX10_tree_119 rfl (lv_at hl 1 rfl) ?_
                refine va_get (D := G.1) (ci := 6) (v := .ref a_best) (C := RX10) (T := TX10) (N := 28) hx hb hts (fun _ h => List.mem_cons_of_mem _ (List.mem_append_right _ h)) hown E.K hP 0 rfl rfl 19 (by decide) (hts (.fieldLink RX10 43 "LastMapModel" "best" "[I") (by decide +kernel)) (fun _ h9 => h9) rfl dX10_tree_120 ?_
                refine lv_iload_n hx hb dX10_tree_123 rfl (lv_at hl 4 rfl) ?_
                refine lv_bipush (v := 10) hx hb dX10_tree_124 (by decide) ?_
                refine lv_isub hx hb dX10_tree_126 ?_
                refine lv_topi (fun x73 ex73 => ?_)
                refine va_iald hx hb E.K hP 10 1 rfl rfl (i := x73) (by rw [ex73, ← ex39]; exact vp_in_iff.mpr (by ((try simp only [inR, inS, i3_lt, i3_le, i3_eq, i6_lt, i6_le, Int32.toInt_toInt64, lg_cmp_lt, lg_cmp_gt, lg_cmp_ge, lg_cmp_le, Int32.reduceToInt, Int64.reduceToInt] at b42 ⊢); omega))) dX10_tree_127 ?_
                refine lv_topi (fun x74 ex74 => ?_)
                refine lv_bipush (v := 6) hx hb dX10_tree_128 (by decide) ?_
                refine lv_icmp_ne (tgt := 138) hx hb dX10_tree_130 (by decide) (fun c75 => ?_) (fun c75 => ?_)
                · refine lv_aload_n hx hb dX10_tree_138 rfl (lv_at hl 1 rfl) ?_
                  refine va_get (D := G.1) (ci := 6) (v := .ref a_best) (C := RX10) (T := TX10) (N := 28) hx hb hts (fun _ h => List.mem_cons_of_mem _ (List.mem_append_right _ h)) hown E.K hP 0 rfl rfl 19 (by decide) (hts (.fieldLink RX10 43 "LastMapModel" "best" "[I") (by decide +kernel)) (fun _ h9 => h9) rfl dX10_tree_139 ?_
                  refine lv_iload_n hx hb dX10_tree_142 rfl (lv_at hl 4 rfl) ?_
                  refine lv_bipush (v := 10) hx hb dX10_tree_143 (by decide) ?_
                  refine lv_isub hx hb dX10_tree_145 ?_
                  refine lv_topi (fun x76 ex76 => ?_)
                  refine va_iald hx hb E.K hP 10 1 rfl rfl (i := x76) (by rw [ex76, ← ex39]; exact vp_in_iff.mpr (by ((try simp only [inR, inS, i3_lt, i3_le, i3_eq, i6_lt, i6_le, Int32.toInt_toInt64, lg_cmp_lt, lg_cmp_gt, lg_cmp_ge, lg_cmp_le, Int32.reduceToInt, Int64.reduceToInt] at b42 ⊢); omega))) dX10_tree_146 ?_
                  refine lv_topi (fun x77 ex77 => ?_)
                  have hP9 := (hP.sub (ws' := [(h1, .inr (6, [.int (nI k), .ref a_maps, .int told, .ref a_kinds, v_land, v_spades, .ref a_part, v_pad, v_padMany, v_slips, v_slipMany, v_made, .ref a_queue, .ref a_depth, .ref a_by, .ref a_from, .int cm1_61, .ref a_offOf, .ref a_parent, .ref a_best, .int tr1_69, .int le1_70, v_sums, v_toward, v_kept, v_isKept, v_keptAt, v_isWriting])), (a_maps, .inl (gI G, 6, .inl fm)), (a_kinds, .inl (gI G, 4, .inl fk)), (a_part, .inl (gI G, 6, .inl fp)), (a_queue, .inl (gI G, 15625, .inl gq_62)), (a_depth, .inl (gI G, 15625, .inl gd_63)), (a_by, .inl (gI G, 15625, .inl gb_64)), (a_from, .inl (gI G, 15625, .inl gr_65)), (a_offOf, .inl (gI G, 36, .inl go_66)), (a_parent, .inl (gI G, 6, .inl gpa_67)), (a_best, .inl (gI G, 6, .inl gbe_68))]) [0, 1, 2, 3, 4, 5, 6, 7, 8, 9, 10] rfl)
                  have hD9 := (hD.sub (ws' := [(h1, .inr (6, [.int (nI k), .ref a_maps, .int told, .ref a_kinds, v_land, v_spades, .ref a_part, v_pad, v_padMany, v_slips, v_slipMany, v_made, .ref a_queue, .ref a_depth, .ref a_by, .ref a_from, .int cm1_61, .ref a_offOf, .ref a_parent, .ref a_best, .int tr1_69, .int le1_70, v_sums, v_toward, v_kept, v_isKept, v_keptAt, v_isWriting])), (a_maps, .inl (gI G, 6, .inl fm)), (a_kinds, .inl (gI G, 4, .inl fk)), (a_part, .inl (gI G, 6, .inl fp)), (a_queue, .inl (gI G, 15625, .inl gq_62)), (a_depth, .inl (gI G, 15625, .inl gd_63)), (a_by, .inl (gI G, 15625, .inl gb_64)), (a_from, .inl (gI G, 15625, .inl gr_65)), (a_offOf, .inl (gI G, 36, .inl go_66)), (a_parent, .inl (gI G, 6, .inl gpa_67)), (a_best, .inl (gI G, 6, .inl gbe_68))]) [0, 1, 2, 3, 4, 5, 6, 7, 8, 9, 10] (by decide) rfl)
                  exact W.iret (v := x77) hx hb hr (fun t9_ ht9_ hW9_ => ⟨⟨x77, (cm1_61, gq_62, gd_63, gb_64, gr_65, go_66, gpa_67, gbe_68, tr1_69, le1_70), rfl, trivial, by rw [ht9_]; exact hP9, hD9⟩, hS.F ht9_⟩) hS.2.2 dX10_tree_147
                · refine lv_bipush (v := (-6)) hx hb dX10_tree_133 (by decide) ?_
                  refine lv_goto (tgt := 147) hx hb dX10_tree_135 (by decide) ?_
                  have hP9 := (hP.sub (ws' := [(h1, .inr (6, [.int (nI k), .ref a_maps, .int told, .ref a_kinds, v_land, v_spades, .ref a_part, v_pad, v_padMany, v_slips, v_slipMany, v_made, .ref a_queue, .ref a_depth, .ref a_by, .ref a_from, .int cm1_61, .ref a_offOf, .ref a_parent, .ref a_best, .int tr1_69, .int le1_70, v_sums, v_toward, v_kept, v_isKept, v_keptAt, v_isWriting])), (a_maps, .inl (gI G, 6, .inl fm)), (a_kinds, .inl (gI G, 4, .inl fk)), (a_part, .inl (gI G, 6, .inl fp)), (a_queue, .inl (gI G, 15625, .inl gq_62)), (a_depth, .inl (gI G, 15625, .inl gd_63)), (a_by, .inl (gI G, 15625, .inl gb_64)), (a_from, .inl (gI G, 15625, .inl gr_65)), (a_offOf, .inl (gI G, 36, .inl go_66)), (a_parent, .inl (gI G, 6, .inl gpa_67)), (a_best, .inl (gI G, 6, .inl gbe_68))]) [0, 1, 2, 3, 4, 5, 6, 7, 8, 9, 10] rfl)
                  have hD9 := (hD.sub (ws' := [(h1, .inr (6, [.int (nI k), .ref a_maps, .int told, .ref a_kinds, v_land, v_spades, .ref a_part, v_pad, v_padMany, v_slips, v_slipMany, v_made, .ref a_queue, .ref a_depth, .ref a_by, .ref a_from, .int cm1_61, .ref a_offOf, .ref a_parent, .ref a_best, .int tr1_69, .int le1_70, v_sums, v_toward, v_kept, v_isKept, v_keptAt, v_isWriting])), (a_maps, .inl (gI G, 6, .inl fm)), (a_kinds, .inl (gI G, 4, .inl fk)), (a_part, .inl (gI G, 6, .inl fp)), (a_queue, .inl (gI G, 15625, .inl gq_62)), (a_depth, .inl (gI G, 15625, .inl gd_63)), (a_by, .inl (gI G, 15625, .inl gb_64)), (a_from, .inl (gI G, 15625, .inl gr_65)), (a_offOf, .inl (gI G, 36, .inl go_66)), (a_parent, .inl (gI G, 6, .inl gpa_67)), (a_best, .inl (gI G, 6, .inl gbe_68))]) [0, 1, 2, 3, 4, 5, 6, 7, 8, 9, 10] (by decide) rfl)
                  exact W.iret (v := (-6)) hx hb hr (fun t9_ ht9_ hW9_ => ⟨⟨(-6), (cm1_61, gq_62, gd_63, gb_64, gr_65, go_66, gpa_67, gbe_68, tr1_69, le1_70), rfl, trivial, by rw [ht9_]; exact hP9, hD9⟩, hS.F ht9_⟩) hS.2.2 dX10_tree_147
            · refine lv_if_ne (tgt := 84) hx hb dX10_tree_78 (by decide) (fun c78 => False.elim (by revert c78; decide)) (fun _ => ?_)
              refine lv_bipush (v := (-3)) hx hb dX10_tree_81 (by decide) ?_
              have hP9 := (hP.sub (ws' := [(h1, .inr (6, [.int (nI k), .ref a_maps, .int told, .ref a_kinds, v_land, v_spades, .ref a_part, v_pad, v_padMany, v_slips, v_slipMany, v_made, .ref a_queue, .ref a_depth, .ref a_by, .ref a_from, .int cm0, .ref a_offOf, .ref a_parent, .ref a_best, .int tr0, .int le0, v_sums, v_toward, v_kept, v_isKept, v_keptAt, v_isWriting])), (a_maps, .inl (gI G, 6, .inl fm)), (a_kinds, .inl (gI G, 4, .inl fk)), (a_part, .inl (gI G, 6, .inl fp)), (a_queue, .inl (gI G, 15625, .inl fq)), (a_depth, .inl (gI G, 15625, .inl fd)), (a_by, .inl (gI G, 15625, .inl fb)), (a_from, .inl (gI G, 15625, .inl fr)), (a_offOf, .inl (gI G, 36, .inl fo)), (a_parent, .inl (gI G, 6, .inl fpa)), (a_best, .inl (gI G, 6, .inl fbe))]) [0, 1, 2, 3, 4, 5, 6, 7, 8, 9, 10] rfl)
              have hD9 := (hD.sub (ws' := [(h1, .inr (6, [.int (nI k), .ref a_maps, .int told, .ref a_kinds, v_land, v_spades, .ref a_part, v_pad, v_padMany, v_slips, v_slipMany, v_made, .ref a_queue, .ref a_depth, .ref a_by, .ref a_from, .int cm0, .ref a_offOf, .ref a_parent, .ref a_best, .int tr0, .int le0, v_sums, v_toward, v_kept, v_isKept, v_keptAt, v_isWriting])), (a_maps, .inl (gI G, 6, .inl fm)), (a_kinds, .inl (gI G, 4, .inl fk)), (a_part, .inl (gI G, 6, .inl fp)), (a_queue, .inl (gI G, 15625, .inl fq)), (a_depth, .inl (gI G, 15625, .inl fd)), (a_by, .inl (gI G, 15625, .inl fb)), (a_from, .inl (gI G, 15625, .inl fr)), (a_offOf, .inl (gI G, 36, .inl fo)), (a_parent, .inl (gI G, 6, .inl fpa)), (a_best, .inl (gI G, 6, .inl fbe))]) [0, 1, 2, 3, 4, 5, 6, 7, 8, 9, 10] (by decide) rfl)
              exact W.iret (v := (-3)) hx hb hr (fun t9_ ht9_ hW9_ => ⟨⟨(-3), (cm0, fq, fd, fb, fr, fo, fpa, fbe, tr0, le0), rfl, trivial, by rw [ht9_]; exact hP9, hD9⟩, hS.F ht9_⟩) hS.2.2 dX10_tree_83
          · refine lv_if_ne (tgt := 73) hx hb dX10_tree_51 (by decide) (fun c79 => False.elim (by revert c79; decide)) (fun _ => ?_)
            refine lv_iload hx hb dX10_tree_54 (lv_at hl 0 rfl) ?_
            refine lv_if_eq (tgt := 70) hx hb dX10_tree_56 (by decide) (fun c80 => False.elim (by revert c80; decide)) (fun _ => ?_)
            refine lv_iload_n hx hb dX10_tree_59 rfl (lv_at hl 2 rfl) ?_
            refine lv_iload_n hx hb dX10_tree_60 rfl (lv_at hl 4 rfl) ?_
            refine lv_bipush (v := 10) hx hb dX10_tree_61 (by decide) ?_
            refine lv_isub hx hb dX10_tree_63 ?_
            refine lv_topi (fun x81 ex81 => ?_)
            refine lv_ishr hx hb dX10_tree_64 ?_
            refine lv_topi (fun x82 ex82 => ?_)
            refine lv_iconst (v := 1) hx hb dX10_tree_65 (by decide) ?_
            refine lv_iand hx hb dX10_tree_66 ?_
            refine lv_topi (fun x83 ex83 => ?_)
            refine lv_if_ne (tgt := 73) hx hb dX10_tree_67 (by decide) (fun c84 => ?_) (fun c84 => ?_)
            · refine lv_aload_n hx hb dX10_tree_73 rfl (lv_at hl 1 rfl) ?_
              refine lv_iload_n hx hb dX10_tree_74 rfl (lv_at hl 2 rfl) ?_
              refine ca_iR (va_runV (As := [.int p0]) (rest := []) ⟨hx, hb, hml, hown, hts⟩ (m_areTold l G H.size h1 (.int (nI k)) (.ref a_maps) (.ref a_kinds) v_land v_spades (.ref a_part) v_pad v_padMany v_slips v_slipMany v_made (.ref a_queue) (.ref a_depth) (.ref a_by) (.ref a_from) (.int cm0) (.ref a_offOf) (.ref a_parent) (.ref a_best) (.int tr0) (.int le0) v_sums v_toward v_kept v_isKept v_keptAt v_isWriting told p0) (cwV 1 hts gX10_tree_X10_areTold rfl rfl rfl (by decide +kernel) ⟨by decide +kernel, by decide +kernel⟩) (pre_V E hP hD hS hA [0] (by decide) rfl 0 6 rfl rfl) rfl rfl hl.1 rfl (lv_room (Nat.le_of_ble_eq_true rfl)) dX10_tree_75 ⟨by decide +kernel, by decide +kernel⟩) hS hP hD hA [0] rfl (fun r86 _ H locs w85 hP hS => ?_)
              rcases w85 with ⟨rfl, b87⟩ | ⟨rfl, b87⟩
              · refine lv_if_ne (tgt := 84) hx hb dX10_tree_78 (by decide) (fun _ => ?_) (fun c88 => False.elim (by revert c88; decide))
                refine lv_aload_n hx hb dX10_tree_84 rfl (lv_at hl 1 rfl) ?_
                refine lv_iload_n hx hb dX10_tree_85 rfl (lv_at hl 2 rfl) ?_
                refine lv_iload_n hx hb dX10_tree_86 rfl (lv_at hl 3 rfl) ?_
                refine ca_v (wr := []) (va_runV (As := [.int p0, .int (nI j_p1)]) (rest := []) ⟨hx, hb, hml, hown, hts⟩ (m_findTrees l G H.size h1 (.int told) v_land v_spades v_pad v_padMany v_slips v_slipMany v_made v_sums v_toward v_kept v_isKept v_keptAt v_isWriting a_maps fm a_kinds a_offOf a_best a_parent fpa fk fo fbe a_part fp a_queue a_depth a_by a_from fq fd fb fr k cm0 tr0 le0 j_p1 p0 hk2 hk6 hp hfm (by omega)) (cwV 2 hts gX10_tree_X10_findTrees rfl rfl rfl (by decide +kernel) ⟨by decide +kernel, by decide +kernel⟩) (pre_V E hP hD hS hA [0, 1, 2, 3, 4, 5, 6, 7, 8, 9, 10] (by decide) rfl 0 6 rfl rfl) rfl rfl hl.1 rfl (lv_room (Nat.le_of_ble_eq_true rfl)) dX10_tree_87 ⟨by decide +kernel, by decide +kernel⟩) hS hP hD hA [0, 1, 2, 3, 4, 5, 6, 7, 8, 9, 10] [] rfl rfl (by decide) (by decide) (fun u91 H locs w89 hP hD hS => ?_)
                obtain ⟨cm1_92, gq_93, gd_94, gb_95, gr_96, go_97, gpa_98, gbe_99, tr1_100, le1_101⟩ := u91
                try dsimp only at w89 hP hD
                have hP := (hP.sub (ws' := [(h1, .inr (6, [.int (nI k), .ref a_maps, .int told, .ref a_kinds, v_land, v_spades, .ref a_part, v_pad, v_padMany, v_slips, v_slipMany, v_made, .ref a_queue, .ref a_depth, .ref a_by, .ref a_from, .int cm1_92, .ref a_offOf, .ref a_parent, .ref a_best, .int tr1_100, .int le1_101, v_sums, v_toward, v_kept, v_isKept, v_keptAt, v_isWriting])), (a_maps, .inl (gI G, 6, .inl fm)), (a_kinds, .inl (gI G, 4, .inl fk)), (a_part, .inl (gI G, 6, .inl fp)), (a_queue, .inl (gI G, 15625, .inl gq_93)), (a_depth, .inl (gI G, 15625, .inl gd_94)), (a_by, .inl (gI G, 15625, .inl gb_95)), (a_from, .inl (gI G, 15625, .inl gr_96)), (a_offOf, .inl (gI G, 36, .inl go_97)), (a_parent, .inl (gI G, 6, .inl gpa_98)), (a_best, .inl (gI G, 6, .inl gbe_99))]) [0, 1, 2, 3, 4, 5, 6, 7, 8, 9, 10] rfl)
                have hD := (hD.sub (ws' := [(h1, .inr (6, [.int (nI k), .ref a_maps, .int told, .ref a_kinds, v_land, v_spades, .ref a_part, v_pad, v_padMany, v_slips, v_slipMany, v_made, .ref a_queue, .ref a_depth, .ref a_by, .ref a_from, .int cm1_92, .ref a_offOf, .ref a_parent, .ref a_best, .int tr1_100, .int le1_101, v_sums, v_toward, v_kept, v_isKept, v_keptAt, v_isWriting])), (a_maps, .inl (gI G, 6, .inl fm)), (a_kinds, .inl (gI G, 4, .inl fk)), (a_part, .inl (gI G, 6, .inl fp)), (a_queue, .inl (gI G, 15625, .inl gq_93)), (a_depth, .inl (gI G, 15625, .inl gd_94)), (a_by, .inl (gI G, 15625, .inl gb_95)), (a_from, .inl (gI G, 15625, .inl gr_96)), (a_offOf, .inl (gI G, 36, .inl go_97)), (a_parent, .inl (gI G, 6, .inl gpa_98)), (a_best, .inl (gI G, 6, .inl gbe_99))]) [0, 1, 2, 3, 4, 5, 6, 7, 8, 9, 10] (by decide) rfl)
                refine lv_iload hx hb dX10_tree_90 (lv_at hl 0 rfl) ?_
                refine lv_if_ne (tgt := 112) hx hb dX10_tree_92 (by decide) (fun _ => ?_) (fun c102 => False.elim (by revert c102; decide))
                refine lv_aload_n hx hb dX10_tree_112 rfl (lv_at hl 1 rfl) ?_
                refine va_get (D := G.1) (ci := 6) (v := .int le1_101) (C := RX10) (T := TX10) (N := 28) hx hb hts (fun _ h => List.mem_cons_of_mem _ (List.mem_append_right _ h)) hown E.K hP 0 rfl rfl 21 (by decide) (hts (.fieldLink RX10 194 "LastMapModel" "least" "I") (by decide +kernel)) (fun _ h9 => h9) rfl dX10_tree_113 ?_
                refine lv_if_lt (tgt := 133) hx hb dX10_tree_116 (by decide) (fun c103 => ?_) (fun c103 => ?_)
                · refine lv_bipush (v := (-6)) hx hb dX10_tree_133 (by decide) ?_
                  refine lv_goto (tgt := 147) hx hb dX10_tree_135 (by decide) ?_
                  have hP9 := (hP.sub (ws' := [(h1, .inr (6, [.int (nI k), .ref a_maps, .int told, .ref a_kinds, v_land, v_spades, .ref a_part, v_pad, v_padMany, v_slips, v_slipMany, v_made, .ref a_queue, .ref a_depth, .ref a_by, .ref a_from, .int cm1_92, .ref a_offOf, .ref a_parent, .ref a_best, .int tr1_100, .int le1_101, v_sums, v_toward, v_kept, v_isKept, v_keptAt, v_isWriting])), (a_maps, .inl (gI G, 6, .inl fm)), (a_kinds, .inl (gI G, 4, .inl fk)), (a_part, .inl (gI G, 6, .inl fp)), (a_queue, .inl (gI G, 15625, .inl gq_93)), (a_depth, .inl (gI G, 15625, .inl gd_94)), (a_by, .inl (gI G, 15625, .inl gb_95)), (a_from, .inl (gI G, 15625, .inl gr_96)), (a_offOf, .inl (gI G, 36, .inl go_97)), (a_parent, .inl (gI G, 6, .inl gpa_98)), (a_best, .inl (gI G, 6, .inl gbe_99))]) [0, 1, 2, 3, 4, 5, 6, 7, 8, 9, 10] rfl)
                  have hD9 := (hD.sub (ws' := [(h1, .inr (6, [.int (nI k), .ref a_maps, .int told, .ref a_kinds, v_land, v_spades, .ref a_part, v_pad, v_padMany, v_slips, v_slipMany, v_made, .ref a_queue, .ref a_depth, .ref a_by, .ref a_from, .int cm1_92, .ref a_offOf, .ref a_parent, .ref a_best, .int tr1_100, .int le1_101, v_sums, v_toward, v_kept, v_isKept, v_keptAt, v_isWriting])), (a_maps, .inl (gI G, 6, .inl fm)), (a_kinds, .inl (gI G, 4, .inl fk)), (a_part, .inl (gI G, 6, .inl fp)), (a_queue, .inl (gI G, 15625, .inl gq_93)), (a_depth, .inl (gI G, 15625, .inl gd_94)), (a_by, .inl (gI G, 15625, .inl gb_95)), (a_from, .inl (gI G, 15625, .inl gr_96)), (a_offOf, .inl (gI G, 36, .inl go_97)), (a_parent, .inl (gI G, 6, .inl gpa_98)), (a_best, .inl (gI G, 6, .inl gbe_99))]) [0, 1, 2, 3, 4, 5, 6, 7, 8, 9, 10] (by decide) rfl)
                  exact W.iret (v := (-6)) hx hb hr (fun t9_ ht9_ hW9_ => ⟨⟨(-6), (cm1_92, gq_93, gd_94, gb_95, gr_96, go_97, gpa_98, gbe_99, tr1_100, le1_101), rfl, trivial, by rw [ht9_]; exact hP9, hD9⟩, hS.F ht9_⟩) hS.2.2 dX10_tree_147
                · refine lv_aload_n hx hb dX10_tree_119 rfl (lv_at hl 1 rfl) ?_
                  refine va_get (D := G.1) (ci := 6) (v := .ref a_best) (C := RX10) (T := TX10) (N := 28) hx hb hts (fun _ h => List.mem_cons_of_mem _ (List.mem_append_right _ h)) hown E.K hP 0 rfl rfl 19 (by decide) (hts (.fieldLink RX10 43 "LastMapModel" "best" "[I") (by decide +kernel)) (fun _ h9 => h9) rfl dX10_tree_120 ?_
                  refine lv_iload_n hx hb dX10_tree_123 rfl (lv_at hl 4 rfl) ?_
                  refine lv_bipush (v := 10) hx hb dX10_tree_124 (by decide) ?_
                  refine lv_isub hx hb dX10_tree_126 ?_
                  refine lv_topi (fun x104 ex104 => ?_)
                  refine va_iald hx hb E.K hP 10 1 rfl rfl (i := x104) (by rw [ex104, ← ex39]; exact vp_in_iff.mpr (by ((try simp only [inR, inS, i3_lt, i3_le, i3_eq, i6_lt, i6_le, Int32.toInt_toInt64, lg_cmp_lt, lg_cmp_gt, lg_cmp_ge, lg_cmp_le, Int32.reduceToInt, Int64.reduceToInt] at b42 ⊢); omega))) dX10_tree_127 ?_
                  refine lv_topi (fun x105 ex105 => ?_)
                  refine lv_bipush (v := 6) hx hb dX10_tree_128 (by decide) ?_
                  refine lv_icmp_ne (tgt := 138) hx hb dX10_tree_130 (by decide) (fun c106 => ?_) (fun c106 => ?_)
                  · refine lv_aload_n hx hb dX10_tree_138 rfl (lv_at hl 1 rfl) ?_
                    refine va_get (D := G.1) (ci := 6) (v := .ref a_best) (C := RX10) (T := TX10) (N := 28) hx hb hts (fun _ h => List.mem_cons_of_mem _ (List.mem_append_right _ h)) hown E.K hP 0 rfl rfl 19 (by decide) (hts (.fieldLink RX10 43 "LastMapModel" "best" "[I") (by decide +kernel)) (fun _ h9 => h9) rfl dX10_tree_139 ?_
                    refine lv_iload_n hx hb dX10_tree_142 rfl (lv_at hl 4 rfl) ?_
                    refine lv_bipush (v := 10) hx hb dX10_tree_143 (by decide) ?_
                    refine lv_isub hx hb dX10_tree_145 ?_
                    refine lv_topi (fun x107 ex107 => ?_)
                    refine va_iald hx hb E.K hP 10 1 rfl rfl (i := x107) (by rw [ex107, ← ex39]; exact vp_in_iff.mpr (by ((try simp only [inR, inS, i3_lt, i3_le, i3_eq, i6_lt, i6_le, Int32.toInt_toInt64, lg_cmp_lt, lg_cmp_gt, lg_cmp_ge, lg_cmp_le, Int32.reduceToInt, Int64.reduceToInt] at b42 ⊢); omega))) dX10_tree_146 ?_
                    refine lv_topi (fun x108 ex108 => ?_)
                    have hP9 := (hP.sub (ws' := [(h1, .inr (6, [.int (nI k), .ref a_maps, .int told, .ref a_kinds, v_land, v_spades, .ref a_part, v_pad, v_padMany, v_slips, v_slipMany, v_made, .ref a_queue, .ref a_depth, .ref a_by, .ref a_from, .int cm1_92, .ref a_offOf, .ref a_parent, .ref a_best, .int tr1_100, .int le1_101, v_sums, v_toward, v_kept, v_isKept, v_keptAt, v_isWriting])), (a_maps, .inl (gI G, 6, .inl fm)), (a_kinds, .inl (gI G, 4, .inl fk)), (a_part, .inl (gI G, 6, .inl fp)), (a_queue, .inl (gI G, 15625, .inl gq_93)), (a_depth, .inl (gI G, 15625, .inl gd_94)), (a_by, .inl (gI G, 15625, .inl gb_95)), (a_from, .inl (gI G, 15625, .inl gr_96)), (a_offOf, .inl (gI G, 36, .inl go_97)), (a_parent, .inl (gI G, 6, .inl gpa_98)), (a_best, .inl (gI G, 6, .inl gbe_99))]) [0, 1, 2, 3, 4, 5, 6, 7, 8, 9, 10] rfl)
                    have hD9 := (hD.sub (ws' := [(h1, .inr (6, [.int (nI k), .ref a_maps, .int told, .ref a_kinds, v_land, v_spades, .ref a_part, v_pad, v_padMany, v_slips, v_slipMany, v_made, .ref a_queue, .ref a_depth, .ref a_by, .ref a_from, .int cm1_92, .ref a_offOf, .ref a_parent, .ref a_best, .int tr1_100, .int le1_101, v_sums, v_toward, v_kept, v_isKept, v_keptAt, v_isWriting])), (a_maps, .inl (gI G, 6, .inl fm)), (a_kinds, .inl (gI G, 4, .inl fk)), (a_part, .inl (gI G, 6, .inl fp)), (a_queue, .inl (gI G, 15625, .inl gq_93)), (a_depth, .inl (gI G, 15625, .inl gd_94)), (a_by, .inl (gI G, 15625, .inl gb_95)), (a_from, .inl (gI G, 15625, .inl gr_96)), (a_offOf, .inl (gI G, 36, .inl go_97)), (a_parent, .inl (gI G, 6, .inl gpa_98)), (a_best, .inl (gI G, 6, .inl gbe_99))]) [0, 1, 2, 3, 4, 5, 6, 7, 8, 9, 10] (by decide) rfl)
                    exact W.iret (v := x108) hx hb hr (fun t9_ ht9_ hW9_ => ⟨⟨x108, (cm1_92, gq_93, gd_94, gb_95, gr_96, go_97, gpa_98, gbe_99, tr1_100, le1_101), rfl, trivial, by rw [ht9_]; exact hP9, hD9⟩, hS.F ht9_⟩) hS.2.2 dX10_tree_147
                  · refine lv_bipush (v := (-6)) hx hb dX10_tree_133 (by decide) ?_
                    refine lv_goto (tgt := 147) hx hb dX10_tree_135 (by decide) ?_
                    have hP9 := (hP.sub (ws' := [(h1, .inr (6, [.int (nI k), .ref a_maps, .int told, .ref a_kinds, v_land, v_spades, .ref a_part, v_pad, v_padMany, v_slips, v_slipMany, v_made, .ref a_queue, .ref a_depth, .ref a_by, .ref a_from, .int cm1_92, .ref a_offOf, .ref a_parent, .ref a_best, .int tr1_100, .int le1_101, v_sums, v_toward, v_kept, v_isKept, v_keptAt, v_isWriting])), (a_maps, .inl (gI G, 6, .inl fm)), (a_kinds, .inl (gI G, 4, .inl fk)), (a_part, .inl (gI G, 6, .inl fp)), (a_queue, .inl (gI G, 15625, .inl gq_93)), (a_depth, .inl (gI G, 15625, .inl gd_94)), (a_by, .inl (gI G, 15625, .inl gb_95)), (a_from, .inl (gI G, 15625, .inl gr_96)), (a_offOf, .inl (gI G, 36, .inl go_97)), (a_parent, .inl (gI G, 6, .inl gpa_98)), (a_best, .inl (gI G, 6, .inl gbe_99))]) [0, 1, 2, 3, 4, 5, 6, 7, 8, 9, 10] rfl)
                    have hD9 := (hD.sub (ws' := [(h1, .inr (6, [.int (nI k), .ref a_maps, .int told, .ref a_kinds, v_land, v_spades, .ref a_part, v_pad, v_padMany, v_slips, v_slipMany, v_made, .ref a_queue, .ref a_depth, .ref a_by, .ref a_from, .int cm1_92, .ref a_offOf, .ref a_parent, .ref a_best, .int tr1_100, .int le1_101, v_sums, v_toward, v_kept, v_isKept, v_keptAt, v_isWriting])), (a_maps, .inl (gI G, 6, .inl fm)), (a_kinds, .inl (gI G, 4, .inl fk)), (a_part, .inl (gI G, 6, .inl fp)), (a_queue, .inl (gI G, 15625, .inl gq_93)), (a_depth, .inl (gI G, 15625, .inl gd_94)), (a_by, .inl (gI G, 15625, .inl gb_95)), (a_from, .inl (gI G, 15625, .inl gr_96)), (a_offOf, .inl (gI G, 36, .inl go_97)), (a_parent, .inl (gI G, 6, .inl gpa_98)), (a_best, .inl (gI G, 6, .inl gbe_99))]) [0, 1, 2, 3, 4, 5, 6, 7, 8, 9, 10] (by decide) rfl)
                    exact W.iret (v := (-6)) hx hb hr (fun t9_ ht9_ hW9_ => ⟨⟨(-6), (cm1_92, gq_93, gd_94, gb_95, gr_96, go_97, gpa_98, gbe_99, tr1_100, le1_101), rfl, trivial, by rw [ht9_]; exact hP9, hD9⟩, hS.F ht9_⟩) hS.2.2 dX10_tree_147
              · refine lv_if_ne (tgt := 84) hx hb dX10_tree_78 (by decide) (fun c109 => False.elim (by revert c109; decide)) (fun _ => ?_)
                refine lv_bipush (v := (-3)) hx hb dX10_tree_81 (by decide) ?_
                have hP9 := (hP.sub (ws' := [(h1, .inr (6, [.int (nI k), .ref a_maps, .int told, .ref a_kinds, v_land, v_spades, .ref a_part, v_pad, v_padMany, v_slips, v_slipMany, v_made, .ref a_queue, .ref a_depth, .ref a_by, .ref a_from, .int cm0, .ref a_offOf, .ref a_parent, .ref a_best, .int tr0, .int le0, v_sums, v_toward, v_kept, v_isKept, v_keptAt, v_isWriting])), (a_maps, .inl (gI G, 6, .inl fm)), (a_kinds, .inl (gI G, 4, .inl fk)), (a_part, .inl (gI G, 6, .inl fp)), (a_queue, .inl (gI G, 15625, .inl fq)), (a_depth, .inl (gI G, 15625, .inl fd)), (a_by, .inl (gI G, 15625, .inl fb)), (a_from, .inl (gI G, 15625, .inl fr)), (a_offOf, .inl (gI G, 36, .inl fo)), (a_parent, .inl (gI G, 6, .inl fpa)), (a_best, .inl (gI G, 6, .inl fbe))]) [0, 1, 2, 3, 4, 5, 6, 7, 8, 9, 10] rfl)
                have hD9 := (hD.sub (ws' := [(h1, .inr (6, [.int (nI k), .ref a_maps, .int told, .ref a_kinds, v_land, v_spades, .ref a_part, v_pad, v_padMany, v_slips, v_slipMany, v_made, .ref a_queue, .ref a_depth, .ref a_by, .ref a_from, .int cm0, .ref a_offOf, .ref a_parent, .ref a_best, .int tr0, .int le0, v_sums, v_toward, v_kept, v_isKept, v_keptAt, v_isWriting])), (a_maps, .inl (gI G, 6, .inl fm)), (a_kinds, .inl (gI G, 4, .inl fk)), (a_part, .inl (gI G, 6, .inl fp)), (a_queue, .inl (gI G, 15625, .inl fq)), (a_depth, .inl (gI G, 15625, .inl fd)), (a_by, .inl (gI G, 15625, .inl fb)), (a_from, .inl (gI G, 15625, .inl fr)), (a_offOf, .inl (gI G, 36, .inl fo)), (a_parent, .inl (gI G, 6, .inl fpa)), (a_best, .inl (gI G, 6, .inl fbe))]) [0, 1, 2, 3, 4, 5, 6, 7, 8, 9, 10] (by decide) rfl)
                exact W.iret (v := (-3)) hx hb hr (fun t9_ ht9_ hW9_ => ⟨⟨(-3), (cm0, fq, fd, fb, fr, fo, fpa, fbe, tr0, le0), rfl, trivial, by rw [ht9_]; exact hP9, hD9⟩, hS.F ht9_⟩) hS.2.2 dX10_tree_83
            · refine lv_bipush (v := (-2)) hx hb dX10_tree_70 (by decide) ?_
              have hP9 := (hP.sub (ws' := [(h1, .inr (6, [.int (nI k), .ref a_maps, .int told, .ref a_kinds, v_land, v_spades, .ref a_part, v_pad, v_padMany, v_slips, v_slipMany, v_made, .ref a_queue, .ref a_depth, .ref a_by, .ref a_from, .int cm0, .ref a_offOf, .ref a_parent, .ref a_best, .int tr0, .int le0, v_sums, v_toward, v_kept, v_isKept, v_keptAt, v_isWriting])), (a_maps, .inl (gI G, 6, .inl fm)), (a_kinds, .inl (gI G, 4, .inl fk)), (a_part, .inl (gI G, 6, .inl fp)), (a_queue, .inl (gI G, 15625, .inl fq)), (a_depth, .inl (gI G, 15625, .inl fd)), (a_by, .inl (gI G, 15625, .inl fb)), (a_from, .inl (gI G, 15625, .inl fr)), (a_offOf, .inl (gI G, 36, .inl fo)), (a_parent, .inl (gI G, 6, .inl fpa)), (a_best, .inl (gI G, 6, .inl fbe))]) [0, 1, 2, 3, 4, 5, 6, 7, 8, 9, 10] rfl)
              have hD9 := (hD.sub (ws' := [(h1, .inr (6, [.int (nI k), .ref a_maps, .int told, .ref a_kinds, v_land, v_spades, .ref a_part, v_pad, v_padMany, v_slips, v_slipMany, v_made, .ref a_queue, .ref a_depth, .ref a_by, .ref a_from, .int cm0, .ref a_offOf, .ref a_parent, .ref a_best, .int tr0, .int le0, v_sums, v_toward, v_kept, v_isKept, v_keptAt, v_isWriting])), (a_maps, .inl (gI G, 6, .inl fm)), (a_kinds, .inl (gI G, 4, .inl fk)), (a_part, .inl (gI G, 6, .inl fp)), (a_queue, .inl (gI G, 15625, .inl fq)), (a_depth, .inl (gI G, 15625, .inl fd)), (a_by, .inl (gI G, 15625, .inl fb)), (a_from, .inl (gI G, 15625, .inl fr)), (a_offOf, .inl (gI G, 36, .inl fo)), (a_parent, .inl (gI G, 6, .inl fpa)), (a_best, .inl (gI G, 6, .inl fbe))]) [0, 1, 2, 3, 4, 5, 6, 7, 8, 9, 10] (by decide) rfl)
              exact W.iret (v := (-2)) hx hb hr (fun t9_ ht9_ hW9_ => ⟨⟨(-2), (cm0, fq, fd, fb, fr, fo, fpa, fbe, tr0, le0), rfl, trivial, by rw [ht9_]; exact hP9, hD9⟩, hS.F ht9_⟩) hS.2.2 dX10_tree_72
        · refine lv_if_eq (tgt := 70) hx hb dX10_tree_41 (by decide) (fun _ => ?_) (fun c110 => False.elim (by revert c110; decide))
          refine lv_bipush (v := (-2)) hx hb dX10_tree_70 (by decide) ?_
          have hP9 := (hP.sub (ws' := [(h1, .inr (6, [.int (nI k), .ref a_maps, .int told, .ref a_kinds, v_land, v_spades, .ref a_part, v_pad, v_padMany, v_slips, v_slipMany, v_made, .ref a_queue, .ref a_depth, .ref a_by, .ref a_from, .int cm0, .ref a_offOf, .ref a_parent, .ref a_best, .int tr0, .int le0, v_sums, v_toward, v_kept, v_isKept, v_keptAt, v_isWriting])), (a_maps, .inl (gI G, 6, .inl fm)), (a_kinds, .inl (gI G, 4, .inl fk)), (a_part, .inl (gI G, 6, .inl fp)), (a_queue, .inl (gI G, 15625, .inl fq)), (a_depth, .inl (gI G, 15625, .inl fd)), (a_by, .inl (gI G, 15625, .inl fb)), (a_from, .inl (gI G, 15625, .inl fr)), (a_offOf, .inl (gI G, 36, .inl fo)), (a_parent, .inl (gI G, 6, .inl fpa)), (a_best, .inl (gI G, 6, .inl fbe))]) [0, 1, 2, 3, 4, 5, 6, 7, 8, 9, 10] rfl)
          have hD9 := (hD.sub (ws' := [(h1, .inr (6, [.int (nI k), .ref a_maps, .int told, .ref a_kinds, v_land, v_spades, .ref a_part, v_pad, v_padMany, v_slips, v_slipMany, v_made, .ref a_queue, .ref a_depth, .ref a_by, .ref a_from, .int cm0, .ref a_offOf, .ref a_parent, .ref a_best, .int tr0, .int le0, v_sums, v_toward, v_kept, v_isKept, v_keptAt, v_isWriting])), (a_maps, .inl (gI G, 6, .inl fm)), (a_kinds, .inl (gI G, 4, .inl fk)), (a_part, .inl (gI G, 6, .inl fp)), (a_queue, .inl (gI G, 15625, .inl fq)), (a_depth, .inl (gI G, 15625, .inl fd)), (a_by, .inl (gI G, 15625, .inl fb)), (a_from, .inl (gI G, 15625, .inl fr)), (a_offOf, .inl (gI G, 36, .inl fo)), (a_parent, .inl (gI G, 6, .inl fpa)), (a_best, .inl (gI G, 6, .inl fbe))]) [0, 1, 2, 3, 4, 5, 6, 7, 8, 9, 10] (by decide) rfl)
          exact W.iret (v := (-2)) hx hb hr (fun t9_ ht9_ hW9_ => ⟨⟨(-2), (cm0, fq, fd, fb, fr, fo, fpa, fbe, tr0, le0), rfl, trivial, by rw [ht9_]; exact hP9, hD9⟩, hS.F ht9_⟩) hS.2.2 dX10_tree_72
      · refine lv_if_eq (tgt := 29) hx hb dX10_tree_22 (by decide) (fun _ => ?_) (fun c111 => False.elim (by revert c111; decide))
        refine lv_iconst (v := 0) hx hb dX10_tree_29 (by decide) ?_
        refine lv_istore (lv' := [(4, .int 0), (0, .ref h1), (1, .int p0), (2, .int (nI j_p1)), (3, .int p2)]) hx hb dX10_tree_30 hl (by decide) rfl (fun ls hl => ?_)
        refine lv_iload_n hx hb dX10_tree_32 rfl (lv_at hl 2 rfl) ?_
        refine lv_i2l hx hb dX10_tree_33 rfl ?_
        refine lv_topl (fun x112 ex112 => ?_)
        refine lv_lconst (v := 1) hx hb dX10_tree_34 (by decide) ?_
        refine lv_ldc2 (v := 63) hx hb hown (hts (.constantLong RX10 203 (63)) (by decide +kernel)) dX10_tree_35 ?_
        refine ca_iR (va_runS (As := [.long x112, .long 1, .long 63]) (rest := []) ⟨hx, hb, hml, hown, hts⟩ (m_in l G H.size x112 1 63 p0 1 63 ex112 (by decide) (by decide)) (va_cwS 3 hts gX10_tree_X10_in rfl rfl rfl (by decide +kernel) ⟨by decide +kernel, by decide +kernel⟩) (pre_S E hP hD hS hA [] (by decide) rfl) rfl rfl hl.1 rfl (lv_room (Nat.le_of_ble_eq_true rfl)) dX10_tree_38 ⟨by decide +kernel, by decide +kernel⟩) hS hP hD hA [] rfl (fun r114 _ H locs w113 hP hS => ?_)
        rcases w113 with ⟨rfl, b115⟩ | ⟨rfl, b115⟩
        · refine lv_if_eq (tgt := 70) hx hb dX10_tree_41 (by decide) (fun c116 => False.elim (by revert c116; decide)) (fun _ => ?_)
          refine lv_iload_n hx hb dX10_tree_44 rfl (lv_at hl 4 rfl) ?_
          refine lv_i2l hx hb dX10_tree_45 rfl ?_
          refine lv_topl (fun x117 ex117 => ?_)
          refine lv_lconst (v := 0) hx hb dX10_tree_46 (by decide) ?_
          refine lv_lconst (v := 1) hx hb dX10_tree_47 (by decide) ?_
          refine ca_iR (va_runS (As := [.long x117, .long 0, .long 1]) (rest := []) ⟨hx, hb, hml, hown, hts⟩ (m_in l G H.size x117 0 1 p2 0 1 ex117 (by decide) (by decide)) (va_cwS 3 hts gX10_tree_X10_in rfl rfl rfl (by decide +kernel) ⟨by decide +kernel, by decide +kernel⟩) (pre_S E hP hD hS hA [] (by decide) rfl) rfl rfl hl.1 rfl (lv_room (Nat.le_of_ble_eq_true rfl)) dX10_tree_48 ⟨by decide +kernel, by decide +kernel⟩) hS hP hD hA [] rfl (fun r119 _ H locs w118 hP hS => ?_)
          rcases w118 with ⟨rfl, b120⟩ | ⟨rfl, b120⟩
          · refine lv_if_ne (tgt := 73) hx hb dX10_tree_51 (by decide) (fun _ => ?_) (fun c121 => False.elim (by revert c121; decide))
            refine lv_aload_n hx hb dX10_tree_73 rfl (lv_at hl 1 rfl) ?_
            refine lv_iload_n hx hb dX10_tree_74 rfl (lv_at hl 2 rfl) ?_
            refine ca_iR (va_runV (As := [.int p0]) (rest := []) ⟨hx, hb, hml, hown, hts⟩ (m_areTold l G H.size h1 (.int (nI k)) (.ref a_maps) (.ref a_kinds) v_land v_spades (.ref a_part) v_pad v_padMany v_slips v_slipMany v_made (.ref a_queue) (.ref a_depth) (.ref a_by) (.ref a_from) (.int cm0) (.ref a_offOf) (.ref a_parent) (.ref a_best) (.int tr0) (.int le0) v_sums v_toward v_kept v_isKept v_keptAt v_isWriting told p0) (cwV 1 hts gX10_tree_X10_areTold rfl rfl rfl (by decide +kernel) ⟨by decide +kernel, by decide +kernel⟩) (pre_V E hP hD hS hA [0] (by decide) rfl 0 6 rfl rfl) rfl rfl hl.1 rfl (lv_room (Nat.le_of_ble_eq_true rfl)) dX10_tree_75 ⟨by decide +kernel, by decide +kernel⟩) hS hP hD hA [0] rfl (fun r123 _ H locs w122 hP hS => ?_)
            rcases w122 with ⟨rfl, b124⟩ | ⟨rfl, b124⟩
            · refine lv_if_ne (tgt := 84) hx hb dX10_tree_78 (by decide) (fun _ => ?_) (fun c125 => False.elim (by revert c125; decide))
              refine lv_aload_n hx hb dX10_tree_84 rfl (lv_at hl 1 rfl) ?_
              refine lv_iload_n hx hb dX10_tree_85 rfl (lv_at hl 2 rfl) ?_
              refine lv_iload_n hx hb dX10_tree_86 rfl (lv_at hl 3 rfl) ?_
              refine ca_v (wr := []) (va_runV (As := [.int p0, .int (nI j_p1)]) (rest := []) ⟨hx, hb, hml, hown, hts⟩ (m_findTrees l G H.size h1 (.int told) v_land v_spades v_pad v_padMany v_slips v_slipMany v_made v_sums v_toward v_kept v_isKept v_keptAt v_isWriting a_maps fm a_kinds a_offOf a_best a_parent fpa fk fo fbe a_part fp a_queue a_depth a_by a_from fq fd fb fr k cm0 tr0 le0 j_p1 p0 hk2 hk6 hp hfm (by omega)) (cwV 2 hts gX10_tree_X10_findTrees rfl rfl rfl (by decide +kernel) ⟨by decide +kernel, by decide +kernel⟩) (pre_V E hP hD hS hA [0, 1, 2, 3, 4, 5, 6, 7, 8, 9, 10] (by decide) rfl 0 6 rfl rfl) rfl rfl hl.1 rfl (lv_room (Nat.le_of_ble_eq_true rfl)) dX10_tree_87 ⟨by decide +kernel, by decide +kernel⟩) hS hP hD hA [0, 1, 2, 3, 4, 5, 6, 7, 8, 9, 10] [] rfl rfl (by decide) (by decide) (fun u128 H locs w126 hP hD hS => ?_)
              obtain ⟨cm1_129, gq_130, gd_131, gb_132, gr_133, go_134, gpa_135, gbe_136, tr1_137, le1_138⟩ := u128
              try dsimp only at w126 hP hD
              have hP := (hP.sub (ws' := [(h1, .inr (6, [.int (nI k), .ref a_maps, .int told, .ref a_kinds, v_land, v_spades, .ref a_part, v_pad, v_padMany, v_slips, v_slipMany, v_made, .ref a_queue, .ref a_depth, .ref a_by, .ref a_from, .int cm1_129, .ref a_offOf, .ref a_parent, .ref a_best, .int tr1_137, .int le1_138, v_sums, v_toward, v_kept, v_isKept, v_keptAt, v_isWriting])), (a_maps, .inl (gI G, 6, .inl fm)), (a_kinds, .inl (gI G, 4, .inl fk)), (a_part, .inl (gI G, 6, .inl fp)), (a_queue, .inl (gI G, 15625, .inl gq_130)), (a_depth, .inl (gI G, 15625, .inl gd_131)), (a_by, .inl (gI G, 15625, .inl gb_132)), (a_from, .inl (gI G, 15625, .inl gr_133)), (a_offOf, .inl (gI G, 36, .inl go_134)), (a_parent, .inl (gI G, 6, .inl gpa_135)), (a_best, .inl (gI G, 6, .inl gbe_136))]) [0, 1, 2, 3, 4, 5, 6, 7, 8, 9, 10] rfl)
              have hD := (hD.sub (ws' := [(h1, .inr (6, [.int (nI k), .ref a_maps, .int told, .ref a_kinds, v_land, v_spades, .ref a_part, v_pad, v_padMany, v_slips, v_slipMany, v_made, .ref a_queue, .ref a_depth, .ref a_by, .ref a_from, .int cm1_129, .ref a_offOf, .ref a_parent, .ref a_best, .int tr1_137, .int le1_138, v_sums, v_toward, v_kept, v_isKept, v_keptAt, v_isWriting])), (a_maps, .inl (gI G, 6, .inl fm)), (a_kinds, .inl (gI G, 4, .inl fk)), (a_part, .inl (gI G, 6, .inl fp)), (a_queue, .inl (gI G, 15625, .inl gq_130)), (a_depth, .inl (gI G, 15625, .inl gd_131)), (a_by, .inl (gI G, 15625, .inl gb_132)), (a_from, .inl (gI G, 15625, .inl gr_133)), (a_offOf, .inl (gI G, 36, .inl go_134)), (a_parent, .inl (gI G, 6, .inl gpa_135)), (a_best, .inl (gI G, 6, .inl gbe_136))]) [0, 1, 2, 3, 4, 5, 6, 7, 8, 9, 10] (by decide) rfl)
              refine lv_iload hx hb dX10_tree_90 (lv_at hl 0 rfl) ?_
              refine lv_if_ne (tgt := 112) hx hb dX10_tree_92 (by decide) (fun c139 => False.elim (by revert c139; decide)) (fun _ => ?_)
              refine lv_iload_n hx hb dX10_tree_95 rfl (lv_at hl 4 rfl) ?_
              refine lv_iconst (v := 1) hx hb dX10_tree_96 (by decide) ?_
              refine lv_icmp_ne (tgt := 107) hx hb dX10_tree_97 (by decide) (fun c140 => ?_) (fun c140 => ?_)
              · refine lv_aload_n hx hb dX10_tree_107 rfl (lv_at hl 1 rfl) ?_
                refine va_get (D := G.1) (ci := 6) (v := .int le1_138) (C := RX10) (T := TX10) (N := 28) hx hb hts (fun _ h => List.mem_cons_of_mem _ (List.mem_append_right _ h)) hown E.K hP 0 rfl rfl 21 (by decide) (hts (.fieldLink RX10 194 "LastMapModel" "least" "I") (by decide +kernel)) (fun _ h9 => h9) rfl dX10_tree_108 ?_
                have hP9 := (hP.sub (ws' := [(h1, .inr (6, [.int (nI k), .ref a_maps, .int told, .ref a_kinds, v_land, v_spades, .ref a_part, v_pad, v_padMany, v_slips, v_slipMany, v_made, .ref a_queue, .ref a_depth, .ref a_by, .ref a_from, .int cm1_129, .ref a_offOf, .ref a_parent, .ref a_best, .int tr1_137, .int le1_138, v_sums, v_toward, v_kept, v_isKept, v_keptAt, v_isWriting])), (a_maps, .inl (gI G, 6, .inl fm)), (a_kinds, .inl (gI G, 4, .inl fk)), (a_part, .inl (gI G, 6, .inl fp)), (a_queue, .inl (gI G, 15625, .inl gq_130)), (a_depth, .inl (gI G, 15625, .inl gd_131)), (a_by, .inl (gI G, 15625, .inl gb_132)), (a_from, .inl (gI G, 15625, .inl gr_133)), (a_offOf, .inl (gI G, 36, .inl go_134)), (a_parent, .inl (gI G, 6, .inl gpa_135)), (a_best, .inl (gI G, 6, .inl gbe_136))]) [0, 1, 2, 3, 4, 5, 6, 7, 8, 9, 10] rfl)
                have hD9 := (hD.sub (ws' := [(h1, .inr (6, [.int (nI k), .ref a_maps, .int told, .ref a_kinds, v_land, v_spades, .ref a_part, v_pad, v_padMany, v_slips, v_slipMany, v_made, .ref a_queue, .ref a_depth, .ref a_by, .ref a_from, .int cm1_129, .ref a_offOf, .ref a_parent, .ref a_best, .int tr1_137, .int le1_138, v_sums, v_toward, v_kept, v_isKept, v_keptAt, v_isWriting])), (a_maps, .inl (gI G, 6, .inl fm)), (a_kinds, .inl (gI G, 4, .inl fk)), (a_part, .inl (gI G, 6, .inl fp)), (a_queue, .inl (gI G, 15625, .inl gq_130)), (a_depth, .inl (gI G, 15625, .inl gd_131)), (a_by, .inl (gI G, 15625, .inl gb_132)), (a_from, .inl (gI G, 15625, .inl gr_133)), (a_offOf, .inl (gI G, 36, .inl go_134)), (a_parent, .inl (gI G, 6, .inl gpa_135)), (a_best, .inl (gI G, 6, .inl gbe_136))]) [0, 1, 2, 3, 4, 5, 6, 7, 8, 9, 10] (by decide) rfl)
                exact W.iret (v := le1_138) hx hb hr (fun t9_ ht9_ hW9_ => ⟨⟨le1_138, (cm1_129, gq_130, gd_131, gb_132, gr_133, go_134, gpa_135, gbe_136, tr1_137, le1_138), rfl, trivial, by rw [ht9_]; exact hP9, hD9⟩, hS.F ht9_⟩) hS.2.2 dX10_tree_111
              · refine lv_aload_n hx hb dX10_tree_100 rfl (lv_at hl 1 rfl) ?_
                refine va_get (D := G.1) (ci := 6) (v := .int tr1_137) (C := RX10) (T := TX10) (N := 28) hx hb hts (fun _ h => List.mem_cons_of_mem _ (List.mem_append_right _ h)) hown E.K hP 0 rfl rfl 20 (by decide) (hts (.fieldLink RX10 191 "LastMapModel" "trees" "I") (by decide +kernel)) (fun _ h9 => h9) rfl dX10_tree_101 ?_
                refine lv_goto (tgt := 111) hx hb dX10_tree_104 (by decide) ?_
                have hP9 := (hP.sub (ws' := [(h1, .inr (6, [.int (nI k), .ref a_maps, .int told, .ref a_kinds, v_land, v_spades, .ref a_part, v_pad, v_padMany, v_slips, v_slipMany, v_made, .ref a_queue, .ref a_depth, .ref a_by, .ref a_from, .int cm1_129, .ref a_offOf, .ref a_parent, .ref a_best, .int tr1_137, .int le1_138, v_sums, v_toward, v_kept, v_isKept, v_keptAt, v_isWriting])), (a_maps, .inl (gI G, 6, .inl fm)), (a_kinds, .inl (gI G, 4, .inl fk)), (a_part, .inl (gI G, 6, .inl fp)), (a_queue, .inl (gI G, 15625, .inl gq_130)), (a_depth, .inl (gI G, 15625, .inl gd_131)), (a_by, .inl (gI G, 15625, .inl gb_132)), (a_from, .inl (gI G, 15625, .inl gr_133)), (a_offOf, .inl (gI G, 36, .inl go_134)), (a_parent, .inl (gI G, 6, .inl gpa_135)), (a_best, .inl (gI G, 6, .inl gbe_136))]) [0, 1, 2, 3, 4, 5, 6, 7, 8, 9, 10] rfl)
                have hD9 := (hD.sub (ws' := [(h1, .inr (6, [.int (nI k), .ref a_maps, .int told, .ref a_kinds, v_land, v_spades, .ref a_part, v_pad, v_padMany, v_slips, v_slipMany, v_made, .ref a_queue, .ref a_depth, .ref a_by, .ref a_from, .int cm1_129, .ref a_offOf, .ref a_parent, .ref a_best, .int tr1_137, .int le1_138, v_sums, v_toward, v_kept, v_isKept, v_keptAt, v_isWriting])), (a_maps, .inl (gI G, 6, .inl fm)), (a_kinds, .inl (gI G, 4, .inl fk)), (a_part, .inl (gI G, 6, .inl fp)), (a_queue, .inl (gI G, 15625, .inl gq_130)), (a_depth, .inl (gI G, 15625, .inl gd_131)), (a_by, .inl (gI G, 15625, .inl gb_132)), (a_from, .inl (gI G, 15625, .inl gr_133)), (a_offOf, .inl (gI G, 36, .inl go_134)), (a_parent, .inl (gI G, 6, .inl gpa_135)), (a_best, .inl (gI G, 6, .inl gbe_136))]) [0, 1, 2, 3, 4, 5, 6, 7, 8, 9, 10] (by decide) rfl)
                exact W.iret (v := tr1_137) hx hb hr (fun t9_ ht9_ hW9_ => ⟨⟨tr1_137, (cm1_129, gq_130, gd_131, gb_132, gr_133, go_134, gpa_135, gbe_136, tr1_137, le1_138), rfl, trivial, by rw [ht9_]; exact hP9, hD9⟩, hS.F ht9_⟩) hS.2.2 dX10_tree_111
            · refine lv_if_ne (tgt := 84) hx hb dX10_tree_78 (by decide) (fun c141 => False.elim (by revert c141; decide)) (fun _ => ?_)
              refine lv_bipush (v := (-3)) hx hb dX10_tree_81 (by decide) ?_
              have hP9 := (hP.sub (ws' := [(h1, .inr (6, [.int (nI k), .ref a_maps, .int told, .ref a_kinds, v_land, v_spades, .ref a_part, v_pad, v_padMany, v_slips, v_slipMany, v_made, .ref a_queue, .ref a_depth, .ref a_by, .ref a_from, .int cm0, .ref a_offOf, .ref a_parent, .ref a_best, .int tr0, .int le0, v_sums, v_toward, v_kept, v_isKept, v_keptAt, v_isWriting])), (a_maps, .inl (gI G, 6, .inl fm)), (a_kinds, .inl (gI G, 4, .inl fk)), (a_part, .inl (gI G, 6, .inl fp)), (a_queue, .inl (gI G, 15625, .inl fq)), (a_depth, .inl (gI G, 15625, .inl fd)), (a_by, .inl (gI G, 15625, .inl fb)), (a_from, .inl (gI G, 15625, .inl fr)), (a_offOf, .inl (gI G, 36, .inl fo)), (a_parent, .inl (gI G, 6, .inl fpa)), (a_best, .inl (gI G, 6, .inl fbe))]) [0, 1, 2, 3, 4, 5, 6, 7, 8, 9, 10] rfl)
              have hD9 := (hD.sub (ws' := [(h1, .inr (6, [.int (nI k), .ref a_maps, .int told, .ref a_kinds, v_land, v_spades, .ref a_part, v_pad, v_padMany, v_slips, v_slipMany, v_made, .ref a_queue, .ref a_depth, .ref a_by, .ref a_from, .int cm0, .ref a_offOf, .ref a_parent, .ref a_best, .int tr0, .int le0, v_sums, v_toward, v_kept, v_isKept, v_keptAt, v_isWriting])), (a_maps, .inl (gI G, 6, .inl fm)), (a_kinds, .inl (gI G, 4, .inl fk)), (a_part, .inl (gI G, 6, .inl fp)), (a_queue, .inl (gI G, 15625, .inl fq)), (a_depth, .inl (gI G, 15625, .inl fd)), (a_by, .inl (gI G, 15625, .inl fb)), (a_from, .inl (gI G, 15625, .inl fr)), (a_offOf, .inl (gI G, 36, .inl fo)), (a_parent, .inl (gI G, 6, .inl fpa)), (a_best, .inl (gI G, 6, .inl fbe))]) [0, 1, 2, 3, 4, 5, 6, 7, 8, 9, 10] (by decide) rfl)
              exact W.iret (v := (-3)) hx hb hr (fun t9_ ht9_ hW9_ => ⟨⟨(-3), (cm0, fq, fd, fb, fr, fo, fpa, fbe, tr0, le0), rfl, trivial, by rw [ht9_]; exact hP9, hD9⟩, hS.F ht9_⟩) hS.2.2 dX10_tree_83
          · refine lv_if_ne (tgt := 73) hx hb dX10_tree_51 (by decide) (fun c142 => False.elim (by revert c142; decide)) (fun _ => ?_)
            refine lv_iload hx hb dX10_tree_54 (lv_at hl 0 rfl) ?_
            refine lv_if_eq (tgt := 70) hx hb dX10_tree_56 (by decide) (fun _ => ?_) (fun c143 => False.elim (by revert c143; decide))
            refine lv_bipush (v := (-2)) hx hb dX10_tree_70 (by decide) ?_
            have hP9 := (hP.sub (ws' := [(h1, .inr (6, [.int (nI k), .ref a_maps, .int told, .ref a_kinds, v_land, v_spades, .ref a_part, v_pad, v_padMany, v_slips, v_slipMany, v_made, .ref a_queue, .ref a_depth, .ref a_by, .ref a_from, .int cm0, .ref a_offOf, .ref a_parent, .ref a_best, .int tr0, .int le0, v_sums, v_toward, v_kept, v_isKept, v_keptAt, v_isWriting])), (a_maps, .inl (gI G, 6, .inl fm)), (a_kinds, .inl (gI G, 4, .inl fk)), (a_part, .inl (gI G, 6, .inl fp)), (a_queue, .inl (gI G, 15625, .inl fq)), (a_depth, .inl (gI G, 15625, .inl fd)), (a_by, .inl (gI G, 15625, .inl fb)), (a_from, .inl (gI G, 15625, .inl fr)), (a_offOf, .inl (gI G, 36, .inl fo)), (a_parent, .inl (gI G, 6, .inl fpa)), (a_best, .inl (gI G, 6, .inl fbe))]) [0, 1, 2, 3, 4, 5, 6, 7, 8, 9, 10] rfl)
            have hD9 := (hD.sub (ws' := [(h1, .inr (6, [.int (nI k), .ref a_maps, .int told, .ref a_kinds, v_land, v_spades, .ref a_part, v_pad, v_padMany, v_slips, v_slipMany, v_made, .ref a_queue, .ref a_depth, .ref a_by, .ref a_from, .int cm0, .ref a_offOf, .ref a_parent, .ref a_best, .int tr0, .int le0, v_sums, v_toward, v_kept, v_isKept, v_keptAt, v_isWriting])), (a_maps, .inl (gI G, 6, .inl fm)), (a_kinds, .inl (gI G, 4, .inl fk)), (a_part, .inl (gI G, 6, .inl fp)), (a_queue, .inl (gI G, 15625, .inl fq)), (a_depth, .inl (gI G, 15625, .inl fd)), (a_by, .inl (gI G, 15625, .inl fb)), (a_from, .inl (gI G, 15625, .inl fr)), (a_offOf, .inl (gI G, 36, .inl fo)), (a_parent, .inl (gI G, 6, .inl fpa)), (a_best, .inl (gI G, 6, .inl fbe))]) [0, 1, 2, 3, 4, 5, 6, 7, 8, 9, 10] (by decide) rfl)
            exact W.iret (v := (-2)) hx hb hr (fun t9_ ht9_ hW9_ => ⟨⟨(-2), (cm0, fq, fd, fb, fr, fo, fpa, fbe, tr0, le0), rfl, trivial, by rw [ht9_]; exact hP9, hD9⟩, hS.F ht9_⟩) hS.2.2 dX10_tree_72
        · refine lv_if_eq (tgt := 70) hx hb dX10_tree_41 (by decide) (fun _ => ?_) (fun c144 => False.elim (by revert c144; decide))
          refine lv_bipush (v := (-2)) hx hb dX10_tree_70 (by decide) ?_
          have hP9 := (hP.sub (ws' := [(h1, .inr (6, [.int (nI k), .ref a_maps, .int told, .ref a_kinds, v_land, v_spades, .ref a_part, v_pad, v_padMany, v_slips, v_slipMany, v_made, .ref a_queue, .ref a_depth, .ref a_by, .ref a_from, .int cm0, .ref a_offOf, .ref a_parent, .ref a_best, .int tr0, .int le0, v_sums, v_toward, v_kept, v_isKept, v_keptAt, v_isWriting])), (a_maps, .inl (gI G, 6, .inl fm)), (a_kinds, .inl (gI G, 4, .inl fk)), (a_part, .inl (gI G, 6, .inl fp)), (a_queue, .inl (gI G, 15625, .inl fq)), (a_depth, .inl (gI G, 15625, .inl fd)), (a_by, .inl (gI G, 15625, .inl fb)), (a_from, .inl (gI G, 15625, .inl fr)), (a_offOf, .inl (gI G, 36, .inl fo)), (a_parent, .inl (gI G, 6, .inl fpa)), (a_best, .inl (gI G, 6, .inl fbe))]) [0, 1, 2, 3, 4, 5, 6, 7, 8, 9, 10] rfl)
          have hD9 := (hD.sub (ws' := [(h1, .inr (6, [.int (nI k), .ref a_maps, .int told, .ref a_kinds, v_land, v_spades, .ref a_part, v_pad, v_padMany, v_slips, v_slipMany, v_made, .ref a_queue, .ref a_depth, .ref a_by, .ref a_from, .int cm0, .ref a_offOf, .ref a_parent, .ref a_best, .int tr0, .int le0, v_sums, v_toward, v_kept, v_isKept, v_keptAt, v_isWriting])), (a_maps, .inl (gI G, 6, .inl fm)), (a_kinds, .inl (gI G, 4, .inl fk)), (a_part, .inl (gI G, 6, .inl fp)), (a_queue, .inl (gI G, 15625, .inl fq)), (a_depth, .inl (gI G, 15625, .inl fd)), (a_by, .inl (gI G, 15625, .inl fb)), (a_from, .inl (gI G, 15625, .inl fr)), (a_offOf, .inl (gI G, 36, .inl fo)), (a_parent, .inl (gI G, 6, .inl fpa)), (a_best, .inl (gI G, 6, .inl fbe))]) [0, 1, 2, 3, 4, 5, 6, 7, 8, 9, 10] (by decide) rfl)
          exact W.iret (v := (-2)) hx hb hr (fun t9_ ht9_ hW9_ => ⟨⟨(-2), (cm0, fq, fd, fb, fr, fo, fpa, fbe, tr0, le0), rfl, trivial, by rw [ht9_]; exact hP9, hD9⟩, hS.F ht9_⟩) hS.2.2 dX10_tree_72
  · refine lv_if_ne (tgt := 9) hx hb dX10_tree_4 (by decide) (fun c145 => False.elim (by revert c145; decide)) (fun _ => ?_)
    refine lv_iconst (v := (-1)) hx hb dX10_tree_7 (by decide) ?_
    have hP9 := (hP.sub (ws' := [(h1, .inr (6, [.int (nI k), .ref a_maps, .int told, .ref a_kinds, v_land, v_spades, .ref a_part, v_pad, v_padMany, v_slips, v_slipMany, v_made, .ref a_queue, .ref a_depth, .ref a_by, .ref a_from, .int cm0, .ref a_offOf, .ref a_parent, .ref a_best, .int tr0, .int le0, v_sums, v_toward, v_kept, v_isKept, v_keptAt, v_isWriting])), (a_maps, .inl (gI G, 6, .inl fm)), (a_kinds, .inl (gI G, 4, .inl fk)), (a_part, .inl (gI G, 6, .inl fp)), (a_queue, .inl (gI G, 15625, .inl fq)), (a_depth, .inl (gI G, 15625, .inl fd)), (a_by, .inl (gI G, 15625, .inl fb)), (a_from, .inl (gI G, 15625, .inl fr)), (a_offOf, .inl (gI G, 36, .inl fo)), (a_parent, .inl (gI G, 6, .inl fpa)), (a_best, .inl (gI G, 6, .inl fbe))]) [0, 1, 2, 3, 4, 5, 6, 7, 8, 9, 10] rfl)
    have hD9 := (hD.sub (ws' := [(h1, .inr (6, [.int (nI k), .ref a_maps, .int told, .ref a_kinds, v_land, v_spades, .ref a_part, v_pad, v_padMany, v_slips, v_slipMany, v_made, .ref a_queue, .ref a_depth, .ref a_by, .ref a_from, .int cm0, .ref a_offOf, .ref a_parent, .ref a_best, .int tr0, .int le0, v_sums, v_toward, v_kept, v_isKept, v_keptAt, v_isWriting])), (a_maps, .inl (gI G, 6, .inl fm)), (a_kinds, .inl (gI G, 4, .inl fk)), (a_part, .inl (gI G, 6, .inl fp)), (a_queue, .inl (gI G, 15625, .inl fq)), (a_depth, .inl (gI G, 15625, .inl fd)), (a_by, .inl (gI G, 15625, .inl fb)), (a_from, .inl (gI G, 15625, .inl fr)), (a_offOf, .inl (gI G, 36, .inl fo)), (a_parent, .inl (gI G, 6, .inl fpa)), (a_best, .inl (gI G, 6, .inl fbe))]) [0, 1, 2, 3, 4, 5, 6, 7, 8, 9, 10] (by decide) rfl)
    exact W.iret (v := (-1)) hx hb hr (fun t9_ ht9_ hW9_ => ⟨⟨(-1), (cm0, fq, fd, fb, fr, fo, fpa, fbe, tr0, le0), rfl, trivial, by rw [ht9_]; exact hP9, hD9⟩, hS.F ht9_⟩) hS.2.2 dX10_tree_8
