set_option maxHeartbeats 1000000 in
set_option maxRecDepth 100000 in
theorem m2_faultOfMap (l : Launch) (G : Gy) (sz : Nat) (h1 : Nat) (v_maps : Value) (v_told : Value) (v_kinds : Value) (v_land : Value) (v_spades : Value) (v_part : Value) (v_slips : Value) (v_slipMany : Value) (v_made : Value) (v_queue : Value) (v_depth : Value) (v_by : Value) (v_from : Value) (v_come : Value) (v_offOf : Value) (v_parent : Value) (v_best : Value) (v_trees : Value) (v_least : Value) (v_sums : Value) (v_toward : Value) (v_kept : Value) (v_isKept : Value) (v_keptAt : Value) (v_isWriting : Value) (a_pad : Nat) (pm : Nat) (fd : Nat → Int32) (k : Nat) (p0 : Int32) (hk2 : 2 ≤ k) (hk6 : k ≤ 6) (hpm : pm ≤ 40) : Ci l G yX10_faultOfMap wsX10_faultOfMap ({ frames := 2, cells := 0, slots := 0, locals := 45 }) [.ref h1, .int p0] ([(h1, .inr (6, [.int (nI k), v_maps, v_told, v_kinds, v_land, v_spades, v_part, .ref a_pad, .int (nI pm), v_slips, v_slipMany, v_made, v_queue, v_depth, v_by, v_from, v_come, v_offOf, v_parent, v_best, v_trees, v_least, v_sums, v_toward, v_kept, v_isKept, v_keptAt, v_isWriting])), (a_pad, .inl (gI G, 40, .inl fd))]) sz (fun (r : Int32) (_ : Unit) => r = fmF fd pm k (¬ p0 = 0) pm 0) (fun (_ : Unit) => [(h1, .inr (6, [.int (nI k), v_maps, v_told, v_kinds, v_land, v_spades, v_part, .ref a_pad, .int (nI pm), v_slips, v_slipMany, v_made, v_queue, v_depth, v_by, v_from, v_come, v_offOf, v_parent, v_best, v_trees, v_least, v_sums, v_toward, v_kept, v_isKept, v_keptAt, v_isWriting])), (a_pad, .inl (gI G, 40, .inl fd))]) 0 0 := by
  refine Met.ofW (cc := cX10_faultOfMap) (maxL := 4) (ret := (some .int)) (by decide) rfl ?_
  intro p e s m args below meth c s₁ B hml hv
  obtain ⟨rfl, hsz, hP, hD0, E0⟩ := hv
  have hx := B.exec
  have hb := B.bytes
  have hr := B.returns
  have hts := atoms_spec (ws := wsX10_faultOfMap) B.pre
  have hown : s.vm.findClass RX10 = some m.cls := findClass_of_methodNamed B.named
  have hlocks := B.notSynchronized
  subst hsz
  have hD := hD0.self (sz := s.heap.size)
  generalize hAe : va_A ([(h1, .inr (6, [.int (nI k), v_maps, v_told, v_kinds, v_land, v_spades, v_part, .ref a_pad, .int (nI pm), v_slips, v_slipMany, v_made, v_queue, v_depth, v_by, v_from, v_come, v_offOf, v_parent, v_best, v_trees, v_least, v_sums, v_toward, v_kept, v_isKept, v_keptAt, v_isWriting])), (a_pad, .inl (gI G, 40, .inl fd))]) s.heap.size = A at hD E0 ⊢
  have E : EV G A s s.heap := E0
  have hA : ∀ q : Nat, s.heap.size ≤ q → A q := fun q h => by rw [← hAe]; exact Or.inr h
  have hS : va_S A s.heap s.heap [] := va_S.rf
  have hl := lv_entry ([.ref h1, .int p0]) (n := 4) (Nat.le_of_ble_eq_true rfl)
  rw [lg_entry_eq]
  generalize (lg_sl ([.ref h1, .int p0]) ++ List.replicate (4 - (lg_sl ([.ref h1, .int p0])).length) Slot.unset).toArray = ls at hl ⊢
  have hl : lv_has ls 4 [(0, .ref h1), (1, .int p0)] := hl
  have hP : va_P G.1 vwCl ([(h1, .inr (6, [.int (nI k), v_maps, v_told, v_kinds, v_land, v_spades, v_part, .ref a_pad, .int (nI pm), v_slips, v_slipMany, v_made, v_queue, v_depth, v_by, v_from, v_come, v_offOf, v_parent, v_best, v_trees, v_least, v_sums, v_toward, v_kept, v_isKept, v_keptAt, v_isWriting])), (a_pad, .inl (gI G, 40, .inl fd))]) s.heap := hP
  refine lv_iconst (v := 0) hx hb dX10_faultOfMap_0 (by decide) ?_
  refine lv_istore_n (lv' := [(2, .int 0), (0, .ref h1), (1, .int p0)]) hx hb dX10_faultOfMap_1 rfl hl (by decide) rfl (fun ls hl => ?_)
  refine lp_run (x0 := 0) (fun x : Nat => [(h1, .inr (6, [.int (nI k), v_maps, v_told, v_kinds, v_land, v_spades, v_part, .ref a_pad, .int (nI pm), v_slips, v_slipMany, v_made, v_queue, v_depth, v_by, v_from, v_come, v_offOf, v_parent, v_best, v_trees, v_least, v_sums, v_toward, v_kept, v_isKept, v_keptAt, v_isWriting])), (a_pad, .inl (gI G, 40, .inl fd))]) (fun x : Nat => [(2, .int (nI x)), (0, .ref h1), (1, .int p0)]) (fun x : Nat => (x ≤ pm) ∧ (fmF fd pm k (¬ p0 = 0) pm 0 = fmF fd pm k (¬ p0 = 0) (pm - x) x) ∧ (x ≤ k)) (fun x : Nat => pm - x) (hP.sub [0, 1] rfl) (hD.sub [0, 1] (by decide) rfl) hS (lv_sub hl [0, 1, 2] rfl) ⟨(by omega), by rw [Nat.sub_zero], by omega⟩ ?_
  intro xx_ hI ih2 H locs ls hP hD hS hl
  obtain ⟨x, rfl⟩ : ∃ zz_, zz_ = xx_ := ⟨_, rfl⟩
  obtain ⟨hx0, hfm, hxk⟩ := hI
  have hl : lv_has ls 4 [(2, .int (nI x)), (0, .ref h1), (1, .int p0)] := hl
  have hP : va_P G.1 vwCl ([(h1, .inr (6, [.int (nI k), v_maps, v_told, v_kinds, v_land, v_spades, v_part, .ref a_pad, .int (nI pm), v_slips, v_slipMany, v_made, v_queue, v_depth, v_by, v_from, v_come, v_offOf, v_parent, v_best, v_trees, v_least, v_sums, v_toward, v_kept, v_isKept, v_keptAt, v_isWriting])), (a_pad, .inl (gI G, 40, .inl fd))]) H := hP
  have hD : va_D A ([(h1, .inr (6, [.int (nI k), v_maps, v_told, v_kinds, v_land, v_spades, v_part, .ref a_pad, .int (nI pm), v_slips, v_slipMany, v_made, v_queue, v_depth, v_by, v_from, v_come, v_offOf, v_parent, v_best, v_trees, v_least, v_sums, v_toward, v_kept, v_isKept, v_keptAt, v_isWriting])), (a_pad, .inl (gI G, 40, .inl fd))]) := hD
  refine lv_iload_n hx hb dX10_faultOfMap_2 rfl (lv_at hl 0 rfl) ?_
  refine lv_aload_n hx hb dX10_faultOfMap_3 rfl (lv_at hl 1 rfl) ?_
  refine va_get (D := G.1) (ci := 6) (v := .int (nI pm)) (C := RX10) (T := TX10) (N := 28) hx hb hts (fun _ h => List.mem_cons_of_mem _ (List.mem_append_right _ h)) hown E.K hP 0 rfl rfl 8 (by decide) (hts (.fieldLink RX10 103 "LastMapModel" "padMany" "I") (by decide +kernel)) (fun _ h9 => h9) rfl dX10_faultOfMap_4 ?_
  refine lv_icmp_ge (tgt := 63) hx hb dX10_faultOfMap_7 (by decide) (fun c1 => ?_) (fun c1 => ?_)
  · have c1 : pm ≤ x := (nI_leI (a := pm) (b := x) (by omega) (by omega)).mp c1
    refine lv_aload_n hx hb dX10_faultOfMap_63 rfl (lv_at hl 1 rfl) ?_
    refine va_get (D := G.1) (ci := 6) (v := .int (nI pm)) (C := RX10) (T := TX10) (N := 28) hx hb hts (fun _ h => List.mem_cons_of_mem _ (List.mem_append_right _ h)) hown E.K hP 0 rfl rfl 8 (by decide) (hts (.fieldLink RX10 103 "LastMapModel" "padMany" "I") (by decide +kernel)) (fun _ h9 => h9) rfl dX10_faultOfMap_64 ?_
    refine lv_aload_n hx hb dX10_faultOfMap_67 rfl (lv_at hl 1 rfl) ?_
    refine va_get (D := G.1) (ci := 6) (v := .int (nI k)) (C := RX10) (T := TX10) (N := 28) hx hb hts (fun _ h => List.mem_cons_of_mem _ (List.mem_append_right _ h)) hown E.K hP 0 rfl rfl 0 (by decide) (hts (.fieldLink RX10 67 "LastMapModel" "sites" "I") (by decide +kernel)) (fun _ h9 => h9) rfl dX10_faultOfMap_68 ?_
    refine lv_icmp_ge (tgt := 81) hx hb dX10_faultOfMap_71 (by decide) (fun c2 => ?_) (fun c2 => ?_)
    · have c2 : k ≤ pm := (nI_leI (a := k) (b := pm) (by omega) (by omega)).mp c2
      refine lv_bipush (v := (-6)) hx hb dX10_faultOfMap_81 (by decide) ?_
      have hP9 := (hP.sub (ws' := [(h1, .inr (6, [.int (nI k), v_maps, v_told, v_kinds, v_land, v_spades, v_part, .ref a_pad, .int (nI pm), v_slips, v_slipMany, v_made, v_queue, v_depth, v_by, v_from, v_come, v_offOf, v_parent, v_best, v_trees, v_least, v_sums, v_toward, v_kept, v_isKept, v_keptAt, v_isWriting])), (a_pad, .inl (gI G, 40, .inl fd))]) [0, 1] rfl)
      have hD9 := (hD.sub (ws' := [(h1, .inr (6, [.int (nI k), v_maps, v_told, v_kinds, v_land, v_spades, v_part, .ref a_pad, .int (nI pm), v_slips, v_slipMany, v_made, v_queue, v_depth, v_by, v_from, v_come, v_offOf, v_parent, v_best, v_trees, v_least, v_sums, v_toward, v_kept, v_isKept, v_keptAt, v_isWriting])), (a_pad, .inl (gI G, 40, .inl fd))]) [0, 1] (by decide) rfl)
      exact W.iret (v := (-6)) hx hb hr (fun t9_ ht9_ hW9_ => ⟨⟨(-6), (), rfl, by rw [hfm, show pm - x = 0 by omega]; exact (pIf_f (by omega)).symm, by rw [ht9_]; exact hP9, hD9⟩, hS.F ht9_⟩) hS.2.2 dX10_faultOfMap_83
    · have c2 : ¬ k ≤ pm := fun h9_ => c2 ((nI_leI (a := k) (b := pm) (by omega) (by omega)).mpr h9_)
      refine lv_aload_n hx hb dX10_faultOfMap_74 rfl (lv_at hl 1 rfl) ?_
      refine va_get (D := G.1) (ci := 6) (v := .int (nI pm)) (C := RX10) (T := TX10) (N := 28) hx hb hts (fun _ h => List.mem_cons_of_mem _ (List.mem_append_right _ h)) hown E.K hP 0 rfl rfl 8 (by decide) (hts (.fieldLink RX10 103 "LastMapModel" "padMany" "I") (by decide +kernel)) (fun _ h9 => h9) rfl dX10_faultOfMap_75 ?_
      refine lv_goto (tgt := 83) hx hb dX10_faultOfMap_78 (by decide) ?_
      have hP9 := (hP.sub (ws' := [(h1, .inr (6, [.int (nI k), v_maps, v_told, v_kinds, v_land, v_spades, v_part, .ref a_pad, .int (nI pm), v_slips, v_slipMany, v_made, v_queue, v_depth, v_by, v_from, v_come, v_offOf, v_parent, v_best, v_trees, v_least, v_sums, v_toward, v_kept, v_isKept, v_keptAt, v_isWriting])), (a_pad, .inl (gI G, 40, .inl fd))]) [0, 1] rfl)
      have hD9 := (hD.sub (ws' := [(h1, .inr (6, [.int (nI k), v_maps, v_told, v_kinds, v_land, v_spades, v_part, .ref a_pad, .int (nI pm), v_slips, v_slipMany, v_made, v_queue, v_depth, v_by, v_from, v_come, v_offOf, v_parent, v_best, v_trees, v_least, v_sums, v_toward, v_kept, v_isKept, v_keptAt, v_isWriting])), (a_pad, .inl (gI G, 40, .inl fd))]) [0, 1] (by decide) rfl)
      exact W.iret (v := (nI pm)) hx hb hr (fun t9_ ht9_ hW9_ => ⟨⟨nI pm, (), rfl, by rw [hfm, show pm - x = 0 by omega]; exact (pIf_t (by omega)).symm, by rw [ht9_]; exact hP9, hD9⟩, hS.F ht9_⟩) hS.2.2 dX10_faultOfMap_83
  · have c1 : ¬ pm ≤ x := fun h9_ => c1 ((nI_leI (a := pm) (b := x) (by omega) (by omega)).mpr h9_)
    refine lv_aload_n hx hb dX10_faultOfMap_10 rfl (lv_at hl 1 rfl) ?_
    refine va_get (D := G.1) (ci := 6) (v := .ref a_pad) (C := RX10) (T := TX10) (N := 28) hx hb hts (fun _ h => List.mem_cons_of_mem _ (List.mem_append_right _ h)) hown E.K hP 0 rfl rfl 7 (by decide) (hts (.fieldLink RX10 19 "LastMapModel" "pad" "[I") (by decide +kernel)) (fun _ h9 => h9) rfl dX10_faultOfMap_11 ?_
    refine lv_iload_n hx hb dX10_faultOfMap_14 rfl (lv_at hl 0 rfl) ?_
    refine va_iald hx hb E.K hP 1 1 rfl rfl (i := nI x) (vp_in_nI (by omega) (by decide)) dX10_faultOfMap_15 ?_
    refine lv_topi (fun x3 ex3 => ?_)
    refine ca_iR (va_runS (As := [.int x3]) (rest := []) ⟨hx, hb, hml, hown, hts⟩ (m_signOf l G H.size x3) (va_cwS 1 hts gX10_faultOfMap_X10_signOf rfl rfl rfl (by decide +kernel) ⟨by decide +kernel, by decide +kernel⟩) (pre_S E hP hD hS hA [] (by decide) rfl) rfl rfl hl.1 rfl (lv_room (Nat.le_of_ble_eq_true rfl)) dX10_faultOfMap_16 ⟨by decide +kernel, by decide +kernel⟩) hS hP hD hA [] rfl (fun r5 _ H locs w4 hP hS => ?_)
    refine lv_if_ge (tgt := 37) hx hb dX10_faultOfMap_19 (by decide) (fun c6 => ?_) (fun c6 => ?_)
    · have hcan : canM (¬ p0 = 0) (fd x) := Or.inl (by have q := c6; rw [w4, ex3, nI_clamp (by omega)] at q; exact q)
      refine lv_iconst (v := 1) hx hb dX10_faultOfMap_37 (by decide) ?_
      refine lv_goto (tgt := 42) hx hb dX10_faultOfMap_38 (by decide) ?_
      refine lv_istore_n (lv' := [(3, .int 1), (2, .int (nI x)), (0, .ref h1), (1, .int p0)]) hx hb dX10_faultOfMap_42 rfl hl (by decide) rfl (fun ls hl => ?_)
      refine lv_iload_n hx hb dX10_faultOfMap_43 rfl (lv_at hl 1 rfl) ?_
      refine lv_aload_n hx hb dX10_faultOfMap_44 rfl (lv_at hl 2 rfl) ?_
      refine va_get (D := G.1) (ci := 6) (v := .int (nI k)) (C := RX10) (T := TX10) (N := 28) hx hb hts (fun _ h => List.mem_cons_of_mem _ (List.mem_append_right _ h)) hown E.K hP 0 rfl rfl 0 (by decide) (hts (.fieldLink RX10 67 "LastMapModel" "sites" "I") (by decide +kernel)) (fun _ h9 => h9) rfl dX10_faultOfMap_45 ?_
      refine lv_icmp_eq (tgt := 55) hx hb dX10_faultOfMap_48 (by decide) (fun c7 => ?_) (fun c7 => ?_)
      · have c7 : x = k := (nI_eq (a := x) (b := k) (by omega) (by omega)).mp c7
        refine lv_iload_n hx hb dX10_faultOfMap_55 rfl (lv_at hl 1 rfl) ?_
        have hP9 := (hP.sub (ws' := [(h1, .inr (6, [.int (nI k), v_maps, v_told, v_kinds, v_land, v_spades, v_part, .ref a_pad, .int (nI pm), v_slips, v_slipMany, v_made, v_queue, v_depth, v_by, v_from, v_come, v_offOf, v_parent, v_best, v_trees, v_least, v_sums, v_toward, v_kept, v_isKept, v_keptAt, v_isWriting])), (a_pad, .inl (gI G, 40, .inl fd))]) [0, 1] rfl)
        have hD9 := (hD.sub (ws' := [(h1, .inr (6, [.int (nI k), v_maps, v_told, v_kinds, v_land, v_spades, v_part, .ref a_pad, .int (nI pm), v_slips, v_slipMany, v_made, v_queue, v_depth, v_by, v_from, v_come, v_offOf, v_parent, v_best, v_trees, v_least, v_sums, v_toward, v_kept, v_isKept, v_keptAt, v_isWriting])), (a_pad, .inl (gI G, 40, .inl fd))]) [0, 1] (by decide) rfl)
        exact W.iret (v := (nI x)) hx hb hr (fun t9_ ht9_ hW9_ => ⟨⟨nI x, (), rfl, by rw [hfm, show pm - x = (pm - (x + 1)) + 1 by omega]; exact (fmF_stop (by first | exact Or.inl (by omega) | exact Or.inr hcan)).symm, by rw [ht9_]; exact hP9, hD9⟩, hS.F ht9_⟩) hS.2.2 dX10_faultOfMap_56
      · have c7 : ¬ x = k := fun h9_ => c7 ((nI_eq (a := x) (b := k) (by omega) (by omega)).mpr h9_)
        refine lv_iload_n hx hb dX10_faultOfMap_51 rfl (lv_at hl 0 rfl) ?_
        refine lv_if_ne (tgt := 57) hx hb dX10_faultOfMap_52 (by decide) (fun _ => ?_) (fun c8 => False.elim (by revert c8; decide))
        obtain ⟨x9, ex9⟩ : ∃ yy_ : Int32, yy_ = (nI x) + 1 := ⟨_, rfl⟩
        refine lv_iinc (v := x9) (lv' := [(2, .int x9), (3, .int 1), (0, .ref h1), (1, .int p0)]) hx hb dX10_faultOfMap_57 hl (k := 1) rfl (by rw [ex9]; rfl) (by decide) rfl (fun ls hl => ?_)
        obtain rfl : x9 = nI (x + 1) := by rw [ex9]; exact nI_add x 1
        refine lv_goto (tgt := 2) hx hb dX10_faultOfMap_60 (by decide) ?_
        refine ih2 (x + 1) ⟨?_, ?_, ?_⟩ (by first | omega | (dsimp only; omega)) H locs ls (hP.sub [0, 1] rfl) (hD.sub [0, 1] (by decide) rfl) hS (lv_sub hl [0, 2, 3] rfl)
        · try dsimp only
          omega
        · try dsimp only
          rw [hfm, show pm - x = (pm - (x + 1)) + 1 by omega, fmF_go (by omega) hcan]
        · try dsimp only
          omega
    · refine lv_iload_n hx hb dX10_faultOfMap_22 rfl (lv_at hl 2 rfl) ?_
      refine lv_if_eq (tgt := 41) hx hb dX10_faultOfMap_23 (by decide) (fun c10 => ?_) (fun c10 => ?_)
      · have hcan : ¬ canM (¬ p0 = 0) (fd x) := fun q9 => q9.elim (fun q8 => c6 (by rw [w4, ex3, nI_clamp (by omega)]; exact q8)) (fun q8 => absurd c10 q8.1)
        refine lv_iconst (v := 0) hx hb dX10_faultOfMap_41 (by decide) ?_
        refine lv_istore_n (lv' := [(3, .int 0), (2, .int (nI x)), (0, .ref h1), (1, .int p0)]) hx hb dX10_faultOfMap_42 rfl hl (by decide) rfl (fun ls hl => ?_)
        refine lv_iload_n hx hb dX10_faultOfMap_43 rfl (lv_at hl 1 rfl) ?_
        refine lv_aload_n hx hb dX10_faultOfMap_44 rfl (lv_at hl 2 rfl) ?_
        refine va_get (D := G.1) (ci := 6) (v := .int (nI k)) (C := RX10) (T := TX10) (N := 28) hx hb hts (fun _ h => List.mem_cons_of_mem _ (List.mem_append_right _ h)) hown E.K hP 0 rfl rfl 0 (by decide) (hts (.fieldLink RX10 67 "LastMapModel" "sites" "I") (by decide +kernel)) (fun _ h9 => h9) rfl dX10_faultOfMap_45 ?_
        refine lv_icmp_eq (tgt := 55) hx hb dX10_faultOfMap_48 (by decide) (fun c11 => ?_) (fun c11 => ?_)
        · have c11 : x = k := (nI_eq (a := x) (b := k) (by omega) (by omega)).mp c11
          refine lv_iload_n hx hb dX10_faultOfMap_55 rfl (lv_at hl 1 rfl) ?_
          have hP9 := (hP.sub (ws' := [(h1, .inr (6, [.int (nI k), v_maps, v_told, v_kinds, v_land, v_spades, v_part, .ref a_pad, .int (nI pm), v_slips, v_slipMany, v_made, v_queue, v_depth, v_by, v_from, v_come, v_offOf, v_parent, v_best, v_trees, v_least, v_sums, v_toward, v_kept, v_isKept, v_keptAt, v_isWriting])), (a_pad, .inl (gI G, 40, .inl fd))]) [0, 1] rfl)
          have hD9 := (hD.sub (ws' := [(h1, .inr (6, [.int (nI k), v_maps, v_told, v_kinds, v_land, v_spades, v_part, .ref a_pad, .int (nI pm), v_slips, v_slipMany, v_made, v_queue, v_depth, v_by, v_from, v_come, v_offOf, v_parent, v_best, v_trees, v_least, v_sums, v_toward, v_kept, v_isKept, v_keptAt, v_isWriting])), (a_pad, .inl (gI G, 40, .inl fd))]) [0, 1] (by decide) rfl)
          exact W.iret (v := (nI x)) hx hb hr (fun t9_ ht9_ hW9_ => ⟨⟨nI x, (), rfl, by rw [hfm, show pm - x = (pm - (x + 1)) + 1 by omega]; exact (fmF_stop (by first | exact Or.inl (by omega) | exact Or.inr hcan)).symm, by rw [ht9_]; exact hP9, hD9⟩, hS.F ht9_⟩) hS.2.2 dX10_faultOfMap_56
        · have c11 : ¬ x = k := fun h9_ => c11 ((nI_eq (a := x) (b := k) (by omega) (by omega)).mpr h9_)
          refine lv_iload_n hx hb dX10_faultOfMap_51 rfl (lv_at hl 0 rfl) ?_
          refine lv_if_ne (tgt := 57) hx hb dX10_faultOfMap_52 (by decide) (fun c12 => False.elim (by revert c12; decide)) (fun _ => ?_)
          refine lv_iload_n hx hb dX10_faultOfMap_55 rfl (lv_at hl 1 rfl) ?_
          have hP9 := (hP.sub (ws' := [(h1, .inr (6, [.int (nI k), v_maps, v_told, v_kinds, v_land, v_spades, v_part, .ref a_pad, .int (nI pm), v_slips, v_slipMany, v_made, v_queue, v_depth, v_by, v_from, v_come, v_offOf, v_parent, v_best, v_trees, v_least, v_sums, v_toward, v_kept, v_isKept, v_keptAt, v_isWriting])), (a_pad, .inl (gI G, 40, .inl fd))]) [0, 1] rfl)
          have hD9 := (hD.sub (ws' := [(h1, .inr (6, [.int (nI k), v_maps, v_told, v_kinds, v_land, v_spades, v_part, .ref a_pad, .int (nI pm), v_slips, v_slipMany, v_made, v_queue, v_depth, v_by, v_from, v_come, v_offOf, v_parent, v_best, v_trees, v_least, v_sums, v_toward, v_kept, v_isKept, v_keptAt, v_isWriting])), (a_pad, .inl (gI G, 40, .inl fd))]) [0, 1] (by decide) rfl)
          exact W.iret (v := (nI x)) hx hb hr (fun t9_ ht9_ hW9_ => ⟨⟨nI x, (), rfl, by rw [hfm, show pm - x = (pm - (x + 1)) + 1 by omega]; exact (fmF_stop (by first | exact Or.inl (by omega) | exact Or.inr hcan)).symm, by rw [ht9_]; exact hP9, hD9⟩, hS.F ht9_⟩) hS.2.2 dX10_faultOfMap_56
      · refine lv_aload_n hx hb dX10_faultOfMap_26 rfl (lv_at hl 1 rfl) ?_
        refine va_get (D := G.1) (ci := 6) (v := .ref a_pad) (C := RX10) (T := TX10) (N := 28) hx hb hts (fun _ h => List.mem_cons_of_mem _ (List.mem_append_right _ h)) hown E.K hP 0 rfl rfl 7 (by decide) (hts (.fieldLink RX10 19 "LastMapModel" "pad" "[I") (by decide +kernel)) (fun _ h9 => h9) rfl dX10_faultOfMap_27 ?_
        refine lv_iload_n hx hb dX10_faultOfMap_30 rfl (lv_at hl 0 rfl) ?_
        refine va_iald hx hb E.K hP 1 1 rfl rfl (i := nI x) (vp_in_nI (by omega) (by decide)) dX10_faultOfMap_31 ?_
        refine lv_topi (fun x13 ex13 => ?_)
        refine lv_bipush (v := 63) hx hb dX10_faultOfMap_32 (by decide) ?_
        refine lv_icmp_ne (tgt := 41) hx hb dX10_faultOfMap_34 (by decide) (fun c14 => ?_) (fun c14 => ?_)
        · have hcan : ¬ canM (¬ p0 = 0) (fd x) := fun q9 => q9.elim (fun q8 => c6 (by rw [w4, ex3, nI_clamp (by omega)]; exact q8)) (fun q8 => c14 (by rw [ex13, nI_clamp (by omega)]; exact q8.2))
          refine lv_iconst (v := 0) hx hb dX10_faultOfMap_41 (by decide) ?_
          refine lv_istore_n (lv' := [(3, .int 0), (2, .int (nI x)), (0, .ref h1), (1, .int p0)]) hx hb dX10_faultOfMap_42 rfl hl (by decide) rfl (fun ls hl => ?_)
          refine lv_iload_n hx hb dX10_faultOfMap_43 rfl (lv_at hl 1 rfl) ?_
          refine lv_aload_n hx hb dX10_faultOfMap_44 rfl (lv_at hl 2 rfl) ?_
          refine va_get (D := G.1) (ci := 6) (v := .int (nI k)) (C := RX10) (T := TX10) (N := 28) hx hb hts (fun _ h => List.mem_cons_of_mem _ (List.mem_append_right _ h)) hown E.K hP 0 rfl rfl 0 (by decide) (hts (.fieldLink RX10 67 "LastMapModel" "sites" "I") (by decide +kernel)) (fun _ h9 => h9) rfl dX10_faultOfMap_45 ?_
          refine lv_icmp_eq (tgt := 55) hx hb dX10_faultOfMap_48 (by decide) (fun c15 => ?_) (fun c15 => ?_)
          · have c15 : x = k := (nI_eq (a := x) (b := k) (by omega) (by omega)).mp c15
            refine lv_iload_n hx hb dX10_faultOfMap_55 rfl (lv_at hl 1 rfl) ?_
            have hP9 := (hP.sub (ws' := [(h1, .inr (6, [.int (nI k), v_maps, v_told, v_kinds, v_land, v_spades, v_part, .ref a_pad, .int (nI pm), v_slips, v_slipMany, v_made, v_queue, v_depth, v_by, v_from, v_come, v_offOf, v_parent, v_best, v_trees, v_least, v_sums, v_toward, v_kept, v_isKept, v_keptAt, v_isWriting])), (a_pad, .inl (gI G, 40, .inl fd))]) [0, 1] rfl)
            have hD9 := (hD.sub (ws' := [(h1, .inr (6, [.int (nI k), v_maps, v_told, v_kinds, v_land, v_spades, v_part, .ref a_pad, .int (nI pm), v_slips, v_slipMany, v_made, v_queue, v_depth, v_by, v_from, v_come, v_offOf, v_parent, v_best, v_trees, v_least, v_sums, v_toward, v_kept, v_isKept, v_keptAt, v_isWriting])), (a_pad, .inl (gI G, 40, .inl fd))]) [0, 1] (by decide) rfl)
            exact W.iret (v := (nI x)) hx hb hr (fun t9_ ht9_ hW9_ => ⟨⟨nI x, (), rfl, by rw [hfm, show pm - x = (pm - (x + 1)) + 1 by omega]; exact (fmF_stop (by first | exact Or.inl (by omega) | exact Or.inr hcan)).symm, by rw [ht9_]; exact hP9, hD9⟩, hS.F ht9_⟩) hS.2.2 dX10_faultOfMap_56
          · have c15 : ¬ x = k := fun h9_ => c15 ((nI_eq (a := x) (b := k) (by omega) (by omega)).mpr h9_)
            refine lv_iload_n hx hb dX10_faultOfMap_51 rfl (lv_at hl 0 rfl) ?_
            refine lv_if_ne (tgt := 57) hx hb dX10_faultOfMap_52 (by decide) (fun c16 => False.elim (by revert c16; decide)) (fun _ => ?_)
            refine lv_iload_n hx hb dX10_faultOfMap_55 rfl (lv_at hl 1 rfl) ?_
            have hP9 := (hP.sub (ws' := [(h1, .inr (6, [.int (nI k), v_maps, v_told, v_kinds, v_land, v_spades, v_part, .ref a_pad, .int (nI pm), v_slips, v_slipMany, v_made, v_queue, v_depth, v_by, v_from, v_come, v_offOf, v_parent, v_best, v_trees, v_least, v_sums, v_toward, v_kept, v_isKept, v_keptAt, v_isWriting])), (a_pad, .inl (gI G, 40, .inl fd))]) [0, 1] rfl)
            have hD9 := (hD.sub (ws' := [(h1, .inr (6, [.int (nI k), v_maps, v_told, v_kinds, v_land, v_spades, v_part, .ref a_pad, .int (nI pm), v_slips, v_slipMany, v_made, v_queue, v_depth, v_by, v_from, v_come, v_offOf, v_parent, v_best, v_trees, v_least, v_sums, v_toward, v_kept, v_isKept, v_keptAt, v_isWriting])), (a_pad, .inl (gI G, 40, .inl fd))]) [0, 1] (by decide) rfl)
            exact W.iret (v := (nI x)) hx hb hr (fun t9_ ht9_ hW9_ => ⟨⟨nI x, (), rfl, by rw [hfm, show pm - x = (pm - (x + 1)) + 1 by omega]; exact (fmF_stop (by first | exact Or.inl (by omega) | exact Or.inr hcan)).symm, by rw [ht9_]; exact hP9, hD9⟩, hS.F ht9_⟩) hS.2.2 dX10_faultOfMap_56
        · have hcan : canM (¬ p0 = 0) (fd x) := Or.inr ⟨c10, by have q := c14; rw [ex13, nI_clamp (by omega)] at q; exact q⟩
          refine lv_iconst (v := 1) hx hb dX10_faultOfMap_37 (by decide) ?_
          refine lv_goto (tgt := 42) hx hb dX10_faultOfMap_38 (by decide) ?_
          refine lv_istore_n (lv' := [(3, .int 1), (2, .int (nI x)), (0, .ref h1), (1, .int p0)]) hx hb dX10_faultOfMap_42 rfl hl (by decide) rfl (fun ls hl => ?_)
          refine lv_iload_n hx hb dX10_faultOfMap_43 rfl (lv_at hl 1 rfl) ?_
          refine lv_aload_n hx hb dX10_faultOfMap_44 rfl (lv_at hl 2 rfl) ?_
          refine va_get (D := G.1) (ci := 6) (v := .int (nI k)) (C := RX10) (T := TX10) (N := 28) hx hb hts (fun _ h => List.mem_cons_of_mem _ (List.mem_append_right _ h)) hown E.K hP 0 rfl rfl 0 (by decide) (hts (.fieldLink RX10 67 "LastMapModel" "sites" "I") (by decide +kernel)) (fun _ h9 => h9) rfl dX10_faultOfMap_45 ?_
          refine lv_icmp_eq (tgt := 55) hx hb dX10_faultOfMap_48 (by decide) (fun c17 => ?_) (fun c17 => ?_)
          · have c17 : x = k := (nI_eq (a := x) (b := k) (by omega) (by omega)).mp c17
            refine lv_iload_n hx hb dX10_faultOfMap_55 rfl (lv_at hl 1 rfl) ?_
            have hP9 := (hP.sub (ws' := [(h1, .inr (6, [.int (nI k), v_maps, v_told, v_kinds, v_land, v_spades, v_part, .ref a_pad, .int (nI pm), v_slips, v_slipMany, v_made, v_queue, v_depth, v_by, v_from, v_come, v_offOf, v_parent, v_best, v_trees, v_least, v_sums, v_toward, v_kept, v_isKept, v_keptAt, v_isWriting])), (a_pad, .inl (gI G, 40, .inl fd))]) [0, 1] rfl)
            have hD9 := (hD.sub (ws' := [(h1, .inr (6, [.int (nI k), v_maps, v_told, v_kinds, v_land, v_spades, v_part, .ref a_pad, .int (nI pm), v_slips, v_slipMany, v_made, v_queue, v_depth, v_by, v_from, v_come, v_offOf, v_parent, v_best, v_trees, v_least, v_sums, v_toward, v_kept, v_isKept, v_keptAt, v_isWriting])), (a_pad, .inl (gI G, 40, .inl fd))]) [0, 1] (by decide) rfl)
            exact W.iret (v := (nI x)) hx hb hr (fun t9_ ht9_ hW9_ => ⟨⟨nI x, (), rfl, by rw [hfm, show pm - x = (pm - (x + 1)) + 1 by omega]; exact (fmF_stop (by first | exact Or.inl (by omega) | exact Or.inr hcan)).symm, by rw [ht9_]; exact hP9, hD9⟩, hS.F ht9_⟩) hS.2.2 dX10_faultOfMap_56
          · have c17 : ¬ x = k := fun h9_ => c17 ((nI_eq (a := x) (b := k) (by omega) (by omega)).mpr h9_)
            refine lv_iload_n hx hb dX10_faultOfMap_51 rfl (lv_at hl 0 rfl) ?_
            refine lv_if_ne (tgt := 57) hx hb dX10_faultOfMap_52 (by decide) (fun _ => ?_) (fun c18 => False.elim (by revert c18; decide))
            obtain ⟨x19, ex19⟩ : ∃ yy_ : Int32, yy_ = (nI x) + 1 := ⟨_, rfl⟩
            refine lv_iinc (v := x19) (lv' := [(2, .int x19), (3, .int 1), (0, .ref h1), (1, .int p0)]) hx hb dX10_faultOfMap_57 hl (k := 1) rfl (by rw [ex19]; rfl) (by decide) rfl (fun ls hl => ?_)
            obtain rfl : x19 = nI (x + 1) := by rw [ex19]; exact nI_add x 1
            refine lv_goto (tgt := 2) hx hb dX10_faultOfMap_60 (by decide) ?_
            refine ih2 (x + 1) ⟨?_, ?_, ?_⟩ (by first | omega | (dsimp only; omega)) H locs ls (hP.sub [0, 1] rfl) (hD.sub [0, 1] (by decide) rfl) hS (lv_sub hl [0, 2, 3] rfl)
            · try dsimp only
              omega
            · try dsimp only
              rw [hfm, show pm - x = (pm - (x + 1)) + 1 by omega, fmF_go (by omega) hcan]
            · try dsimp only
              omega
