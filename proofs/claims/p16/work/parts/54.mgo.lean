theorem slv_facts {k t : Nat} (hk : k ≤ 6) (h : t < manyS k) : slv k t < 400 ∧ slv k t / 100 = (mvAt k t).1 := by
  have h1 := mvAt_ok h
  unfold okV at h1
  unfold slv
  omega
theorem many40 {k : Nat} (hk : k ≤ 6) : manyS k ≤ 40 := by unfold manyS; omega
set_option maxHeartbeats 1000000 in
set_option maxRecDepth 100000 in
theorem m_goFrom (l : Launch) (G : Gy) (sz : Nat) (h1 : Nat) (v_maps : Value) (v_told : Value) (v_kinds : Value) (v_land : Value) (v_spades : Value) (v_pad : Value) (v_padMany : Value) (v_slips : Value) (v_slipMany : Value) (v_made : Value) (v_offOf : Value) (v_parent : Value) (v_best : Value) (v_trees : Value) (v_least : Value) (v_sums : Value) (v_toward : Value) (v_kept : Value) (v_isKept : Value) (v_keptAt : Value) (v_isWriting : Value) (a_part : Nat) (fp : Nat → Int32) (a_queue : Nat) (a_depth : Nat) (a_by : Nat) (a_from : Nat) (fq : Nat → Int32) (fd : Nat → Int32) (fb : Nat → Int32) (fr : Nat → Int32) (k : Nat) (a : Nat) (cm0 : Int32) (p1 : Int32) (hk2 : 2 ≤ k) (hk6 : k ≤ 6) (hp : pOK k fp) (ha : a < 5 ^ k) : Cv l G yX10_goFrom wsX10_goFrom ({ frames := 3, cells := 0, slots := 0, locals := 69 }) [.ref h1, .int (nI a), .int p1] ([(h1, .inr (6, [.int (nI k), v_maps, v_told, v_kinds, v_land, v_spades, .ref a_part, v_pad, v_padMany, v_slips, v_slipMany, v_made, .ref a_queue, .ref a_depth, .ref a_by, .ref a_from, .int cm0, v_offOf, v_parent, v_best, v_trees, v_least, v_sums, v_toward, v_kept, v_isKept, v_keptAt, v_isWriting])), (a_part, .inl (gI G, 6, .inl fp)), (a_queue, .inl (gI G, 15625, .inl fq)), (a_depth, .inl (gI G, 15625, .inl fd)), (a_by, .inl (gI G, 15625, .inl fb)), (a_from, .inl (gI G, 15625, .inl fr))]) sz (fun (u : Nat × (Nat → Int32) × (Nat → Int32) × (Nat → Int32) × (Nat → Int32)) => match u with | (cm1, gq, gd, gb, gr) => dOK (5 ^ k) cm1 gd gr gq) (fun (u : Nat × (Nat → Int32) × (Nat → Int32) × (Nat → Int32) × (Nat → Int32)) => match u with | (cm1, gq, gd, gb, gr) => [(h1, .inr (6, [.int (nI k), v_maps, v_told, v_kinds, v_land, v_spades, .ref a_part, v_pad, v_padMany, v_slips, v_slipMany, v_made, .ref a_queue, .ref a_depth, .ref a_by, .ref a_from, .int (nI cm1), v_offOf, v_parent, v_best, v_trees, v_least, v_sums, v_toward, v_kept, v_isKept, v_keptAt, v_isWriting])), (a_part, .inl (gI G, 6, .inl fp)), (a_queue, .inl (gI G, 15625, .inl gq)), (a_depth, .inl (gI G, 15625, .inl gd)), (a_by, .inl (gI G, 15625, .inl gb)), (a_from, .inl (gI G, 15625, .inl gr))]) 0 0 := by
  refine Met.ofW (cc := cX10_goFrom) (maxL := 10) (ret := none) (by decide) rfl ?_
  intro p e s m args below meth c s₁ B hml hv
  obtain ⟨rfl, hsz, hP, hD0, E0⟩ := hv
  have hx := B.exec
  have hb := B.bytes
  have hr := B.returns
  have hts := atoms_spec (ws := wsX10_goFrom) B.pre
  have hown : s.vm.findClass RX10 = some m.cls := findClass_of_methodNamed B.named
  have hlocks := B.notSynchronized
  subst hsz
  have hD := hD0.self (sz := s.heap.size)
  generalize hAe : va_A ([(h1, .inr (6, [.int (nI k), v_maps, v_told, v_kinds, v_land, v_spades, .ref a_part, v_pad, v_padMany, v_slips, v_slipMany, v_made, .ref a_queue, .ref a_depth, .ref a_by, .ref a_from, .int cm0, v_offOf, v_parent, v_best, v_trees, v_least, v_sums, v_toward, v_kept, v_isKept, v_keptAt, v_isWriting])), (a_part, .inl (gI G, 6, .inl fp)), (a_queue, .inl (gI G, 15625, .inl fq)), (a_depth, .inl (gI G, 15625, .inl fd)), (a_by, .inl (gI G, 15625, .inl fb)), (a_from, .inl (gI G, 15625, .inl fr))]) s.heap.size = A at hD E0 ⊢
  have E : EV G A s s.heap := E0
  have hA : ∀ q : Nat, s.heap.size ≤ q → A q := fun q h => by rw [← hAe]; exact Or.inr h
  have hS : va_S A s.heap s.heap [] := va_S.rf
  have hl := lv_entry ([.ref h1, .int (nI a), .int p1]) (n := 10) (Nat.le_of_ble_eq_true rfl)
  rw [lg_entry_eq]
  generalize (lg_sl ([.ref h1, .int (nI a), .int p1]) ++ List.replicate (10 - (lg_sl ([.ref h1, .int (nI a), .int p1])).length) Slot.unset).toArray = ls at hl ⊢
  have hl : lv_has ls 10 [(0, .ref h1), (1, .int (nI a)), (2, .int p1)] := hl
  have hP : va_P G.1 vwCl ([(h1, .inr (6, [.int (nI k), v_maps, v_told, v_kinds, v_land, v_spades, .ref a_part, v_pad, v_padMany, v_slips, v_slipMany, v_made, .ref a_queue, .ref a_depth, .ref a_by, .ref a_from, .int cm0, v_offOf, v_parent, v_best, v_trees, v_least, v_sums, v_toward, v_kept, v_isKept, v_keptAt, v_isWriting])), (a_part, .inl (gI G, 6, .inl fp)), (a_queue, .inl (gI G, 15625, .inl fq)), (a_depth, .inl (gI G, 15625, .inl fd)), (a_by, .inl (gI G, 15625, .inl fb)), (a_from, .inl (gI G, 15625, .inl fr))]) s.heap := hP
  have hal := p5le hk6
  have hmk := many40 hk6
  have hal1 := p5pos k
  refine lv_aload_n hx hb dX10_goFrom_0 rfl (lv_at hl 0 rfl) ?_
  refine ca_iR (va_runV (As := []) (rest := []) ⟨hx, hb, hml, hown, hts⟩ (m_all l G s.heap.size h1 (.int (nI k)) v_maps v_told v_kinds v_land v_spades v_pad v_padMany v_slips v_slipMany v_made (.ref a_queue) (.ref a_depth) (.ref a_by) (.ref a_from) (.int cm0) v_offOf v_parent v_best v_trees v_least v_sums v_toward v_kept v_isKept v_keptAt v_isWriting a_part fp k hk2 hp) (cwV 0 hts gX10_goFrom_X10_all rfl rfl rfl (by decide +kernel) ⟨by decide +kernel, by decide +kernel⟩) (pre_V E hP hD hS hA [0, 1] (by decide) rfl 0 6 rfl rfl) rfl rfl hl.1 rfl (lv_room (Nat.le_of_ble_eq_true rfl)) dX10_goFrom_1 ⟨by decide +kernel, by decide +kernel⟩) hS hP hD hA [0, 1] rfl (fun r2 _ H locs w1 hP hS => ?_)
  rw [w1]
  refine lv_istore_n (lv' := [(3, .int (nI (5 ^ k))), (0, .ref h1), (1, .int (nI a)), (2, .int p1)]) hx hb dX10_goFrom_4 rfl hl (by decide) rfl (fun ls hl => ?_)
  refine lv_iconst (v := 0) hx hb dX10_goFrom_5 (by decide) ?_
  refine lv_istore (lv' := [(4, .int 0), (3, .int (nI (5 ^ k))), (0, .ref h1), (1, .int (nI a)), (2, .int p1)]) hx hb dX10_goFrom_6 hl (by decide) rfl (fun ls hl => ?_)
  refine lp_run (x0 := (0, fd)) (fun xx_ : Nat × (Nat → Int32) => match xx_ with | (x, f) => [(h1, .inr (6, [.int (nI k), v_maps, v_told, v_kinds, v_land, v_spades, .ref a_part, v_pad, v_padMany, v_slips, v_slipMany, v_made, .ref a_queue, .ref a_depth, .ref a_by, .ref a_from, .int cm0, v_offOf, v_parent, v_best, v_trees, v_least, v_sums, v_toward, v_kept, v_isKept, v_keptAt, v_isWriting])), (a_part, .inl (gI G, 6, .inl fp)), (a_queue, .inl (gI G, 15625, .inl fq)), (a_depth, .inl (gI G, 15625, .inl f)), (a_by, .inl (gI G, 15625, .inl fb)), (a_from, .inl (gI G, 15625, .inl fr))]) (fun xx_ : Nat × (Nat → Int32) => match xx_ with | (x, f) => [(4, .int (nI x)), (3, .int (nI (5 ^ k))), (0, .ref h1), (1, .int (nI a)), (2, .int p1)]) (fun xx_ : Nat × (Nat → Int32) => match xx_ with | (x, f) => (x ≤ 5 ^ k) ∧ (∀ j : Nat, j < x → f j = (-6))) (fun xx_ : Nat × (Nat → Int32) => match xx_ with | (x, f) => (5 ^ k) - x) (hP.sub [0, 1, 2, 3, 4, 5] rfl) (hD.sub [0, 1, 2, 3, 4, 5] (by decide) rfl) hS (lv_sub hl [0, 1, 2, 3, 4] rfl) ⟨(by omega), by intro j hj; omega⟩ ?_
  intro xx_ hI ih8 H locs ls hP hD hS hl
  obtain ⟨x, f⟩ := xx_
  dsimp only at hI ih8 hP hD hl
  obtain ⟨hx0, hf⟩ := hI
  have hl : lv_has ls 10 [(4, .int (nI x)), (3, .int (nI (5 ^ k))), (0, .ref h1), (1, .int (nI a)), (2, .int p1)] := hl
  have hP : va_P G.1 vwCl ([(h1, .inr (6, [.int (nI k), v_maps, v_told, v_kinds, v_land, v_spades, .ref a_part, v_pad, v_padMany, v_slips, v_slipMany, v_made, .ref a_queue, .ref a_depth, .ref a_by, .ref a_from, .int cm0, v_offOf, v_parent, v_best, v_trees, v_least, v_sums, v_toward, v_kept, v_isKept, v_keptAt, v_isWriting])), (a_part, .inl (gI G, 6, .inl fp)), (a_queue, .inl (gI G, 15625, .inl fq)), (a_depth, .inl (gI G, 15625, .inl f)), (a_by, .inl (gI G, 15625, .inl fb)), (a_from, .inl (gI G, 15625, .inl fr))]) H := hP
  have hD : va_D A ([(h1, .inr (6, [.int (nI k), v_maps, v_told, v_kinds, v_land, v_spades, .ref a_part, v_pad, v_padMany, v_slips, v_slipMany, v_made, .ref a_queue, .ref a_depth, .ref a_by, .ref a_from, .int cm0, v_offOf, v_parent, v_best, v_trees, v_least, v_sums, v_toward, v_kept, v_isKept, v_keptAt, v_isWriting])), (a_part, .inl (gI G, 6, .inl fp)), (a_queue, .inl (gI G, 15625, .inl fq)), (a_depth, .inl (gI G, 15625, .inl f)), (a_by, .inl (gI G, 15625, .inl fb)), (a_from, .inl (gI G, 15625, .inl fr))]) := hD
  refine lv_iload hx hb dX10_goFrom_8 (lv_at hl 0 rfl) ?_
  refine lv_iload_n hx hb dX10_goFrom_10 rfl (lv_at hl 1 rfl) ?_
  refine lv_icmp_ge (tgt := 29) hx hb dX10_goFrom_11 (by decide) (fun c3 => ?_) (fun c3 => ?_)
  · have c3 : (5 ^ k) ≤ x := (nI_leI (a := (5 ^ k)) (b := x) (by omega) (by omega)).mp c3
    refine lv_aload_n hx hb dX10_goFrom_29 rfl (lv_at hl 2 rfl) ?_
    refine va_get (D := G.1) (ci := 6) (v := .ref a_depth) (C := RX10) (T := TX10) (N := 28) hx hb hts (fun _ h => List.mem_cons_of_mem _ (List.mem_append_right _ h)) hown E.K hP 0 rfl rfl 13 (by decide) (hts (.fieldLink RX10 28 "LastMapModel" "depth" "[I") (by decide +kernel)) (fun _ h9 => h9) rfl dX10_goFrom_30 ?_
    refine lv_iload_n hx hb dX10_goFrom_33 rfl (lv_at hl 3 rfl) ?_
    refine lv_iconst (v := 0) hx hb dX10_goFrom_34 (by decide) ?_
    refine va_iast hx hb E.K hP hD hS 3 1 rfl rfl (i := nI a) (vp_in_nI (by omega) (by decide)) dX10_goFrom_35 (fun H locs hP hD hS => ?_)
    obtain ⟨f4, ef4⟩ : ∃ yy_ : Nat → Int32, yy_ = upd f (nI a).toNatClampNeg 0 := ⟨_, rfl⟩
    have hP : va_P G.1 vwCl ([(h1, .inr (6, [.int (nI k), v_maps, v_told, v_kinds, v_land, v_spades, .ref a_part, v_pad, v_padMany, v_slips, v_slipMany, v_made, .ref a_queue, .ref a_depth, .ref a_by, .ref a_from, .int cm0, v_offOf, v_parent, v_best, v_trees, v_least, v_sums, v_toward, v_kept, v_isKept, v_keptAt, v_isWriting])), (a_part, .inl (gI G, 6, .inl fp)), (a_queue, .inl (gI G, 15625, .inl fq)), (a_depth, .inl (gI G, 15625, .inl f4)), (a_by, .inl (gI G, 15625, .inl fb)), (a_from, .inl (gI G, 15625, .inl fr))]) H := by rw [ef4]; exact hP
    have hD : va_D A ([(h1, .inr (6, [.int (nI k), v_maps, v_told, v_kinds, v_land, v_spades, .ref a_part, v_pad, v_padMany, v_slips, v_slipMany, v_made, .ref a_queue, .ref a_depth, .ref a_by, .ref a_from, .int cm0, v_offOf, v_parent, v_best, v_trees, v_least, v_sums, v_toward, v_kept, v_isKept, v_keptAt, v_isWriting])), (a_part, .inl (gI G, 6, .inl fp)), (a_queue, .inl (gI G, 15625, .inl fq)), (a_depth, .inl (gI G, 15625, .inl f4)), (a_by, .inl (gI G, 15625, .inl fb)), (a_from, .inl (gI G, 15625, .inl fr))]) := by rw [ef4]; exact hD
    refine lv_aload_n hx hb dX10_goFrom_36 rfl (lv_at hl 2 rfl) ?_
    refine va_get (D := G.1) (ci := 6) (v := .ref a_queue) (C := RX10) (T := TX10) (N := 28) hx hb hts (fun _ h => List.mem_cons_of_mem _ (List.mem_append_right _ h)) hown E.K hP 0 rfl rfl 12 (by decide) (hts (.fieldLink RX10 25 "LastMapModel" "queue" "[I") (by decide +kernel)) (fun _ h9 => h9) rfl dX10_goFrom_37 ?_
    refine lv_iconst (v := 0) hx hb dX10_goFrom_40 (by decide) ?_
    refine lv_iload_n hx hb dX10_goFrom_41 rfl (lv_at hl 3 rfl) ?_
    refine va_iast hx hb E.K hP hD hS 2 1 rfl rfl (i := 0) (by unfold vp_in; decide) dX10_goFrom_42 (fun H locs hP hD hS => ?_)
    obtain ⟨f5, ef5⟩ : ∃ yy_ : Nat → Int32, yy_ = upd fq (0 : Int32).toNatClampNeg (nI a) := ⟨_, rfl⟩
    have hP : va_P G.1 vwCl ([(h1, .inr (6, [.int (nI k), v_maps, v_told, v_kinds, v_land, v_spades, .ref a_part, v_pad, v_padMany, v_slips, v_slipMany, v_made, .ref a_queue, .ref a_depth, .ref a_by, .ref a_from, .int cm0, v_offOf, v_parent, v_best, v_trees, v_least, v_sums, v_toward, v_kept, v_isKept, v_keptAt, v_isWriting])), (a_part, .inl (gI G, 6, .inl fp)), (a_queue, .inl (gI G, 15625, .inl f5)), (a_depth, .inl (gI G, 15625, .inl f4)), (a_by, .inl (gI G, 15625, .inl fb)), (a_from, .inl (gI G, 15625, .inl fr))]) H := by rw [ef5]; exact hP
    have hD : va_D A ([(h1, .inr (6, [.int (nI k), v_maps, v_told, v_kinds, v_land, v_spades, .ref a_part, v_pad, v_padMany, v_slips, v_slipMany, v_made, .ref a_queue, .ref a_depth, .ref a_by, .ref a_from, .int cm0, v_offOf, v_parent, v_best, v_trees, v_least, v_sums, v_toward, v_kept, v_isKept, v_keptAt, v_isWriting])), (a_part, .inl (gI G, 6, .inl fp)), (a_queue, .inl (gI G, 15625, .inl f5)), (a_depth, .inl (gI G, 15625, .inl f4)), (a_by, .inl (gI G, 15625, .inl fb)), (a_from, .inl (gI G, 15625, .inl fr))]) := by rw [ef5]; exact hD
    refine lv_aload_n hx hb dX10_goFrom_43 rfl (lv_at hl 2 rfl) ?_
    refine lv_iconst (v := 1) hx hb dX10_goFrom_44 (by decide) ?_
    refine va_put (D := G.1) (ci := 6) (v := .int 1) (ty := .int) (C := RX10) (T := TX10) (N := 28) hx hb hts (fun _ h => List.mem_cons_of_mem _ (List.mem_append_right _ h)) tyX10 tyX10_ok nmX10 hown E.K hP hD hS 0 rfl rfl 16 (by decide) (hts (.fieldLink RX10 158 "LastMapModel" "come" "I") (by decide +kernel)) (fun _ h9 => h9) rfl (by decide +kernel) rfl rfl (Nat.le_of_ble_eq_true rfl) dX10_goFrom_45 (fun H locs hP hD hS => ?_)
    have hP : va_P G.1 vwCl ([(h1, .inr (6, [.int (nI k), v_maps, v_told, v_kinds, v_land, v_spades, .ref a_part, v_pad, v_padMany, v_slips, v_slipMany, v_made, .ref a_queue, .ref a_depth, .ref a_by, .ref a_from, .int 1, v_offOf, v_parent, v_best, v_trees, v_least, v_sums, v_toward, v_kept, v_isKept, v_keptAt, v_isWriting])), (a_part, .inl (gI G, 6, .inl fp)), (a_queue, .inl (gI G, 15625, .inl f5)), (a_depth, .inl (gI G, 15625, .inl f4)), (a_by, .inl (gI G, 15625, .inl fb)), (a_from, .inl (gI G, 15625, .inl fr))]) H := hP
    have hD : va_D A ([(h1, .inr (6, [.int (nI k), v_maps, v_told, v_kinds, v_land, v_spades, .ref a_part, v_pad, v_padMany, v_slips, v_slipMany, v_made, .ref a_queue, .ref a_depth, .ref a_by, .ref a_from, .int 1, v_offOf, v_parent, v_best, v_trees, v_least, v_sums, v_toward, v_kept, v_isKept, v_keptAt, v_isWriting])), (a_part, .inl (gI G, 6, .inl fp)), (a_queue, .inl (gI G, 15625, .inl f5)), (a_depth, .inl (gI G, 15625, .inl f4)), (a_by, .inl (gI G, 15625, .inl fb)), (a_from, .inl (gI G, 15625, .inl fr))]) := hD
    refine lv_aload_n hx hb dX10_goFrom_48 rfl (lv_at hl 2 rfl) ?_
    refine ca_iR (va_runV (As := []) (rest := []) ⟨hx, hb, hml, hown, hts⟩ (m_slipsThere l G H.size h1 v_maps v_told v_kinds v_land v_spades (.ref a_part) v_pad v_padMany v_slips v_slipMany v_made (.ref a_queue) (.ref a_depth) (.ref a_by) (.ref a_from) (.int 1) v_offOf v_parent v_best v_trees v_least v_sums v_toward v_kept v_isKept v_keptAt v_isWriting k hk2 hk6) (cwV 0 hts gX10_goFrom_X10_slipsThere rfl rfl rfl (by decide +kernel) ⟨by decide +kernel, by decide +kernel⟩) (pre_V E hP hD hS hA [0] (by decide) rfl 0 6 rfl rfl) rfl rfl hl.1 rfl (lv_room (Nat.le_of_ble_eq_true rfl)) dX10_goFrom_49 ⟨by decide +kernel, by decide +kernel⟩) hS hP hD hA [0] rfl (fun r7 _ H locs w6 hP hS => ?_)
    rw [w6]
    refine lv_istore (lv' := [(4, .int (nI (manyS k))), (3, .int (nI (5 ^ k))), (0, .ref h1), (1, .int (nI a)), (2, .int p1)]) hx hb dX10_goFrom_52 hl (by decide) rfl (fun ls hl => ?_)
    refine lv_iconst (v := 0) hx hb dX10_goFrom_54 (by decide) ?_
    refine lv_istore (lv' := [(5, .int 0), (4, .int (nI (manyS k))), (3, .int (nI (5 ^ k))), (0, .ref h1), (1, .int (nI a)), (2, .int p1)]) hx hb dX10_goFrom_55 hl (by decide) rfl (fun ls hl => ?_)
    refine lp_run (x0 := (0, 1, f4, f5, fb, fr)) (fun xx_ : Nat × Nat × (Nat → Int32) × (Nat → Int32) × (Nat → Int32) × (Nat → Int32) => match xx_ with | (y, cm, fd1, fq1, fb1, fr1) => [(h1, .inr (6, [.int (nI k), v_maps, v_told, v_kinds, v_land, v_spades, .ref a_part, v_pad, v_padMany, v_slips, v_slipMany, v_made, .ref a_queue, .ref a_depth, .ref a_by, .ref a_from, .int (nI cm), v_offOf, v_parent, v_best, v_trees, v_least, v_sums, v_toward, v_kept, v_isKept, v_keptAt, v_isWriting])), (a_part, .inl (gI G, 6, .inl fp)), (a_queue, .inl (gI G, 15625, .inl fq1)), (a_depth, .inl (gI G, 15625, .inl fd1)), (a_by, .inl (gI G, 15625, .inl fb1)), (a_from, .inl (gI G, 15625, .inl fr1))]) (fun xx_ : Nat × Nat × (Nat → Int32) × (Nat → Int32) × (Nat → Int32) × (Nat → Int32) => match xx_ with | (y, cm, fd1, fq1, fb1, fr1) => [(5, .int (nI y)), (4, .int (nI (manyS k))), (3, .int (nI (5 ^ k))), (0, .ref h1), (1, .int (nI a)), (2, .int p1)]) (fun xx_ : Nat × Nat × (Nat → Int32) × (Nat → Int32) × (Nat → Int32) × (Nat → Int32) => match xx_ with | (y, cm, fd1, fq1, fb1, fr1) => (y ≤ 5 ^ k) ∧ (dOK (5 ^ k) cm fd1 fr1 fq1) ∧ (y ≤ cm)) (fun xx_ : Nat × Nat × (Nat → Int32) × (Nat → Int32) × (Nat → Int32) × (Nat → Int32) => match xx_ with | (y, cm, fd1, fq1, fb1, fr1) => (5 ^ k) - y) (hP.sub [0, 1, 2, 3, 4, 5] rfl) (hD.sub [0, 1, 2, 3, 4, 5] (by decide) rfl) hS (lv_sub hl [0, 1, 2, 3, 4, 5] rfl) ⟨(by omega), by rw [ef5]; exact dOK_start (f0 := f) ha (fun j hj => hf j (by omega)) (by rw [ef4, nI_clamp (by omega)]), by omega⟩ ?_
    intro xx_ hI ih57 H locs ls hP hD hS hl
    obtain ⟨y, cm, fd1, fq1, fb1, fr1⟩ := xx_
    dsimp only at hI ih57 hP hD hl
    obtain ⟨hy0, hdo, hyc⟩ := hI
    have hl : lv_has ls 10 [(5, .int (nI y)), (4, .int (nI (manyS k))), (3, .int (nI (5 ^ k))), (0, .ref h1), (1, .int (nI a)), (2, .int p1)] := hl
    have hP : va_P G.1 vwCl ([(h1, .inr (6, [.int (nI k), v_maps, v_told, v_kinds, v_land, v_spades, .ref a_part, v_pad, v_padMany, v_slips, v_slipMany, v_made, .ref a_queue, .ref a_depth, .ref a_by, .ref a_from, .int (nI cm), v_offOf, v_parent, v_best, v_trees, v_least, v_sums, v_toward, v_kept, v_isKept, v_keptAt, v_isWriting])), (a_part, .inl (gI G, 6, .inl fp)), (a_queue, .inl (gI G, 15625, .inl fq1)), (a_depth, .inl (gI G, 15625, .inl fd1)), (a_by, .inl (gI G, 15625, .inl fb1)), (a_from, .inl (gI G, 15625, .inl fr1))]) H := hP
    have hD : va_D A ([(h1, .inr (6, [.int (nI k), v_maps, v_told, v_kinds, v_land, v_spades, .ref a_part, v_pad, v_padMany, v_slips, v_slipMany, v_made, .ref a_queue, .ref a_depth, .ref a_by, .ref a_from, .int (nI cm), v_offOf, v_parent, v_best, v_trees, v_least, v_sums, v_toward, v_kept, v_isKept, v_keptAt, v_isWriting])), (a_part, .inl (gI G, 6, .inl fp)), (a_queue, .inl (gI G, 15625, .inl fq1)), (a_depth, .inl (gI G, 15625, .inl fd1)), (a_by, .inl (gI G, 15625, .inl fb1)), (a_from, .inl (gI G, 15625, .inl fr1))]) := hD
    refine lv_iload hx hb dX10_goFrom_57 (lv_at hl 0 rfl) ?_
    have hcl := dOK_le hdo
    refine lv_aload_n hx hb dX10_goFrom_59 rfl (lv_at hl 3 rfl) ?_
    refine va_get (D := G.1) (ci := 6) (v := .int (nI cm)) (C := RX10) (T := TX10) (N := 28) hx hb hts (fun _ h => List.mem_cons_of_mem _ (List.mem_append_right _ h)) hown E.K hP 0 rfl rfl 16 (by decide) (hts (.fieldLink RX10 158 "LastMapModel" "come" "I") (by decide +kernel)) (fun _ h9 => h9) rfl dX10_goFrom_60 ?_
    refine lv_icmp_ge (tgt := 194) hx hb dX10_goFrom_63 (by decide) (fun c8 => ?_) (fun c8 => ?_)
    · have c8 : cm ≤ y := (nI_leI (a := cm) (b := y) (by omega) (by omega)).mp c8
      have hP9 := (hP.sub (ws' := [(h1, .inr (6, [.int (nI k), v_maps, v_told, v_kinds, v_land, v_spades, .ref a_part, v_pad, v_padMany, v_slips, v_slipMany, v_made, .ref a_queue, .ref a_depth, .ref a_by, .ref a_from, .int (nI cm), v_offOf, v_parent, v_best, v_trees, v_least, v_sums, v_toward, v_kept, v_isKept, v_keptAt, v_isWriting])), (a_part, .inl (gI G, 6, .inl fp)), (a_queue, .inl (gI G, 15625, .inl fq1)), (a_depth, .inl (gI G, 15625, .inl fd1)), (a_by, .inl (gI G, 15625, .inl fb1)), (a_from, .inl (gI G, 15625, .inl fr1))]) [0, 1, 2, 3, 4, 5] rfl)
      have hD9 := (hD.sub (ws' := [(h1, .inr (6, [.int (nI k), v_maps, v_told, v_kinds, v_land, v_spades, .ref a_part, v_pad, v_padMany, v_slips, v_slipMany, v_made, .ref a_queue, .ref a_depth, .ref a_by, .ref a_from, .int (nI cm), v_offOf, v_parent, v_best, v_trees, v_least, v_sums, v_toward, v_kept, v_isKept, v_keptAt, v_isWriting])), (a_part, .inl (gI G, 6, .inl fp)), (a_queue, .inl (gI G, 15625, .inl fq1)), (a_depth, .inl (gI G, 15625, .inl fd1)), (a_by, .inl (gI G, 15625, .inl fb1)), (a_from, .inl (gI G, 15625, .inl fr1))]) [0, 1, 2, 3, 4, 5] (by decide) rfl)
      exact W.vret hx hb hr (fun t9_ ht9_ hW9_ => ⟨⟨(cm, fq1, fd1, fb1, fr1), rfl, hdo, by rw [ht9_]; exact hP9, hD9⟩, hS.F ht9_⟩) hS.2.2 dX10_goFrom_194
    · have c8 : ¬ cm ≤ y := fun h9_ => c8 ((nI_leI (a := cm) (b := y) (by omega) (by omega)).mpr h9_)
      refine lv_aload_n hx hb dX10_goFrom_66 rfl (lv_at hl 3 rfl) ?_
      refine va_get (D := G.1) (ci := 6) (v := .ref a_queue) (C := RX10) (T := TX10) (N := 28) hx hb hts (fun _ h => List.mem_cons_of_mem _ (List.mem_append_right _ h)) hown E.K hP 0 rfl rfl 12 (by decide) (hts (.fieldLink RX10 25 "LastMapModel" "queue" "[I") (by decide +kernel)) (fun _ h9 => h9) rfl dX10_goFrom_67 ?_
      refine lv_iload hx hb dX10_goFrom_70 (lv_at hl 0 rfl) ?_
      refine va_iald hx hb E.K hP 2 1 rfl rfl (i := nI y) (vp_in_nI (by omega) (by decide)) dX10_goFrom_72 ?_
      refine lv_topi (fun x9 ex9 => ?_)
      obtain ⟨now, hnow, enow, hnn⟩ := hdo.2.2.1 y (by omega)
      obtain rfl : x9 = nI now := by rw [ex9, nI_clamp (by omega)]; exact enow
      refine lv_istore (lv' := [(6, .int (nI now)), (5, .int (nI y)), (4, .int (nI (manyS k))), (3, .int (nI (5 ^ k))), (0, .ref h1), (1, .int (nI a)), (2, .int p1)]) hx hb dX10_goFrom_73 hl (by decide) rfl (fun ls hl => ?_)
      refine lv_iconst (v := 0) hx hb dX10_goFrom_75 (by decide) ?_
      refine lv_istore (lv' := [(7, .int 0), (6, .int (nI now)), (5, .int (nI y)), (4, .int (nI (manyS k))), (3, .int (nI (5 ^ k))), (0, .ref h1), (1, .int (nI a)), (2, .int p1)]) hx hb dX10_goFrom_76 hl (by decide) rfl (fun ls hl => ?_)
      refine lp_run (x0 := (0, cm, fd1, fq1, fb1, fr1)) (fun xx_ : Nat × Nat × (Nat → Int32) × (Nat → Int32) × (Nat → Int32) × (Nat → Int32) => match xx_ with | (z, cm2, fd2, fq2, fb2, fr2) => [(h1, .inr (6, [.int (nI k), v_maps, v_told, v_kinds, v_land, v_spades, .ref a_part, v_pad, v_padMany, v_slips, v_slipMany, v_made, .ref a_queue, .ref a_depth, .ref a_by, .ref a_from, .int (nI cm2), v_offOf, v_parent, v_best, v_trees, v_least, v_sums, v_toward, v_kept, v_isKept, v_keptAt, v_isWriting])), (a_part, .inl (gI G, 6, .inl fp)), (a_queue, .inl (gI G, 15625, .inl fq2)), (a_depth, .inl (gI G, 15625, .inl fd2)), (a_by, .inl (gI G, 15625, .inl fb2)), (a_from, .inl (gI G, 15625, .inl fr2))]) (fun xx_ : Nat × Nat × (Nat → Int32) × (Nat → Int32) × (Nat → Int32) × (Nat → Int32) => match xx_ with | (z, cm2, fd2, fq2, fb2, fr2) => [(7, .int (nI z)), (6, .int (nI now)), (5, .int (nI y)), (4, .int (nI (manyS k))), (3, .int (nI (5 ^ k))), (0, .ref h1), (1, .int (nI a)), (2, .int p1)]) (fun xx_ : Nat × Nat × (Nat → Int32) × (Nat → Int32) × (Nat → Int32) × (Nat → Int32) => match xx_ with | (z, cm2, fd2, fq2, fb2, fr2) => (z ≤ manyS k) ∧ (dOK (5 ^ k) cm2 fd2 fr2 fq2) ∧ (y < cm2) ∧ (¬ fd2 now < 0)) (fun xx_ : Nat × Nat × (Nat → Int32) × (Nat → Int32) × (Nat → Int32) × (Nat → Int32) => match xx_ with | (z, cm2, fd2, fq2, fb2, fr2) => (manyS k) - z) (hP.sub [0, 1, 2, 3, 4, 5] rfl) (hD.sub [0, 1, 2, 3, 4, 5] (by decide) rfl) hS (lv_sub hl [0, 1, 2, 3, 4, 5, 6, 7] rfl) ⟨(by omega), hdo, by omega, hnn⟩ ?_
      intro xx_ hI ih78 H locs ls hP hD hS hl
      obtain ⟨z, cm2, fd2, fq2, fb2, fr2⟩ := xx_
      dsimp only at hI ih78 hP hD hl
      obtain ⟨hz0, hdo2, hyc2, hnn2⟩ := hI
      have hl : lv_has ls 10 [(7, .int (nI z)), (6, .int (nI now)), (5, .int (nI y)), (4, .int (nI (manyS k))), (3, .int (nI (5 ^ k))), (0, .ref h1), (1, .int (nI a)), (2, .int p1)] := hl
      have hP : va_P G.1 vwCl ([(h1, .inr (6, [.int (nI k), v_maps, v_told, v_kinds, v_land, v_spades, .ref a_part, v_pad, v_padMany, v_slips, v_slipMany, v_made, .ref a_queue, .ref a_depth, .ref a_by, .ref a_from, .int (nI cm2), v_offOf, v_parent, v_best, v_trees, v_least, v_sums, v_toward, v_kept, v_isKept, v_keptAt, v_isWriting])), (a_part, .inl (gI G, 6, .inl fp)), (a_queue, .inl (gI G, 15625, .inl fq2)), (a_depth, .inl (gI G, 15625, .inl fd2)), (a_by, .inl (gI G, 15625, .inl fb2)), (a_from, .inl (gI G, 15625, .inl fr2))]) H := hP
      have hD : va_D A ([(h1, .inr (6, [.int (nI k), v_maps, v_told, v_kinds, v_land, v_spades, .ref a_part, v_pad, v_padMany, v_slips, v_slipMany, v_made, .ref a_queue, .ref a_depth, .ref a_by, .ref a_from, .int (nI cm2), v_offOf, v_parent, v_best, v_trees, v_least, v_sums, v_toward, v_kept, v_isKept, v_keptAt, v_isWriting])), (a_part, .inl (gI G, 6, .inl fp)), (a_queue, .inl (gI G, 15625, .inl fq2)), (a_depth, .inl (gI G, 15625, .inl fd2)), (a_by, .inl (gI G, 15625, .inl fb2)), (a_from, .inl (gI G, 15625, .inl fr2))]) := hD
      refine lv_iload hx hb dX10_goFrom_78 (lv_at hl 0 rfl) ?_
      refine lv_iload hx hb dX10_goFrom_80 (lv_at hl 3 rfl) ?_
      refine lv_icmp_ge (tgt := 188) hx hb dX10_goFrom_82 (by decide) (fun c10 => ?_) (fun c10 => ?_)
      · have c10 : (manyS k) ≤ z := (nI_leI (a := (manyS k)) (b := z) (by omega) (by omega)).mp c10
        obtain ⟨x11, ex11⟩ : ∃ yy_ : Int32, yy_ = (nI y) + 1 := ⟨_, rfl⟩
        refine lv_iinc (v := x11) (lv' := [(5, .int x11), (7, .int (nI z)), (6, .int (nI now)), (4, .int (nI (manyS k))), (3, .int (nI (5 ^ k))), (0, .ref h1), (1, .int (nI a)), (2, .int p1)]) hx hb dX10_goFrom_188 hl (k := 2) rfl (by rw [ex11]; rfl) (by decide) rfl (fun ls hl => ?_)
        obtain rfl : x11 = nI (y + 1) := by rw [ex11]; exact nI_add y 1
        refine lv_goto (tgt := 57) hx hb dX10_goFrom_191 (by decide) ?_
        refine ih57 ((y + 1), cm2, fd2, fq2, fb2, fr2) ⟨?_, ?_, ?_⟩ (by first | omega | (dsimp only; omega)) H locs ls (hP.sub [0, 1, 2, 3, 4, 5] rfl) (hD.sub [0, 1, 2, 3, 4, 5] (by decide) rfl) hS (lv_sub hl [0, 3, 4, 5, 6, 7] rfl)
        · try dsimp only
          omega
        · try dsimp only
          exact hdo2
        · try dsimp only
          omega
      · have c10 : ¬ (manyS k) ≤ z := fun h9_ => c10 ((nI_leI (a := (manyS k)) (b := z) (by omega) (by omega)).mpr h9_)
        have hz9 : z < manyS k := by omega
        have hv9 := mvAt_ok hz9
        have hs9 := slv_facts hk6 hz9
        have hcl2 := dOK_le hdo2
        refine lv_aload_n hx hb dX10_goFrom_85 rfl (lv_at hl 5 rfl) ?_
        refine lv_iload hx hb dX10_goFrom_86 (lv_at hl 0 rfl) ?_
        refine ca_iR (va_runV (As := [.int (nI z)]) (rest := []) ⟨hx, hb, hml, hown, hts⟩ (m_slipAt l G H.size h1 v_maps v_told v_kinds v_land v_spades (.ref a_part) v_pad v_padMany v_slips v_slipMany v_made (.ref a_queue) (.ref a_depth) (.ref a_by) (.ref a_from) (.int (nI cm2)) v_offOf v_parent v_best v_trees v_least v_sums v_toward v_kept v_isKept v_keptAt v_isWriting k z hk2 hk6 (by omega)) (cwV 1 hts gX10_goFrom_X10_slipAt rfl rfl rfl (by decide +kernel) ⟨by decide +kernel, by decide +kernel⟩) (pre_V E hP hD hS hA [0] (by decide) rfl 0 6 rfl rfl) rfl rfl hl.1 rfl (lv_room (Nat.le_of_ble_eq_true rfl)) dX10_goFrom_88 ⟨by decide +kernel, by decide +kernel⟩) hS hP hD hA [0] rfl (fun r13 _ H locs w12 hP hS => ?_)
        rw [w12]
        refine lv_istore (lv' := [(8, .int (nI (slv k z))), (7, .int (nI z)), (6, .int (nI now)), (5, .int (nI y)), (4, .int (nI (manyS k))), (3, .int (nI (5 ^ k))), (0, .ref h1), (1, .int (nI a)), (2, .int p1)]) hx hb dX10_goFrom_91 hl (by decide) rfl (fun ls hl => ?_)
        refine lv_iload_n hx hb dX10_goFrom_93 rfl (lv_at hl 8 rfl) ?_
        refine lv_iload hx hb dX10_goFrom_94 (lv_at hl 0 rfl) ?_
        refine ca_iR (va_runS (As := [.int p1, .int (nI (slv k z))]) (rest := []) ⟨hx, hb, hml, hown, hts⟩ (m_makes l G H.size p1 (slv k z) ((mvAt k z).1) (by omega) hs9.2) (va_cwS 2 hts gX10_goFrom_X10_makes rfl rfl rfl (by decide +kernel) ⟨by decide +kernel, by decide +kernel⟩) (pre_S E hP hD hS hA [] (by decide) rfl) rfl rfl hl.1 rfl (lv_room (Nat.le_of_ble_eq_true rfl)) dX10_goFrom_96 ⟨by decide +kernel, by decide +kernel⟩) hS hP hD hA [] rfl (fun r15 _ H locs w14 hP hS => ?_)
        rcases w14 with ⟨rfl, b16⟩ | ⟨rfl, b16⟩
        · refine lv_if_eq (tgt := 113) hx hb dX10_goFrom_99 (by decide) (fun c17 => False.elim (by revert c17; decide)) (fun _ => ?_)
          refine lv_aload_n hx hb dX10_goFrom_102 rfl (lv_at hl 6 rfl) ?_
          refine lv_iload hx hb dX10_goFrom_103 (lv_at hl 2 rfl) ?_
          refine lv_iload hx hb dX10_goFrom_105 (lv_at hl 0 rfl) ?_
          refine ca_iR (va_runV (As := [.int (nI now), .int (nI (slv k z))]) (rest := []) ⟨hx, hb, hml, hown, hts⟩ (m_slipped l G H.size h1 (.int (nI k)) v_maps v_told v_kinds v_land v_spades v_pad v_padMany v_slips v_slipMany v_made (.ref a_queue) (.ref a_depth) (.ref a_by) (.ref a_from) (.int (nI cm2)) v_offOf v_parent v_best v_trees v_least v_sums v_toward v_kept v_isKept v_keptAt v_isWriting a_part fp k now (slv k z) ((mvAt k z).1) ((mvAt k z).2.1) ((mvAt k z).2.2) hk6 hp (by omega) rfl hv9) (cwV 2 hts gX10_goFrom_X10_slipped rfl rfl rfl (by decide +kernel) ⟨by decide +kernel, by decide +kernel⟩) (pre_V E hP hD hS hA [0, 1] (by decide) rfl 0 6 rfl rfl) rfl rfl hl.1 rfl (lv_room (Nat.le_of_ble_eq_true rfl)) dX10_goFrom_107 ⟨by decide +kernel, by decide +kernel⟩) hS hP hD hA [0, 1] rfl (fun r19 _ H locs w18 hP hS => ?_)
          rw [w18]
          refine lv_goto (tgt := 115) hx hb dX10_goFrom_110 (by decide) ?_
          have hto : (slN k now (((mvAt k z).1), ((mvAt k z).2.1), ((mvAt k z).2.2))) < 5 ^ k := by first | exact hnow | exact slN_lt hnow hv9
          refine lv_istore (lv' := [(9, .int (nI (slN k now (((mvAt k z).1), ((mvAt k z).2.1), ((mvAt k z).2.2))))), (8, .int (nI (slv k z))), (7, .int (nI z)), (6, .int (nI now)), (5, .int (nI y)), (4, .int (nI (manyS k))), (3, .int (nI (5 ^ k))), (0, .ref h1), (1, .int (nI a)), (2, .int p1)]) hx hb dX10_goFrom_115 hl (by decide) rfl (fun ls hl => ?_)
          refine lv_aload_n hx hb dX10_goFrom_117 rfl (lv_at hl 7 rfl) ?_
          refine va_get (D := G.1) (ci := 6) (v := .ref a_depth) (C := RX10) (T := TX10) (N := 28) hx hb hts (fun _ h => List.mem_cons_of_mem _ (List.mem_append_right _ h)) hown E.K hP 0 rfl rfl 13 (by decide) (hts (.fieldLink RX10 28 "LastMapModel" "depth" "[I") (by decide +kernel)) (fun _ h9 => h9) rfl dX10_goFrom_118 ?_
          refine lv_iload hx hb dX10_goFrom_121 (lv_at hl 0 rfl) ?_
          refine va_iald hx hb E.K hP 3 1 rfl rfl (i := nI (slN k now (((mvAt k z).1), ((mvAt k z).2.1), ((mvAt k z).2.2)))) (vp_in_nI (by omega) (by decide)) dX10_goFrom_123 ?_
          refine lv_topi (fun x20 ex20 => ?_)
          refine lv_if_ge (tgt := 182) hx hb dX10_goFrom_124 (by decide) (fun c21 => ?_) (fun c21 => ?_)
          · obtain ⟨x22, ex22⟩ : ∃ yy_ : Int32, yy_ = (nI z) + 1 := ⟨_, rfl⟩
            refine lv_iinc (v := x22) (lv' := [(7, .int x22), (9, .int (nI (slN k now (((mvAt k z).1), ((mvAt k z).2.1), ((mvAt k z).2.2))))), (8, .int (nI (slv k z))), (6, .int (nI now)), (5, .int (nI y)), (4, .int (nI (manyS k))), (3, .int (nI (5 ^ k))), (0, .ref h1), (1, .int (nI a)), (2, .int p1)]) hx hb dX10_goFrom_182 hl (k := 2) rfl (by rw [ex22]; rfl) (by decide) rfl (fun ls hl => ?_)
            obtain rfl : x22 = nI (z + 1) := by rw [ex22]; exact nI_add z 1
            refine lv_goto (tgt := 78) hx hb dX10_goFrom_185 (by decide) ?_
            refine ih78 ((z + 1), cm2, fd2, fq2, fb2, fr2) ⟨?_, ?_, ?_, ?_⟩ (by first | omega | (dsimp only; omega)) H locs ls (hP.sub [0, 1, 2, 3, 4, 5] rfl) (hD.sub [0, 1, 2, 3, 4, 5] (by decide) rfl) hS (lv_sub hl [0, 3, 4, 5, 6, 7, 8, 9] rfl)
            · try dsimp only
              omega
            · try dsimp only
              exact hdo2
            · try dsimp only
              omega
            · try dsimp only
              exact hnn2
          · have hneg : fd2 (slN k now (((mvAt k z).1), ((mvAt k z).2.1), ((mvAt k z).2.2))) < 0 := by have q9 := c21; rw [ex20, nI_clamp (by omega)] at q9; simp only [i3_le, i3_lt] at *; omega
            obtain ⟨d9, hd9, ed9, -⟩ := dOK_at hdo2 hnow hnn2
            have hstep := dOK_step hdo2 hal hto hneg hnow ed9 hd9
            refine lv_aload_n hx hb dX10_goFrom_127 rfl (lv_at hl 7 rfl) ?_
            refine va_get (D := G.1) (ci := 6) (v := .ref a_depth) (C := RX10) (T := TX10) (N := 28) hx hb hts (fun _ h => List.mem_cons_of_mem _ (List.mem_append_right _ h)) hown E.K hP 0 rfl rfl 13 (by decide) (hts (.fieldLink RX10 28 "LastMapModel" "depth" "[I") (by decide +kernel)) (fun _ h9 => h9) rfl dX10_goFrom_128 ?_
            refine lv_iload hx hb dX10_goFrom_131 (lv_at hl 0 rfl) ?_
            refine lv_aload_n hx hb dX10_goFrom_133 rfl (lv_at hl 7 rfl) ?_
            refine va_get (D := G.1) (ci := 6) (v := .ref a_depth) (C := RX10) (T := TX10) (N := 28) hx hb hts (fun _ h => List.mem_cons_of_mem _ (List.mem_append_right _ h)) hown E.K hP 0 rfl rfl 13 (by decide) (hts (.fieldLink RX10 28 "LastMapModel" "depth" "[I") (by decide +kernel)) (fun _ h9 => h9) rfl dX10_goFrom_134 ?_
            refine lv_iload hx hb dX10_goFrom_137 (lv_at hl 3 rfl) ?_
            refine va_iald hx hb E.K hP 3 1 rfl rfl (i := nI now) (vp_in_nI (by omega) (by decide)) dX10_goFrom_139 ?_
            refine lv_topi (fun x23 ex23 => ?_)
            obtain rfl : x23 = nI d9 := by rw [ex23, nI_clamp (by omega)]; exact ed9
            refine lv_iconst (v := 1) hx hb dX10_goFrom_140 (by decide) ?_
            refine lv_iadd hx hb dX10_goFrom_141 ?_
            refine lv_topi (fun x24 ex24 => ?_)
            obtain rfl : x24 = nI (d9 + 1) := by rw [ex24]; exact nI_add d9 1
            refine va_iast hx hb E.K hP hD hS 3 1 rfl rfl (i := nI (slN k now (((mvAt k z).1), ((mvAt k z).2.1), ((mvAt k z).2.2)))) (vp_in_nI (by omega) (by decide)) dX10_goFrom_142 (fun H locs hP hD hS => ?_)
            obtain ⟨f25, ef25⟩ : ∃ yy_ : Nat → Int32, yy_ = upd fd2 (nI (slN k now (((mvAt k z).1), ((mvAt k z).2.1), ((mvAt k z).2.2)))).toNatClampNeg (nI (d9 + 1)) := ⟨_, rfl⟩
            have hP : va_P G.1 vwCl ([(h1, .inr (6, [.int (nI k), v_maps, v_told, v_kinds, v_land, v_spades, .ref a_part, v_pad, v_padMany, v_slips, v_slipMany, v_made, .ref a_queue, .ref a_depth, .ref a_by, .ref a_from, .int (nI cm2), v_offOf, v_parent, v_best, v_trees, v_least, v_sums, v_toward, v_kept, v_isKept, v_keptAt, v_isWriting])), (a_part, .inl (gI G, 6, .inl fp)), (a_queue, .inl (gI G, 15625, .inl fq2)), (a_depth, .inl (gI G, 15625, .inl f25)), (a_by, .inl (gI G, 15625, .inl fb2)), (a_from, .inl (gI G, 15625, .inl fr2))]) H := by rw [ef25]; exact hP
            have hD : va_D A ([(h1, .inr (6, [.int (nI k), v_maps, v_told, v_kinds, v_land, v_spades, .ref a_part, v_pad, v_padMany, v_slips, v_slipMany, v_made, .ref a_queue, .ref a_depth, .ref a_by, .ref a_from, .int (nI cm2), v_offOf, v_parent, v_best, v_trees, v_least, v_sums, v_toward, v_kept, v_isKept, v_keptAt, v_isWriting])), (a_part, .inl (gI G, 6, .inl fp)), (a_queue, .inl (gI G, 15625, .inl fq2)), (a_depth, .inl (gI G, 15625, .inl f25)), (a_by, .inl (gI G, 15625, .inl fb2)), (a_from, .inl (gI G, 15625, .inl fr2))]) := by rw [ef25]; exact hD
            refine lv_aload_n hx hb dX10_goFrom_143 rfl (lv_at hl 7 rfl) ?_
            refine va_get (D := G.1) (ci := 6) (v := .ref a_by) (C := RX10) (T := TX10) (N := 28) hx hb hts (fun _ h => List.mem_cons_of_mem _ (List.mem_append_right _ h)) hown E.K hP 0 rfl rfl 14 (by decide) (hts (.fieldLink RX10 31 "LastMapModel" "by" "[I") (by decide +kernel)) (fun _ h9 => h9) rfl dX10_goFrom_144 ?_
            refine lv_iload hx hb dX10_goFrom_147 (lv_at hl 0 rfl) ?_
            refine lv_iload hx hb dX10_goFrom_149 (lv_at hl 1 rfl) ?_
            refine va_iast hx hb E.K hP hD hS 4 1 rfl rfl (i := nI (slN k now (((mvAt k z).1), ((mvAt k z).2.1), ((mvAt k z).2.2)))) (vp_in_nI (by omega) (by decide)) dX10_goFrom_151 (fun H locs hP hD hS => ?_)
            obtain ⟨f26, ef26⟩ : ∃ yy_ : Nat → Int32, yy_ = upd fb2 (nI (slN k now (((mvAt k z).1), ((mvAt k z).2.1), ((mvAt k z).2.2)))).toNatClampNeg (nI (slv k z)) := ⟨_, rfl⟩
            have hP : va_P G.1 vwCl ([(h1, .inr (6, [.int (nI k), v_maps, v_told, v_kinds, v_land, v_spades, .ref a_part, v_pad, v_padMany, v_slips, v_slipMany, v_made, .ref a_queue, .ref a_depth, .ref a_by, .ref a_from, .int (nI cm2), v_offOf, v_parent, v_best, v_trees, v_least, v_sums, v_toward, v_kept, v_isKept, v_keptAt, v_isWriting])), (a_part, .inl (gI G, 6, .inl fp)), (a_queue, .inl (gI G, 15625, .inl fq2)), (a_depth, .inl (gI G, 15625, .inl f25)), (a_by, .inl (gI G, 15625, .inl f26)), (a_from, .inl (gI G, 15625, .inl fr2))]) H := by rw [ef26]; exact hP
            have hD : va_D A ([(h1, .inr (6, [.int (nI k), v_maps, v_told, v_kinds, v_land, v_spades, .ref a_part, v_pad, v_padMany, v_slips, v_slipMany, v_made, .ref a_queue, .ref a_depth, .ref a_by, .ref a_from, .int (nI cm2), v_offOf, v_parent, v_best, v_trees, v_least, v_sums, v_toward, v_kept, v_isKept, v_keptAt, v_isWriting])), (a_part, .inl (gI G, 6, .inl fp)), (a_queue, .inl (gI G, 15625, .inl fq2)), (a_depth, .inl (gI G, 15625, .inl f25)), (a_by, .inl (gI G, 15625, .inl f26)), (a_from, .inl (gI G, 15625, .inl fr2))]) := by rw [ef26]; exact hD
            refine lv_aload_n hx hb dX10_goFrom_152 rfl (lv_at hl 7 rfl) ?_
            refine va_get (D := G.1) (ci := 6) (v := .ref a_from) (C := RX10) (T := TX10) (N := 28) hx hb hts (fun _ h => List.mem_cons_of_mem _ (List.mem_append_right _ h)) hown E.K hP 0 rfl rfl 15 (by decide) (hts (.fieldLink RX10 34 "LastMapModel" "from" "[I") (by decide +kernel)) (fun _ h9 => h9) rfl dX10_goFrom_153 ?_
            refine lv_iload hx hb dX10_goFrom_156 (lv_at hl 0 rfl) ?_
            refine lv_iload hx hb dX10_goFrom_158 (lv_at hl 3 rfl) ?_
            refine va_iast hx hb E.K hP hD hS 5 1 rfl rfl (i := nI (slN k now (((mvAt k z).1), ((mvAt k z).2.1), ((mvAt k z).2.2)))) (vp_in_nI (by omega) (by decide)) dX10_goFrom_160 (fun H locs hP hD hS => ?_)
            obtain ⟨f27, ef27⟩ : ∃ yy_ : Nat → Int32, yy_ = upd fr2 (nI (slN k now (((mvAt k z).1), ((mvAt k z).2.1), ((mvAt k z).2.2)))).toNatClampNeg (nI now) := ⟨_, rfl⟩
            have hP : va_P G.1 vwCl ([(h1, .inr (6, [.int (nI k), v_maps, v_told, v_kinds, v_land, v_spades, .ref a_part, v_pad, v_padMany, v_slips, v_slipMany, v_made, .ref a_queue, .ref a_depth, .ref a_by, .ref a_from, .int (nI cm2), v_offOf, v_parent, v_best, v_trees, v_least, v_sums, v_toward, v_kept, v_isKept, v_keptAt, v_isWriting])), (a_part, .inl (gI G, 6, .inl fp)), (a_queue, .inl (gI G, 15625, .inl fq2)), (a_depth, .inl (gI G, 15625, .inl f25)), (a_by, .inl (gI G, 15625, .inl f26)), (a_from, .inl (gI G, 15625, .inl f27))]) H := by rw [ef27]; exact hP
            have hD : va_D A ([(h1, .inr (6, [.int (nI k), v_maps, v_told, v_kinds, v_land, v_spades, .ref a_part, v_pad, v_padMany, v_slips, v_slipMany, v_made, .ref a_queue, .ref a_depth, .ref a_by, .ref a_from, .int (nI cm2), v_offOf, v_parent, v_best, v_trees, v_least, v_sums, v_toward, v_kept, v_isKept, v_keptAt, v_isWriting])), (a_part, .inl (gI G, 6, .inl fp)), (a_queue, .inl (gI G, 15625, .inl fq2)), (a_depth, .inl (gI G, 15625, .inl f25)), (a_by, .inl (gI G, 15625, .inl f26)), (a_from, .inl (gI G, 15625, .inl f27))]) := by rw [ef27]; exact hD
            refine lv_aload_n hx hb dX10_goFrom_161 rfl (lv_at hl 7 rfl) ?_
            refine va_get (D := G.1) (ci := 6) (v := .ref a_queue) (C := RX10) (T := TX10) (N := 28) hx hb hts (fun _ h => List.mem_cons_of_mem _ (List.mem_append_right _ h)) hown E.K hP 0 rfl rfl 12 (by decide) (hts (.fieldLink RX10 25 "LastMapModel" "queue" "[I") (by decide +kernel)) (fun _ h9 => h9) rfl dX10_goFrom_162 ?_
            refine lv_aload_n hx hb dX10_goFrom_165 rfl (lv_at hl 7 rfl) ?_
            refine va_get (D := G.1) (ci := 6) (v := .int (nI cm2)) (C := RX10) (T := TX10) (N := 28) hx hb hts (fun _ h => List.mem_cons_of_mem _ (List.mem_append_right _ h)) hown E.K hP 0 rfl rfl 16 (by decide) (hts (.fieldLink RX10 158 "LastMapModel" "come" "I") (by decide +kernel)) (fun _ h9 => h9) rfl dX10_goFrom_166 ?_
            refine lv_iload hx hb dX10_goFrom_169 (lv_at hl 0 rfl) ?_
            refine va_iast hx hb E.K hP hD hS 2 1 rfl rfl (i := nI cm2) (vp_in_nI (by have q9 := hstep.2; omega) (by decide)) dX10_goFrom_171 (fun H locs hP hD hS => ?_)
            obtain ⟨f28, ef28⟩ : ∃ yy_ : Nat → Int32, yy_ = upd fq2 (nI cm2).toNatClampNeg (nI (slN k now (((mvAt k z).1), ((mvAt k z).2.1), ((mvAt k z).2.2)))) := ⟨_, rfl⟩
            have hP : va_P G.1 vwCl ([(h1, .inr (6, [.int (nI k), v_maps, v_told, v_kinds, v_land, v_spades, .ref a_part, v_pad, v_padMany, v_slips, v_slipMany, v_made, .ref a_queue, .ref a_depth, .ref a_by, .ref a_from, .int (nI cm2), v_offOf, v_parent, v_best, v_trees, v_least, v_sums, v_toward, v_kept, v_isKept, v_keptAt, v_isWriting])), (a_part, .inl (gI G, 6, .inl fp)), (a_queue, .inl (gI G, 15625, .inl f28)), (a_depth, .inl (gI G, 15625, .inl f25)), (a_by, .inl (gI G, 15625, .inl f26)), (a_from, .inl (gI G, 15625, .inl f27))]) H := by rw [ef28]; exact hP
            have hD : va_D A ([(h1, .inr (6, [.int (nI k), v_maps, v_told, v_kinds, v_land, v_spades, .ref a_part, v_pad, v_padMany, v_slips, v_slipMany, v_made, .ref a_queue, .ref a_depth, .ref a_by, .ref a_from, .int (nI cm2), v_offOf, v_parent, v_best, v_trees, v_least, v_sums, v_toward, v_kept, v_isKept, v_keptAt, v_isWriting])), (a_part, .inl (gI G, 6, .inl fp)), (a_queue, .inl (gI G, 15625, .inl f28)), (a_depth, .inl (gI G, 15625, .inl f25)), (a_by, .inl (gI G, 15625, .inl f26)), (a_from, .inl (gI G, 15625, .inl f27))]) := by rw [ef28]; exact hD
            refine lv_aload_n hx hb dX10_goFrom_172 rfl (lv_at hl 7 rfl) ?_
            refine lv_dup hx hb dX10_goFrom_173 rfl ?_
            refine va_get (D := G.1) (ci := 6) (v := .int (nI cm2)) (C := RX10) (T := TX10) (N := 28) hx hb hts (fun _ h => List.mem_cons_of_mem _ (List.mem_append_right _ h)) hown E.K hP 0 rfl rfl 16 (by decide) (hts (.fieldLink RX10 158 "LastMapModel" "come" "I") (by decide +kernel)) (fun _ h9 => h9) rfl dX10_goFrom_174 ?_
            refine lv_iconst (v := 1) hx hb dX10_goFrom_177 (by decide) ?_
            refine lv_iadd hx hb dX10_goFrom_178 ?_
            refine lv_topi (fun x29 ex29 => ?_)
            obtain rfl : x29 = nI (cm2 + 1) := by rw [ex29]; exact nI_add cm2 1
            refine va_put (D := G.1) (ci := 6) (v := .int (nI (cm2 + 1))) (ty := .int) (C := RX10) (T := TX10) (N := 28) hx hb hts (fun _ h => List.mem_cons_of_mem _ (List.mem_append_right _ h)) tyX10 tyX10_ok nmX10 hown E.K hP hD hS 0 rfl rfl 16 (by decide) (hts (.fieldLink RX10 158 "LastMapModel" "come" "I") (by decide +kernel)) (fun _ h9 => h9) rfl (by decide +kernel) rfl rfl (Nat.le_of_ble_eq_true rfl) dX10_goFrom_179 (fun H locs hP hD hS => ?_)
            have hP : va_P G.1 vwCl ([(h1, .inr (6, [.int (nI k), v_maps, v_told, v_kinds, v_land, v_spades, .ref a_part, v_pad, v_padMany, v_slips, v_slipMany, v_made, .ref a_queue, .ref a_depth, .ref a_by, .ref a_from, .int (nI (cm2 + 1)), v_offOf, v_parent, v_best, v_trees, v_least, v_sums, v_toward, v_kept, v_isKept, v_keptAt, v_isWriting])), (a_part, .inl (gI G, 6, .inl fp)), (a_queue, .inl (gI G, 15625, .inl f28)), (a_depth, .inl (gI G, 15625, .inl f25)), (a_by, .inl (gI G, 15625, .inl f26)), (a_from, .inl (gI G, 15625, .inl f27))]) H := hP
            have hD : va_D A ([(h1, .inr (6, [.int (nI k), v_maps, v_told, v_kinds, v_land, v_spades, .ref a_part, v_pad, v_padMany, v_slips, v_slipMany, v_made, .ref a_queue, .ref a_depth, .ref a_by, .ref a_from, .int (nI (cm2 + 1)), v_offOf, v_parent, v_best, v_trees, v_least, v_sums, v_toward, v_kept, v_isKept, v_keptAt, v_isWriting])), (a_part, .inl (gI G, 6, .inl fp)), (a_queue, .inl (gI G, 15625, .inl f28)), (a_depth, .inl (gI G, 15625, .inl f25)), (a_by, .inl (gI G, 15625, .inl f26)), (a_from, .inl (gI G, 15625, .inl f27))]) := hD
            obtain ⟨x30, ex30⟩ : ∃ yy_ : Int32, yy_ = (nI z) + 1 := ⟨_, rfl⟩
            refine lv_iinc (v := x30) (lv' := [(7, .int x30), (9, .int (nI (slN k now (((mvAt k z).1), ((mvAt k z).2.1), ((mvAt k z).2.2))))), (8, .int (nI (slv k z))), (6, .int (nI now)), (5, .int (nI y)), (4, .int (nI (manyS k))), (3, .int (nI (5 ^ k))), (0, .ref h1), (1, .int (nI a)), (2, .int p1)]) hx hb dX10_goFrom_182 hl (k := 2) rfl (by rw [ex30]; rfl) (by decide) rfl (fun ls hl => ?_)
            obtain rfl : x30 = nI (z + 1) := by rw [ex30]; exact nI_add z 1
            refine lv_goto (tgt := 78) hx hb dX10_goFrom_185 (by decide) ?_
            refine ih78 ((z + 1), (cm2 + 1), f25, f28, f26, f27) ⟨?_, ?_, ?_, ?_⟩ (by first | omega | (dsimp only; omega)) H locs ls (hP.sub [0, 1, 2, 3, 4, 5] rfl) (hD.sub [0, 1, 2, 3, 4, 5] (by decide) rfl) hS (lv_sub hl [0, 3, 4, 5, 6, 7, 8, 9] rfl)
            · try dsimp only
              omega
            · try dsimp only
              rw [ef25, ef27, ef28, nI_clamp (n := (slN k now (((mvAt k z).1), ((mvAt k z).2.1), ((mvAt k z).2.2)))) (by omega), nI_clamp (n := cm2) (by omega)]; exact hstep.1
            · try dsimp only
              omega
            · try dsimp only
              rw [ef25, nI_clamp (n := (slN k now (((mvAt k z).1), ((mvAt k z).2.1), ((mvAt k z).2.2)))) (by omega)]
              by_cases e9 : now = (slN k now (((mvAt k z).1), ((mvAt k z).2.1), ((mvAt k z).2.2)))
              · rw [show upd fd2 (slN k now (((mvAt k z).1), ((mvAt k z).2.1), ((mvAt k z).2.2))) (nI (d9 + 1)) now = nI (d9 + 1) from if_pos e9]; exact nI_pos (by omega)
              · rw [pk_un e9]; exact hnn2
        · refine lv_if_eq (tgt := 113) hx hb dX10_goFrom_99 (by decide) (fun _ => ?_) (fun c31 => False.elim (by revert c31; decide))
          refine lv_iload hx hb dX10_goFrom_113 (lv_at hl 2 rfl) ?_
          have hto : now < 5 ^ k := by first | exact hnow | exact slN_lt hnow hv9
          refine lv_istore (lv' := [(9, .int (nI now)), (8, .int (nI (slv k z))), (7, .int (nI z)), (6, .int (nI now)), (5, .int (nI y)), (4, .int (nI (manyS k))), (3, .int (nI (5 ^ k))), (0, .ref h1), (1, .int (nI a)), (2, .int p1)]) hx hb dX10_goFrom_115 hl (by decide) rfl (fun ls hl => ?_)
          refine lv_aload_n hx hb dX10_goFrom_117 rfl (lv_at hl 7 rfl) ?_
          refine va_get (D := G.1) (ci := 6) (v := .ref a_depth) (C := RX10) (T := TX10) (N := 28) hx hb hts (fun _ h => List.mem_cons_of_mem _ (List.mem_append_right _ h)) hown E.K hP 0 rfl rfl 13 (by decide) (hts (.fieldLink RX10 28 "LastMapModel" "depth" "[I") (by decide +kernel)) (fun _ h9 => h9) rfl dX10_goFrom_118 ?_
          refine lv_iload hx hb dX10_goFrom_121 (lv_at hl 0 rfl) ?_
          refine va_iald hx hb E.K hP 3 1 rfl rfl (i := nI now) (vp_in_nI (by omega) (by decide)) dX10_goFrom_123 ?_
          refine lv_topi (fun x32 ex32 => ?_)
          refine lv_if_ge (tgt := 182) hx hb dX10_goFrom_124 (by decide) (fun c33 => ?_) (fun c33 => ?_)
          · obtain ⟨x34, ex34⟩ : ∃ yy_ : Int32, yy_ = (nI z) + 1 := ⟨_, rfl⟩
            refine lv_iinc (v := x34) (lv' := [(7, .int x34), (9, .int (nI now)), (8, .int (nI (slv k z))), (6, .int (nI now)), (5, .int (nI y)), (4, .int (nI (manyS k))), (3, .int (nI (5 ^ k))), (0, .ref h1), (1, .int (nI a)), (2, .int p1)]) hx hb dX10_goFrom_182 hl (k := 2) rfl (by rw [ex34]; rfl) (by decide) rfl (fun ls hl => ?_)
            obtain rfl : x34 = nI (z + 1) := by rw [ex34]; exact nI_add z 1
            refine lv_goto (tgt := 78) hx hb dX10_goFrom_185 (by decide) ?_
            refine ih78 ((z + 1), cm2, fd2, fq2, fb2, fr2) ⟨?_, ?_, ?_, ?_⟩ (by first | omega | (dsimp only; omega)) H locs ls (hP.sub [0, 1, 2, 3, 4, 5] rfl) (hD.sub [0, 1, 2, 3, 4, 5] (by decide) rfl) hS (lv_sub hl [0, 3, 4, 5, 6, 7, 8, 9] rfl)
            · try dsimp only
              omega
            · try dsimp only
              exact hdo2
            · try dsimp only
              omega
            · try dsimp only
              exact hnn2
          · have hneg : fd2 now < 0 := by have q9 := c33; rw [ex32, nI_clamp (by omega)] at q9; simp only [i3_le, i3_lt] at *; omega
            obtain ⟨d9, hd9, ed9, -⟩ := dOK_at hdo2 hnow hnn2
            have hstep := dOK_step hdo2 hal hto hneg hnow ed9 hd9
            refine lv_aload_n hx hb dX10_goFrom_127 rfl (lv_at hl 7 rfl) ?_
            refine va_get (D := G.1) (ci := 6) (v := .ref a_depth) (C := RX10) (T := TX10) (N := 28) hx hb hts (fun _ h => List.mem_cons_of_mem _ (List.mem_append_right _ h)) hown E.K hP 0 rfl rfl 13 (by decide) (hts (.fieldLink RX10 28 "LastMapModel" "depth" "[I") (by decide +kernel)) (fun _ h9 => h9) rfl dX10_goFrom_128 ?_
            refine lv_iload hx hb dX10_goFrom_131 (lv_at hl 0 rfl) ?_
            refine lv_aload_n hx hb dX10_goFrom_133 rfl (lv_at hl 7 rfl) ?_
            refine va_get (D := G.1) (ci := 6) (v := .ref a_depth) (C := RX10) (T := TX10) (N := 28) hx hb hts (fun _ h => List.mem_cons_of_mem _ (List.mem_append_right _ h)) hown E.K hP 0 rfl rfl 13 (by decide) (hts (.fieldLink RX10 28 "LastMapModel" "depth" "[I") (by decide +kernel)) (fun _ h9 => h9) rfl dX10_goFrom_134 ?_
            refine lv_iload hx hb dX10_goFrom_137 (lv_at hl 3 rfl) ?_
            refine va_iald hx hb E.K hP 3 1 rfl rfl (i := nI now) (vp_in_nI (by omega) (by decide)) dX10_goFrom_139 ?_
            refine lv_topi (fun x35 ex35 => ?_)
            obtain rfl : x35 = nI d9 := by rw [ex35, nI_clamp (by omega)]; exact ed9
            refine lv_iconst (v := 1) hx hb dX10_goFrom_140 (by decide) ?_
            refine lv_iadd hx hb dX10_goFrom_141 ?_
            refine lv_topi (fun x36 ex36 => ?_)
            obtain rfl : x36 = nI (d9 + 1) := by rw [ex36]; exact nI_add d9 1
            refine va_iast hx hb E.K hP hD hS 3 1 rfl rfl (i := nI now) (vp_in_nI (by omega) (by decide)) dX10_goFrom_142 (fun H locs hP hD hS => ?_)
            obtain ⟨f37, ef37⟩ : ∃ yy_ : Nat → Int32, yy_ = upd fd2 (nI now).toNatClampNeg (nI (d9 + 1)) := ⟨_, rfl⟩
            have hP : va_P G.1 vwCl ([(h1, .inr (6, [.int (nI k), v_maps, v_told, v_kinds, v_land, v_spades, .ref a_part, v_pad, v_padMany, v_slips, v_slipMany, v_made, .ref a_queue, .ref a_depth, .ref a_by, .ref a_from, .int (nI cm2), v_offOf, v_parent, v_best, v_trees, v_least, v_sums, v_toward, v_kept, v_isKept, v_keptAt, v_isWriting])), (a_part, .inl (gI G, 6, .inl fp)), (a_queue, .inl (gI G, 15625, .inl fq2)), (a_depth, .inl (gI G, 15625, .inl f37)), (a_by, .inl (gI G, 15625, .inl fb2)), (a_from, .inl (gI G, 15625, .inl fr2))]) H := by rw [ef37]; exact hP
            have hD : va_D A ([(h1, .inr (6, [.int (nI k), v_maps, v_told, v_kinds, v_land, v_spades, .ref a_part, v_pad, v_padMany, v_slips, v_slipMany, v_made, .ref a_queue, .ref a_depth, .ref a_by, .ref a_from, .int (nI cm2), v_offOf, v_parent, v_best, v_trees, v_least, v_sums, v_toward, v_kept, v_isKept, v_keptAt, v_isWriting])), (a_part, .inl (gI G, 6, .inl fp)), (a_queue, .inl (gI G, 15625, .inl fq2)), (a_depth, .inl (gI G, 15625, .inl f37)), (a_by, .inl (gI G, 15625, .inl fb2)), (a_from, .inl (gI G, 15625, .inl fr2))]) := by rw [ef37]; exact hD
            refine lv_aload_n hx hb dX10_goFrom_143 rfl (lv_at hl 7 rfl) ?_
            refine va_get (D := G.1) (ci := 6) (v := .ref a_by) (C := RX10) (T := TX10) (N := 28) hx hb hts (fun _ h => List.mem_cons_of_mem _ (List.mem_append_right _ h)) hown E.K hP 0 rfl rfl 14 (by decide) (hts (.fieldLink RX10 31 "LastMapModel" "by" "[I") (by decide +kernel)) (fun _ h9 => h9) rfl dX10_goFrom_144 ?_
            refine lv_iload hx hb dX10_goFrom_147 (lv_at hl 0 rfl) ?_
            refine lv_iload hx hb dX10_goFrom_149 (lv_at hl 1 rfl) ?_
            refine va_iast hx hb E.K hP hD hS 4 1 rfl rfl (i := nI now) (vp_in_nI (by omega) (by decide)) dX10_goFrom_151 (fun H locs hP hD hS => ?_)
            obtain ⟨f38, ef38⟩ : ∃ yy_ : Nat → Int32, yy_ = upd fb2 (nI now).toNatClampNeg (nI (slv k z)) := ⟨_, rfl⟩
            have hP : va_P G.1 vwCl ([(h1, .inr (6, [.int (nI k), v_maps, v_told, v_kinds, v_land, v_spades, .ref a_part, v_pad, v_padMany, v_slips, v_slipMany, v_made, .ref a_queue, .ref a_depth, .ref a_by, .ref a_from, .int (nI cm2), v_offOf, v_parent, v_best, v_trees, v_least, v_sums, v_toward, v_kept, v_isKept, v_keptAt, v_isWriting])), (a_part, .inl (gI G, 6, .inl fp)), (a_queue, .inl (gI G, 15625, .inl fq2)), (a_depth, .inl (gI G, 15625, .inl f37)), (a_by, .inl (gI G, 15625, .inl f38)), (a_from, .inl (gI G, 15625, .inl fr2))]) H := by rw [ef38]; exact hP
            have hD : va_D A ([(h1, .inr (6, [.int (nI k), v_maps, v_told, v_kinds, v_land, v_spades, .ref a_part, v_pad, v_padMany, v_slips, v_slipMany, v_made, .ref a_queue, .ref a_depth, .ref a_by, .ref a_from, .int (nI cm2), v_offOf, v_parent, v_best, v_trees, v_least, v_sums, v_toward, v_kept, v_isKept, v_keptAt, v_isWriting])), (a_part, .inl (gI G, 6, .inl fp)), (a_queue, .inl (gI G, 15625, .inl fq2)), (a_depth, .inl (gI G, 15625, .inl f37)), (a_by, .inl (gI G, 15625, .inl f38)), (a_from, .inl (gI G, 15625, .inl fr2))]) := by rw [ef38]; exact hD
            refine lv_aload_n hx hb dX10_goFrom_152 rfl (lv_at hl 7 rfl) ?_
            refine va_get (D := G.1) (ci := 6) (v := .ref a_from) (C := RX10) (T := TX10) (N := 28) hx hb hts (fun _ h => List.mem_cons_of_mem _ (List.mem_append_right _ h)) hown E.K hP 0 rfl rfl 15 (by decide) (hts (.fieldLink RX10 34 "LastMapModel" "from" "[I") (by decide +kernel)) (fun _ h9 => h9) rfl dX10_goFrom_153 ?_
            refine lv_iload hx hb dX10_goFrom_156 (lv_at hl 0 rfl) ?_
            refine lv_iload hx hb dX10_goFrom_158 (lv_at hl 3 rfl) ?_
            refine va_iast hx hb E.K hP hD hS 5 1 rfl rfl (i := nI now) (vp_in_nI (by omega) (by decide)) dX10_goFrom_160 (fun H locs hP hD hS => ?_)
            obtain ⟨f39, ef39⟩ : ∃ yy_ : Nat → Int32, yy_ = upd fr2 (nI now).toNatClampNeg (nI now) := ⟨_, rfl⟩
            have hP : va_P G.1 vwCl ([(h1, .inr (6, [.int (nI k), v_maps, v_told, v_kinds, v_land, v_spades, .ref a_part, v_pad, v_padMany, v_slips, v_slipMany, v_made, .ref a_queue, .ref a_depth, .ref a_by, .ref a_from, .int (nI cm2), v_offOf, v_parent, v_best, v_trees, v_least, v_sums, v_toward, v_kept, v_isKept, v_keptAt, v_isWriting])), (a_part, .inl (gI G, 6, .inl fp)), (a_queue, .inl (gI G, 15625, .inl fq2)), (a_depth, .inl (gI G, 15625, .inl f37)), (a_by, .inl (gI G, 15625, .inl f38)), (a_from, .inl (gI G, 15625, .inl f39))]) H := by rw [ef39]; exact hP
            have hD : va_D A ([(h1, .inr (6, [.int (nI k), v_maps, v_told, v_kinds, v_land, v_spades, .ref a_part, v_pad, v_padMany, v_slips, v_slipMany, v_made, .ref a_queue, .ref a_depth, .ref a_by, .ref a_from, .int (nI cm2), v_offOf, v_parent, v_best, v_trees, v_least, v_sums, v_toward, v_kept, v_isKept, v_keptAt, v_isWriting])), (a_part, .inl (gI G, 6, .inl fp)), (a_queue, .inl (gI G, 15625, .inl fq2)), (a_depth, .inl (gI G, 15625, .inl f37)), (a_by, .inl (gI G, 15625, .inl f38)), (a_from, .inl (gI G, 15625, .inl f39))]) := by rw [ef39]; exact hD
            refine lv_aload_n hx hb dX10_goFrom_161 rfl (lv_at hl 7 rfl) ?_
            refine va_get (D := G.1) (ci := 6) (v := .ref a_queue) (C := RX10) (T := TX10) (N := 28) hx hb hts (fun _ h => List.mem_cons_of_mem _ (List.mem_append_right _ h)) hown E.K hP 0 rfl rfl 12 (by decide) (hts (.fieldLink RX10 25 "LastMapModel" "queue" "[I") (by decide +kernel)) (fun _ h9 => h9) rfl dX10_goFrom_162 ?_
            refine lv_aload_n hx hb dX10_goFrom_165 rfl (lv_at hl 7 rfl) ?_
            refine va_get (D := G.1) (ci := 6) (v := .int (nI cm2)) (C := RX10) (T := TX10) (N := 28) hx hb hts (fun _ h => List.mem_cons_of_mem _ (List.mem_append_right _ h)) hown E.K hP 0 rfl rfl 16 (by decide) (hts (.fieldLink RX10 158 "LastMapModel" "come" "I") (by decide +kernel)) (fun _ h9 => h9) rfl dX10_goFrom_166 ?_
            refine lv_iload hx hb dX10_goFrom_169 (lv_at hl 0 rfl) ?_
            refine va_iast hx hb E.K hP hD hS 2 1 rfl rfl (i := nI cm2) (vp_in_nI (by have q9 := hstep.2; omega) (by decide)) dX10_goFrom_171 (fun H locs hP hD hS => ?_)
            obtain ⟨f40, ef40⟩ : ∃ yy_ : Nat → Int32, yy_ = upd fq2 (nI cm2).toNatClampNeg (nI now) := ⟨_, rfl⟩
            have hP : va_P G.1 vwCl ([(h1, .inr (6, [.int (nI k), v_maps, v_told, v_kinds, v_land, v_spades, .ref a_part, v_pad, v_padMany, v_slips, v_slipMany, v_made, .ref a_queue, .ref a_depth, .ref a_by, .ref a_from, .int (nI cm2), v_offOf, v_parent, v_best, v_trees, v_least, v_sums, v_toward, v_kept, v_isKept, v_keptAt, v_isWriting])), (a_part, .inl (gI G, 6, .inl fp)), (a_queue, .inl (gI G, 15625, .inl f40)), (a_depth, .inl (gI G, 15625, .inl f37)), (a_by, .inl (gI G, 15625, .inl f38)), (a_from, .inl (gI G, 15625, .inl f39))]) H := by rw [ef40]; exact hP
            have hD : va_D A ([(h1, .inr (6, [.int (nI k), v_maps, v_told, v_kinds, v_land, v_spades, .ref a_part, v_pad, v_padMany, v_slips, v_slipMany, v_made, .ref a_queue, .ref a_depth, .ref a_by, .ref a_from, .int (nI cm2), v_offOf, v_parent, v_best, v_trees, v_least, v_sums, v_toward, v_kept, v_isKept, v_keptAt, v_isWriting])), (a_part, .inl (gI G, 6, .inl fp)), (a_queue, .inl (gI G, 15625, .inl f40)), (a_depth, .inl (gI G, 15625, .inl f37)), (a_by, .inl (gI G, 15625, .inl f38)), (a_from, .inl (gI G, 15625, .inl f39))]) := by rw [ef40]; exact hD
            refine lv_aload_n hx hb dX10_goFrom_172 rfl (lv_at hl 7 rfl) ?_
            refine lv_dup hx hb dX10_goFrom_173 rfl ?_
            refine va_get (D := G.1) (ci := 6) (v := .int (nI cm2)) (C := RX10) (T := TX10) (N := 28) hx hb hts (fun _ h => List.mem_cons_of_mem _ (List.mem_append_right _ h)) hown E.K hP 0 rfl rfl 16 (by decide) (hts (.fieldLink RX10 158 "LastMapModel" "come" "I") (by decide +kernel)) (fun _ h9 => h9) rfl dX10_goFrom_174 ?_
            refine lv_iconst (v := 1) hx hb dX10_goFrom_177 (by decide) ?_
            refine lv_iadd hx hb dX10_goFrom_178 ?_
            refine lv_topi (fun x41 ex41 => ?_)
            obtain rfl : x41 = nI (cm2 + 1) := by rw [ex41]; exact nI_add cm2 1
            refine va_put (D := G.1) (ci := 6) (v := .int (nI (cm2 + 1))) (ty := .int) (C := RX10) (T := TX10) (N := 28) hx hb hts (fun _ h => List.mem_cons_of_mem _ (List.mem_append_right _ h)) tyX10 tyX10_ok nmX10 hown E.K hP hD hS 0 rfl rfl 16 (by decide) (hts (.fieldLink RX10 158 "LastMapModel" "come" "I") (by decide +kernel)) (fun _ h9 => h9) rfl (by decide +kernel) rfl rfl (Nat.le_of_ble_eq_true rfl) dX10_goFrom_179 (fun H locs hP hD hS => ?_)
            have hP : va_P G.1 vwCl ([(h1, .inr (6, [.int (nI k), v_maps, v_told, v_kinds, v_land, v_spades, .ref a_part, v_pad, v_padMany, v_slips, v_slipMany, v_made, .ref a_queue, .ref a_depth, .ref a_by, .ref a_from, .int (nI (cm2 + 1)), v_offOf, v_parent, v_best, v_trees, v_least, v_sums, v_toward, v_kept, v_isKept, v_keptAt, v_isWriting])), (a_part, .inl (gI G, 6, .inl fp)), (a_queue, .inl (gI G, 15625, .inl f40)), (a_depth, .inl (gI G, 15625, .inl f37)), (a_by, .inl (gI G, 15625, .inl f38)), (a_from, .inl (gI G, 15625, .inl f39))]) H := hP
            have hD : va_D A ([(h1, .inr (6, [.int (nI k), v_maps, v_told, v_kinds, v_land, v_spades, .ref a_part, v_pad, v_padMany, v_slips, v_slipMany, v_made, .ref a_queue, .ref a_depth, .ref a_by, .ref a_from, .int (nI (cm2 + 1)), v_offOf, v_parent, v_best, v_trees, v_least, v_sums, v_toward, v_kept, v_isKept, v_keptAt, v_isWriting])), (a_part, .inl (gI G, 6, .inl fp)), (a_queue, .inl (gI G, 15625, .inl f40)), (a_depth, .inl (gI G, 15625, .inl f37)), (a_by, .inl (gI G, 15625, .inl f38)), (a_from, .inl (gI G, 15625, .inl f39))]) := hD
            obtain ⟨x42, ex42⟩ : ∃ yy_ : Int32, yy_ = (nI z) + 1 := ⟨_, rfl⟩
            refine lv_iinc (v := x42) (lv' := [(7, .int x42), (9, .int (nI now)), (8, .int (nI (slv k z))), (6, .int (nI now)), (5, .int (nI y)), (4, .int (nI (manyS k))), (3, .int (nI (5 ^ k))), (0, .ref h1), (1, .int (nI a)), (2, .int p1)]) hx hb dX10_goFrom_182 hl (k := 2) rfl (by rw [ex42]; rfl) (by decide) rfl (fun ls hl => ?_)
            obtain rfl : x42 = nI (z + 1) := by rw [ex42]; exact nI_add z 1
            refine lv_goto (tgt := 78) hx hb dX10_goFrom_185 (by decide) ?_
            refine ih78 ((z + 1), (cm2 + 1), f37, f40, f38, f39) ⟨?_, ?_, ?_, ?_⟩ (by first | omega | (dsimp only; omega)) H locs ls (hP.sub [0, 1, 2, 3, 4, 5] rfl) (hD.sub [0, 1, 2, 3, 4, 5] (by decide) rfl) hS (lv_sub hl [0, 3, 4, 5, 6, 7, 8, 9] rfl)
            · try dsimp only
              omega
            · try dsimp only
              rw [ef37, ef39, ef40, nI_clamp (n := now) (by omega), nI_clamp (n := cm2) (by omega)]; exact hstep.1
            · try dsimp only
              omega
            · try dsimp only
              rw [ef37, nI_clamp (n := now) (by omega)]
              by_cases e9 : now = now
              · rw [show upd fd2 now (nI (d9 + 1)) now = nI (d9 + 1) from if_pos e9]; exact nI_pos (by omega)
              · rw [pk_un e9]; exact hnn2
  · have c3 : ¬ (5 ^ k) ≤ x := fun h9_ => c3 ((nI_leI (a := (5 ^ k)) (b := x) (by omega) (by omega)).mpr h9_)
    refine lv_aload_n hx hb dX10_goFrom_14 rfl (lv_at hl 2 rfl) ?_
    refine va_get (D := G.1) (ci := 6) (v := .ref a_depth) (C := RX10) (T := TX10) (N := 28) hx hb hts (fun _ h => List.mem_cons_of_mem _ (List.mem_append_right _ h)) hown E.K hP 0 rfl rfl 13 (by decide) (hts (.fieldLink RX10 28 "LastMapModel" "depth" "[I") (by decide +kernel)) (fun _ h9 => h9) rfl dX10_goFrom_15 ?_
    refine lv_iload hx hb dX10_goFrom_18 (lv_at hl 0 rfl) ?_
    refine lv_bipush (v := (-6)) hx hb dX10_goFrom_20 (by decide) ?_
    refine va_iast hx hb E.K hP hD hS 3 1 rfl rfl (i := nI x) (vp_in_nI (by omega) (by decide)) dX10_goFrom_22 (fun H locs hP hD hS => ?_)
    obtain ⟨f43, ef43⟩ : ∃ yy_ : Nat → Int32, yy_ = upd f (nI x).toNatClampNeg (-6) := ⟨_, rfl⟩
    have hP : va_P G.1 vwCl ([(h1, .inr (6, [.int (nI k), v_maps, v_told, v_kinds, v_land, v_spades, .ref a_part, v_pad, v_padMany, v_slips, v_slipMany, v_made, .ref a_queue, .ref a_depth, .ref a_by, .ref a_from, .int cm0, v_offOf, v_parent, v_best, v_trees, v_least, v_sums, v_toward, v_kept, v_isKept, v_keptAt, v_isWriting])), (a_part, .inl (gI G, 6, .inl fp)), (a_queue, .inl (gI G, 15625, .inl fq)), (a_depth, .inl (gI G, 15625, .inl f43)), (a_by, .inl (gI G, 15625, .inl fb)), (a_from, .inl (gI G, 15625, .inl fr))]) H := by rw [ef43]; exact hP
    have hD : va_D A ([(h1, .inr (6, [.int (nI k), v_maps, v_told, v_kinds, v_land, v_spades, .ref a_part, v_pad, v_padMany, v_slips, v_slipMany, v_made, .ref a_queue, .ref a_depth, .ref a_by, .ref a_from, .int cm0, v_offOf, v_parent, v_best, v_trees, v_least, v_sums, v_toward, v_kept, v_isKept, v_keptAt, v_isWriting])), (a_part, .inl (gI G, 6, .inl fp)), (a_queue, .inl (gI G, 15625, .inl fq)), (a_depth, .inl (gI G, 15625, .inl f43)), (a_by, .inl (gI G, 15625, .inl fb)), (a_from, .inl (gI G, 15625, .inl fr))]) := by rw [ef43]; exact hD
    obtain ⟨x44, ex44⟩ : ∃ yy_ : Int32, yy_ = (nI x) + 1 := ⟨_, rfl⟩
    refine lv_iinc (v := x44) (lv' := [(4, .int x44), (3, .int (nI (5 ^ k))), (0, .ref h1), (1, .int (nI a)), (2, .int p1)]) hx hb dX10_goFrom_23 hl (k := 0) rfl (by rw [ex44]; rfl) (by decide) rfl (fun ls hl => ?_)
    obtain rfl : x44 = nI (x + 1) := by rw [ex44]; exact nI_add x 1
    refine lv_goto (tgt := 8) hx hb dX10_goFrom_26 (by decide) ?_
    refine ih8 ((x + 1), f43) ⟨?_, ?_⟩ (by first | omega | (dsimp only; omega)) H locs ls (hP.sub [0, 1, 2, 3, 4, 5] rfl) (hD.sub [0, 1, 2, 3, 4, 5] (by decide) rfl) hS (lv_sub hl [0, 1, 2, 3, 4] rfl)
    · try dsimp only
      omega
    · try dsimp only
      intro j hj; rw [ef43, nI_clamp (by omega)]
      by_cases hji : j = x
      · subst hji; rw [pk_us]
      · rw [pk_un hji]; exact hf j (by omega)
