theorem slv_facts {k t : Nat} (hk : k ≤ 6) (h : t < manyS k) : slv k t < 400 ∧ slv k t / 100 = (mvAt k t).1 := by
  have h1 := mvAt_ok h
  unfold okV at h1
  unfold slv
  omega
theorem many40 {k : Nat} (hk : k ≤ 6) : manyS k ≤ 40 := by unfold manyS; omega
theorem inc_sm {x y z : Int32} {n : Nat} (h : inR x 0 y) (e : y = nI n - 1) (hn : n < 2 ^ 31) (ez : z = x + 1) : z.toInt = x.toInt + 1 ∧ 0 ≤ x.toInt := by
  have h1 := i3_le.mp h.1
  have h2 := i3_le.mp h.2
  simp only [Int32.reduceToInt] at h1
  have h3 : y.toInt ≤ n - 1 := by
    cases n with
    | zero => rw [e]; decide
    | succ n => rw [e, nI_pred, nI_toInt (by omega)]; omega
  refine ⟨?_, h1⟩
  rw [ez, Int32.toInt_add, show (1 : Int32).toInt = 1 from rfl]
  apply Int.bmod_eq_of_le <;> omega

set_option maxHeartbeats 1000000 in
set_option maxRecDepth 100000 in
theorem m_goFrom (l : Launch) (G : Gy) (sz : Nat) (h1 : Nat) (v_maps : Value) (v_told : Value) (v_kinds : Value) (v_land : Value) (v_spades : Value) (v_pad : Value) (v_padMany : Value) (v_slips : Value) (v_slipMany : Value) (v_made : Value) (v_offOf : Value) (v_parent : Value) (v_best : Value) (v_trees : Value) (v_least : Value) (v_sums : Value) (v_toward : Value) (v_kept : Value) (v_isKept : Value) (v_keptAt : Value) (v_isWriting : Value) (a_part : Nat) (fp : Nat → Int32) (a_queue : Nat) (a_depth : Nat) (a_by : Nat) (a_from : Nat) (fq : Nat → Int32) (fd : Nat → Int32) (fb : Nat → Int32) (fr : Nat → Int32) (k : Nat) (a : Nat) (cm0 : Int32) (p1 : Int32) (hk2 : 2 ≤ k) (hk6 : k ≤ 6) (hp : pOK k fp) (ha : a < 5 ^ k) : Cv l G yX10_goFrom wsX10_goFrom ({ frames := 3, cells := 0, slots := 0, locals := 69 }) [.ref h1, .int (nI a), .int p1] ([(h1, .inr (6, [.int (nI k), v_maps, v_told, v_kinds, v_land, v_spades, .ref a_part, v_pad, v_padMany, v_slips, v_slipMany, v_made, .ref a_queue, .ref a_depth, .ref a_by, .ref a_from, .int cm0, v_offOf, v_parent, v_best, v_trees, v_least, v_sums, v_toward, v_kept, v_isKept, v_keptAt, v_isWriting])), (a_part, .inl (gI G, 6, .inl fp)), (a_queue, .inl (gI G, 15625, .inl fq)), (a_depth, .inl (gI G, 15625, .inl fd)), (a_by, .inl (gI G, 15625, .inl fb)), (a_from, .inl (gI G, 15625, .inl fr))]) sz (fun (u : Nat × (Nat → Int32) × (Nat → Int32) × (Nat → Int32) × (Nat → Int32)) => match u with | (cm1, gq, gd, gb, gr) => dOK (5 ^ k) cm1 gd gr gq) (fun (u : Nat × (Nat → Int32) × (Nat → Int32) × (Nat → Int32) × (Nat → Int32)) => match u with | (cm1, gq, gd, gb, gr) => [(h1, .inr (6, [.int (nI k), v_maps, v_told, v_kinds, v_land, v_spades, .ref a_part, v_pad, v_padMany, v_slips, v_slipMany, v_made, .ref a_queue, .ref a_depth, .ref a_by, .ref a_from, .int (nI cm1), v_offOf, v_parent, v_best, v_trees, v_least, v_sums, v_toward, v_kept, v_isKept, v_keptAt, v_isWriting])), (a_part, .inl (gI G, 6, .inl fp)), (a_queue, .inl (gI G, 15625, .inl gq)), (a_depth, .inl (gI G, 15625, .inl gd)), (a_by, .inl (gI G, 15625, .inl gb)), (a_from, .inl (gI G, 15625, .inl gr))]) 0 0 := by
  refine Met.ofW (cc := cX10_goFrom) (maxL := 10) (ret := none) (by decide) rfl ?_
  intro p e s m args below meth c s₁ B hml hv
  obtain ⟨rfl, hsz, hP, hD0, E0⟩ := hv
  have hx := B.exec
  have hb := B.bytes
  have hr := B.returns
  have hts := atoms_spec (ws := wsX10_goFrom) B.pre
  have hown : s.vm.findClass RX10 = some m.cls := findClass_of_methodNamed B.named
  have hlocks := B.notSynchronized
  subst hsz
  have hD := hD0.self (sz := s.heap.size)
  generalize hAe : va_A ([(h1, .inr (6, [.int (nI k), v_maps, v_told, v_kinds, v_land, v_spades, .ref a_part, v_pad, v_padMany, v_slips, v_slipMany, v_made, .ref a_queue, .ref a_depth, .ref a_by, .ref a_from, .int cm0, v_offOf, v_parent, v_best, v_trees, v_least, v_sums, v_toward, v_kept, v_isKept, v_keptAt, v_isWriting])), (a_part, .inl (gI G, 6, .inl fp)), (a_queue, .inl (gI G, 15625, .inl fq)), (a_depth, .inl (gI G, 15625, .inl fd)), (a_by, .inl (gI G, 15625, .inl fb)), (a_from, .inl (gI G, 15625, .inl fr))]) s.heap.size = A at hD E0 ⊢
  have E : EV G A s s.heap := E0
  have hA : ∀ q : Nat, s.heap.size ≤ q → A q := fun q h => by rw [← hAe]; exact Or.inr h
  have hS : va_S A s.heap s.heap [] := va_S.rf
  have hl := lv_entry ([.ref h1, .int (nI a), .int p1]) (n := 10) (Nat.le_of_ble_eq_true rfl)
  rw [lg_entry_eq]
  generalize (lg_sl ([.ref h1, .int (nI a), .int p1]) ++ List.replicate (10 - (lg_sl ([.ref h1, .int (nI a), .int p1])).length) Slot.unset).toArray = ls at hl ⊢
  have hl : lv_has ls 10 [(0, .ref h1), (1, .int (nI a)), (2, .int p1)] := hl
  have hP : va_P G.1 vwCl ([(h1, .inr (6, [.int (nI k), v_maps, v_told, v_kinds, v_land, v_spades, .ref a_part, v_pad, v_padMany, v_slips, v_slipMany, v_made, .ref a_queue, .ref a_depth, .ref a_by, .ref a_from, .int cm0, v_offOf, v_parent, v_best, v_trees, v_least, v_sums, v_toward, v_kept, v_isKept, v_keptAt, v_isWriting])), (a_part, .inl (gI G, 6, .inl fp)), (a_queue, .inl (gI G, 15625, .inl fq)), (a_depth, .inl (gI G, 15625, .inl fd)), (a_by, .inl (gI G, 15625, .inl fb)), (a_from, .inl (gI G, 15625, .inl fr))]) s.heap := hP
  have hal := p5le hk6
  have hmk := many40 hk6
  have hal1 := p5pos k
  refine lv_aload_n hx hb dX10_goFrom_0 rfl (lv_at hl 0 rfl) ?_
  refine ca_iR (va_runV (As := []) (rest := []) ⟨hx, hb, hml, hown, hts⟩ (m_all l G s.heap.size h1 (.int (nI k)) v_maps v_told v_kinds v_land v_spades v_pad v_padMany v_slips v_slipMany v_made (.ref a_queue) (.ref a_depth) (.ref a_by) (.ref a_from) (.int cm0) v_offOf v_parent v_best v_trees v_least v_sums v_toward v_kept v_isKept v_keptAt v_isWriting a_part fp k hk2 hp) (cwV 0 hts gX10_goFrom_X10_all rfl rfl rfl (by decide +kernel) ⟨by decide +kernel, by decide +kernel⟩) (pre_V E hP hD hS hA [0, 1] (by decide) rfl 0 6 rfl rfl) rfl rfl hl.1 rfl (lv_room (Nat.le_of_ble_eq_true rfl)) dX10_goFrom_1 ⟨by decide +kernel, by decide +kernel⟩) hS hP hD hA [0, 1] rfl (fun r2 _ H locs w1 hP hS => ?_)
  rw [w1]
  refine lv_istore_n (lv' := [(3, .int (nI (5 ^ k))), (0, .ref h1), (1, .int (nI a)), (2, .int p1)]) hx hb dX10_goFrom_4 rfl hl (by decide) rfl (fun ls hl => ?_)
  refine lv_iconst (v := 0) hx hb dX10_goFrom_5 (by decide) ?_
  refine lv_istore (lv' := [(4, .int 0), (3, .int (nI (5 ^ k))), (0, .ref h1), (1, .int (nI a)), (2, .int p1)]) hx hb dX10_goFrom_6 hl (by decide) rfl (fun ls hl => ?_)
  refine lp_run (x0 := (0, fd)) (fun xx_ : Nat × (Nat → Int32) => match xx_ with | (x, f) => [(h1, .inr (6, [.int (nI k), v_maps, v_told, v_kinds, v_land, v_spades, .ref a_part, v_pad, v_padMany, v_slips, v_slipMany, v_made, .ref a_queue, .ref a_depth, .ref a_by, .ref a_from, .int cm0, v_offOf, v_parent, v_best, v_trees, v_least, v_sums, v_toward, v_kept, v_isKept, v_keptAt, v_isWriting])), (a_part, .inl (gI G, 6, .inl fp)), (a_queue, .inl (gI G, 15625, .inl fq)), (a_depth, .inl (gI G, 15625, .inl f)), (a_by, .inl (gI G, 15625, .inl fb)), (a_from, .inl (gI G, 15625, .inl fr))]) (fun xx_ : Nat × (Nat → Int32) => match xx_ with | (x, f) => [(4, .int (nI x)), (3, .int (nI (5 ^ k))), (0, .ref h1), (1, .int (nI a)), (2, .int p1)]) (fun xx_ : Nat × (Nat → Int32) => match xx_ with | (x, f) => (x ≤ 5 ^ k) ∧ (∀ j : Nat, j < x → f j = (-6))) (fun xx_ : Nat × (Nat → Int32) => match xx_ with | (x, f) => (5 ^ k) - x) (hP.sub [0, 1, 2, 3, 4, 5] rfl) (hD.sub [0, 1, 2, 3, 4, 5] (by decide) rfl) hS (lv_sub hl [0, 1, 2, 3, 4] rfl) ⟨(by omega), by intro j hj; omega⟩ ?_
  intro xx_ hI ih8 H locs ls hP hD hS hl
  obtain ⟨x, f⟩ := xx_
  dsimp only at hI ih8 hP hD hl
  obtain ⟨hx0, hf⟩ := hI
  have hl : lv_has ls 10 [(4, .int (nI x)), (3, .int (nI (5 ^ k))), (0, .ref h1), (1, .int (nI a)), (2, .int p1)] := hl
  have hP : va_P G.1 vwCl ([(h1, .inr (6, [.int (nI k), v_maps, v_told, v_kinds, v_land, v_spades, .ref a_part, v_pad, v_padMany, v_slips, v_slipMany, v_made, .ref a_queue, .ref a_depth, .ref a_by, .ref a_from, .int cm0, v_offOf, v_parent, v_best, v_trees, v_least, v_sums, v_toward, v_kept, v_isKept, v_keptAt, v_isWriting])), (a_part, .inl (gI G, 6, .inl fp)), (a_queue, .inl (gI G, 15625, .inl fq)), (a_depth, .inl (gI G, 15625, .inl f)), (a_by, .inl (gI G, 15625, .inl fb)), (a_from, .inl (gI G, 15625, .inl fr))]) H := hP
  have hD : va_D A ([(h1, .inr (6, [.int (nI k), v_maps, v_told, v_kinds, v_land, v_spades, .ref a_part, v_pad, v_padMany, v_slips, v_slipMany, v_made, .ref a_queue, .ref a_depth, .ref a_by, .ref a_from, .int cm0, v_offOf, v_parent, v_best, v_trees, v_least, v_sums, v_toward, v_kept, v_isKept, v_keptAt, v_isWriting])), (a_part, .inl (gI G, 6, .inl fp)), (a_queue, .inl (gI G, 15625, .inl fq)), (a_depth, .inl (gI G, 15625, .inl f)), (a_by, .inl (gI G, 15625, .inl fb)), (a_from, .inl (gI G, 15625, .inl fr))]) := hD
  refine lv_iload hx hb dX10_goFrom_8 (lv_at hl 0 rfl) ?_
  refine lv_iload_n hx hb dX10_goFrom_10 rfl (lv_at hl 1 rfl) ?_
  refine lv_icmp_ge (tgt := 29) hx hb dX10_goFrom_11 (by decide) (fun c3 => ?_) (fun c3 => ?_)
  · have c3 : (5 ^ k) ≤ x := (nI_leI (a := (5 ^ k)) (b := x) (by omega) (by omega)).mp c3
    refine lv_aload_n hx hb dX10_goFrom_29 rfl (lv_at hl 2 rfl) ?_
    refine va_get (D := G.1) (ci := 6) (v := .ref a_depth) (C := RX10) (T := TX10) (N := 28) hx hb hts (fun _ h => List.mem_cons_of_mem _ (List.mem_append_right _ h)) hown E.K hP 0 rfl rfl 13 (by decide) (hts (.fieldLink RX10 28 "LastMapModel" "depth" "[I") (by decide +kernel)) (fun _ h9 => h9) rfl dX10_goFrom_30 ?_
    refine lv_iload_n hx hb dX10_goFrom_33 rfl (lv_at hl 3 rfl) ?_
    refine lv_iconst (v := 0) hx hb dX10_goFrom_34 (by decide) ?_
    refine va_iast hx hb E.K hP hD hS 3 1 rfl rfl (i := nI a) (vp_in_nI (by omega) (by decide)) dX10_goFrom_35 (fun H locs hP hD hS => ?_)
    obtain ⟨f4, ef4⟩ : ∃ yy_ : Nat → Int32, yy_ = upd f (nI a).toNatClampNeg 0 := ⟨_, rfl⟩
    have hP : va_P G.1 vwCl ([(h1, .inr (6, [.int (nI k), v_maps, v_told, v_kinds, v_land, v_spades, .ref a_part, v_pad, v_padMany, v_slips, v_slipMany, v_made, .ref a_queue, .ref a_depth, .ref a_by, .ref a_from, .int cm0, v_offOf, v_parent, v_best, v_trees, v_least, v_sums, v_toward, v_kept, v_isKept, v_keptAt, v_isWriting])), (a_part, .inl (gI G, 6, .inl fp)), (a_queue, .inl (gI G, 15625, .inl fq)), (a_depth, .inl (gI G, 15625, .inl f4)), (a_by, .inl (gI G, 15625, .inl fb)), (a_from, .inl (gI G, 15625, .inl fr))]) H := by rw [ef4]; exact hP
    have hD : va_D A ([(h1, .inr (6, [.int (nI k), v_maps, v_told, v_kinds, v_land, v_spades, .ref a_part, v_pad, v_padMany, v_slips, v_slipMany, v_made, .ref a_queue, .ref a_depth, .ref a_by, .ref a_from, .int cm0, v_offOf, v_parent, v_best, v_trees, v_least, v_sums, v_toward, v_kept, v_isKept, v_keptAt, v_isWriting])), (a_part, .inl (gI G, 6, .inl fp)), (a_queue, .inl (gI G, 15625, .inl fq)), (a_depth, .inl (gI G, 15625, .inl f4)), (a_by, .inl (gI G, 15625, .inl fb)), (a_from, .inl (gI G, 15625, .inl fr))]) := by rw [ef4]; exact hD
    refine lv_aload_n hx hb dX10_goFrom_36 rfl (lv_at hl 2 rfl) ?_
    refine va_get (D := G.1) (ci := 6) (v := .ref a_queue) (C := RX10) (T := TX10) (N := 28) hx hb hts (fun _ h => List.mem_cons_of_mem _ (List.mem_append_right _ h)) hown E.K hP 0 rfl rfl 12 (by decide) (hts (.fieldLink RX10 25 "LastMapModel" "queue" "[I") (by decide +kernel)) (fun _ h9 => h9) rfl dX10_goFrom_37 ?_
    refine lv_iconst (v := 0) hx hb dX10_goFrom_40 (by decide) ?_
    refine lv_iload_n hx hb dX10_goFrom_41 rfl (lv_at hl 3 rfl) ?_
    refine va_iast hx hb E.K hP hD hS 2 1 rfl rfl (i := 0) (by unfold vp_in; decide) dX10_goFrom_42 (fun H locs hP hD hS => ?_)
    obtain ⟨f5, ef5⟩ : ∃ yy_ : Nat → Int32, yy_ = upd fq (0 : Int32).toNatClampNeg (nI a) := ⟨_, rfl⟩
    have hP : va_P G.1 vwCl ([(h1, .inr (6, [.int (nI k), v_maps, v_told, v_kinds, v_land, v_spades, .ref a_part, v_pad, v_padMany, v_slips, v_slipMany, v_made, .ref a_queue, .ref a_depth, .ref a_by, .ref a_from, .int cm0, v_offOf, v_parent, v_best, v_trees, v_least, v_sums, v_toward, v_kept, v_isKept, v_keptAt, v_isWriting])), (a_part, .inl (gI G, 6, .inl fp)), (a_queue, .inl (gI G, 15625, .inl f5)), (a_depth, .inl (gI G, 15625, .inl f4)), (a_by, .inl (gI G, 15625, .inl fb)), (a_from, .inl (gI G, 15625, .inl fr))]) H := by rw [ef5]; exact hP
    have hD : va_D A ([(h1, .inr (6, [.int (nI k), v_maps, v_told, v_kinds, v_land, v_spades, .ref a_part, v_pad, v_padMany, v_slips, v_slipMany, v_made, .ref a_queue, .ref a_depth, .ref a_by, .ref a_from, .int cm0, v_offOf, v_parent, v_best, v_trees, v_least, v_sums, v_toward, v_kept, v_isKept, v_keptAt, v_isWriting])), (a_part, .inl (gI G, 6, .inl fp)), (a_queue, .inl (gI G, 15625, .inl f5)), (a_depth, .inl (gI G, 15625, .inl f4)), (a_by, .inl (gI G, 15625, .inl fb)), (a_from, .inl (gI G, 15625, .inl fr))]) := by rw [ef5]; exact hD
    refine lv_aload_n hx hb dX10_goFrom_43 rfl (lv_at hl 2 rfl) ?_
    refine lv_iconst (v := 1) hx hb dX10_goFrom_44 (by decide) ?_
    refine va_put (D := G.1) (ci := 6) (v := .int 1) (ty := .int) (C := RX10) (T := TX10) (N := 28) hx hb hts (fun _ h => List.mem_cons_of_mem _ (List.mem_append_right _ h)) tyX10 tyX10_ok nmX10 hown E.K hP hD hS 0 rfl rfl 16 (by decide) (hts (.fieldLink RX10 158 "LastMapModel" "come" "I") (by decide +kernel)) (fun _ h9 => h9) rfl (by decide +kernel) rfl rfl (Nat.le_of_ble_eq_true rfl) dX10_goFrom_45 (fun H locs hP hD hS => ?_)
    have hP : va_P G.1 vwCl ([(h1, .inr (6, [.int (nI k), v_maps, v_told, v_kinds, v_land, v_spades, .ref a_part, v_pad, v_padMany, v_slips, v_slipMany, v_made, .ref a_queue, .ref a_depth, .ref a_by, .ref a_from, .int 1, v_offOf, v_parent, v_best, v_trees, v_least, v_sums, v_toward, v_kept, v_isKept, v_keptAt, v_isWriting])), (a_part, .inl (gI G, 6, .inl fp)), (a_queue, .inl (gI G, 15625, .inl f5)), (a_depth, .inl (gI G, 15625, .inl f4)), (a_by, .inl (gI G, 15625, .inl fb)), (a_from, .inl (gI G, 15625, .inl fr))]) H := hP
    have hD : va_D A ([(h1, .inr (6, [.int (nI k), v_maps, v_told, v_kinds, v_land, v_spades, .ref a_part, v_pad, v_padMany, v_slips, v_slipMany, v_made, .ref a_queue, .ref a_depth, .ref a_by, .ref a_from, .int 1, v_offOf, v_parent, v_best, v_trees, v_least, v_sums, v_toward, v_kept, v_isKept, v_keptAt, v_isWriting])), (a_part, .inl (gI G, 6, .inl fp)), (a_queue, .inl (gI G, 15625, .inl f5)), (a_depth, .inl (gI G, 15625, .inl f4)), (a_by, .inl (gI G, 15625, .inl fb)), (a_from, .inl (gI G, 15625, .inl fr))]) := hD
    refine lv_aload_n hx hb dX10_goFrom_48 rfl (lv_at hl 2 rfl) ?_
    refine ca_iR (va_runV (As := []) (rest := []) ⟨hx, hb, hml, hown, hts⟩ (m_slipsThere l G H.size h1 v_maps v_told v_kinds v_land v_spades (.ref a_part) v_pad v_padMany v_slips v_slipMany v_made (.ref a_queue) (.ref a_depth) (.ref a_by) (.ref a_from) (.int 1) v_offOf v_parent v_best v_trees v_least v_sums v_toward v_kept v_isKept v_keptAt v_isWriting k hk2 hk6) (cwV 0 hts gX10_goFrom_X10_slipsThere rfl rfl rfl (by decide +kernel) ⟨by decide +kernel, by decide +kernel⟩) (pre_V E hP hD hS hA [0] (by decide) rfl 0 6 rfl rfl) rfl rfl hl.1 rfl (lv_room (Nat.le_of_ble_eq_true rfl)) dX10_goFrom_49 ⟨by decide +kernel, by decide +kernel⟩) hS hP hD hA [0] rfl (fun r7 _ H locs w6 hP hS => ?_)
    rw [w6]
    refine lv_istore (lv' := [(4, .int (nI (manyS k))), (3, .int (nI (5 ^ k))), (0, .ref h1), (1, .int (nI a)), (2, .int p1)]) hx hb dX10_goFrom_52 hl (by decide) rfl (fun ls hl => ?_)
    refine lv_iconst (v := 0) hx hb dX10_goFrom_54 (by decide) ?_
    refine lv_istore (lv' := [(5, .int 0), (4, .int (nI (manyS k))), (3, .int (nI (5 ^ k))), (0, .ref h1), (1, .int (nI a)), (2, .int p1)]) hx hb dX10_goFrom_55 hl (by decide) rfl (fun ls hl => ?_)
    refine lp_run (x0 := (0, 1, f4, f5, fb, fr)) (fun xx_ : Nat × Nat × (Nat → Int32) × (Nat → Int32) × (Nat → Int32) × (Nat → Int32) => match xx_ with | (y, cm, fd1, fq1, fb1, fr1) => [(h1, .inr (6, [.int (nI k), v_maps, v_told, v_kinds, v_land, v_spades, .ref a_part, v_pad, v_padMany, v_slips, v_slipMany, v_made, .ref a_queue, .ref a_depth, .ref a_by, .ref a_from, .int (nI cm), v_offOf, v_parent, v_best, v_trees, v_least, v_sums, v_toward, v_kept, v_isKept, v_keptAt, v_isWriting])), (a_part, .inl (gI G, 6, .inl fp)), (a_queue, .inl (gI G, 15625, .inl fq1)), (a_depth, .inl (gI G, 15625, .inl fd1)), (a_by, .inl (gI G, 15625, .inl fb1)), (a_from, .inl (gI G, 15625, .inl fr1))]) (fun xx_ : Nat × Nat × (Nat → Int32) × (Nat → Int32) × (Nat → Int32) × (Nat → Int32) => match xx_ with | (y, cm, fd1, fq1, fb1, fr1) => [(5, .int (nI y)), (4, .int (nI (manyS k))), (3, .int (nI (5 ^ k))), (0, .ref h1), (1, .int (nI a)), (2, .int p1)]) (fun xx_ : Nat × Nat × (Nat → Int32) × (Nat → Int32) × (Nat → Int32) × (Nat → Int32) => match xx_ with | (y, cm, fd1, fq1, fb1, fr1) => (y ≤ 5 ^ k) ∧ (dOK (5 ^ k) cm fd1 fr1 fq1) ∧ (y ≤ cm)) (fun xx_ : Nat × Nat × (Nat → Int32) × (Nat → Int32) × (Nat → Int32) × (Nat → Int32) => match xx_ with | (y, cm, fd1, fq1, fb1, fr1) => (5 ^ k) - y) (hP.sub [0, 1, 2, 3, 4, 5] rfl) (hD.sub [0, 1, 2, 3, 4, 5] (by decide) rfl) hS (lv_sub hl [0, 1, 2, 3, 4, 5] rfl) ⟨(by omega), by rw [ef5]; exact dOK_start (f0 := f) ha (fun j hj => hf j (by omega)) (by rw [ef4, nI_clamp (by omega)]), by omega⟩ ?_
    intro xx_ hI ih57 H locs ls hP hD hS hl
    obtain ⟨y, cm, fd1, fq1, fb1, fr1⟩ := xx_
    dsimp only at hI ih57 hP hD hl
    obtain ⟨hy0, hdo, hyc⟩ := hI
    have hl : lv_has ls 10 [(5, .int (nI y)), (4, .int (nI (manyS k))), (3, .int (nI (5 ^ k))), (0, .ref h1), (1, .int (nI a)), (2, .int p1)] := hl
    have hP : va_P G.1 vwCl ([(h1, .inr (6, [.int (nI k), v_maps, v_told, v_kinds, v_land, v_spades, .ref a_part, v_pad, v_padMany, v_slips, v_slipMany, v_made, .ref a_queue, .ref a_depth, .ref a_by, .ref a_from, .int (nI cm), v_offOf, v_parent, v_best, v_trees, v_least, v_sums, v_toward, v_kept, v_isKept, v_keptAt, v_isWriting])), (a_part, .inl (gI G, 6, .inl fp)), (a_queue, .inl (gI G, 15625, .inl fq1)), (a_depth, .inl (gI G, 15625, .inl fd1)), (a_by, .inl (gI G, 15625, .inl fb1)), (a_from, .inl (gI G, 15625, .inl fr1))]) H := hP
    have hD : va_D A ([(h1, .inr (6, [.int (nI k), v_maps, v_told, v_kinds, v_land, v_spades, .ref a_part, v_pad, v_padMany, v_slips, v_slipMany, v_made, .ref a_queue, .ref a_depth, .ref a_by, .ref a_from, .int (nI cm), v_offOf, v_parent, v_best, v_trees, v_least, v_sums, v_toward, v_kept, v_isKept, v_keptAt, v_isWriting])), (a_part, .inl (gI G, 6, .inl fp)), (a_queue, .inl (gI G, 15625, .inl fq1)), (a_depth, .inl (gI G, 15625, .inl fd1)), (a_by, .inl (gI G, 15625, .inl fb1)), (a_from, .inl (gI G, 15625, .inl fr1))]) := hD
    refine lv_iload hx hb dX10_goFrom_57 (lv_at hl 0 rfl) ?_
    have hcl := dOK_le hdo
    refine lv_aload_n hx hb dX10_goFrom_59 rfl (lv_at hl 3 rfl) ?_
    refine va_get (D := G.1) (ci := 6) (v := .int (nI cm)) (C := RX10) (T := TX10) (N := 28) hx hb hts (fun _ h => List.mem_cons_of_mem _ (List.mem_append_right _ h)) hown E.K hP 0 rfl rfl 16 (by decide) (hts (.fieldLink RX10 158 "LastMapModel" "come" "I") (by decide +kernel)) (fun _ h9 => h9) rfl dX10_goFrom_60 ?_
    refine lv_icmp_ge (tgt := 194) hx hb dX10_goFrom_63 (by decide) (fun c8 => ?_) (fun c8 => ?_)
    · have c8 : cm ≤ y := (nI_leI (a := cm) (b := y) (by omega) (by omega)).mp c8
      have hP9 := (hP.sub (ws' := [(h1, .inr (6, [.int (nI k), v_maps, v_told, v_kinds, v_land, v_spades, .ref a_part, v_pad, v_padMany, v_slips, v_slipMany, v_made, .ref a_queue, .ref a_depth, .ref a_by, .ref a_from, .int (nI cm), v_offOf, v_parent, v_best, v_trees, v_least, v_sums, v_toward, v_kept, v_isKept, v_keptAt, v_isWriting])), (a_part, .inl (gI G, 6, .inl fp)), (a_queue, .inl (gI G, 15625, .inl fq1)), (a_depth, .inl (gI G, 15625, .inl fd1)), (a_by, .inl (gI G, 15625, .inl fb1)), (a_from, .inl (gI G, 15625, .inl fr1))]) [0, 1, 2, 3, 4, 5] rfl)
      have hD9 := (hD.sub (ws' := [(h1, .inr (6, [.int (nI k), v_maps, v_told, v_kinds, v_land, v_spades, .ref a_part, v_pad, v_padMany, v_slips, v_slipMany, v_made, .ref a_queue, .ref a_depth, .ref a_by, .ref a_from, .int (nI cm), v_offOf, v_parent, v_best, v_trees, v_least, v_sums, v_toward, v_kept, v_isKept, v_keptAt, v_isWriting])), (a_part, .inl (gI G, 6, .inl fp)), (a_queue, .inl (gI G, 15625, .inl fq1)), (a_depth, .inl (gI G, 15625, .inl fd1)), (a_by, .inl (gI G, 15625, .inl fb1)), (a_from, .inl (gI G, 15625, .inl fr1))]) [0, 1, 2, 3, 4, 5] (by decide) rfl)
      exact W.vret hx hb hr (fun t9_ ht9_ hW9_ => ⟨⟨(cm, fq1, fd1, fb1, fr1), rfl, hdo, by rw [ht9_]; exact hP9, hD9⟩, hS.F ht9_⟩) hS.2.2 dX10_goFrom_194
    · have c8 : ¬ cm ≤ y := fun h9_ => c8 ((nI_leI (a := cm) (b := y) (by omega) (by omega)).mpr h9_)
      refine lv_aload_n hx hb dX10_goFrom_66 rfl (lv_at hl 3 rfl) ?_
      refine va_get (D := G.1) (ci := 6) (v := .ref a_queue) (C := RX10) (T := TX10) (N := 28) hx hb hts (fun _ h => List.mem_cons_of_mem _ (List.mem_append_right _ h)) hown E.K hP 0 rfl rfl 12 (by decide) (hts (.fieldLink RX10 25 "LastMapModel" "queue" "[I") (by decide +kernel)) (fun _ h9 => h9) rfl dX10_goFrom_67 ?_
      refine lv_iload hx hb dX10_goFrom_70 (lv_at hl 0 rfl) ?_
      refine va_iald hx hb E.K hP 2 1 rfl rfl (i := nI y) (vp_in_nI (by omega) (by decide)) dX10_goFrom_72 ?_
      refine lv_topi (fun x9 ex9 => ?_)
      obtain ⟨now, hnow, enow, hnn⟩ := hdo.2.2.1 y (by omega)
      obtain rfl : x9 = nI now := by rw [ex9, nI_clamp (by omega)]; exact enow
      refine lv_istore (lv' := [(6, .int (nI now)), (5, .int (nI y)), (4, .int (nI (manyS k))), (3, .int (nI (5 ^ k))), (0, .ref h1), (1, .int (nI a)), (2, .int p1)]) hx hb dX10_goFrom_73 hl (by decide) rfl (fun ls hl => ?_)
      refine lv_iconst (v := 0) hx hb dX10_goFrom_75 (by decide) ?_
      refine lv_istore (lv' := [(7, .int 0), (6, .int (nI now)), (5, .int (nI y)), (4, .int (nI (manyS k))), (3, .int (nI (5 ^ k))), (0, .ref h1), (1, .int (nI a)), (2, .int p1)]) hx hb dX10_goFrom_76 hl (by decide) rfl (fun ls hl => ?_)
      refine lp_run (x0 := (0, cm, fd1, fq1, fb1, fr1)) (fun xx_ : Nat × Nat × (Nat → Int32) × (Nat → Int32) × (Nat → Int32) × (Nat → Int32) => match xx_ with | (z, cm2, fd2, fq2, fb2, fr2) => [(h1, .inr (6, [.int (nI k), v_maps, v_told, v_kinds, v_land, v_spades, .ref a_part, v_pad, v_padMany, v_slips, v_slipMany, v_made, .ref a_queue, .ref a_depth, .ref a_by, .ref a_from, .int (nI cm2), v_offOf, v_parent, v_best, v_trees, v_least, v_sums, v_toward, v_kept, v_isKept, v_keptAt, v_isWriting])), (a_part, .inl (gI G, 6, .inl fp)), (a_queue, .inl (gI G, 15625, .inl fq2)), (a_depth, .inl (gI G, 15625, .inl fd2)), (a_by, .inl (gI G, 15625, .inl fb2)), (a_from, .inl (gI G, 15625, .inl fr2))]) (fun xx_ : Nat × Nat × (Nat → Int32) × (Nat → Int32) × (Nat → Int32) × (Nat → Int32) => match xx_ with | (z, cm2, fd2, fq2, fb2, fr2) => [(7, .int (nI z)), (6, .int (nI now)), (5, .int (nI y)), (4, .int (nI (manyS k))), (3, .int (nI (5 ^ k))), (0, .ref h1), (1, .int (nI a)), (2, .int p1)]) (fun xx_ : Nat × Nat × (Nat → Int32) × (Nat → Int32) × (Nat → Int32) × (Nat → Int32) => match xx_ with | (z, cm2, fd2, fq2, fb2, fr2) => (z ≤ manyS k) ∧ (dOK (5 ^ k) cm2 fd2 fr2 fq2) ∧ (y < cm2) ∧ (¬ fd2 now < 0)) (fun xx_ : Nat × Nat × (Nat → Int32) × (Nat → Int32) × (Nat → Int32) × (Nat → Int32) => match xx_ with | (z, cm2, fd2, fq2, fb2, fr2) => (manyS k) - z) (hP.sub [0, 1, 2, 3, 4, 5] rfl) (hD.sub [0, 1, 2, 3, 4, 5] (by decide) rfl) hS (lv_sub hl [0, 1, 2, 3, 4, 5, 6, 7] rfl) ⟨(by omega), hdo, by omega, hnn⟩ ?_
      intro xx_ hI ih78 H locs ls hP hD hS hl
      obtain ⟨z, cm2, fd2, fq2, fb2, fr2⟩ := xx_
      dsimp only at hI ih78 hP hD hl
      obtain ⟨hz0, hdo2, hyc2, hnn2⟩ := hI
      have hl : lv_has ls 10 [(7, .int (nI z)), (6, .int (nI now)), (5, .int (nI y)), (4, .int (nI (manyS k))), (3, .int (nI (5 ^ k))), (0, .ref h1), (1, .int (nI a)), (2, .int p1)] := hl
      have hP : va_P G.1 vwCl ([(h1, .inr (6, [.int (nI k), v_maps, v_told, v_kinds, v_land, v_spades, .ref a_part, v_pad, v_padMany, v_slips, v_slipMany, v_made, .ref a_queue, .ref a_depth, .ref a_by, .ref a_from, .int (nI cm2), v_offOf, v_parent, v_best, v_trees, v_least, v_sums, v_toward, v_kept, v_isKept, v_keptAt, v_isWriting])), (a_part, .inl (gI G, 6, .inl fp)), (a_queue, .inl (gI G, 15625, .inl fq2)), (a_depth, .inl (gI G, 15625, .inl fd2)), (a_by, .inl (gI G, 15625, .inl fb2)), (a_from, .inl (gI G, 15625, .inl fr2))]) H := hP
      have hD : va_D A ([(h1, .inr (6, [.int (nI k), v_maps, v_told, v_kinds, v_land, v_spades, .ref a_part, v_pad, v_padMany, v_slips, v_slipMany, v_made, .ref a_queue, .ref a_depth, .ref a_by, .ref a_from, .int (nI cm2), v_offOf, v_parent, v_best, v_trees, v_least, v_sums, v_toward, v_kept, v_isKept, v_keptAt, v_isWriting])), (a_part, .inl (gI G, 6, .inl fp)), (a_queue, .inl (gI G, 15625, .inl fq2)), (a_depth, .inl (gI G, 15625, .inl fd2)), (a_by, .inl (gI G, 15625, .inl fb2)), (a_from, .inl (gI G, 15625, .inl fr2))]) := hD
      refine lv_iload hx hb dX10_goFrom_78 (lv_at hl 0 rfl) ?_
      refine lv_iload hx hb dX10_goFrom_80 (lv_at hl 3 rfl) ?_
      refine lv_icmp_ge (tgt := 188) hx hb dX10_goFrom_82 (by decide) (fun c10 => ?_) (fun c10 => ?_)
      · have c10 : (manyS k) ≤ z := (nI_leI (a := (manyS k)) (b := z) (by omega) (by omega)).mp c10
        obtain ⟨x11, ex11⟩ : ∃ yy_ : Int32, yy_ = (nI y) + 1 := ⟨_, rfl⟩
        refine lv_iinc (v := x11) (lv' := [(5, .int x11), (7, .int (nI z)), (6, .int (nI now)), (4, .int (nI (manyS k))), (3, .int (nI (5 ^ k))), (0, .ref h1), (1, .int (nI a)), (2, .int p1)]) hx hb dX10_goFrom_188 hl (k := 2) rfl (by rw [ex11]; rfl) (by decide) rfl (fun ls hl => ?_)
        obtain rfl : x11 = nI (y + 1) := by rw [ex11]; exact nI_add y 1
        refine lv_goto (tgt := 57) hx hb dX10_goFrom_191 (by decide) ?_
        refine ih57 ((y + 1), cm2, fd2, fq2, fb2, fr2) ⟨?_, ?_, ?_⟩ (by first | omega | (dsimp only; omega)) H locs ls (hP.sub [0, 1, 2, 3, 4, 5] rfl) (hD.sub [0, 1, 2, 3, 4, 5] (by decide) rfl) hS (lv_sub hl [0, 3, 4, 5, 6, 7] rfl)
        · try dsimp only
          omega
        · try dsimp only
          exact hdo2
        · try dsimp only
          omega
      · have c10 : ¬ (manyS k) ≤ z := fun h9_ => c10 ((nI_leI (a := (manyS k)) (b := z) (by omega) (by omega)).mpr h9_)
        have hz9 : z < manyS k := by omega
        have hv9 := mvAt_ok hz9
        have hs9 := slv_facts hk6 hz9
        have hcl2 := dOK_le hdo2
        refine lv_aload_n hx hb dX10_goFrom_85 rfl (lv_at hl 5 rfl) ?_
        refine lv_iload hx hb dX10_goFrom_86 (lv_at hl 0 rfl) ?_
        refine ca_iR (va_runV (As := [.int (nI z)]) (rest := []) ⟨hx, hb, hml, hown, hts⟩ (m_slipAt l G H.size h1 v_maps v_told v_kinds v_land v_spades (.ref a_part) v_pad v_padMany v_slips v_slipMany v_made (.ref a_queue) (.ref a_depth) (.ref a_by) (.ref a_from) (.int (nI cm2)) v_offOf v_parent v_best v_trees v_least v_sums v_toward v_kept v_isKept v_keptAt v_isWriting k z hk2 hk6 (by omega)) (cwV 1 hts gX10_goFrom_X10_slipAt rfl rfl rfl (by decide +kernel) ⟨by decide +kernel, by decide +kernel⟩) (pre_V E hP hD hS hA [0] (by decide) rfl 0 6 rfl rfl) rfl rfl hl.1 rfl (lv_room (Nat.le_of_ble_eq_true rfl)) dX10_goFrom_88 ⟨by decide +kernel, by decide +kernel⟩) hS hP hD hA [0] rfl (fun r13 _ H locs w12 hP hS => ?_)
        rw [w12]
        refine lv_istore (lv' := [(8, .int (nI (slv k z))), (7, .int (nI z)), (6, .int (nI now)), (5, .int (nI y)), (4, .int (nI (manyS k))), (3, .int (nI (5 ^ k))), (0, .ref h1), (1, .int (nI a)), (2, .int p1)]) hx hb dX10_goFrom_91 hl (by decide) rfl (fun ls hl => ?_)
        refine lv_iload_n hx hb dX10_goFrom_93 rfl (lv_at hl 8 rfl) ?_
        refine lv_iload hx hb dX10_goFrom_94 (lv_at hl 0 rfl) ?_
        refine ca_iR (va_runS (As := [.int p1, .int (nI (slv k z))]) (rest := []) ⟨hx, hb, hml, hown, hts⟩ (m_makes l G H.size p1 (slv k z) ((mvAt k z).1) (by omega) hs9.2) (va_cwS 2 hts gX10_goFrom_X10_makes rfl rfl rfl (by decide +kernel) ⟨by decide +kernel, by decide +kernel⟩) (pre_S E hP hD hS hA [] (by decide) rfl) rfl rfl hl.1 rfl (lv_room (Nat.le_of_ble_eq_true rfl)) dX10_goFrom_96 ⟨by decide +kernel, by decide +kernel⟩) hS hP hD hA [] rfl (fun r15 _ H locs w14 hP hS => ?_)
        rcases w14 with ⟨rfl, b16⟩ | ⟨rfl, b16⟩
        · refine lv_if_eq (tgt := 113) hx hb dX10_goFrom_99 (by decide) (fun c17 => False.elim (by revert c17; decide)) (fun _ => ?_)
          refine lv_aload_n hx hb dX10_goFrom_102 rfl (lv_at hl 6 rfl) ?_
          refine lv_iload hx hb dX10_goFrom_103 (lv_at hl 2 rfl) ?_
          refine lv_iload hx hb dX10_goFrom_105 (lv_at hl 0 rfl) ?_
          refine ca_iR (va_runV (As := [.int (nI now), .int (nI (slv k z))]) (rest := []) ⟨hx, hb, hml, hown, hts⟩ (m_slipped l G H.size h1 (.int (nI k)) v_maps v_told v_kinds v_land v_spades v_pad v_padMany v_slips v_slipMany v_made (.ref a_queue) (.ref a_depth) (.ref a_by) (.ref a_from) (.int (nI cm2)) v_offOf v_parent v_best v_trees v_least v_sums v_toward v_kept v_isKept v_keptAt v_isWriting a_part fp k now (slv k z) ((mvAt k z).1) ((mvAt k z).2.1) ((mvAt k z).2.2) hk6 hp (by omega) rfl hv9) (cwV 2 hts gX10_goFrom_X10_slipped rfl rfl rfl (by decide +kernel) ⟨by decide +kernel, by decide +kernel⟩) (pre_V E hP hD hS hA [0, 1] (by decide) rfl 0 6 rfl rfl) rfl rfl hl.1 rfl (lv_room (Nat.le_of_ble_eq_true rfl)) dX10_goFrom_107 ⟨by decide +kernel, by decide +kernel⟩) hS hP hD hA [0, 1] rfl (fun r19 _ H locs w18 hP hS => ?_)
          rw [w18]
          refine lv_goto (tgt := 115) hx hb dX10_goFrom_110 (by decide) ?_
          have hto : (slN k now (((mvAt k z).1), ((mvAt k z).2.1), ((mvAt k z).2.2))) < 5 ^ k := by first | exact hnow | exact slN_lt hnow hv9
          refine lv_istore (lv' := [(9, .int (nI (slN k now (((mvAt k z).1), ((mvAt k z).2.1), ((mvAt k z).2.2))))), (8, .int (nI (slv k z))), (7, .int (nI z)), (6, .int (nI now)), (5, .int (nI y)), (4, .int (nI (manyS k))), (3, .int (nI (5 ^ k))), (0, .ref h1), (1, .int (nI a)), (2, .int p1)]) hx hb dX10_goFrom_115 hl (by decide) rfl (fun ls hl => ?_)
          refine lv_aload_n hx hb dX10_goFrom_117 rfl (lv_at hl 7 rfl) ?_
          refine va_get (D := G.1) (ci := 6) (v := .ref a_depth) (C := RX10) (T := TX10) (N := 28) hx hb hts (fun _ h => List.mem_cons_of_mem _ (List.mem_append_right _ h)) hown E.K hP 0 rfl rfl 13 (by decide) (hts (.fieldLink RX10 28 "LastMapModel" "depth" "[I") (by decide +kernel)) (fun _ h9 => h9) rfl dX10_goFrom_118 ?_
          refine lv_iload hx hb dX10_goFrom_121 (lv_at hl 0 rfl) ?_
          refine va_iald hx hb E.K hP 3 1 rfl rfl (i := nI (slN k now (((mvAt k z).1), ((mvAt k z).2.1), ((mvAt k z).2.2)))) (vp_in_nI (by omega) (by decide)) dX10_goFrom_123 ?_
          refine lv_topi (fun x20 ex20 => ?_)
          refine lv_if_ge (tgt := 182) hx hb dX10_goFrom_124 (by decide) (fun c21 => ?_) (fun c21 => ?_)
          · obtain ⟨x22, ex22⟩ : ∃ yy_ : Int32, yy_ = (nI z) + 1 := ⟨_, rfl⟩
            refine lv_iinc (v := x22) (lv' := [(7, .int x22), (9, .int (nI (slN k now (((mvAt k z).1), ((mvAt k z).2.1), ((mvAt k z).2.2))))), (8, .int (nI (slv k z))), (6, .int (nI now)), (5, .int (nI y)), (4, .int (nI (manyS k))), (3, .int (nI (5 ^ k))), (0, .ref h1), (1, .int (nI a)), (2, .int p1)]) hx hb dX10_goFrom_182 hl (k := 2) rfl (by rw [ex22]; rfl) (by decide) rfl (fun ls hl => ?_)
            obtain rfl : x22 = nI (z + 1) := by rw [ex22]; exact nI_add z 1
            refine lv_goto (tgt := 78) hx hb dX10_goFrom_185 (by decide) ?_
            refine ih78 ((z + 1), cm2, fd2, fq2, fb2, fr2) ⟨?_, ?_, ?_, ?_⟩ (by first | omega | (dsimp only; omega)) H locs ls (hP.sub [0, 1, 2, 3, 4, 5] rfl) (hD.sub [0, 1, 2, 3, 4, 5] (by decide) rfl) hS (lv_sub hl [0, 3, 4, 5, 6, 7, 8, 9] rfl)
            · try dsimp only
              omega
            · try dsimp only
              exact hdo2
            · try dsimp only
              omega
            · try dsimp only
              exact hnn2
          · have hneg : fd2 (slN k now (((mvAt k z).1), ((mvAt k z).2.1), ((mvAt k z).2.2))) < 0 := by have q9 := c21; rw [ex20, nI_clamp (by omega)] at q9; simp only [i3_le, i3_lt] at *; omega
            obtain ⟨d9, hd9, ed9, -⟩ := dOK_at hdo2 hnow hnn2
            have hstep := dOK_step hdo2 hal hto hneg hnow ed9 hd9
            refine lv_aload_n hx hb dX10_goFrom_127 rfl (lv_at hl 7 rfl) ?_
            refine va_get (D := G.1) (ci := 6) (v := .ref a_depth) (C := RX10) (T := TX10) (N := 28) hx hb hts (fun _ h => List.mem_cons_of_mem _ (List.mem_append_right _ h)) hown E.K hP 0 rfl rfl 13 (by decide) (hts (.fieldLink RX10 28 "LastMapModel" "depth" "[I") (by decide +kernel)) (fun _ h9 => h9) rfl dX10_goFrom_128 ?_
            refine lv_iload hx hb dX10_goFrom_131 (lv_at hl 0 rfl) ?_
            refine lv_aload_n hx hb dX10_goFrom_133 rfl (lv_at hl 7 rfl) ?_
            refine va_get (D := G.1) (ci := 6) (v := .ref a_depth) (C := RX10) (T := TX10) (N := 28) hx hb hts (fun _ h => List.mem_cons_of_mem _ (List.mem_append_right _ h)) hown E.K hP 0 rfl rfl 13 (by decide) (hts (.fieldLink RX10 28 "LastMapModel" "depth" "[I") (by decide +kernel)) (fun _ h9 => h9) rfl dX10_goFrom_134 ?_
            refine lv_iload hx hb dX10_goFrom_137 (lv_at hl 3 rfl) ?_
            refine va_iald hx hb E.K hP 3 1 rfl rfl (i := nI now) (vp_in_nI (by omega) (by decide)) dX10_goFrom_139 ?_
            refine lv_topi (fun x23 ex23 => ?_)
            obtain rfl : x23 = nI d9 := by rw [ex23, nI_clamp (by omega)]; exact ed9
            refine lv_iconst (v := 1) hx hb dX10_goFrom_140 (by decide) ?_
            refine lv_iadd hx hb dX10_goFrom_141 ?_
            refine lv_topi (fun x24 ex24 => ?_)
            obtain rfl : x24 = nI (d9 + 1) := by rw [ex24]; exact nI_add d9 1
            refine va_iast hx hb E.K hP hD hS 3 1 rfl rfl (i := nI (slN k now (((mvAt k z).1), ((mvAt k z).2.1), ((mvAt k z).2.2)))) (vp_in_nI (by omega) (by decide)) dX10_goFrom_142 (fun H locs hP hD hS => ?_)
            obtain ⟨f25, ef25⟩ : ∃ yy_ : Nat → Int32, yy_ = upd fd2 (nI (slN k now (((mvAt k z).1), ((mvAt k z).2.1), ((mvAt k z).2.2)))).toNatClampNeg (nI (d9 + 1)) := ⟨_, rfl⟩
            have hP : va_P G.1 vwCl ([(h1, .inr (6, [.int (nI k), v_maps, v_told, v_kinds, v_land, v_spades, .ref a_part, v_pad, v_padMany, v_slips, v_slipMany, v_made, .ref a_queue, .ref a_depth, .ref a_by, .ref a_from, .int (nI cm2), v_offOf, v_parent, v_best, v_trees, v_least, v_sums, v_toward, v_kept, v_isKept, v_keptAt, v_isWriting])), (a_part, .inl (gI G, 6, .inl fp)), (a_queue, .inl (gI G, 15625, .inl fq2)), (a_depth, .inl (gI G, 15625, .inl f25)), (a_by, .inl (gI G, 15625, .inl fb2)), (a_from, .inl (gI G, 15625, .inl fr2))]) H := by rw [ef25]; exact hP
            have hD : va_D A ([(h1, .inr (6, [.int (nI k), v_maps, v_told, v_kinds, v_land, v_spades, .ref a_part, v_pad, v_padMany, v_slips, v_slipMany, v_made, .ref a_queue, .ref a_depth, .ref a_by, .ref a_from, .int (nI cm2), v_offOf, v_parent, v_best, v_trees, v_least, v_sums, v_toward, v_kept, v_isKept, v_keptAt, v_isWriting])), (a_part, .inl (gI G, 6, .inl fp)), (a_queue, .inl (gI G, 15625, .inl fq2)), (a_depth, .inl (gI G, 15625, .inl f25)), (a_by, .inl (gI G, 15625, .inl fb2)), (a_from, .inl (gI G, 15625, .inl fr2))]) := by rw [ef25]; exact hD
            refine lv_aload_n hx hb dX10_goFrom_143 rfl (lv_at hl 7 rfl) ?_
            refine va_get (D := G.1) (ci := 6) (v := .ref a_by) (C := RX10) (T := TX10) (N := 28) hx hb hts (fun _ h => List.mem_cons_of_mem _ (List.mem_append_right _ h)) hown E.K hP 0 rfl rfl 14 (by decide) (hts (.fieldLink RX10 31 "LastMapModel" "by" "[I") (by decide +kernel)) (fun _ h9 => h9) rfl dX10_goFrom_144 ?_
            refine lv_iload hx hb dX10_goFrom_147 (lv_at hl 0 rfl) ?_
            refine lv_iload hx hb dX10_goFrom_149 (lv_at hl 1 rfl) ?_
            refine va_iast hx hb E.K hP hD hS 4 1 rfl rfl (i := nI (slN k now (((mvAt k z).1), ((mvAt k z).2.1), ((mvAt k z).2.2)))) (vp_in_nI (by omega) (by decide)) dX10_goFrom_151 (fun H locs hP hD hS => ?_)
            obtain ⟨f26, ef26⟩ : ∃ yy_ : Nat → Int32, yy_ = upd fb2 (nI (slN k now (((mvAt k z).1), ((mvAt k z).2.1), ((mvAt k z).2.2)))).toNatClampNeg (nI (slv k z)) := ⟨_, rfl⟩
            have hP : va_P G.1 vwCl ([(h1, .inr (6, [.int (nI k), v_maps, v_told, v_kinds, v_land, v_spades, .ref a_part, v_pad, v_padMany, v_slips, v_slipMany, v_made, .ref a_queue, .ref a_depth, .ref a_by, .ref a_from, .int (nI cm2), v_offOf, v_parent, v_best, v_trees, v_least, v_sums, v_toward, v_kept, v_isKept, v_keptAt, v_isWriting])), (a_part, .inl (gI G, 6, .inl fp)), (a_queue, .inl (gI G, 15625, .inl fq2)), (a_depth, .inl (gI G, 15625, .inl f25)), (a_by, .inl (gI G, 15625, .inl f26)), (a_from, .inl (gI G, 15625, .inl fr2))]) H := by rw [ef26]; exact hP
            have hD : va_D A ([(h1, .inr (6, [.int (nI k), v_maps, v_told, v_kinds, v_land, v_spades, .ref a_part, v_pad, v_padMany, v_slips, v_slipMany, v_made, .ref a_queue, .ref a_depth, .ref a_by, .ref a_from, .int (nI cm2), v_offOf, v_parent, v_best, v_trees, v_least, v_sums, v_toward, v_kept, v_isKept, v_keptAt, v_isWriting])), (a_part, .inl (gI G, 6, .inl fp)), (a_queue, .inl (gI G, 15625, .inl fq2)), (a_depth, .inl (gI G, 15625, .inl f25)), (a_by, .inl (gI G, 15625, .inl f26)), (a_from, .inl (gI G, 15625, .inl fr2))]) := by rw [ef26]; exact hD
            refine lv_aload_n hx hb dX10_goFrom_152 rfl (lv_at hl 7 rfl) ?_
            refine va_get (D := G.1) (ci := 6) (v := .ref a_from) (C := RX10) (T := TX10) (N := 28) hx hb hts (fun _ h => List.mem_cons_of_mem _ (List.mem_append_right _ h)) hown E.K hP 0 rfl rfl 15 (by decide) (hts (.fieldLink RX10 34 "LastMapModel" "from" "[I") (by decide +kernel)) (fun _ h9 => h9) rfl dX10_goFrom_153 ?_
            refine lv_iload hx hb dX10_goFrom_156 (lv_at hl 0 rfl) ?_
            refine lv_iload hx hb dX10_goFrom_158 (lv_at hl 3 rfl) ?_
            refine va_iast hx hb E.K hP hD hS 5 1 rfl rfl (i := nI (slN k now (((mvAt k z).1), ((mvAt k z).2.1), ((mvAt k z).2.2)))) (vp_in_nI (by omega) (by decide)) dX10_goFrom_160 (fun H locs hP hD hS => ?_)
            obtain ⟨f27, ef27⟩ : ∃ yy_ : Nat → Int32, yy_ = upd fr2 (nI (slN k now (((mvAt k z).1), ((mvAt k z).2.1), ((mvAt k z).2.2)))).toNatClampNeg (nI now) := ⟨_, rfl⟩
            have hP : va_P G.1 vwCl ([(h1, .inr (6, [.int (nI k), v_maps, v_told, v_kinds, v_land, v_spades, .ref a_part, v_pad, v_padMany, v_slips, v_slipMany, v_made, .ref a_queue, .ref a_depth, .ref a_by, .ref a_from, .int (nI cm2), v_offOf, v_parent, v_best, v_trees, v_least, v_sums, v_toward, v_kept, v_isKept, v_keptAt, v_isWriting])), (a_part, .inl (gI G, 6, .inl fp)), (a_queue, .inl (gI G, 15625, .inl fq2)), (a_depth, .inl (gI G, 15625, .inl f25)), (a_by, .inl (gI G, 15625, .inl f26)), (a_from, .inl (gI G, 15625, .inl f27))]) H := by rw [ef27]; exact hP
            have hD : va_D A ([(h1, .inr (6, [.int (nI k), v_maps, v_told, v_kinds, v_land, v_spades, .ref a_part, v_pad, v_padMany, v_slips, v_slipMany, v_made, .ref a_queue, .ref a_depth, .ref a_by, .ref a_from, .int (nI cm2), v_offOf, v_parent, v_best, v_trees, v_least, v_sums, v_toward, v_kept, v_isKept, v_keptAt, v_isWriting])), (a_part, .inl (gI G, 6, .inl fp)), (a_queue, .inl (gI G, 15625, .inl fq2)), (a_depth, .inl (gI G, 15625, .inl f25)), (a_by, .inl (gI G, 15625, .inl f26)), (a_from, .inl (gI G, 15625, .inl f27))]) := by rw [ef27]; exact hD
            refine lv_aload_n hx hb dX10_goFrom_161 rfl (lv_at hl 7 rfl) ?_
            refine va_get (D := G.1) (ci := 6) (v := .ref a_queue) (C := RX10) (T := TX10) (N := 28) hx hb hts (fun _ h => List.mem_cons_of_mem _ (List.mem_append_right _ h)) hown E.K hP 0 rfl rfl 12 (by decide) (hts (.fieldLink RX10 25 "LastMapModel" "queue" "[I") (by decide +kernel)) (fun _ h9 => h9) rfl dX10_goFrom_162 ?_
            refine lv_aload_n hx hb dX10_goFrom_165 rfl (lv_at hl 7 rfl) ?_
            refine va_get (D := G.1) (ci := 6) (v := .int (nI cm2)) (C := RX10) (T := TX10) (N := 28) hx hb hts (fun _ h => List.mem_cons_of_mem _ (List.mem_append_right _ h)) hown E.K hP 0 rfl rfl 16 (by decide) (hts (.fieldLink RX10 158 "LastMapModel" "come" "I") (by decide +kernel)) (fun _ h9 => h9) rfl dX10_goFrom_166 ?_
            refine lv_iload hx hb dX10_goFrom_169 (lv_at hl 0 rfl) ?_
            refine va_iast hx hb E.K hP hD hS 2 1 rfl rfl (i := nI cm2) (vp_in_nI (by have q9 := hstep.2; omega) (by decide)) dX10_goFrom_171 (fun H locs hP hD hS => ?_)
            obtain ⟨f28, ef28⟩ : ∃ yy_ : Nat → Int32, yy_ = upd fq2 (nI cm2).toNatClampNeg (nI (slN k now (((mvAt k z).1), ((mvAt k z).2.1), ((mvAt k z).2.2)))) := ⟨_, rfl⟩
            have hP : va_P G.1 vwCl ([(h1, .inr (6, [.int (nI k), v_maps, v_told, v_kinds, v_land, v_spades, .ref a_part, v_pad, v_padMany, v_slips, v_slipMany, v_made, .ref a_queue, .ref a_depth, .ref a_by, .ref a_from, .int (nI cm2), v_offOf, v_parent, v_best, v_trees, v_least, v_sums, v_toward, v_kept, v_isKept, v_keptAt, v_isWriting])), (a_part, .inl (gI G, 6, .inl fp)), (a_queue, .inl (gI G, 15625, .inl f28)), (a_depth, .inl (gI G, 15625, .inl f25)), (a_by, .inl (gI G, 15625, .inl f26)), (a_from, .inl (gI G, 15625, .inl f27))]) H := by rw [ef28]; exact hP
            have hD : va_D A ([(h1, .inr (6, [.int (nI k), v_maps, v_told, v_kinds, v_land, v_spades, .ref a_part, v_pad, v_padMany, v_slips, v_slipMany, v_made, .ref a_queue, .ref a_depth, .ref a_by, .ref a_from, .int (nI cm2), v_offOf, v_parent, v_best, v_trees, v_least, v_sums, v_toward, v_kept, v_isKept, v_keptAt, v_isWriting])), (a_part, .inl (gI G, 6, .inl fp)), (a_queue, .inl (gI G, 15625, .inl f28)), (a_depth, .inl (gI G, 15625, .inl f25)), (a_by, .inl (gI G, 15625, .inl f26)), (a_from, .inl (gI G, 15625, .inl f27))]) := by rw [ef28]; exact hD
            refine lv_aload_n hx hb dX10_goFrom_172 rfl (lv_at hl 7 rfl) ?_
            refine lv_dup hx hb dX10_goFrom_173 rfl ?_
            refine va_get (D := G.1) (ci := 6) (v := .int (nI cm2)) (C := RX10) (T := TX10) (N := 28) hx hb hts (fun _ h => List.mem_cons_of_mem _ (List.mem_append_right _ h)) hown E.K hP 0 rfl rfl 16 (by decide) (hts (.fieldLink RX10 158 "LastMapModel" "come" "I") (by decide +kernel)) (fun _ h9 => h9) rfl dX10_goFrom_174 ?_
            refine lv_iconst (v := 1) hx hb dX10_goFrom_177 (by decide) ?_
            refine lv_iadd hx hb dX10_goFrom_178 ?_
            refine lv_topi (fun x29 ex29 => ?_)
            obtain rfl : x29 = nI (cm2 + 1) := by rw [ex29]; exact nI_add cm2 1
            refine va_put (D := G.1) (ci := 6) (v := .int (nI (cm2 + 1))) (ty := .int) (C := RX10) (T := TX10) (N := 28) hx hb hts (fun _ h => List.mem_cons_of_mem _ (List.mem_append_right _ h)) tyX10 tyX10_ok nmX10 hown E.K hP hD hS 0 rfl rfl 16 (by decide) (hts (.fieldLink RX10 158 "LastMapModel" "come" "I") (by decide +kernel)) (fun _ h9 => h9) rfl (by decide +kernel) rfl rfl (Nat.le_of_ble_eq_true rfl) dX10_goFrom_179 (fun H locs hP hD hS => ?_)
            have hP : va_P G.1 vwCl ([(h1, .inr (6, [.int (nI k), v_maps, v_told, v_kinds, v_land, v_spades, .ref a_part, v_pad, v_padMany, v_slips, v_slipMany, v_made, .ref a_queue, .ref a_depth, .ref a_by, .ref a_from, .int (nI (cm2 + 1)), v_offOf, v_parent, v_best, v_trees, v_least, v_sums, v_toward, v_kept, v_isKept, v_keptAt, v_isWriting])), (a_part, .inl (gI G, 6, .inl fp)), (a_queue, .inl (gI G, 15625, .inl f28)), (a_depth, .inl (gI G, 15625, .inl f25)), (a_by, .inl (gI G, 15625, .inl f26)), (a_from, .inl (gI G, 15625, .inl f27))]) H := hP
            have hD : va_D A ([(h1, .inr (6, [.int (nI k), v_maps, v_told, v_kinds, v_land, v_spades, .ref a_part, v_pad, v_padMany, v_slips, v_slipMany, v_made, .ref a_queue, .ref a_depth, .ref a_by, .ref a_from, .int (nI (cm2 + 1)), v_offOf, v_parent, v_best, v_trees, v_least, v_sums, v_toward, v_kept, v_isKept, v_keptAt, v_isWriting])), (a_part, .inl (gI G, 6, .inl fp)), (a_queue, .inl (gI G, 15625, .inl f28)), (a_depth, .inl (gI G, 15625, .inl f25)), (a_by, .inl (gI G, 15625, .inl f26)), (a_from, .inl (gI G, 15625, .inl f27))]) := hD
            obtain ⟨x30, ex30⟩ : ∃ yy_ : Int32, yy_ = (nI z) + 1 := ⟨_, rfl⟩
            refine lv_iinc (v := x30) (lv' := [(7, .int x30), (9, .int (nI (slN k now (((mvAt k z).1), ((mvAt k z).2.1), ((mvAt k z).2.2))))), (8, .int (nI (slv k z))), (6, .int (nI now)), (5, .int (nI y)), (4, .int (nI (manyS k))), (3, .int (nI (5 ^ k))), (0, .ref h1), (1, .int (nI a)), (2, .int p1)]) hx hb dX10_goFrom_182 hl (k := 2) rfl (by rw [ex30]; rfl) (by decide) rfl (fun ls hl => ?_)
            obtain rfl : x30 = nI (z + 1) := by rw [ex30]; exact nI_add z 1
            refine lv_goto (tgt := 78) hx hb dX10_goFrom_185 (by decide) ?_
            refine ih78 ((z + 1), (cm2 + 1), f25, f28, f26, f27) ⟨?_, ?_, ?_, ?_⟩ (by first | omega | (dsimp only; omega)) H locs ls (hP.sub [0, 1, 2, 3, 4, 5] rfl) (hD.sub [0, 1, 2, 3, 4, 5] (by decide) rfl) hS (lv_sub hl [0, 3, 4, 5, 6, 7, 8, 9] rfl)
            · try dsimp only
              omega
            · try dsimp only
              rw [ef25, ef27, ef28, nI_clamp (n := (slN k now (((mvAt k z).1), ((mvAt k z).2.1), ((mvAt k z).2.2)))) (by omega), nI_clamp (n := cm2) (by omega)]; exact hstep.1
            · try dsimp only
              omega
            · try dsimp only
              rw [ef25, nI_clamp (n := (slN k now (((mvAt k z).1), ((mvAt k z).2.1), ((mvAt k z).2.2)))) (by omega)]
              by_cases e9 : now = (slN k now (((mvAt k z).1), ((mvAt k z).2.1), ((mvAt k z).2.2)))
              · rw [show upd fd2 (slN k now (((mvAt k z).1), ((mvAt k z).2.1), ((mvAt k z).2.2))) (nI (d9 + 1)) now = nI (d9 + 1) from if_pos e9]; exact nI_pos (by omega)
              · rw [pk_un e9]; exact hnn2
        · refine lv_if_eq (tgt := 113) hx hb dX10_goFrom_99 (by decide) (fun _ => ?_) (fun c31 => False.elim (by revert c31; decide))
          refine lv_iload hx hb dX10_goFrom_113 (lv_at hl 2 rfl) ?_
          have hto : now < 5 ^ k := by first | exact hnow | exact slN_lt hnow hv9
          refine lv_istore (lv' := [(9, .int (nI now)), (8, .int (nI (slv k z))), (7, .int (nI z)), (6, .int (nI now)), (5, .int (nI y)), (4, .int (nI (manyS k))), (3, .int (nI (5 ^ k))), (0, .ref h1), (1, .int (nI a)), (2, .int p1)]) hx hb dX10_goFrom_115 hl (by decide) rfl (fun ls hl => ?_)
          refine lv_aload_n hx hb dX10_goFrom_117 rfl (lv_at hl 7 rfl) ?_
          refine va_get (D := G.1) (ci := 6) (v := .ref a_depth) (C := RX10) (T := TX10) (N := 28) hx hb hts (fun _ h => List.mem_cons_of_mem _ (List.mem_append_right _ h)) hown E.K hP 0 rfl rfl 13 (by decide) (hts (.fieldLink RX10 28 "LastMapModel" "depth" "[I") (by decide +kernel)) (fun _ h9 => h9) rfl dX10_goFrom_118 ?_
          refine lv_iload hx hb dX10_goFrom_121 (lv_at hl 0 rfl) ?_
          refine va_iald hx hb E.K hP 3 1 rfl rfl (i := nI now) (vp_in_nI (by omega) (by decide)) dX10_goFrom_123 ?_
          refine lv_topi (fun x32 ex32 => ?_)
          refine lv_if_ge (tgt := 182) hx hb dX10_goFrom_124 (by decide) (fun c33 => ?_) (fun c33 => ?_)
          · obtain ⟨x34, ex34⟩ : ∃ yy_ : Int32, yy_ = (nI z) + 1 := ⟨_, rfl⟩
            refine lv_iinc (v := x34) (lv' := [(7, .int x34), (9, .int (nI now)), (8, .int (nI (slv k z))), (6, .int (nI now)), (5, .int (nI y)), (4, .int (nI (manyS k))), (3, .int (nI (5 ^ k))), (0, .ref h1), (1, .int (nI a)), (2, .int p1)]) hx hb dX10_goFrom_182 hl (k := 2) rfl (by rw [ex34]; rfl) (by decide) rfl (fun ls hl => ?_)
            obtain rfl : x34 = nI (z + 1) := by rw [ex34]; exact nI_add z 1
            refine lv_goto (tgt := 78) hx hb dX10_goFrom_185 (by decide) ?_
            refine ih78 ((z + 1), cm2, fd2, fq2, fb2, fr2) ⟨?_, ?_, ?_, ?_⟩ (by first | omega | (dsimp only; omega)) H locs ls (hP.sub [0, 1, 2, 3, 4, 5] rfl) (hD.sub [0, 1, 2, 3, 4, 5] (by decide) rfl) hS (lv_sub hl [0, 3, 4, 5, 6, 7, 8, 9] rfl)
            · try dsimp only
              omega
            · try dsimp only
              exact hdo2
            · try dsimp only
              omega
            · try dsimp only
              exact hnn2
          · have hneg : fd2 now < 0 := by have q9 := c33; rw [ex32, nI_clamp (by omega)] at q9; simp only [i3_le, i3_lt] at *; omega
            obtain ⟨d9, hd9, ed9, -⟩ := dOK_at hdo2 hnow hnn2
            have hstep := dOK_step hdo2 hal hto hneg hnow ed9 hd9
            refine lv_aload_n hx hb dX10_goFrom_127 rfl (lv_at hl 7 rfl) ?_
            refine va_get (D := G.1) (ci := 6) (v := .ref a_depth) (C := RX10) (T := TX10) (N := 28) hx hb hts (fun _ h => List.mem_cons_of_mem _ (List.mem_append_right _ h)) hown E.K hP 0 rfl rfl 13 (by decide) (hts (.fieldLink RX10 28 "LastMapModel" "depth" "[I") (by decide +kernel)) (fun _ h9 => h9) rfl dX10_goFrom_128 ?_
            refine lv_iload hx hb dX10_goFrom_131 (lv_at hl 0 rfl) ?_
            refine lv_aload_n hx hb dX10_goFrom_133 rfl (lv_at hl 7 rfl) ?_
            refine va_get (D := G.1) (ci := 6) (v := .ref a_depth) (C := RX10) (T := TX10) (N := 28) hx hb hts (fun _ h => List.mem_cons_of_mem _ (List.mem_append_right _ h)) hown E.K hP 0 rfl rfl 13 (by decide) (hts (.fieldLink RX10 28 "LastMapModel" "depth" "[I") (by decide +kernel)) (fun _ h9 => h9) rfl dX10_goFrom_134 ?_
            refine lv_iload hx hb dX10_goFrom_137 (lv_at hl 3 rfl) ?_
            refine va_iald hx hb E.K hP 3 1 rfl rfl (i := nI now) (vp_in_nI (by omega) (by decide)) dX10_goFrom_139 ?_
            refine lv_topi (fun x35 ex35 => ?_)
            obtain rfl : x35 = nI d9 := by rw [ex35, nI_clamp (by omega)]; exact ed9
            refine lv_iconst (v := 1) hx hb dX10_goFrom_140 (by decide) ?_
            refine lv_iadd hx hb dX10_goFrom_141 ?_
            refine lv_topi (fun x36 ex36 => ?_)
            obtain rfl : x36 = nI (d9 + 1) := by rw [ex36]; exact nI_add d9 1
            refine va_iast hx hb E.K hP hD hS 3 1 rfl rfl (i := nI now) (vp_in_nI (by omega) (by decide)) dX10_goFrom_142 (fun H locs hP hD hS => ?_)
            obtain ⟨f37, ef37⟩ : ∃ yy_ : Nat → Int32, yy_ = upd fd2 (nI now).toNatClampNeg (nI (d9 + 1)) := ⟨_, rfl⟩
            have hP : va_P G.1 vwCl ([(h1, .inr (6, [.int (nI k), v_maps, v_told, v_kinds, v_land, v_spades, .ref a_part, v_pad, v_padMany, v_slips, v_slipMany, v_made, .ref a_queue, .ref a_depth, .ref a_by, .ref a_from, .int (nI cm2), v_offOf, v_parent, v_best, v_trees, v_least, v_sums, v_toward, v_kept, v_isKept, v_keptAt, v_isWriting])), (a_part, .inl (gI G, 6, .inl fp)), (a_queue, .inl (gI G, 15625, .inl fq2)), (a_depth, .inl (gI G, 15625, .inl f37)), (a_by, .inl (gI G, 15625, .inl fb2)), (a_from, .inl (gI G, 15625, .inl fr2))]) H := by rw [ef37]; exact hP
            have hD : va_D A ([(h1, .inr (6, [.int (nI k), v_maps, v_told, v_kinds, v_land, v_spades, .ref a_part, v_pad, v_padMany, v_slips, v_slipMany, v_made, .ref a_queue, .ref a_depth, .ref a_by, .ref a_from, .int (nI cm2), v_offOf, v_parent, v_best, v_trees, v_least, v_sums, v_toward, v_kept, v_isKept, v_keptAt, v_isWriting])), (a_part, .inl (gI G, 6, .inl fp)), (a_queue, .inl (gI G, 15625, .inl fq2)), (a_depth, .inl (gI G, 15625, .inl f37)), (a_by, .inl (gI G, 15625, .inl fb2)), (a_from, .inl (gI G, 15625, .inl fr2))]) := by rw [ef37]; exact hD
            refine lv_aload_n hx hb dX10_goFrom_143 rfl (lv_at hl 7 rfl) ?_
            refine va_get (D := G.1) (ci := 6) (v := .ref a_by) (C := RX10) (T := TX10) (N := 28) hx hb hts (fun _ h => List.mem_cons_of_mem _ (List.mem_append_right _ h)) hown E.K hP 0 rfl rfl 14 (by decide) (hts (.fieldLink RX10 31 "LastMapModel" "by" "[I") (by decide +kernel)) (fun _ h9 => h9) rfl dX10_goFrom_144 ?_
            refine lv_iload hx hb dX10_goFrom_147 (lv_at hl 0 rfl) ?_
            refine lv_iload hx hb dX10_goFrom_149 (lv_at hl 1 rfl) ?_
            refine va_iast hx hb E.K hP hD hS 4 1 rfl rfl (i := nI now) (vp_in_nI (by omega) (by decide)) dX10_goFrom_151 (fun H locs hP hD hS => ?_)
            obtain ⟨f38, ef38⟩ : ∃ yy_ : Nat → Int32, yy_ = upd fb2 (nI now).toNatClampNeg (nI (slv k z)) := ⟨_, rfl⟩
            have hP : va_P G.1 vwCl ([(h1, .inr (6, [.int (nI k), v_maps, v_told, v_kinds, v_land, v_spades, .ref a_part, v_pad, v_padMany, v_slips, v_slipMany, v_made, .ref a_queue, .ref a_depth, .ref a_by, .ref a_from, .int (nI cm2), v_offOf, v_parent, v_best, v_trees, v_least, v_sums, v_toward, v_kept, v_isKept, v_keptAt, v_isWriting])), (a_part, .inl (gI G, 6, .inl fp)), (a_queue, .inl (gI G, 15625, .inl fq2)), (a_depth, .inl (gI G, 15625, .inl f37)), (a_by, .inl (gI G, 15625, .inl f38)), (a_from, .inl (gI G, 15625, .inl fr2))]) H := by rw [ef38]; exact hP
            have hD : va_D A ([(h1, .inr (6, [.int (nI k), v_maps, v_told, v_kinds, v_land, v_spades, .ref a_part, v_pad, v_padMany, v_slips, v_slipMany, v_made, .ref a_queue, .ref a_depth, .ref a_by, .ref a_from, .int (nI cm2), v_offOf, v_parent, v_best, v_trees, v_least, v_sums, v_toward, v_kept, v_isKept, v_keptAt, v_isWriting])), (a_part, .inl (gI G, 6, .inl fp)), (a_queue, .inl (gI G, 15625, .inl fq2)), (a_depth, .inl (gI G, 15625, .inl f37)), (a_by, .inl (gI G, 15625, .inl f38)), (a_from, .inl (gI G, 15625, .inl fr2))]) := by rw [ef38]; exact hD
            refine lv_aload_n hx hb dX10_goFrom_152 rfl (lv_at hl 7 rfl) ?_
            refine va_get (D := G.1) (ci := 6) (v := .ref a_from) (C := RX10) (T := TX10) (N := 28) hx hb hts (fun _ h => List.mem_cons_of_mem _ (List.mem_append_right _ h)) hown E.K hP 0 rfl rfl 15 (by decide) (hts (.fieldLink RX10 34 "LastMapModel" "from" "[I") (by decide +kernel)) (fun _ h9 => h9) rfl dX10_goFrom_153 ?_
            refine lv_iload hx hb dX10_goFrom_156 (lv_at hl 0 rfl) ?_
            refine lv_iload hx hb dX10_goFrom_158 (lv_at hl 3 rfl) ?_
            refine va_iast hx hb E.K hP hD hS 5 1 rfl rfl (i := nI now) (vp_in_nI (by omega) (by decide)) dX10_goFrom_160 (fun H locs hP hD hS => ?_)
            obtain ⟨f39, ef39⟩ : ∃ yy_ : Nat → Int32, yy_ = upd fr2 (nI now).toNatClampNeg (nI now) := ⟨_, rfl⟩
            have hP : va_P G.1 vwCl ([(h1, .inr (6, [.int (nI k), v_maps, v_told, v_kinds, v_land, v_spades, .ref a_part, v_pad, v_padMany, v_slips, v_slipMany, v_made, .ref a_queue, .ref a_depth, .ref a_by, .ref a_from, .int (nI cm2), v_offOf, v_parent, v_best, v_trees, v_least, v_sums, v_toward, v_kept, v_isKept, v_keptAt, v_isWriting])), (a_part, .inl (gI G, 6, .inl fp)), (a_queue, .inl (gI G, 15625, .inl fq2)), (a_depth, .inl (gI G, 15625, .inl f37)), (a_by, .inl (gI G, 15625, .inl f38)), (a_from, .inl (gI G, 15625, .inl f39))]) H := by rw [ef39]; exact hP
            have hD : va_D A ([(h1, .inr (6, [.int (nI k), v_maps, v_told, v_kinds, v_land, v_spades, .ref a_part, v_pad, v_padMany, v_slips, v_slipMany, v_made, .ref a_queue, .ref a_depth, .ref a_by, .ref a_from, .int (nI cm2), v_offOf, v_parent, v_best, v_trees, v_least, v_sums, v_toward, v_kept, v_isKept, v_keptAt, v_isWriting])), (a_part, .inl (gI G, 6, .inl fp)), (a_queue, .inl (gI G, 15625, .inl fq2)), (a_depth, .inl (gI G, 15625, .inl f37)), (a_by, .inl (gI G, 15625, .inl f38)), (a_from, .inl (gI G, 15625, .inl f39))]) := by rw [ef39]; exact hD
            refine lv_aload_n hx hb dX10_goFrom_161 rfl (lv_at hl 7 rfl) ?_
            refine va_get (D := G.1) (ci := 6) (v := .ref a_queue) (C := RX10) (T := TX10) (N := 28) hx hb hts (fun _ h => List.mem_cons_of_mem _ (List.mem_append_right _ h)) hown E.K hP 0 rfl rfl 12 (by decide) (hts (.fieldLink RX10 25 "LastMapModel" "queue" "[I") (by decide +kernel)) (fun _ h9 => h9) rfl dX10_goFrom_162 ?_
            refine lv_aload_n hx hb dX10_goFrom_165 rfl (lv_at hl 7 rfl) ?_
            refine va_get (D := G.1) (ci := 6) (v := .int (nI cm2)) (C := RX10) (T := TX10) (N := 28) hx hb hts (fun _ h => List.mem_cons_of_mem _ (List.mem_append_right _ h)) hown E.K hP 0 rfl rfl 16 (by decide) (hts (.fieldLink RX10 158 "LastMapModel" "come" "I") (by decide +kernel)) (fun _ h9 => h9) rfl dX10_goFrom_166 ?_
            refine lv_iload hx hb dX10_goFrom_169 (lv_at hl 0 rfl) ?_
            refine va_iast hx hb E.K hP hD hS 2 1 rfl rfl (i := nI cm2) (vp_in_nI (by have q9 := hstep.2; omega) (by decide)) dX10_goFrom_171 (fun H locs hP hD hS => ?_)
            obtain ⟨f40, ef40⟩ : ∃ yy_ : Nat → Int32, yy_ = upd fq2 (nI cm2).toNatClampNeg (nI now) := ⟨_, rfl⟩
            have hP : va_P G.1 vwCl ([(h1, .inr (6, [.int (nI k), v_maps, v_told, v_kinds, v_land, v_spades, .ref a_part, v_pad, v_padMany, v_slips, v_slipMany, v_made, .ref a_queue, .ref a_depth, .ref a_by, .ref a_from, .int (nI cm2), v_offOf, v_parent, v_best, v_trees, v_least, v_sums, v_toward, v_kept, v_isKept, v_keptAt, v_isWriting])), (a_part, .inl (gI G, 6, .inl fp)), (a_queue, .inl (gI G, 15625, .inl f40)), (a_depth, .inl (gI G, 15625, .inl f37)), (a_by, .inl (gI G, 15625, .inl f38)), (a_from, .inl (gI G, 15625, .inl f39))]) H := by rw [ef40]; exact hP
            have hD : va_D A ([(h1, .inr (6, [.int (nI k), v_maps, v_told, v_kinds, v_land, v_spades, .ref a_part, v_pad, v_padMany, v_slips, v_slipMany, v_made, .ref a_queue, .ref a_depth, .ref a_by, .ref a_from, .int (nI cm2), v_offOf, v_parent, v_best, v_trees, v_least, v_sums, v_toward, v_kept, v_isKept, v_keptAt, v_isWriting])), (a_part, .inl (gI G, 6, .inl fp)), (a_queue, .inl (gI G, 15625, .inl f40)), (a_depth, .inl (gI G, 15625, .inl f37)), (a_by, .inl (gI G, 15625, .inl f38)), (a_from, .inl (gI G, 15625, .inl f39))]) := by rw [ef40]; exact hD
            refine lv_aload_n hx hb dX10_goFrom_172 rfl (lv_at hl 7 rfl) ?_
            refine lv_dup hx hb dX10_goFrom_173 rfl ?_
            refine va_get (D := G.1) (ci := 6) (v := .int (nI cm2)) (C := RX10) (T := TX10) (N := 28) hx hb hts (fun _ h => List.mem_cons_of_mem _ (List.mem_append_right _ h)) hown E.K hP 0 rfl rfl 16 (by decide) (hts (.fieldLink RX10 158 "LastMapModel" "come" "I") (by decide +kernel)) (fun _ h9 => h9) rfl dX10_goFrom_174 ?_
            refine lv_iconst (v := 1) hx hb dX10_goFrom_177 (by decide) ?_
            refine lv_iadd hx hb dX10_goFrom_178 ?_
            refine lv_topi (fun x41 ex41 => ?_)
            obtain rfl : x41 = nI (cm2 + 1) := by rw [ex41]; exact nI_add cm2 1
            refine va_put (D := G.1) (ci := 6) (v := .int (nI (cm2 + 1))) (ty := .int) (C := RX10) (T := TX10) (N := 28) hx hb hts (fun _ h => List.mem_cons_of_mem _ (List.mem_append_right _ h)) tyX10 tyX10_ok nmX10 hown E.K hP hD hS 0 rfl rfl 16 (by decide) (hts (.fieldLink RX10 158 "LastMapModel" "come" "I") (by decide +kernel)) (fun _ h9 => h9) rfl (by decide +kernel) rfl rfl (Nat.le_of_ble_eq_true rfl) dX10_goFrom_179 (fun H locs hP hD hS => ?_)
            have hP : va_P G.1 vwCl ([(h1, .inr (6, [.int (nI k), v_maps, v_told, v_kinds, v_land, v_spades, .ref a_part, v_pad, v_padMany, v_slips, v_slipMany, v_made, .ref a_queue, .ref a_depth, .ref a_by, .ref a_from, .int (nI (cm2 + 1)), v_offOf, v_parent, v_best, v_trees, v_least, v_sums, v_toward, v_kept, v_isKept, v_keptAt, v_isWriting])), (a_part, .inl (gI G, 6, .inl fp)), (a_queue, .inl (gI G, 15625, .inl f40)), (a_depth, .inl (gI G, 15625, .inl f37)), (a_by, .inl (gI G, 15625, .inl f38)), (a_from, .inl (gI G, 15625, .inl f39))]) H := hP
            have hD : va_D A ([(h1, .inr (6, [.int (nI k), v_maps, v_told, v_kinds, v_land, v_spades, .ref a_part, v_pad, v_padMany, v_slips, v_slipMany, v_made, .ref a_queue, .ref a_depth, .ref a_by, .ref a_from, .int (nI (cm2 + 1)), v_offOf, v_parent, v_best, v_trees, v_least, v_sums, v_toward, v_kept, v_isKept, v_keptAt, v_isWriting])), (a_part, .inl (gI G, 6, .inl fp)), (a_queue, .inl (gI G, 15625, .inl f40)), (a_depth, .inl (gI G, 15625, .inl f37)), (a_by, .inl (gI G, 15625, .inl f38)), (a_from, .inl (gI G, 15625, .inl f39))]) := hD
            obtain ⟨x42, ex42⟩ : ∃ yy_ : Int32, yy_ = (nI z) + 1 := ⟨_, rfl⟩
            refine lv_iinc (v := x42) (lv' := [(7, .int x42), (9, .int (nI now)), (8, .int (nI (slv k z))), (6, .int (nI now)), (5, .int (nI y)), (4, .int (nI (manyS k))), (3, .int (nI (5 ^ k))), (0, .ref h1), (1, .int (nI a)), (2, .int p1)]) hx hb dX10_goFrom_182 hl (k := 2) rfl (by rw [ex42]; rfl) (by decide) rfl (fun ls hl => ?_)
            obtain rfl : x42 = nI (z + 1) := by rw [ex42]; exact nI_add z 1
            refine lv_goto (tgt := 78) hx hb dX10_goFrom_185 (by decide) ?_
            refine ih78 ((z + 1), (cm2 + 1), f37, f40, f38, f39) ⟨?_, ?_, ?_, ?_⟩ (by first | omega | (dsimp only; omega)) H locs ls (hP.sub [0, 1, 2, 3, 4, 5] rfl) (hD.sub [0, 1, 2, 3, 4, 5] (by decide) rfl) hS (lv_sub hl [0, 3, 4, 5, 6, 7, 8, 9] rfl)
            · try dsimp only
              omega
            · try dsimp only
              rw [ef37, ef39, ef40, nI_clamp (n := now) (by omega), nI_clamp (n := cm2) (by omega)]; exact hstep.1
            · try dsimp only
              omega
            · try dsimp only
              rw [ef37, nI_clamp (n := now) (by omega)]
              by_cases e9 : now = now
              · rw [show upd fd2 now (nI (d9 + 1)) now = nI (d9 + 1) from if_pos e9]; exact nI_pos (by omega)
              · rw [pk_un e9]; exact hnn2
  · have c3 : ¬ (5 ^ k) ≤ x := fun h9_ => c3 ((nI_leI (a := (5 ^ k)) (b := x) (by omega) (by omega)).mpr h9_)
    refine lv_aload_n hx hb dX10_goFrom_14 rfl (lv_at hl 2 rfl) ?_
    refine va_get (D := G.1) (ci := 6) (v := .ref a_depth) (C := RX10) (T := TX10) (N := 28) hx hb hts (fun _ h => List.mem_cons_of_mem _ (List.mem_append_right _ h)) hown E.K hP 0 rfl rfl 13 (by decide) (hts (.fieldLink RX10 28 "LastMapModel" "depth" "[I") (by decide +kernel)) (fun _ h9 => h9) rfl dX10_goFrom_15 ?_
    refine lv_iload hx hb dX10_goFrom_18 (lv_at hl 0 rfl) ?_
    refine lv_bipush (v := (-6)) hx hb dX10_goFrom_20 (by decide) ?_
    refine va_iast hx hb E.K hP hD hS 3 1 rfl rfl (i := nI x) (vp_in_nI (by omega) (by decide)) dX10_goFrom_22 (fun H locs hP hD hS => ?_)
    obtain ⟨f43, ef43⟩ : ∃ yy_ : Nat → Int32, yy_ = upd f (nI x).toNatClampNeg (-6) := ⟨_, rfl⟩
    have hP : va_P G.1 vwCl ([(h1, .inr (6, [.int (nI k), v_maps, v_told, v_kinds, v_land, v_spades, .ref a_part, v_pad, v_padMany, v_slips, v_slipMany, v_made, .ref a_queue, .ref a_depth, .ref a_by, .ref a_from, .int cm0, v_offOf, v_parent, v_best, v_trees, v_least, v_sums, v_toward, v_kept, v_isKept, v_keptAt, v_isWriting])), (a_part, .inl (gI G, 6, .inl fp)), (a_queue, .inl (gI G, 15625, .inl fq)), (a_depth, .inl (gI G, 15625, .inl f43)), (a_by, .inl (gI G, 15625, .inl fb)), (a_from, .inl (gI G, 15625, .inl fr))]) H := by rw [ef43]; exact hP
    have hD : va_D A ([(h1, .inr (6, [.int (nI k), v_maps, v_told, v_kinds, v_land, v_spades, .ref a_part, v_pad, v_padMany, v_slips, v_slipMany, v_made, .ref a_queue, .ref a_depth, .ref a_by, .ref a_from, .int cm0, v_offOf, v_parent, v_best, v_trees, v_least, v_sums, v_toward, v_kept, v_isKept, v_keptAt, v_isWriting])), (a_part, .inl (gI G, 6, .inl fp)), (a_queue, .inl (gI G, 15625, .inl fq)), (a_depth, .inl (gI G, 15625, .inl f43)), (a_by, .inl (gI G, 15625, .inl fb)), (a_from, .inl (gI G, 15625, .inl fr))]) := by rw [ef43]; exact hD
    obtain ⟨x44, ex44⟩ : ∃ yy_ : Int32, yy_ = (nI x) + 1 := ⟨_, rfl⟩
    refine lv_iinc (v := x44) (lv' := [(4, .int x44), (3, .int (nI (5 ^ k))), (0, .ref h1), (1, .int (nI a)), (2, .int p1)]) hx hb dX10_goFrom_23 hl (k := 0) rfl (by rw [ex44]; rfl) (by decide) rfl (fun ls hl => ?_)
    obtain rfl : x44 = nI (x + 1) := by rw [ex44]; exact nI_add x 1
    refine lv_goto (tgt := 8) hx hb dX10_goFrom_26 (by decide) ?_
    refine ih8 ((x + 1), f43) ⟨?_, ?_⟩ (by first | omega | (dsimp only; omega)) H locs ls (hP.sub [0, 1, 2, 3, 4, 5] rfl) (hD.sub [0, 1, 2, 3, 4, 5] (by decide) rfl) hS (lv_sub hl [0, 1, 2, 3, 4] rfl)
    · try dsimp only
      omega
    · try dsimp only
      intro j hj; rw [ef43, nI_clamp (by omega)]
      by_cases hji : j = x
      · subst hji; rw [pk_us]
      · rw [pk_un hji]; exact hf j (by omega)

set_option maxHeartbeats 1000000 in
set_option maxRecDepth 100000 in
theorem m_slipTo (l : Launch) (G : Gy) (sz : Nat) (h1 : Nat) (v_sites : Value) (v_maps : Value) (v_told : Value) (v_kinds : Value) (v_land : Value) (v_spades : Value) (v_part : Value) (v_pad : Value) (v_padMany : Value) (v_slips : Value) (v_slipMany : Value) (v_made : Value) (v_queue : Value) (v_come : Value) (v_offOf : Value) (v_parent : Value) (v_best : Value) (v_trees : Value) (v_least : Value) (v_sums : Value) (v_toward : Value) (v_kept : Value) (v_isKept : Value) (v_keptAt : Value) (v_isWriting : Value) (a_depth : Nat) (a_by : Nat) (a_from : Nat) (fd : Nat → Int32) (fb : Nat → Int32) (fr : Nat → Int32) (fq : Nat → Int32) (k : Nat) (a : Nat) (cm : Nat) (p1 : Int32) (hk6 : k ≤ 6) (ha : a < 5 ^ k) (hdo : dOK (5 ^ k) cm fd fr fq) : Ci l G yX10_slipTo wsX10_slipTo ({ frames := 1, cells := 0, slots := 0, locals := 25 }) [.ref h1, .int (nI a), .int p1] ([(h1, .inr (6, [v_sites, v_maps, v_told, v_kinds, v_land, v_spades, v_part, v_pad, v_padMany, v_slips, v_slipMany, v_made, v_queue, .ref a_depth, .ref a_by, .ref a_from, v_come, v_offOf, v_parent, v_best, v_trees, v_least, v_sums, v_toward, v_kept, v_isKept, v_keptAt, v_isWriting])), (a_depth, .inl (gI G, 15625, .inl fd)), (a_by, .inl (gI G, 15625, .inl fb)), (a_from, .inl (gI G, 15625, .inl fr))]) sz (fun (r : Int32) (_ : Unit) => True) (fun (_ : Unit) => [(h1, .inr (6, [v_sites, v_maps, v_told, v_kinds, v_land, v_spades, v_part, v_pad, v_padMany, v_slips, v_slipMany, v_made, v_queue, .ref a_depth, .ref a_by, .ref a_from, v_come, v_offOf, v_parent, v_best, v_trees, v_least, v_sums, v_toward, v_kept, v_isKept, v_keptAt, v_isWriting])), (a_depth, .inl (gI G, 15625, .inl fd)), (a_by, .inl (gI G, 15625, .inl fb)), (a_from, .inl (gI G, 15625, .inl fr))]) 0 0 := by
  refine Met.ofW (cc := cX10_slipTo) (maxL := 4) (ret := (some .int)) (by decide) rfl ?_
  intro p e s m args below meth c s₁ B hml hv
  obtain ⟨rfl, hsz, hP, hD0, E0⟩ := hv
  have hx := B.exec
  have hb := B.bytes
  have hr := B.returns
  have hts := atoms_spec (ws := wsX10_slipTo) B.pre
  have hown : s.vm.findClass RX10 = some m.cls := findClass_of_methodNamed B.named
  have hlocks := B.notSynchronized
  subst hsz
  have hD := hD0.self (sz := s.heap.size)
  generalize hAe : va_A ([(h1, .inr (6, [v_sites, v_maps, v_told, v_kinds, v_land, v_spades, v_part, v_pad, v_padMany, v_slips, v_slipMany, v_made, v_queue, .ref a_depth, .ref a_by, .ref a_from, v_come, v_offOf, v_parent, v_best, v_trees, v_least, v_sums, v_toward, v_kept, v_isKept, v_keptAt, v_isWriting])), (a_depth, .inl (gI G, 15625, .inl fd)), (a_by, .inl (gI G, 15625, .inl fb)), (a_from, .inl (gI G, 15625, .inl fr))]) s.heap.size = A at hD E0 ⊢
  have E : EV G A s s.heap := E0
  have hA : ∀ q : Nat, s.heap.size ≤ q → A q := fun q h => by rw [← hAe]; exact Or.inr h
  have hS : va_S A s.heap s.heap [] := va_S.rf
  have hl := lv_entry ([.ref h1, .int (nI a), .int p1]) (n := 4) (Nat.le_of_ble_eq_true rfl)
  rw [lg_entry_eq]
  generalize (lg_sl ([.ref h1, .int (nI a), .int p1]) ++ List.replicate (4 - (lg_sl ([.ref h1, .int (nI a), .int p1])).length) Slot.unset).toArray = ls at hl ⊢
  have hl : lv_has ls 4 [(0, .ref h1), (1, .int (nI a)), (2, .int p1)] := hl
  have hP : va_P G.1 vwCl ([(h1, .inr (6, [v_sites, v_maps, v_told, v_kinds, v_land, v_spades, v_part, v_pad, v_padMany, v_slips, v_slipMany, v_made, v_queue, .ref a_depth, .ref a_by, .ref a_from, v_come, v_offOf, v_parent, v_best, v_trees, v_least, v_sums, v_toward, v_kept, v_isKept, v_keptAt, v_isWriting])), (a_depth, .inl (gI G, 15625, .inl fd)), (a_by, .inl (gI G, 15625, .inl fb)), (a_from, .inl (gI G, 15625, .inl fr))]) s.heap := hP
  have hal := p5le hk6
  have hcl := dOK_le hdo
  refine lv_iload_n hx hb dX10_slipTo_0 rfl (lv_at hl 2 rfl) ?_
  refine lv_i2l hx hb dX10_slipTo_1 rfl ?_
  refine lv_topl (fun x1 ex1 => ?_)
  refine lv_lconst (v := 0) hx hb dX10_slipTo_2 (by decide) ?_
  refine lv_aload_n hx hb dX10_slipTo_3 rfl (lv_at hl 0 rfl) ?_
  refine va_get (D := G.1) (ci := 6) (v := .ref a_depth) (C := RX10) (T := TX10) (N := 28) hx hb hts (fun _ h => List.mem_cons_of_mem _ (List.mem_append_right _ h)) hown E.K hP 0 rfl rfl 13 (by decide) (hts (.fieldLink RX10 28 "LastMapModel" "depth" "[I") (by decide +kernel)) (fun _ h9 => h9) rfl dX10_slipTo_4 ?_
  refine lv_iload_n hx hb dX10_slipTo_7 rfl (lv_at hl 1 rfl) ?_
  refine va_iald hx hb E.K hP 1 1 rfl rfl (i := nI a) (vp_in_nI (by omega) (by decide)) dX10_slipTo_8 ?_
  refine lv_topi (fun x2 ex2 => ?_)
  have hx9 : x2 = fd a := by rw [ex2, nI_clamp (by omega)]
  refine lv_iconst (v := 1) hx hb dX10_slipTo_9 (by decide) ?_
  refine lv_isub hx hb dX10_slipTo_10 ?_
  refine lv_topi (fun x3 ex3 => ?_)
  refine lv_i2l hx hb dX10_slipTo_11 rfl ?_
  refine lv_topl (fun x4 ex4 => ?_)
  refine ca_iR (va_runS (As := [.long x1, .long 0, .long x4]) (rest := []) ⟨hx, hb, hml, hown, hts⟩ (m_in l G s.heap.size x1 0 x4 p1 0 x3 ex1 (by decide) ex4) (va_cwS 3 hts gX10_slipTo_X10_in rfl rfl rfl (by decide +kernel) ⟨by decide +kernel, by decide +kernel⟩) (pre_S E hP hD hS hA [] (by decide) rfl) rfl rfl hl.1 rfl (lv_room (Nat.le_of_ble_eq_true rfl)) dX10_slipTo_12 ⟨by decide +kernel, by decide +kernel⟩) hS hP hD hA [] rfl (fun r6 _ H locs w5 hP hS => ?_)
  rcases w5 with ⟨rfl, b7⟩ | ⟨rfl, b7⟩
  · refine lv_if_ne (tgt := 21) hx hb dX10_slipTo_15 (by decide) (fun _ => ?_) (fun c8 => False.elim (by revert c8; decide))
    obtain ⟨d0, hd0, ed0, hd1⟩ : ∃ d, d < cm ∧ fd a = nI d ∧ (d = 0 ∨ ∃ y, y < 5 ^ k ∧ fr a = nI y ∧ fd y = nI (d - 1)) := by
      rcases hdo.2.2.2 a ha with q9 | q9
      · exact absurd b7 (by rw [ex3, hx9, q9]; unfold inR; intro q8; exact absurd (Int32.le_trans q8.1 q8.2) (by decide))
      · exact q9
    refine lv_iload_n hx hb dX10_slipTo_21 rfl (lv_at hl 1 rfl) ?_
    refine lv_istore_n (lv' := [(3, .int (nI a)), (0, .ref h1), (1, .int (nI a)), (2, .int p1)]) hx hb dX10_slipTo_22 rfl hl (by decide) rfl (fun ls hl => ?_)
    refine lp_run (x0 := (a, d0)) (fun xx_ : Nat × Nat => match xx_ with | (y, d) => [(h1, .inr (6, [v_sites, v_maps, v_told, v_kinds, v_land, v_spades, v_part, v_pad, v_padMany, v_slips, v_slipMany, v_made, v_queue, .ref a_depth, .ref a_by, .ref a_from, v_come, v_offOf, v_parent, v_best, v_trees, v_least, v_sums, v_toward, v_kept, v_isKept, v_keptAt, v_isWriting])), (a_depth, .inl (gI G, 15625, .inl fd)), (a_by, .inl (gI G, 15625, .inl fb)), (a_from, .inl (gI G, 15625, .inl fr))]) (fun xx_ : Nat × Nat => match xx_ with | (y, d) => [(3, .int (nI y)), (0, .ref h1), (1, .int (nI a)), (2, .int p1)]) (fun xx_ : Nat × Nat => match xx_ with | (y, d) => (y < 5 ^ k) ∧ (d < cm ∧ fd y = nI d ∧ (d = 0 ∨ ∃ z, z < 5 ^ k ∧ fr y = nI z ∧ fd z = nI (d - 1)))) (fun xx_ : Nat × Nat => match xx_ with | (y, d) => d) (hP.sub [0, 1, 2, 3] rfl) (hD.sub [0, 1, 2, 3] (by decide) rfl) hS (lv_sub hl [0, 1, 2, 3] rfl) ⟨ha, ⟨hd0, ed0, hd1⟩⟩ ?_
    intro xx_ hI ih23 H locs ls hP hD hS hl
    obtain ⟨y, d⟩ := xx_
    dsimp only at hI ih23 hP hD hl
    obtain ⟨hy, hd⟩ := hI
    have hl : lv_has ls 4 [(3, .int (nI y)), (0, .ref h1), (1, .int (nI a)), (2, .int p1)] := hl
    have hP : va_P G.1 vwCl ([(h1, .inr (6, [v_sites, v_maps, v_told, v_kinds, v_land, v_spades, v_part, v_pad, v_padMany, v_slips, v_slipMany, v_made, v_queue, .ref a_depth, .ref a_by, .ref a_from, v_come, v_offOf, v_parent, v_best, v_trees, v_least, v_sums, v_toward, v_kept, v_isKept, v_keptAt, v_isWriting])), (a_depth, .inl (gI G, 15625, .inl fd)), (a_by, .inl (gI G, 15625, .inl fb)), (a_from, .inl (gI G, 15625, .inl fr))]) H := hP
    have hD : va_D A ([(h1, .inr (6, [v_sites, v_maps, v_told, v_kinds, v_land, v_spades, v_part, v_pad, v_padMany, v_slips, v_slipMany, v_made, v_queue, .ref a_depth, .ref a_by, .ref a_from, v_come, v_offOf, v_parent, v_best, v_trees, v_least, v_sums, v_toward, v_kept, v_isKept, v_keptAt, v_isWriting])), (a_depth, .inl (gI G, 15625, .inl fd)), (a_by, .inl (gI G, 15625, .inl fb)), (a_from, .inl (gI G, 15625, .inl fr))]) := hD
    refine lv_aload_n hx hb dX10_slipTo_23 rfl (lv_at hl 1 rfl) ?_
    refine va_get (D := G.1) (ci := 6) (v := .ref a_depth) (C := RX10) (T := TX10) (N := 28) hx hb hts (fun _ h => List.mem_cons_of_mem _ (List.mem_append_right _ h)) hown E.K hP 0 rfl rfl 13 (by decide) (hts (.fieldLink RX10 28 "LastMapModel" "depth" "[I") (by decide +kernel)) (fun _ h9 => h9) rfl dX10_slipTo_24 ?_
    refine lv_iload_n hx hb dX10_slipTo_27 rfl (lv_at hl 0 rfl) ?_
    refine va_iald hx hb E.K hP 1 1 rfl rfl (i := nI y) (vp_in_nI (by omega) (by decide)) dX10_slipTo_28 ?_
    refine lv_topi (fun x9 ex9 => ?_)
    refine lv_iload_n hx hb dX10_slipTo_29 rfl (lv_at hl 3 rfl) ?_
    refine lv_iconst (v := 1) hx hb dX10_slipTo_30 (by decide) ?_
    refine lv_iadd hx hb dX10_slipTo_31 ?_
    refine lv_topi (fun x10 ex10 => ?_)
    refine lv_icmp_le (tgt := 45) hx hb dX10_slipTo_32 (by decide) (fun c11 => ?_) (fun c11 => ?_)
    · refine lv_aload_n hx hb dX10_slipTo_45 rfl (lv_at hl 1 rfl) ?_
      refine va_get (D := G.1) (ci := 6) (v := .ref a_by) (C := RX10) (T := TX10) (N := 28) hx hb hts (fun _ h => List.mem_cons_of_mem _ (List.mem_append_right _ h)) hown E.K hP 0 rfl rfl 14 (by decide) (hts (.fieldLink RX10 31 "LastMapModel" "by" "[I") (by decide +kernel)) (fun _ h9 => h9) rfl dX10_slipTo_46 ?_
      refine lv_iload_n hx hb dX10_slipTo_49 rfl (lv_at hl 0 rfl) ?_
      refine va_iald hx hb E.K hP 2 1 rfl rfl (i := nI y) (vp_in_nI (by omega) (by decide)) dX10_slipTo_50 ?_
      refine lv_topi (fun x12 ex12 => ?_)
      have hP9 := (hP.sub (ws' := [(h1, .inr (6, [v_sites, v_maps, v_told, v_kinds, v_land, v_spades, v_part, v_pad, v_padMany, v_slips, v_slipMany, v_made, v_queue, .ref a_depth, .ref a_by, .ref a_from, v_come, v_offOf, v_parent, v_best, v_trees, v_least, v_sums, v_toward, v_kept, v_isKept, v_keptAt, v_isWriting])), (a_depth, .inl (gI G, 15625, .inl fd)), (a_by, .inl (gI G, 15625, .inl fb)), (a_from, .inl (gI G, 15625, .inl fr))]) [0, 1, 2, 3] rfl)
      have hD9 := (hD.sub (ws' := [(h1, .inr (6, [v_sites, v_maps, v_told, v_kinds, v_land, v_spades, v_part, v_pad, v_padMany, v_slips, v_slipMany, v_made, v_queue, .ref a_depth, .ref a_by, .ref a_from, v_come, v_offOf, v_parent, v_best, v_trees, v_least, v_sums, v_toward, v_kept, v_isKept, v_keptAt, v_isWriting])), (a_depth, .inl (gI G, 15625, .inl fd)), (a_by, .inl (gI G, 15625, .inl fb)), (a_from, .inl (gI G, 15625, .inl fr))]) [0, 1, 2, 3] (by decide) rfl)
      exact W.iret (v := x12) hx hb hr (fun t9_ ht9_ hW9_ => ⟨⟨x12, (), rfl, trivial, by rw [ht9_]; exact hP9, hD9⟩, hS.F ht9_⟩) hS.2.2 dX10_slipTo_51
    · have hp9 := inc_sm (n := d0) b7 (by rw [ex3, hx9, ed0]) (by omega) ex10
      have hdp : 0 < d := by
        rcases Nat.eq_zero_or_pos d with q9 | q9
        · exact absurd (show x9 ≤ x10 by rw [ex9, nI_clamp (by omega), hd.2.1, q9, i3_le, hp9.1]; simp only [nI_toInt (show 0 < 2 ^ 31 by decide)]; omega) c11
        · exact q9
      obtain ⟨y9, hy9, efy, edy⟩ : ∃ z, z < 5 ^ k ∧ fr y = nI z ∧ fd z = nI (d - 1) := by rcases hd.2.2 with q9 | q9; exact absurd q9 (by omega); exact q9
      have hd9 : d - 1 < cm ∧ fd y9 = nI (d - 1) ∧ (d - 1 = 0 ∨ ∃ z, z < 5 ^ k ∧ fr y9 = nI z ∧ fd z = nI (d - 1 - 1)) := by
        obtain ⟨d8, q1, q2, q3⟩ := dOK_at hdo hy9 (by rw [edy]; exact nI_pos (by have := hd.1; omega))
        have q4 := (nI_eq (a := d - 1) (b := d8) (by have := hd.1; omega) (by omega)).mp (edy.symm.trans q2)
        exact ⟨by omega, edy, by rw [q4]; exact q3⟩
      refine lv_aload_n hx hb dX10_slipTo_35 rfl (lv_at hl 1 rfl) ?_
      refine va_get (D := G.1) (ci := 6) (v := .ref a_from) (C := RX10) (T := TX10) (N := 28) hx hb hts (fun _ h => List.mem_cons_of_mem _ (List.mem_append_right _ h)) hown E.K hP 0 rfl rfl 15 (by decide) (hts (.fieldLink RX10 34 "LastMapModel" "from" "[I") (by decide +kernel)) (fun _ h9 => h9) rfl dX10_slipTo_36 ?_
      refine lv_iload_n hx hb dX10_slipTo_39 rfl (lv_at hl 0 rfl) ?_
      refine va_iald hx hb E.K hP 3 1 rfl rfl (i := nI y) (vp_in_nI (by omega) (by decide)) dX10_slipTo_40 ?_
      refine lv_topi (fun x13 ex13 => ?_)
      obtain rfl : x13 = nI y9 := by rw [ex13, nI_clamp (by omega)]; exact efy
      refine lv_istore_n (lv' := [(3, .int (nI y9)), (0, .ref h1), (1, .int (nI a)), (2, .int p1)]) hx hb dX10_slipTo_41 rfl hl (by decide) rfl (fun ls hl => ?_)
      refine lv_goto (tgt := 23) hx hb dX10_slipTo_42 (by decide) ?_
      refine ih23 (y9, d - 1) ⟨?_, ?_⟩ (by first | omega | (dsimp only; omega)) H locs ls (hP.sub [0, 1, 2, 3] rfl) (hD.sub [0, 1, 2, 3] (by decide) rfl) hS (lv_sub hl [0, 1, 2, 3] rfl)
      · try dsimp only
        exact hy9
      · try dsimp only
        exact hd9
  · refine lv_if_ne (tgt := 21) hx hb dX10_slipTo_15 (by decide) (fun c14 => False.elim (by revert c14; decide)) (fun _ => ?_)
    refine lv_bipush (v := (-6)) hx hb dX10_slipTo_18 (by decide) ?_
    have hP9 := (hP.sub (ws' := [(h1, .inr (6, [v_sites, v_maps, v_told, v_kinds, v_land, v_spades, v_part, v_pad, v_padMany, v_slips, v_slipMany, v_made, v_queue, .ref a_depth, .ref a_by, .ref a_from, v_come, v_offOf, v_parent, v_best, v_trees, v_least, v_sums, v_toward, v_kept, v_isKept, v_keptAt, v_isWriting])), (a_depth, .inl (gI G, 15625, .inl fd)), (a_by, .inl (gI G, 15625, .inl fb)), (a_from, .inl (gI G, 15625, .inl fr))]) [0, 1, 2, 3] rfl)
    have hD9 := (hD.sub (ws' := [(h1, .inr (6, [v_sites, v_maps, v_told, v_kinds, v_land, v_spades, v_part, v_pad, v_padMany, v_slips, v_slipMany, v_made, v_queue, .ref a_depth, .ref a_by, .ref a_from, v_come, v_offOf, v_parent, v_best, v_trees, v_least, v_sums, v_toward, v_kept, v_isKept, v_keptAt, v_isWriting])), (a_depth, .inl (gI G, 15625, .inl fd)), (a_by, .inl (gI G, 15625, .inl fb)), (a_from, .inl (gI G, 15625, .inl fr))]) [0, 1, 2, 3] (by decide) rfl)
    exact W.iret (v := (-6)) hx hb hr (fun t9_ ht9_ hW9_ => ⟨⟨(-6), (), rfl, trivial, by rw [ht9_]; exact hP9, hD9⟩, hS.F ht9_⟩) hS.2.2 dX10_slipTo_20

set_option maxHeartbeats 1000000 in
set_option maxRecDepth 100000 in
theorem m_farOf (l : Launch) (G : Gy) (sz : Nat) (h1 : Nat) (v_maps : Value) (v_told : Value) (v_kinds : Value) (v_land : Value) (v_spades : Value) (v_pad : Value) (v_padMany : Value) (v_slips : Value) (v_slipMany : Value) (v_made : Value) (v_offOf : Value) (v_parent : Value) (v_best : Value) (v_trees : Value) (v_least : Value) (v_sums : Value) (v_toward : Value) (v_kept : Value) (v_isKept : Value) (v_keptAt : Value) (v_isWriting : Value) (a_part : Nat) (fp : Nat → Int32) (a_queue : Nat) (a_depth : Nat) (a_by : Nat) (a_from : Nat) (fq : Nat → Int32) (fd : Nat → Int32) (fb : Nat → Int32) (fr : Nat → Int32) (k : Nat) (a : Nat) (a2 : Nat) (cm0 : Int32) (p1 : Int32) (hk2 : 2 ≤ k) (hk6 : k ≤ 6) (hp : pOK k fp) (ha : a < 5 ^ k) (ha2 : a2 < 5 ^ k) : Ci l G yX10_farOf wsX10_farOf ({ frames := 4, cells := 0, slots := 0, locals := 98 }) [.ref h1, .int (nI a), .int (nI a2), .int p1] ([(h1, .inr (6, [.int (nI k), v_maps, v_told, v_kinds, v_land, v_spades, .ref a_part, v_pad, v_padMany, v_slips, v_slipMany, v_made, .ref a_queue, .ref a_depth, .ref a_by, .ref a_from, .int cm0, v_offOf, v_parent, v_best, v_trees, v_least, v_sums, v_toward, v_kept, v_isKept, v_keptAt, v_isWriting])), (a_part, .inl (gI G, 6, .inl fp)), (a_queue, .inl (gI G, 15625, .inl fq)), (a_depth, .inl (gI G, 15625, .inl fd)), (a_by, .inl (gI G, 15625, .inl fb)), (a_from, .inl (gI G, 15625, .inl fr))]) sz (fun (r : Int32) (u : Nat × (Nat → Int32) × (Nat → Int32) × (Nat → Int32) × (Nat → Int32)) => match u with | (cm1, gq, gd, gb, gr) => dOK (5 ^ k) cm1 gd gr gq ∧ r = gd a2) (fun (u : Nat × (Nat → Int32) × (Nat → Int32) × (Nat → Int32) × (Nat → Int32)) => match u with | (cm1, gq, gd, gb, gr) => [(h1, .inr (6, [.int (nI k), v_maps, v_told, v_kinds, v_land, v_spades, .ref a_part, v_pad, v_padMany, v_slips, v_slipMany, v_made, .ref a_queue, .ref a_depth, .ref a_by, .ref a_from, .int (nI cm1), v_offOf, v_parent, v_best, v_trees, v_least, v_sums, v_toward, v_kept, v_isKept, v_keptAt, v_isWriting])), (a_part, .inl (gI G, 6, .inl fp)), (a_queue, .inl (gI G, 15625, .inl gq)), (a_depth, .inl (gI G, 15625, .inl gd)), (a_by, .inl (gI G, 15625, .inl gb)), (a_from, .inl (gI G, 15625, .inl gr))]) 0 0 := by
  refine Met.ofW (cc := cX10_farOf) (maxL := 4) (ret := (some .int)) (by decide) rfl ?_
  intro p e s m args below meth c s₁ B hml hv
  obtain ⟨rfl, hsz, hP, hD0, E0⟩ := hv
  have hx := B.exec
  have hb := B.bytes
  have hr := B.returns
  have hts := atoms_spec (ws := wsX10_farOf) B.pre
  have hown : s.vm.findClass RX10 = some m.cls := findClass_of_methodNamed B.named
  have hlocks := B.notSynchronized
  subst hsz
  have hD := hD0.self (sz := s.heap.size)
  generalize hAe : va_A ([(h1, .inr (6, [.int (nI k), v_maps, v_told, v_kinds, v_land, v_spades, .ref a_part, v_pad, v_padMany, v_slips, v_slipMany, v_made, .ref a_queue, .ref a_depth, .ref a_by, .ref a_from, .int cm0, v_offOf, v_parent, v_best, v_trees, v_least, v_sums, v_toward, v_kept, v_isKept, v_keptAt, v_isWriting])), (a_part, .inl (gI G, 6, .inl fp)), (a_queue, .inl (gI G, 15625, .inl fq)), (a_depth, .inl (gI G, 15625, .inl fd)), (a_by, .inl (gI G, 15625, .inl fb)), (a_from, .inl (gI G, 15625, .inl fr))]) s.heap.size = A at hD E0 ⊢
  have E : EV G A s s.heap := E0
  have hA : ∀ q : Nat, s.heap.size ≤ q → A q := fun q h => by rw [← hAe]; exact Or.inr h
  have hS : va_S A s.heap s.heap [] := va_S.rf
  have hl := lv_entry ([.ref h1, .int (nI a), .int (nI a2), .int p1]) (n := 4) (Nat.le_of_ble_eq_true rfl)
  rw [lg_entry_eq]
  generalize (lg_sl ([.ref h1, .int (nI a), .int (nI a2), .int p1]) ++ List.replicate (4 - (lg_sl ([.ref h1, .int (nI a), .int (nI a2), .int p1])).length) Slot.unset).toArray = ls at hl ⊢
  have hl : lv_has ls 4 [(0, .ref h1), (1, .int (nI a)), (2, .int (nI a2)), (3, .int p1)] := hl
  have hP : va_P G.1 vwCl ([(h1, .inr (6, [.int (nI k), v_maps, v_told, v_kinds, v_land, v_spades, .ref a_part, v_pad, v_padMany, v_slips, v_slipMany, v_made, .ref a_queue, .ref a_depth, .ref a_by, .ref a_from, .int cm0, v_offOf, v_parent, v_best, v_trees, v_least, v_sums, v_toward, v_kept, v_isKept, v_keptAt, v_isWriting])), (a_part, .inl (gI G, 6, .inl fp)), (a_queue, .inl (gI G, 15625, .inl fq)), (a_depth, .inl (gI G, 15625, .inl fd)), (a_by, .inl (gI G, 15625, .inl fb)), (a_from, .inl (gI G, 15625, .inl fr))]) s.heap := hP
  have hal := p5le hk6
  refine lv_aload_n hx hb dX10_farOf_0 rfl (lv_at hl 0 rfl) ?_
  refine lv_iload_n hx hb dX10_farOf_1 rfl (lv_at hl 1 rfl) ?_
  refine lv_iload_n hx hb dX10_farOf_2 rfl (lv_at hl 3 rfl) ?_
  refine ca_v (wr := []) (va_runV (As := [.int (nI a), .int p1]) (rest := []) ⟨hx, hb, hml, hown, hts⟩ (m_goFrom l G s.heap.size h1 v_maps v_told v_kinds v_land v_spades v_pad v_padMany v_slips v_slipMany v_made v_offOf v_parent v_best v_trees v_least v_sums v_toward v_kept v_isKept v_keptAt v_isWriting a_part fp a_queue a_depth a_by a_from fq fd fb fr k a cm0 p1 hk2 hk6 hp (by omega)) (cwV 2 hts gX10_farOf_X10_goFrom rfl rfl rfl (by decide +kernel) ⟨by decide +kernel, by decide +kernel⟩) (pre_V E hP hD hS hA [0, 1, 2, 3, 4, 5] (by decide) rfl 0 6 rfl rfl) rfl rfl hl.1 rfl (lv_room (Nat.le_of_ble_eq_true rfl)) dX10_farOf_3 ⟨by decide +kernel, by decide +kernel⟩) hS hP hD hA [0, 1, 2, 3, 4, 5] [] rfl rfl (by decide) (by decide) (fun u3 H locs w1 hP hD hS => ?_)
  obtain ⟨cm1_4, gq_5, gd_6, gb_7, gr_8⟩ := u3
  try dsimp only at w1 hP hD
  have hP := (hP.sub (ws' := [(h1, .inr (6, [.int (nI k), v_maps, v_told, v_kinds, v_land, v_spades, .ref a_part, v_pad, v_padMany, v_slips, v_slipMany, v_made, .ref a_queue, .ref a_depth, .ref a_by, .ref a_from, .int (nI cm1_4), v_offOf, v_parent, v_best, v_trees, v_least, v_sums, v_toward, v_kept, v_isKept, v_keptAt, v_isWriting])), (a_part, .inl (gI G, 6, .inl fp)), (a_queue, .inl (gI G, 15625, .inl gq_5)), (a_depth, .inl (gI G, 15625, .inl gd_6)), (a_by, .inl (gI G, 15625, .inl gb_7)), (a_from, .inl (gI G, 15625, .inl gr_8))]) [0, 1, 2, 3, 4, 5] rfl)
  have hD := (hD.sub (ws' := [(h1, .inr (6, [.int (nI k), v_maps, v_told, v_kinds, v_land, v_spades, .ref a_part, v_pad, v_padMany, v_slips, v_slipMany, v_made, .ref a_queue, .ref a_depth, .ref a_by, .ref a_from, .int (nI cm1_4), v_offOf, v_parent, v_best, v_trees, v_least, v_sums, v_toward, v_kept, v_isKept, v_keptAt, v_isWriting])), (a_part, .inl (gI G, 6, .inl fp)), (a_queue, .inl (gI G, 15625, .inl gq_5)), (a_depth, .inl (gI G, 15625, .inl gd_6)), (a_by, .inl (gI G, 15625, .inl gb_7)), (a_from, .inl (gI G, 15625, .inl gr_8))]) [0, 1, 2, 3, 4, 5] (by decide) rfl)
  refine lv_aload_n hx hb dX10_farOf_6 rfl (lv_at hl 0 rfl) ?_
  refine va_get (D := G.1) (ci := 6) (v := .ref a_depth) (C := RX10) (T := TX10) (N := 28) hx hb hts (fun _ h => List.mem_cons_of_mem _ (List.mem_append_right _ h)) hown E.K hP 0 rfl rfl 13 (by decide) (hts (.fieldLink RX10 28 "LastMapModel" "depth" "[I") (by decide +kernel)) (fun _ h9 => h9) rfl dX10_farOf_7 ?_
  refine lv_iload_n hx hb dX10_farOf_10 rfl (lv_at hl 2 rfl) ?_
  refine va_iald hx hb E.K hP 3 1 rfl rfl (i := nI a2) (vp_in_nI (by omega) (by decide)) dX10_farOf_11 ?_
  refine lv_topi (fun x9 ex9 => ?_)
  have hP9 := (hP.sub (ws' := [(h1, .inr (6, [.int (nI k), v_maps, v_told, v_kinds, v_land, v_spades, .ref a_part, v_pad, v_padMany, v_slips, v_slipMany, v_made, .ref a_queue, .ref a_depth, .ref a_by, .ref a_from, .int (nI cm1_4), v_offOf, v_parent, v_best, v_trees, v_least, v_sums, v_toward, v_kept, v_isKept, v_keptAt, v_isWriting])), (a_part, .inl (gI G, 6, .inl fp)), (a_queue, .inl (gI G, 15625, .inl gq_5)), (a_depth, .inl (gI G, 15625, .inl gd_6)), (a_by, .inl (gI G, 15625, .inl gb_7)), (a_from, .inl (gI G, 15625, .inl gr_8))]) [0, 1, 2, 3, 4, 5] rfl)
  have hD9 := (hD.sub (ws' := [(h1, .inr (6, [.int (nI k), v_maps, v_told, v_kinds, v_land, v_spades, .ref a_part, v_pad, v_padMany, v_slips, v_slipMany, v_made, .ref a_queue, .ref a_depth, .ref a_by, .ref a_from, .int (nI cm1_4), v_offOf, v_parent, v_best, v_trees, v_least, v_sums, v_toward, v_kept, v_isKept, v_keptAt, v_isWriting])), (a_part, .inl (gI G, 6, .inl fp)), (a_queue, .inl (gI G, 15625, .inl gq_5)), (a_depth, .inl (gI G, 15625, .inl gd_6)), (a_by, .inl (gI G, 15625, .inl gb_7)), (a_from, .inl (gI G, 15625, .inl gr_8))]) [0, 1, 2, 3, 4, 5] (by decide) rfl)
  exact W.iret (v := x9) hx hb hr (fun t9_ ht9_ hW9_ => ⟨⟨x9, (cm1_4, gq_5, gd_6, gb_7, gr_8), rfl, ⟨w1, by rw [ex9, nI_clamp (by omega)]⟩, by rw [ht9_]; exact hP9, hD9⟩, hS.F ht9_⟩) hS.2.2 dX10_farOf_12

set_option maxHeartbeats 1000000 in
set_option maxRecDepth 100000 in
theorem m_far (l : Launch) (G : Gy) (sz : Nat) (h1 : Nat) (v_land : Value) (v_spades : Value) (v_pad : Value) (v_padMany : Value) (v_slips : Value) (v_slipMany : Value) (v_made : Value) (v_offOf : Value) (v_parent : Value) (v_best : Value) (v_trees : Value) (v_least : Value) (v_sums : Value) (v_toward : Value) (v_kept : Value) (v_isKept : Value) (v_keptAt : Value) (v_isWriting : Value) (a_maps : Nat) (fm : Nat → Int32) (a_kinds : Nat) (fk : Nat → Int32) (a_part : Nat) (fp : Nat → Int32) (a_queue : Nat) (a_depth : Nat) (a_by : Nat) (a_from : Nat) (fq : Nat → Int32) (fd : Nat → Int32) (fb : Nat → Int32) (fr : Nat → Int32) (k : Nat) (told : Int32) (cm0 : Int32) (p0 : Int32) (p1 : Int32) (p2 : Int32) (p3 : Int32) (hk2 : 2 ≤ k) (hk6 : k ≤ 6) (hp : pOK k fp) (hfm : mapsOK k fm) : Ci l G yX10_far wsX10_far ({ frames := 5, cells := 0, slots := 0, locals := 121 }) [.ref h1, .int p0, .int p1, .int p2, .int p3] ([(h1, .inr (6, [.int (nI k), .ref a_maps, .int told, .ref a_kinds, v_land, v_spades, .ref a_part, v_pad, v_padMany, v_slips, v_slipMany, v_made, .ref a_queue, .ref a_depth, .ref a_by, .ref a_from, .int cm0, v_offOf, v_parent, v_best, v_trees, v_least, v_sums, v_toward, v_kept, v_isKept, v_keptAt, v_isWriting])), (a_maps, .inl (gI G, 6, .inl fm)), (a_kinds, .inl (gI G, 4, .inl fk)), (a_part, .inl (gI G, 6, .inl fp)), (a_queue, .inl (gI G, 15625, .inl fq)), (a_depth, .inl (gI G, 15625, .inl fd)), (a_by, .inl (gI G, 15625, .inl fb)), (a_from, .inl (gI G, 15625, .inl fr))]) sz (fun (r : Int32) (u : Int32 × (Nat → Int32) × (Nat → Int32) × (Nat → Int32) × (Nat → Int32)) => match u with | (cm1, gq, gd, gb, gr) => True) (fun (u : Int32 × (Nat → Int32) × (Nat → Int32) × (Nat → Int32) × (Nat → Int32)) => match u with | (cm1, gq, gd, gb, gr) => [(h1, .inr (6, [.int (nI k), .ref a_maps, .int told, .ref a_kinds, v_land, v_spades, .ref a_part, v_pad, v_padMany, v_slips, v_slipMany, v_made, .ref a_queue, .ref a_depth, .ref a_by, .ref a_from, .int cm1, v_offOf, v_parent, v_best, v_trees, v_least, v_sums, v_toward, v_kept, v_isKept, v_keptAt, v_isWriting])), (a_maps, .inl (gI G, 6, .inl fm)), (a_kinds, .inl (gI G, 4, .inl fk)), (a_part, .inl (gI G, 6, .inl fp)), (a_queue, .inl (gI G, 15625, .inl gq)), (a_depth, .inl (gI G, 15625, .inl gd)), (a_by, .inl (gI G, 15625, .inl gb)), (a_from, .inl (gI G, 15625, .inl gr))]) 0 0 := by
  refine Met.ofW (cc := cX10_far) (maxL := 6) (ret := (some .int)) (by decide) rfl ?_
  intro p e s m args below meth c s₁ B hml hv
  obtain ⟨rfl, hsz, hP, hD0, E0⟩ := hv
  have hx := B.exec
  have hb := B.bytes
  have hr := B.returns
  have hts := atoms_spec (ws := wsX10_far) B.pre
  have hown : s.vm.findClass RX10 = some m.cls := findClass_of_methodNamed B.named
  have hlocks := B.notSynchronized
  subst hsz
  have hD := hD0.self (sz := s.heap.size)
  generalize hAe : va_A ([(h1, .inr (6, [.int (nI k), .ref a_maps, .int told, .ref a_kinds, v_land, v_spades, .ref a_part, v_pad, v_padMany, v_slips, v_slipMany, v_made, .ref a_queue, .ref a_depth, .ref a_by, .ref a_from, .int cm0, v_offOf, v_parent, v_best, v_trees, v_least, v_sums, v_toward, v_kept, v_isKept, v_keptAt, v_isWriting])), (a_maps, .inl (gI G, 6, .inl fm)), (a_kinds, .inl (gI G, 4, .inl fk)), (a_part, .inl (gI G, 6, .inl fp)), (a_queue, .inl (gI G, 15625, .inl fq)), (a_depth, .inl (gI G, 15625, .inl fd)), (a_by, .inl (gI G, 15625, .inl fb)), (a_from, .inl (gI G, 15625, .inl fr))]) s.heap.size = A at hD E0 ⊢
  have E : EV G A s s.heap := E0
  have hA : ∀ q : Nat, s.heap.size ≤ q → A q := fun q h => by rw [← hAe]; exact Or.inr h
  have hS : va_S A s.heap s.heap [] := va_S.rf
  have hl := lv_entry ([.ref h1, .int p0, .int p1, .int p2, .int p3]) (n := 6) (Nat.le_of_ble_eq_true rfl)
  rw [lg_entry_eq]
  generalize (lg_sl ([.ref h1, .int p0, .int p1, .int p2, .int p3]) ++ List.replicate (6 - (lg_sl ([.ref h1, .int p0, .int p1, .int p2, .int p3])).length) Slot.unset).toArray = ls at hl ⊢
  have hl : lv_has ls 6 [(0, .ref h1), (1, .int p0), (2, .int p1), (3, .int p2), (4, .int p3)] := hl
  have hP : va_P G.1 vwCl ([(h1, .inr (6, [.int (nI k), .ref a_maps, .int told, .ref a_kinds, v_land, v_spades, .ref a_part, v_pad, v_padMany, v_slips, v_slipMany, v_made, .ref a_queue, .ref a_depth, .ref a_by, .ref a_from, .int cm0, v_offOf, v_parent, v_best, v_trees, v_least, v_sums, v_toward, v_kept, v_isKept, v_keptAt, v_isWriting])), (a_maps, .inl (gI G, 6, .inl fm)), (a_kinds, .inl (gI G, 4, .inl fk)), (a_part, .inl (gI G, 6, .inl fp)), (a_queue, .inl (gI G, 15625, .inl fq)), (a_depth, .inl (gI G, 15625, .inl fd)), (a_by, .inl (gI G, 15625, .inl fb)), (a_from, .inl (gI G, 15625, .inl fr))]) s.heap := hP
  have hal := p5le hk6
  refine lv_iload_n hx hb dX10_far_0 rfl (lv_at hl 1 rfl) ?_
  refine ca_iR (va_runS (As := [.int p0]) (rest := []) ⟨hx, hb, hml, hown, hts⟩ (m_isMap l G s.heap.size p0) (va_cwS 1 hts gX10_far_X10_isMap rfl rfl rfl (by decide +kernel) ⟨by decide +kernel, by decide +kernel⟩) (pre_S E hP hD hS hA [] (by decide) rfl) rfl rfl hl.1 rfl (lv_room (Nat.le_of_ble_eq_true rfl)) dX10_far_1 ⟨by decide +kernel, by decide +kernel⟩) hS hP hD hA [] rfl (fun r2 _ H locs w1 hP hS => ?_)
  rcases w1 with ⟨rfl, b3⟩ | ⟨rfl, b3⟩
  · refine lv_if_eq (tgt := 21) hx hb dX10_far_4 (by decide) (fun c4 => False.elim (by revert c4; decide)) (fun _ => ?_)
    refine lv_iload_n hx hb dX10_far_7 rfl (lv_at hl 2 rfl) ?_
    refine ca_iR (va_runS (As := [.int p1]) (rest := []) ⟨hx, hb, hml, hown, hts⟩ (m_isMap l G H.size p1) (va_cwS 1 hts gX10_far_X10_isMap rfl rfl rfl (by decide +kernel) ⟨by decide +kernel, by decide +kernel⟩) (pre_S E hP hD hS hA [] (by decide) rfl) rfl rfl hl.1 rfl (lv_room (Nat.le_of_ble_eq_true rfl)) dX10_far_8 ⟨by decide +kernel, by decide +kernel⟩) hS hP hD hA [] rfl (fun r6 _ H locs w5 hP hS => ?_)
    rcases w5 with ⟨rfl, b7⟩ | ⟨rfl, b7⟩
    · refine lv_if_eq (tgt := 21) hx hb dX10_far_11 (by decide) (fun c8 => False.elim (by revert c8; decide)) (fun _ => ?_)
      refine lv_iload_n hx hb dX10_far_14 rfl (lv_at hl 3 rfl) ?_
      refine ca_iR (va_runS (As := [.int p2]) (rest := []) ⟨hx, hb, hml, hown, hts⟩ (m_isHand l G H.size p2) (va_cwS 1 hts gX10_far_X10_isHand rfl rfl rfl (by decide +kernel) ⟨by decide +kernel, by decide +kernel⟩) (pre_S E hP hD hS hA [] (by decide) rfl) rfl rfl hl.1 rfl (lv_room (Nat.le_of_ble_eq_true rfl)) dX10_far_15 ⟨by decide +kernel, by decide +kernel⟩) hS hP hD hA [] rfl (fun r10 _ H locs w9 hP hS => ?_)
      rcases w9 with ⟨rfl, b11⟩ | ⟨rfl, b11⟩
      · refine lv_if_ne (tgt := 23) hx hb dX10_far_18 (by decide) (fun _ => ?_) (fun c12 => False.elim (by revert c12; decide))
        obtain ⟨j_p0, hj_p0, ej_p0⟩ := inR6 b3
        have hl : lv_has ls 6 [(0, .ref h1), (1, .int (nI j_p0)), (2, .int p1), (3, .int p2), (4, .int p3)] := by have q := hl; rw [ej_p0] at q; exact q
        obtain ⟨j_p1, hj_p1, ej_p1⟩ := inR6 b7
        have hl : lv_has ls 6 [(0, .ref h1), (1, .int (nI j_p0)), (2, .int (nI j_p1)), (3, .int p2), (4, .int p3)] := by have q := hl; rw [ej_p1] at q; exact q
        obtain ⟨j_p2, hj_p2, ej_p2⟩ := inR4 b11
        have hl : lv_has ls 6 [(0, .ref h1), (1, .int (nI j_p0)), (2, .int (nI j_p1)), (3, .int (nI j_p2)), (4, .int p3)] := by have q := hl; rw [ej_p2] at q; exact q
        refine lv_aload_n hx hb dX10_far_23 rfl (lv_at hl 0 rfl) ?_
        refine lv_iload_n hx hb dX10_far_24 rfl (lv_at hl 1 rfl) ?_
        refine ca_iR (va_runV (As := [.int (nI j_p0)]) (rest := []) ⟨hx, hb, hml, hown, hts⟩ (m_isTold l G H.size h1 (.int (nI k)) (.ref a_maps) (.ref a_kinds) v_land v_spades (.ref a_part) v_pad v_padMany v_slips v_slipMany v_made (.ref a_queue) (.ref a_depth) (.ref a_by) (.ref a_from) (.int cm0) v_offOf v_parent v_best v_trees v_least v_sums v_toward v_kept v_isKept v_keptAt v_isWriting told (nI j_p0)) (cwV 1 hts gX10_far_X10_isTold rfl rfl rfl (by decide +kernel) ⟨by decide +kernel, by decide +kernel⟩) (pre_V E hP hD hS hA [0] (by decide) rfl 0 6 rfl rfl) rfl rfl hl.1 rfl (lv_room (Nat.le_of_ble_eq_true rfl)) dX10_far_25 ⟨by decide +kernel, by decide +kernel⟩) hS hP hD hA [0] rfl (fun r14 _ H locs w13 hP hS => ?_)
        rcases w13 with ⟨rfl, b15⟩ | ⟨rfl, b15⟩
        · refine lv_if_eq (tgt := 39) hx hb dX10_far_28 (by decide) (fun c16 => False.elim (by revert c16; decide)) (fun _ => ?_)
          refine lv_aload_n hx hb dX10_far_31 rfl (lv_at hl 0 rfl) ?_
          refine lv_iload_n hx hb dX10_far_32 rfl (lv_at hl 2 rfl) ?_
          refine ca_iR (va_runV (As := [.int (nI j_p1)]) (rest := []) ⟨hx, hb, hml, hown, hts⟩ (m_isTold l G H.size h1 (.int (nI k)) (.ref a_maps) (.ref a_kinds) v_land v_spades (.ref a_part) v_pad v_padMany v_slips v_slipMany v_made (.ref a_queue) (.ref a_depth) (.ref a_by) (.ref a_from) (.int cm0) v_offOf v_parent v_best v_trees v_least v_sums v_toward v_kept v_isKept v_keptAt v_isWriting told (nI j_p1)) (cwV 1 hts gX10_far_X10_isTold rfl rfl rfl (by decide +kernel) ⟨by decide +kernel, by decide +kernel⟩) (pre_V E hP hD hS hA [0] (by decide) rfl 0 6 rfl rfl) rfl rfl hl.1 rfl (lv_room (Nat.le_of_ble_eq_true rfl)) dX10_far_33 ⟨by decide +kernel, by decide +kernel⟩) hS hP hD hA [0] rfl (fun r18 _ H locs w17 hP hS => ?_)
          rcases w17 with ⟨rfl, b19⟩ | ⟨rfl, b19⟩
          · refine lv_if_ne (tgt := 42) hx hb dX10_far_36 (by decide) (fun _ => ?_) (fun c20 => False.elim (by revert c20; decide))
            refine lv_aload_n hx hb dX10_far_42 rfl (lv_at hl 0 rfl) ?_
            refine lv_aload_n hx hb dX10_far_43 rfl (lv_at hl 0 rfl) ?_
            refine va_get (D := G.1) (ci := 6) (v := .ref a_maps) (C := RX10) (T := TX10) (N := 28) hx hb hts (fun _ h => List.mem_cons_of_mem _ (List.mem_append_right _ h)) hown E.K hP 0 rfl rfl 1 (by decide) (hts (.fieldLink RX10 7 "LastMapModel" "maps" "[I") (by decide +kernel)) (fun _ h9 => h9) rfl dX10_far_44 ?_
            refine lv_iload_n hx hb dX10_far_47 rfl (lv_at hl 1 rfl) ?_
            refine va_iald hx hb E.K hP 1 1 rfl rfl (i := nI j_p0) (vp_in_nI (by omega) (by decide)) dX10_far_48 ?_
            refine lv_topi (fun x21 ex21 => ?_)
            obtain ⟨a_x21, ha_x21, hvx21⟩ := hfm j_p0 (by omega)
            obtain rfl : x21 = nI a_x21 := by rw [ex21, nI_clamp (by omega)]; exact hvx21
            refine lv_aload_n hx hb dX10_far_49 rfl (lv_at hl 0 rfl) ?_
            refine va_get (D := G.1) (ci := 6) (v := .ref a_maps) (C := RX10) (T := TX10) (N := 28) hx hb hts (fun _ h => List.mem_cons_of_mem _ (List.mem_append_right _ h)) hown E.K hP 0 rfl rfl 1 (by decide) (hts (.fieldLink RX10 7 "LastMapModel" "maps" "[I") (by decide +kernel)) (fun _ h9 => h9) rfl dX10_far_50 ?_
            refine lv_iload_n hx hb dX10_far_53 rfl (lv_at hl 2 rfl) ?_
            refine va_iald hx hb E.K hP 1 1 rfl rfl (i := nI j_p1) (vp_in_nI (by omega) (by decide)) dX10_far_54 ?_
            refine lv_topi (fun x22 ex22 => ?_)
            obtain ⟨a_x22, ha_x22, hvx22⟩ := hfm j_p1 (by omega)
            obtain rfl : x22 = nI a_x22 := by rw [ex22, nI_clamp (by omega)]; exact hvx22
            refine lv_aload_n hx hb dX10_far_55 rfl (lv_at hl 0 rfl) ?_
            refine va_get (D := G.1) (ci := 6) (v := .ref a_kinds) (C := RX10) (T := TX10) (N := 28) hx hb hts (fun _ h => List.mem_cons_of_mem _ (List.mem_append_right _ h)) hown E.K hP 0 rfl rfl 3 (by decide) (hts (.fieldLink RX10 13 "LastMapModel" "kinds" "[I") (by decide +kernel)) (fun _ h9 => h9) rfl dX10_far_56 ?_
            refine lv_iload_n hx hb dX10_far_59 rfl (lv_at hl 3 rfl) ?_
            refine va_iald hx hb E.K hP 2 1 rfl rfl (i := nI j_p2) (vp_in_nI (by omega) (by decide)) dX10_far_60 ?_
            refine lv_topi (fun x23 ex23 => ?_)
            refine ca_i (wr := [(a_maps, .inl (gI G, 6, .inl fm)), (a_kinds, .inl (gI G, 4, .inl fk))]) (va_runV (As := [.int (nI a_x21), .int (nI a_x22), .int x23]) (rest := []) ⟨hx, hb, hml, hown, hts⟩ (m_farOf l G H.size h1 (.ref a_maps) (.int told) (.ref a_kinds) v_land v_spades v_pad v_padMany v_slips v_slipMany v_made v_offOf v_parent v_best v_trees v_least v_sums v_toward v_kept v_isKept v_keptAt v_isWriting a_part fp a_queue a_depth a_by a_from fq fd fb fr k a_x21 a_x22 cm0 x23 hk2 hk6 hp (by omega) (by omega)) (cwV 3 hts gX10_far_X10_farOf rfl rfl rfl (by decide +kernel) ⟨by decide +kernel, by decide +kernel⟩) (pre_V E hP hD hS hA [0, 3, 4, 5, 6, 7] (by decide) rfl 0 6 rfl rfl) rfl rfl hl.1 rfl (lv_room (Nat.le_of_ble_eq_true rfl)) dX10_far_61 ⟨by decide +kernel, by decide +kernel⟩) hS hP hD hA [0, 3, 4, 5, 6, 7] [1, 2] rfl rfl (by decide) (by decide) (fun r25 u26 H locs w24 hP hD hS => ?_)
            obtain ⟨cm1_27, gq_28, gd_29, gb_30, gr_31⟩ := u26
            try dsimp only at w24 hP hD
            have hP := (hP.sub (ws' := [(h1, .inr (6, [.int (nI k), .ref a_maps, .int told, .ref a_kinds, v_land, v_spades, .ref a_part, v_pad, v_padMany, v_slips, v_slipMany, v_made, .ref a_queue, .ref a_depth, .ref a_by, .ref a_from, .int (nI cm1_27), v_offOf, v_parent, v_best, v_trees, v_least, v_sums, v_toward, v_kept, v_isKept, v_keptAt, v_isWriting])), (a_maps, .inl (gI G, 6, .inl fm)), (a_kinds, .inl (gI G, 4, .inl fk)), (a_part, .inl (gI G, 6, .inl fp)), (a_queue, .inl (gI G, 15625, .inl gq_28)), (a_depth, .inl (gI G, 15625, .inl gd_29)), (a_by, .inl (gI G, 15625, .inl gb_30)), (a_from, .inl (gI G, 15625, .inl gr_31))]) [2, 0, 1, 3, 4, 5, 6, 7] rfl)
            have hD := (hD.sub (ws' := [(h1, .inr (6, [.int (nI k), .ref a_maps, .int told, .ref a_kinds, v_land, v_spades, .ref a_part, v_pad, v_padMany, v_slips, v_slipMany, v_made, .ref a_queue, .ref a_depth, .ref a_by, .ref a_from, .int (nI cm1_27), v_offOf, v_parent, v_best, v_trees, v_least, v_sums, v_toward, v_kept, v_isKept, v_keptAt, v_isWriting])), (a_maps, .inl (gI G, 6, .inl fm)), (a_kinds, .inl (gI G, 4, .inl fk)), (a_part, .inl (gI G, 6, .inl fp)), (a_queue, .inl (gI G, 15625, .inl gq_28)), (a_depth, .inl (gI G, 15625, .inl gd_29)), (a_by, .inl (gI G, 15625, .inl gb_30)), (a_from, .inl (gI G, 15625, .inl gr_31))]) [2, 0, 1, 3, 4, 5, 6, 7] (by decide) rfl)
            refine lv_istore (lv' := [(5, .int r25), (0, .ref h1), (1, .int (nI j_p0)), (2, .int (nI j_p1)), (3, .int (nI j_p2)), (4, .int p3)]) hx hb dX10_far_64 hl (by decide) rfl (fun ls hl => ?_)
            refine lv_iload hx hb dX10_far_66 (lv_at hl 0 rfl) ?_
            refine lv_if_lt (tgt := 77) hx hb dX10_far_68 (by decide) (fun c32 => ?_) (fun c32 => ?_)
            · refine lv_iload hx hb dX10_far_77 (lv_at hl 0 rfl) ?_
              refine lv_goto (tgt := 94) hx hb dX10_far_79 (by decide) ?_
              have hP9 := (hP.sub (ws' := [(h1, .inr (6, [.int (nI k), .ref a_maps, .int told, .ref a_kinds, v_land, v_spades, .ref a_part, v_pad, v_padMany, v_slips, v_slipMany, v_made, .ref a_queue, .ref a_depth, .ref a_by, .ref a_from, .int (nI cm1_27), v_offOf, v_parent, v_best, v_trees, v_least, v_sums, v_toward, v_kept, v_isKept, v_keptAt, v_isWriting])), (a_maps, .inl (gI G, 6, .inl fm)), (a_kinds, .inl (gI G, 4, .inl fk)), (a_part, .inl (gI G, 6, .inl fp)), (a_queue, .inl (gI G, 15625, .inl gq_28)), (a_depth, .inl (gI G, 15625, .inl gd_29)), (a_by, .inl (gI G, 15625, .inl gb_30)), (a_from, .inl (gI G, 15625, .inl gr_31))]) [0, 1, 2, 3, 4, 5, 6, 7] rfl)
              have hD9 := (hD.sub (ws' := [(h1, .inr (6, [.int (nI k), .ref a_maps, .int told, .ref a_kinds, v_land, v_spades, .ref a_part, v_pad, v_padMany, v_slips, v_slipMany, v_made, .ref a_queue, .ref a_depth, .ref a_by, .ref a_from, .int (nI cm1_27), v_offOf, v_parent, v_best, v_trees, v_least, v_sums, v_toward, v_kept, v_isKept, v_keptAt, v_isWriting])), (a_maps, .inl (gI G, 6, .inl fm)), (a_kinds, .inl (gI G, 4, .inl fk)), (a_part, .inl (gI G, 6, .inl fp)), (a_queue, .inl (gI G, 15625, .inl gq_28)), (a_depth, .inl (gI G, 15625, .inl gd_29)), (a_by, .inl (gI G, 15625, .inl gb_30)), (a_from, .inl (gI G, 15625, .inl gr_31))]) [0, 1, 2, 3, 4, 5, 6, 7] (by decide) rfl)
              exact W.iret (v := r25) hx hb hr (fun t9_ ht9_ hW9_ => ⟨⟨r25, (nI cm1_27, gq_28, gd_29, gb_30, gr_31), rfl, trivial, by rw [ht9_]; exact hP9, hD9⟩, hS.F ht9_⟩) hS.2.2 dX10_far_94
            · refine lv_iload hx hb dX10_far_71 (lv_at hl 5 rfl) ?_
              refine lv_iconst (v := (-1)) hx hb dX10_far_73 (by decide) ?_
              refine lv_icmp_ne (tgt := 82) hx hb dX10_far_74 (by decide) (fun c33 => ?_) (fun c33 => ?_)
              · refine lv_aload_n hx hb dX10_far_82 rfl (lv_at hl 1 rfl) ?_
                refine lv_aload_n hx hb dX10_far_83 rfl (lv_at hl 1 rfl) ?_
                refine va_get (D := G.1) (ci := 6) (v := .ref a_maps) (C := RX10) (T := TX10) (N := 28) hx hb hts (fun _ h => List.mem_cons_of_mem _ (List.mem_append_right _ h)) hown E.K hP 0 rfl rfl 1 (by decide) (hts (.fieldLink RX10 7 "LastMapModel" "maps" "[I") (by decide +kernel)) (fun _ h9 => h9) rfl dX10_far_84 ?_
                refine lv_iload_n hx hb dX10_far_87 rfl (lv_at hl 3 rfl) ?_
                refine va_iald hx hb E.K hP 1 1 rfl rfl (i := nI j_p1) (vp_in_nI (by omega) (by decide)) dX10_far_88 ?_
                refine lv_topi (fun x34 ex34 => ?_)
                obtain ⟨a_x34, ha_x34, hvx34⟩ := hfm j_p1 (by omega)
                obtain rfl : x34 = nI a_x34 := by rw [ex34, nI_clamp (by omega)]; exact hvx34
                refine lv_iload hx hb dX10_far_89 (lv_at hl 5 rfl) ?_
                refine ca_iR (va_runV (As := [.int (nI a_x34), .int p3]) (rest := []) ⟨hx, hb, hml, hown, hts⟩ (m_slipTo l G H.size h1 (.int (nI k)) (.ref a_maps) (.int told) (.ref a_kinds) v_land v_spades (.ref a_part) v_pad v_padMany v_slips v_slipMany v_made (.ref a_queue) (.int (nI cm1_27)) v_offOf v_parent v_best v_trees v_least v_sums v_toward v_kept v_isKept v_keptAt v_isWriting a_depth a_by a_from gd_29 gb_30 gr_31 gq_28 k a_x34 cm1_27 p3 hk6 (by omega) w24.1) (cwV 2 hts gX10_far_X10_slipTo rfl rfl rfl (by decide +kernel) ⟨by decide +kernel, by decide +kernel⟩) (pre_V E hP hD hS hA [0, 5, 6, 7] (by decide) rfl 0 6 rfl rfl) rfl rfl hl.1 rfl (lv_room (Nat.le_of_ble_eq_true rfl)) dX10_far_91 ⟨by decide +kernel, by decide +kernel⟩) hS hP hD hA [0, 5, 6, 7] rfl (fun r36 _ H locs w35 hP hS => ?_)
                have hP9 := (hP.sub (ws' := [(h1, .inr (6, [.int (nI k), .ref a_maps, .int told, .ref a_kinds, v_land, v_spades, .ref a_part, v_pad, v_padMany, v_slips, v_slipMany, v_made, .ref a_queue, .ref a_depth, .ref a_by, .ref a_from, .int (nI cm1_27), v_offOf, v_parent, v_best, v_trees, v_least, v_sums, v_toward, v_kept, v_isKept, v_keptAt, v_isWriting])), (a_maps, .inl (gI G, 6, .inl fm)), (a_kinds, .inl (gI G, 4, .inl fk)), (a_part, .inl (gI G, 6, .inl fp)), (a_queue, .inl (gI G, 15625, .inl gq_28)), (a_depth, .inl (gI G, 15625, .inl gd_29)), (a_by, .inl (gI G, 15625, .inl gb_30)), (a_from, .inl (gI G, 15625, .inl gr_31))]) [0, 1, 2, 3, 4, 5, 6, 7] rfl)
                have hD9 := (hD.sub (ws' := [(h1, .inr (6, [.int (nI k), .ref a_maps, .int told, .ref a_kinds, v_land, v_spades, .ref a_part, v_pad, v_padMany, v_slips, v_slipMany, v_made, .ref a_queue, .ref a_depth, .ref a_by, .ref a_from, .int (nI cm1_27), v_offOf, v_parent, v_best, v_trees, v_least, v_sums, v_toward, v_kept, v_isKept, v_keptAt, v_isWriting])), (a_maps, .inl (gI G, 6, .inl fm)), (a_kinds, .inl (gI G, 4, .inl fk)), (a_part, .inl (gI G, 6, .inl fp)), (a_queue, .inl (gI G, 15625, .inl gq_28)), (a_depth, .inl (gI G, 15625, .inl gd_29)), (a_by, .inl (gI G, 15625, .inl gb_30)), (a_from, .inl (gI G, 15625, .inl gr_31))]) [0, 1, 2, 3, 4, 5, 6, 7] (by decide) rfl)
                exact W.iret (v := r36) hx hb hr (fun t9_ ht9_ hW9_ => ⟨⟨r36, (nI cm1_27, gq_28, gd_29, gb_30, gr_31), rfl, trivial, by rw [ht9_]; exact hP9, hD9⟩, hS.F ht9_⟩) hS.2.2 dX10_far_94
              · refine lv_iload hx hb dX10_far_77 (lv_at hl 0 rfl) ?_
                refine lv_goto (tgt := 94) hx hb dX10_far_79 (by decide) ?_
                have hP9 := (hP.sub (ws' := [(h1, .inr (6, [.int (nI k), .ref a_maps, .int told, .ref a_kinds, v_land, v_spades, .ref a_part, v_pad, v_padMany, v_slips, v_slipMany, v_made, .ref a_queue, .ref a_depth, .ref a_by, .ref a_from, .int (nI cm1_27), v_offOf, v_parent, v_best, v_trees, v_least, v_sums, v_toward, v_kept, v_isKept, v_keptAt, v_isWriting])), (a_maps, .inl (gI G, 6, .inl fm)), (a_kinds, .inl (gI G, 4, .inl fk)), (a_part, .inl (gI G, 6, .inl fp)), (a_queue, .inl (gI G, 15625, .inl gq_28)), (a_depth, .inl (gI G, 15625, .inl gd_29)), (a_by, .inl (gI G, 15625, .inl gb_30)), (a_from, .inl (gI G, 15625, .inl gr_31))]) [0, 1, 2, 3, 4, 5, 6, 7] rfl)
                have hD9 := (hD.sub (ws' := [(h1, .inr (6, [.int (nI k), .ref a_maps, .int told, .ref a_kinds, v_land, v_spades, .ref a_part, v_pad, v_padMany, v_slips, v_slipMany, v_made, .ref a_queue, .ref a_depth, .ref a_by, .ref a_from, .int (nI cm1_27), v_offOf, v_parent, v_best, v_trees, v_least, v_sums, v_toward, v_kept, v_isKept, v_keptAt, v_isWriting])), (a_maps, .inl (gI G, 6, .inl fm)), (a_kinds, .inl (gI G, 4, .inl fk)), (a_part, .inl (gI G, 6, .inl fp)), (a_queue, .inl (gI G, 15625, .inl gq_28)), (a_depth, .inl (gI G, 15625, .inl gd_29)), (a_by, .inl (gI G, 15625, .inl gb_30)), (a_from, .inl (gI G, 15625, .inl gr_31))]) [0, 1, 2, 3, 4, 5, 6, 7] (by decide) rfl)
                exact W.iret (v := r25) hx hb hr (fun t9_ ht9_ hW9_ => ⟨⟨r25, (nI cm1_27, gq_28, gd_29, gb_30, gr_31), rfl, trivial, by rw [ht9_]; exact hP9, hD9⟩, hS.F ht9_⟩) hS.2.2 dX10_far_94
          · refine lv_if_ne (tgt := 42) hx hb dX10_far_36 (by decide) (fun c37 => False.elim (by revert c37; decide)) (fun _ => ?_)
            refine lv_bipush (v := (-3)) hx hb dX10_far_39 (by decide) ?_
            have hP9 := (hP.sub (ws' := [(h1, .inr (6, [.int (nI k), .ref a_maps, .int told, .ref a_kinds, v_land, v_spades, .ref a_part, v_pad, v_padMany, v_slips, v_slipMany, v_made, .ref a_queue, .ref a_depth, .ref a_by, .ref a_from, .int cm0, v_offOf, v_parent, v_best, v_trees, v_least, v_sums, v_toward, v_kept, v_isKept, v_keptAt, v_isWriting])), (a_maps, .inl (gI G, 6, .inl fm)), (a_kinds, .inl (gI G, 4, .inl fk)), (a_part, .inl (gI G, 6, .inl fp)), (a_queue, .inl (gI G, 15625, .inl fq)), (a_depth, .inl (gI G, 15625, .inl fd)), (a_by, .inl (gI G, 15625, .inl fb)), (a_from, .inl (gI G, 15625, .inl fr))]) [0, 1, 2, 3, 4, 5, 6, 7] rfl)
            have hD9 := (hD.sub (ws' := [(h1, .inr (6, [.int (nI k), .ref a_maps, .int told, .ref a_kinds, v_land, v_spades, .ref a_part, v_pad, v_padMany, v_slips, v_slipMany, v_made, .ref a_queue, .ref a_depth, .ref a_by, .ref a_from, .int cm0, v_offOf, v_parent, v_best, v_trees, v_least, v_sums, v_toward, v_kept, v_isKept, v_keptAt, v_isWriting])), (a_maps, .inl (gI G, 6, .inl fm)), (a_kinds, .inl (gI G, 4, .inl fk)), (a_part, .inl (gI G, 6, .inl fp)), (a_queue, .inl (gI G, 15625, .inl fq)), (a_depth, .inl (gI G, 15625, .inl fd)), (a_by, .inl (gI G, 15625, .inl fb)), (a_from, .inl (gI G, 15625, .inl fr))]) [0, 1, 2, 3, 4, 5, 6, 7] (by decide) rfl)
            exact W.iret (v := (-3)) hx hb hr (fun t9_ ht9_ hW9_ => ⟨⟨(-3), (cm0, fq, fd, fb, fr), rfl, trivial, by rw [ht9_]; exact hP9, hD9⟩, hS.F ht9_⟩) hS.2.2 dX10_far_41
        · refine lv_if_eq (tgt := 39) hx hb dX10_far_28 (by decide) (fun _ => ?_) (fun c38 => False.elim (by revert c38; decide))
          refine lv_bipush (v := (-3)) hx hb dX10_far_39 (by decide) ?_
          have hP9 := (hP.sub (ws' := [(h1, .inr (6, [.int (nI k), .ref a_maps, .int told, .ref a_kinds, v_land, v_spades, .ref a_part, v_pad, v_padMany, v_slips, v_slipMany, v_made, .ref a_queue, .ref a_depth, .ref a_by, .ref a_from, .int cm0, v_offOf, v_parent, v_best, v_trees, v_least, v_sums, v_toward, v_kept, v_isKept, v_keptAt, v_isWriting])), (a_maps, .inl (gI G, 6, .inl fm)), (a_kinds, .inl (gI G, 4, .inl fk)), (a_part, .inl (gI G, 6, .inl fp)), (a_queue, .inl (gI G, 15625, .inl fq)), (a_depth, .inl (gI G, 15625, .inl fd)), (a_by, .inl (gI G, 15625, .inl fb)), (a_from, .inl (gI G, 15625, .inl fr))]) [0, 1, 2, 3, 4, 5, 6, 7] rfl)
          have hD9 := (hD.sub (ws' := [(h1, .inr (6, [.int (nI k), .ref a_maps, .int told, .ref a_kinds, v_land, v_spades, .ref a_part, v_pad, v_padMany, v_slips, v_slipMany, v_made, .ref a_queue, .ref a_depth, .ref a_by, .ref a_from, .int cm0, v_offOf, v_parent, v_best, v_trees, v_least, v_sums, v_toward, v_kept, v_isKept, v_keptAt, v_isWriting])), (a_maps, .inl (gI G, 6, .inl fm)), (a_kinds, .inl (gI G, 4, .inl fk)), (a_part, .inl (gI G, 6, .inl fp)), (a_queue, .inl (gI G, 15625, .inl fq)), (a_depth, .inl (gI G, 15625, .inl fd)), (a_by, .inl (gI G, 15625, .inl fb)), (a_from, .inl (gI G, 15625, .inl fr))]) [0, 1, 2, 3, 4, 5, 6, 7] (by decide) rfl)
          exact W.iret (v := (-3)) hx hb hr (fun t9_ ht9_ hW9_ => ⟨⟨(-3), (cm0, fq, fd, fb, fr), rfl, trivial, by rw [ht9_]; exact hP9, hD9⟩, hS.F ht9_⟩) hS.2.2 dX10_far_41
      · refine lv_if_ne (tgt := 23) hx hb dX10_far_18 (by decide) (fun c39 => False.elim (by revert c39; decide)) (fun _ => ?_)
        refine lv_iconst (v := (-1)) hx hb dX10_far_21 (by decide) ?_
        have hP9 := (hP.sub (ws' := [(h1, .inr (6, [.int (nI k), .ref a_maps, .int told, .ref a_kinds, v_land, v_spades, .ref a_part, v_pad, v_padMany, v_slips, v_slipMany, v_made, .ref a_queue, .ref a_depth, .ref a_by, .ref a_from, .int cm0, v_offOf, v_parent, v_best, v_trees, v_least, v_sums, v_toward, v_kept, v_isKept, v_keptAt, v_isWriting])), (a_maps, .inl (gI G, 6, .inl fm)), (a_kinds, .inl (gI G, 4, .inl fk)), (a_part, .inl (gI G, 6, .inl fp)), (a_queue, .inl (gI G, 15625, .inl fq)), (a_depth, .inl (gI G, 15625, .inl fd)), (a_by, .inl (gI G, 15625, .inl fb)), (a_from, .inl (gI G, 15625, .inl fr))]) [0, 1, 2, 3, 4, 5, 6, 7] rfl)
        have hD9 := (hD.sub (ws' := [(h1, .inr (6, [.int (nI k), .ref a_maps, .int told, .ref a_kinds, v_land, v_spades, .ref a_part, v_pad, v_padMany, v_slips, v_slipMany, v_made, .ref a_queue, .ref a_depth, .ref a_by, .ref a_from, .int cm0, v_offOf, v_parent, v_best, v_trees, v_least, v_sums, v_toward, v_kept, v_isKept, v_keptAt, v_isWriting])), (a_maps, .inl (gI G, 6, .inl fm)), (a_kinds, .inl (gI G, 4, .inl fk)), (a_part, .inl (gI G, 6, .inl fp)), (a_queue, .inl (gI G, 15625, .inl fq)), (a_depth, .inl (gI G, 15625, .inl fd)), (a_by, .inl (gI G, 15625, .inl fb)), (a_from, .inl (gI G, 15625, .inl fr))]) [0, 1, 2, 3, 4, 5, 6, 7] (by decide) rfl)
        exact W.iret (v := (-1)) hx hb hr (fun t9_ ht9_ hW9_ => ⟨⟨(-1), (cm0, fq, fd, fb, fr), rfl, trivial, by rw [ht9_]; exact hP9, hD9⟩, hS.F ht9_⟩) hS.2.2 dX10_far_22
    · refine lv_if_eq (tgt := 21) hx hb dX10_far_11 (by decide) (fun _ => ?_) (fun c40 => False.elim (by revert c40; decide))
      refine lv_iconst (v := (-1)) hx hb dX10_far_21 (by decide) ?_
      have hP9 := (hP.sub (ws' := [(h1, .inr (6, [.int (nI k), .ref a_maps, .int told, .ref a_kinds, v_land, v_spades, .ref a_part, v_pad, v_padMany, v_slips, v_slipMany, v_made, .ref a_queue, .ref a_depth, .ref a_by, .ref a_from, .int cm0, v_offOf, v_parent, v_best, v_trees, v_least, v_sums, v_toward, v_kept, v_isKept, v_keptAt, v_isWriting])), (a_maps, .inl (gI G, 6, .inl fm)), (a_kinds, .inl (gI G, 4, .inl fk)), (a_part, .inl (gI G, 6, .inl fp)), (a_queue, .inl (gI G, 15625, .inl fq)), (a_depth, .inl (gI G, 15625, .inl fd)), (a_by, .inl (gI G, 15625, .inl fb)), (a_from, .inl (gI G, 15625, .inl fr))]) [0, 1, 2, 3, 4, 5, 6, 7] rfl)
      have hD9 := (hD.sub (ws' := [(h1, .inr (6, [.int (nI k), .ref a_maps, .int told, .ref a_kinds, v_land, v_spades, .ref a_part, v_pad, v_padMany, v_slips, v_slipMany, v_made, .ref a_queue, .ref a_depth, .ref a_by, .ref a_from, .int cm0, v_offOf, v_parent, v_best, v_trees, v_least, v_sums, v_toward, v_kept, v_isKept, v_keptAt, v_isWriting])), (a_maps, .inl (gI G, 6, .inl fm)), (a_kinds, .inl (gI G, 4, .inl fk)), (a_part, .inl (gI G, 6, .inl fp)), (a_queue, .inl (gI G, 15625, .inl fq)), (a_depth, .inl (gI G, 15625, .inl fd)), (a_by, .inl (gI G, 15625, .inl fb)), (a_from, .inl (gI G, 15625, .inl fr))]) [0, 1, 2, 3, 4, 5, 6, 7] (by decide) rfl)
      exact W.iret (v := (-1)) hx hb hr (fun t9_ ht9_ hW9_ => ⟨⟨(-1), (cm0, fq, fd, fb, fr), rfl, trivial, by rw [ht9_]; exact hP9, hD9⟩, hS.F ht9_⟩) hS.2.2 dX10_far_22
  · refine lv_if_eq (tgt := 21) hx hb dX10_far_4 (by decide) (fun _ => ?_) (fun c41 => False.elim (by revert c41; decide))
    refine lv_iconst (v := (-1)) hx hb dX10_far_21 (by decide) ?_
    have hP9 := (hP.sub (ws' := [(h1, .inr (6, [.int (nI k), .ref a_maps, .int told, .ref a_kinds, v_land, v_spades, .ref a_part, v_pad, v_padMany, v_slips, v_slipMany, v_made, .ref a_queue, .ref a_depth, .ref a_by, .ref a_from, .int cm0, v_offOf, v_parent, v_best, v_trees, v_least, v_sums, v_toward, v_kept, v_isKept, v_keptAt, v_isWriting])), (a_maps, .inl (gI G, 6, .inl fm)), (a_kinds, .inl (gI G, 4, .inl fk)), (a_part, .inl (gI G, 6, .inl fp)), (a_queue, .inl (gI G, 15625, .inl fq)), (a_depth, .inl (gI G, 15625, .inl fd)), (a_by, .inl (gI G, 15625, .inl fb)), (a_from, .inl (gI G, 15625, .inl fr))]) [0, 1, 2, 3, 4, 5, 6, 7] rfl)
    have hD9 := (hD.sub (ws' := [(h1, .inr (6, [.int (nI k), .ref a_maps, .int told, .ref a_kinds, v_land, v_spades, .ref a_part, v_pad, v_padMany, v_slips, v_slipMany, v_made, .ref a_queue, .ref a_depth, .ref a_by, .ref a_from, .int cm0, v_offOf, v_parent, v_best, v_trees, v_least, v_sums, v_toward, v_kept, v_isKept, v_keptAt, v_isWriting])), (a_maps, .inl (gI G, 6, .inl fm)), (a_kinds, .inl (gI G, 4, .inl fk)), (a_part, .inl (gI G, 6, .inl fp)), (a_queue, .inl (gI G, 15625, .inl fq)), (a_depth, .inl (gI G, 15625, .inl fd)), (a_by, .inl (gI G, 15625, .inl fb)), (a_from, .inl (gI G, 15625, .inl fr))]) [0, 1, 2, 3, 4, 5, 6, 7] (by decide) rfl)
    exact W.iret (v := (-1)) hx hb hr (fun t9_ ht9_ hW9_ => ⟨⟨(-1), (cm0, fq, fd, fb, fr), rfl, trivial, by rw [ht9_]; exact hP9, hD9⟩, hS.F ht9_⟩) hS.2.2 dX10_far_22

set_option maxHeartbeats 1000000 in
set_option maxRecDepth 100000 in
theorem m_who (l : Launch) (G : Gy) (sz : Nat) (h1 : Nat) (v_land : Value) (v_spades : Value) (v_pad : Value) (v_padMany : Value) (v_slips : Value) (v_slipMany : Value) (v_made : Value) (v_offOf : Value) (v_parent : Value) (v_best : Value) (v_trees : Value) (v_least : Value) (v_sums : Value) (v_toward : Value) (v_kept : Value) (v_isKept : Value) (v_keptAt : Value) (v_isWriting : Value) (a_maps : Nat) (fm : Nat → Int32) (a_kinds : Nat) (fk : Nat → Int32) (a_part : Nat) (fp : Nat → Int32) (a_queue : Nat) (a_depth : Nat) (a_by : Nat) (a_from : Nat) (fq : Nat → Int32) (fd : Nat → Int32) (fb : Nat → Int32) (fr : Nat → Int32) (k : Nat) (told : Int32) (cm0 : Int32) (p0 : Int32) (p1 : Int32) (p2 : Int32) (hk2 : 2 ≤ k) (hk6 : k ≤ 6) (hp : pOK k fp) (hfm : mapsOK k fm) : Ci l G yX10_who wsX10_who ({ frames := 5, cells := 0, slots := 0, locals := 121 }) [.ref h1, .int p0, .int p1, .int p2] ([(h1, .inr (6, [.int (nI k), .ref a_maps, .int told, .ref a_kinds, v_land, v_spades, .ref a_part, v_pad, v_padMany, v_slips, v_slipMany, v_made, .ref a_queue, .ref a_depth, .ref a_by, .ref a_from, .int cm0, v_offOf, v_parent, v_best, v_trees, v_least, v_sums, v_toward, v_kept, v_isKept, v_keptAt, v_isWriting])), (a_maps, .inl (gI G, 6, .inl fm)), (a_kinds, .inl (gI G, 4, .inl fk)), (a_part, .inl (gI G, 6, .inl fp)), (a_queue, .inl (gI G, 15625, .inl fq)), (a_depth, .inl (gI G, 15625, .inl fd)), (a_by, .inl (gI G, 15625, .inl fb)), (a_from, .inl (gI G, 15625, .inl fr))]) sz (fun (r : Int32) (u : Int32 × (Nat → Int32) × (Nat → Int32) × (Nat → Int32) × (Nat → Int32)) => match u with | (cm1, gq, gd, gb, gr) => True) (fun (u : Int32 × (Nat → Int32) × (Nat → Int32) × (Nat → Int32) × (Nat → Int32)) => match u with | (cm1, gq, gd, gb, gr) => [(h1, .inr (6, [.int (nI k), .ref a_maps, .int told, .ref a_kinds, v_land, v_spades, .ref a_part, v_pad, v_padMany, v_slips, v_slipMany, v_made, .ref a_queue, .ref a_depth, .ref a_by, .ref a_from, .int cm1, v_offOf, v_parent, v_best, v_trees, v_least, v_sums, v_toward, v_kept, v_isKept, v_keptAt, v_isWriting])), (a_maps, .inl (gI G, 6, .inl fm)), (a_kinds, .inl (gI G, 4, .inl fk)), (a_part, .inl (gI G, 6, .inl fp)), (a_queue, .inl (gI G, 15625, .inl gq)), (a_depth, .inl (gI G, 15625, .inl gd)), (a_by, .inl (gI G, 15625, .inl gb)), (a_from, .inl (gI G, 15625, .inl gr))]) 0 0 := by
  refine Met.ofW (cc := cX10_who) (maxL := 7) (ret := (some .int)) (by decide) rfl ?_
  intro p e s m args below meth c s₁ B hml hv
  obtain ⟨rfl, hsz, hP, hD0, E0⟩ := hv
  have hx := B.exec
  have hb := B.bytes
  have hr := B.returns
  have hts := atoms_spec (ws := wsX10_who) B.pre
  have hown : s.vm.findClass RX10 = some m.cls := findClass_of_methodNamed B.named
  have hlocks := B.notSynchronized
  subst hsz
  have hD := hD0.self (sz := s.heap.size)
  generalize hAe : va_A ([(h1, .inr (6, [.int (nI k), .ref a_maps, .int told, .ref a_kinds, v_land, v_spades, .ref a_part, v_pad, v_padMany, v_slips, v_slipMany, v_made, .ref a_queue, .ref a_depth, .ref a_by, .ref a_from, .int cm0, v_offOf, v_parent, v_best, v_trees, v_least, v_sums, v_toward, v_kept, v_isKept, v_keptAt, v_isWriting])), (a_maps, .inl (gI G, 6, .inl fm)), (a_kinds, .inl (gI G, 4, .inl fk)), (a_part, .inl (gI G, 6, .inl fp)), (a_queue, .inl (gI G, 15625, .inl fq)), (a_depth, .inl (gI G, 15625, .inl fd)), (a_by, .inl (gI G, 15625, .inl fb)), (a_from, .inl (gI G, 15625, .inl fr))]) s.heap.size = A at hD E0 ⊢
  have E : EV G A s s.heap := E0
  have hA : ∀ q : Nat, s.heap.size ≤ q → A q := fun q h => by rw [← hAe]; exact Or.inr h
  have hS : va_S A s.heap s.heap [] := va_S.rf
  have hl := lv_entry ([.ref h1, .int p0, .int p1, .int p2]) (n := 7) (Nat.le_of_ble_eq_true rfl)
  rw [lg_entry_eq]
  generalize (lg_sl ([.ref h1, .int p0, .int p1, .int p2]) ++ List.replicate (7 - (lg_sl ([.ref h1, .int p0, .int p1, .int p2])).length) Slot.unset).toArray = ls at hl ⊢
  have hl : lv_has ls 7 [(0, .ref h1), (1, .int p0), (2, .int p1), (3, .int p2)] := hl
  have hP : va_P G.1 vwCl ([(h1, .inr (6, [.int (nI k), .ref a_maps, .int told, .ref a_kinds, v_land, v_spades, .ref a_part, v_pad, v_padMany, v_slips, v_slipMany, v_made, .ref a_queue, .ref a_depth, .ref a_by, .ref a_from, .int cm0, v_offOf, v_parent, v_best, v_trees, v_least, v_sums, v_toward, v_kept, v_isKept, v_keptAt, v_isWriting])), (a_maps, .inl (gI G, 6, .inl fm)), (a_kinds, .inl (gI G, 4, .inl fk)), (a_part, .inl (gI G, 6, .inl fp)), (a_queue, .inl (gI G, 15625, .inl fq)), (a_depth, .inl (gI G, 15625, .inl fd)), (a_by, .inl (gI G, 15625, .inl fb)), (a_from, .inl (gI G, 15625, .inl fr))]) s.heap := hP
  have hal := p5le hk6
  refine lv_iload_n hx hb dX10_who_0 rfl (lv_at hl 1 rfl) ?_
  refine ca_iR (va_runS (As := [.int p0]) (rest := []) ⟨hx, hb, hml, hown, hts⟩ (m_isMap l G s.heap.size p0) (va_cwS 1 hts gX10_who_X10_isMap rfl rfl rfl (by decide +kernel) ⟨by decide +kernel, by decide +kernel⟩) (pre_S E hP hD hS hA [] (by decide) rfl) rfl rfl hl.1 rfl (lv_room (Nat.le_of_ble_eq_true rfl)) dX10_who_1 ⟨by decide +kernel, by decide +kernel⟩) hS hP hD hA [] rfl (fun r2 _ H locs w1 hP hS => ?_)
  rcases w1 with ⟨rfl, b3⟩ | ⟨rfl, b3⟩
  · refine lv_if_eq (tgt := 14) hx hb dX10_who_4 (by decide) (fun c4 => False.elim (by revert c4; decide)) (fun _ => ?_)
    refine lv_iload_n hx hb dX10_who_7 rfl (lv_at hl 2 rfl) ?_
    refine ca_iR (va_runS (As := [.int p1]) (rest := []) ⟨hx, hb, hml, hown, hts⟩ (m_isMap l G H.size p1) (va_cwS 1 hts gX10_who_X10_isMap rfl rfl rfl (by decide +kernel) ⟨by decide +kernel, by decide +kernel⟩) (pre_S E hP hD hS hA [] (by decide) rfl) rfl rfl hl.1 rfl (lv_room (Nat.le_of_ble_eq_true rfl)) dX10_who_8 ⟨by decide +kernel, by decide +kernel⟩) hS hP hD hA [] rfl (fun r6 _ H locs w5 hP hS => ?_)
    rcases w5 with ⟨rfl, b7⟩ | ⟨rfl, b7⟩
    · refine lv_if_ne (tgt := 16) hx hb dX10_who_11 (by decide) (fun _ => ?_) (fun c8 => False.elim (by revert c8; decide))
      refine lv_iload_n hx hb dX10_who_16 rfl (lv_at hl 3 rfl) ?_
      refine lv_i2l hx hb dX10_who_17 rfl ?_
      refine lv_topl (fun x9 ex9 => ?_)
      refine lv_lconst (v := 0) hx hb dX10_who_18 (by decide) ?_
      refine lv_ldc2 (v := 30) hx hb hown (hts (.constantLong RX10 181 (30)) (by decide +kernel)) dX10_who_19 ?_
      refine ca_iR (va_runS (As := [.long x9, .long 0, .long 30]) (rest := []) ⟨hx, hb, hml, hown, hts⟩ (m_in l G H.size x9 0 30 p2 0 30 ex9 (by decide) (by decide)) (va_cwS 3 hts gX10_who_X10_in rfl rfl rfl (by decide +kernel) ⟨by decide +kernel, by decide +kernel⟩) (pre_S E hP hD hS hA [] (by decide) rfl) rfl rfl hl.1 rfl (lv_room (Nat.le_of_ble_eq_true rfl)) dX10_who_22 ⟨by decide +kernel, by decide +kernel⟩) hS hP hD hA [] rfl (fun r11 _ H locs w10 hP hS => ?_)
      rcases w10 with ⟨rfl, b12⟩ | ⟨rfl, b12⟩
      · refine lv_if_ne (tgt := 31) hx hb dX10_who_25 (by decide) (fun _ => ?_) (fun c13 => False.elim (by revert c13; decide))
        obtain ⟨j_p0, hj_p0, ej_p0⟩ := inR6 b3
        have hl : lv_has ls 7 [(0, .ref h1), (1, .int (nI j_p0)), (2, .int p1), (3, .int p2)] := by have q := hl; rw [ej_p0] at q; exact q
        obtain ⟨j_p1, hj_p1, ej_p1⟩ := inR6 b7
        have hl : lv_has ls 7 [(0, .ref h1), (1, .int (nI j_p0)), (2, .int (nI j_p1)), (3, .int p2)] := by have q := hl; rw [ej_p1] at q; exact q
        refine lv_aload_n hx hb dX10_who_31 rfl (lv_at hl 0 rfl) ?_
        refine lv_iload_n hx hb dX10_who_32 rfl (lv_at hl 1 rfl) ?_
        refine ca_iR (va_runV (As := [.int (nI j_p0)]) (rest := []) ⟨hx, hb, hml, hown, hts⟩ (m_isTold l G H.size h1 (.int (nI k)) (.ref a_maps) (.ref a_kinds) v_land v_spades (.ref a_part) v_pad v_padMany v_slips v_slipMany v_made (.ref a_queue) (.ref a_depth) (.ref a_by) (.ref a_from) (.int cm0) v_offOf v_parent v_best v_trees v_least v_sums v_toward v_kept v_isKept v_keptAt v_isWriting told (nI j_p0)) (cwV 1 hts gX10_who_X10_isTold rfl rfl rfl (by decide +kernel) ⟨by decide +kernel, by decide +kernel⟩) (pre_V E hP hD hS hA [0] (by decide) rfl 0 6 rfl rfl) rfl rfl hl.1 rfl (lv_room (Nat.le_of_ble_eq_true rfl)) dX10_who_33 ⟨by decide +kernel, by decide +kernel⟩) hS hP hD hA [0] rfl (fun r15 _ H locs w14 hP hS => ?_)
        rcases w14 with ⟨rfl, b16⟩ | ⟨rfl, b16⟩
        · refine lv_if_eq (tgt := 47) hx hb dX10_who_36 (by decide) (fun c17 => False.elim (by revert c17; decide)) (fun _ => ?_)
          refine lv_aload_n hx hb dX10_who_39 rfl (lv_at hl 0 rfl) ?_
          refine lv_iload_n hx hb dX10_who_40 rfl (lv_at hl 2 rfl) ?_
          refine ca_iR (va_runV (As := [.int (nI j_p1)]) (rest := []) ⟨hx, hb, hml, hown, hts⟩ (m_isTold l G H.size h1 (.int (nI k)) (.ref a_maps) (.ref a_kinds) v_land v_spades (.ref a_part) v_pad v_padMany v_slips v_slipMany v_made (.ref a_queue) (.ref a_depth) (.ref a_by) (.ref a_from) (.int cm0) v_offOf v_parent v_best v_trees v_least v_sums v_toward v_kept v_isKept v_keptAt v_isWriting told (nI j_p1)) (cwV 1 hts gX10_who_X10_isTold rfl rfl rfl (by decide +kernel) ⟨by decide +kernel, by decide +kernel⟩) (pre_V E hP hD hS hA [0] (by decide) rfl 0 6 rfl rfl) rfl rfl hl.1 rfl (lv_room (Nat.le_of_ble_eq_true rfl)) dX10_who_41 ⟨by decide +kernel, by decide +kernel⟩) hS hP hD hA [0] rfl (fun r19 _ H locs w18 hP hS => ?_)
          rcases w18 with ⟨rfl, b20⟩ | ⟨rfl, b20⟩
          · refine lv_if_ne (tgt := 50) hx hb dX10_who_44 (by decide) (fun _ => ?_) (fun c21 => False.elim (by revert c21; decide))
            refine lv_iconst (v := 0) hx hb dX10_who_50 (by decide) ?_
            refine lv_istore (lv' := [(4, .int 0), (0, .ref h1), (1, .int (nI j_p0)), (2, .int (nI j_p1)), (3, .int p2)]) hx hb dX10_who_51 hl (by decide) rfl (fun ls hl => ?_)
            refine lv_iconst (v := 0) hx hb dX10_who_53 (by decide) ?_
            refine lv_istore (lv' := [(5, .int 0), (4, .int 0), (0, .ref h1), (1, .int (nI j_p0)), (2, .int (nI j_p1)), (3, .int p2)]) hx hb dX10_who_54 hl (by decide) rfl (fun ls hl => ?_)
            refine lp_run (x0 := (0, 0, cm0, fq, fd, fb, fr)) (fun xx_ : Nat × Int32 × Int32 × (Nat → Int32) × (Nat → Int32) × (Nat → Int32) × (Nat → Int32) => match xx_ with | (x, bi, cm1, fq1, fd1, fb1, fr1) => [(h1, .inr (6, [.int (nI k), .ref a_maps, .int told, .ref a_kinds, v_land, v_spades, .ref a_part, v_pad, v_padMany, v_slips, v_slipMany, v_made, .ref a_queue, .ref a_depth, .ref a_by, .ref a_from, .int cm1, v_offOf, v_parent, v_best, v_trees, v_least, v_sums, v_toward, v_kept, v_isKept, v_keptAt, v_isWriting])), (a_maps, .inl (gI G, 6, .inl fm)), (a_kinds, .inl (gI G, 4, .inl fk)), (a_part, .inl (gI G, 6, .inl fp)), (a_queue, .inl (gI G, 15625, .inl fq1)), (a_depth, .inl (gI G, 15625, .inl fd1)), (a_by, .inl (gI G, 15625, .inl fb1)), (a_from, .inl (gI G, 15625, .inl fr1))]) (fun xx_ : Nat × Int32 × Int32 × (Nat → Int32) × (Nat → Int32) × (Nat → Int32) × (Nat → Int32) => match xx_ with | (x, bi, cm1, fq1, fd1, fb1, fr1) => [(5, .int (nI x)), (4, .int bi), (0, .ref h1), (1, .int (nI j_p0)), (2, .int (nI j_p1)), (3, .int p2)]) (fun xx_ : Nat × Int32 × Int32 × (Nat → Int32) × (Nat → Int32) × (Nat → Int32) × (Nat → Int32) => match xx_ with | (x, bi, cm1, fq1, fd1, fb1, fr1) => (x ≤ 4)) (fun xx_ : Nat × Int32 × Int32 × (Nat → Int32) × (Nat → Int32) × (Nat → Int32) × (Nat → Int32) => match xx_ with | (x, bi, cm1, fq1, fd1, fb1, fr1) => 4 - x) (hP.sub [0, 1, 2, 3, 4, 5, 6, 7] rfl) (hD.sub [0, 1, 2, 3, 4, 5, 6, 7] (by decide) rfl) hS (lv_sub hl [0, 1, 2, 3, 4, 5] rfl) (by omega) ?_
            intro xx_ hI ih56 H locs ls hP hD hS hl
            obtain ⟨x, bi, cm1, fq1, fd1, fb1, fr1⟩ := xx_
            dsimp only at hI ih56 hP hD hl
            have hx0 := hI
            have hl : lv_has ls 7 [(5, .int (nI x)), (4, .int bi), (0, .ref h1), (1, .int (nI j_p0)), (2, .int (nI j_p1)), (3, .int p2)] := hl
            have hP : va_P G.1 vwCl ([(h1, .inr (6, [.int (nI k), .ref a_maps, .int told, .ref a_kinds, v_land, v_spades, .ref a_part, v_pad, v_padMany, v_slips, v_slipMany, v_made, .ref a_queue, .ref a_depth, .ref a_by, .ref a_from, .int cm1, v_offOf, v_parent, v_best, v_trees, v_least, v_sums, v_toward, v_kept, v_isKept, v_keptAt, v_isWriting])), (a_maps, .inl (gI G, 6, .inl fm)), (a_kinds, .inl (gI G, 4, .inl fk)), (a_part, .inl (gI G, 6, .inl fp)), (a_queue, .inl (gI G, 15625, .inl fq1)), (a_depth, .inl (gI G, 15625, .inl fd1)), (a_by, .inl (gI G, 15625, .inl fb1)), (a_from, .inl (gI G, 15625, .inl fr1))]) H := hP
            have hD : va_D A ([(h1, .inr (6, [.int (nI k), .ref a_maps, .int told, .ref a_kinds, v_land, v_spades, .ref a_part, v_pad, v_padMany, v_slips, v_slipMany, v_made, .ref a_queue, .ref a_depth, .ref a_by, .ref a_from, .int cm1, v_offOf, v_parent, v_best, v_trees, v_least, v_sums, v_toward, v_kept, v_isKept, v_keptAt, v_isWriting])), (a_maps, .inl (gI G, 6, .inl fm)), (a_kinds, .inl (gI G, 4, .inl fk)), (a_part, .inl (gI G, 6, .inl fp)), (a_queue, .inl (gI G, 15625, .inl fq1)), (a_depth, .inl (gI G, 15625, .inl fd1)), (a_by, .inl (gI G, 15625, .inl fb1)), (a_from, .inl (gI G, 15625, .inl fr1))]) := hD
            refine lv_iload hx hb dX10_who_56 (lv_at hl 0 rfl) ?_
            refine lv_iconst (v := 4) hx hb dX10_who_58 (by decide) ?_
            refine lv_icmp_ge (tgt := 117) hx hb dX10_who_59 (by decide) (fun c22 => ?_) (fun c22 => ?_)
            · have c22 : 4 ≤ x := (nI_leI (a := 4) (b := x) (by omega) (by omega)).mp c22
              refine lv_iload hx hb dX10_who_117 (lv_at hl 1 rfl) ?_
              have hP9 := (hP.sub (ws' := [(h1, .inr (6, [.int (nI k), .ref a_maps, .int told, .ref a_kinds, v_land, v_spades, .ref a_part, v_pad, v_padMany, v_slips, v_slipMany, v_made, .ref a_queue, .ref a_depth, .ref a_by, .ref a_from, .int cm1, v_offOf, v_parent, v_best, v_trees, v_least, v_sums, v_toward, v_kept, v_isKept, v_keptAt, v_isWriting])), (a_maps, .inl (gI G, 6, .inl fm)), (a_kinds, .inl (gI G, 4, .inl fk)), (a_part, .inl (gI G, 6, .inl fp)), (a_queue, .inl (gI G, 15625, .inl fq1)), (a_depth, .inl (gI G, 15625, .inl fd1)), (a_by, .inl (gI G, 15625, .inl fb1)), (a_from, .inl (gI G, 15625, .inl fr1))]) [0, 1, 2, 3, 4, 5, 6, 7] rfl)
              have hD9 := (hD.sub (ws' := [(h1, .inr (6, [.int (nI k), .ref a_maps, .int told, .ref a_kinds, v_land, v_spades, .ref a_part, v_pad, v_padMany, v_slips, v_slipMany, v_made, .ref a_queue, .ref a_depth, .ref a_by, .ref a_from, .int cm1, v_offOf, v_parent, v_best, v_trees, v_least, v_sums, v_toward, v_kept, v_isKept, v_keptAt, v_isWriting])), (a_maps, .inl (gI G, 6, .inl fm)), (a_kinds, .inl (gI G, 4, .inl fk)), (a_part, .inl (gI G, 6, .inl fp)), (a_queue, .inl (gI G, 15625, .inl fq1)), (a_depth, .inl (gI G, 15625, .inl fd1)), (a_by, .inl (gI G, 15625, .inl fb1)), (a_from, .inl (gI G, 15625, .inl fr1))]) [0, 1, 2, 3, 4, 5, 6, 7] (by decide) rfl)
              exact W.iret (v := bi) hx hb hr (fun t9_ ht9_ hW9_ => ⟨⟨bi, (cm1, fq1, fd1, fb1, fr1), rfl, trivial, by rw [ht9_]; exact hP9, hD9⟩, hS.F ht9_⟩) hS.2.2 dX10_who_119
            · have c22 : ¬ 4 ≤ x := fun h9_ => c22 ((nI_leI (a := 4) (b := x) (by omega) (by omega)).mpr h9_)
              refine lv_aload_n hx hb dX10_who_62 rfl (lv_at hl 2 rfl) ?_
              refine lv_aload_n hx hb dX10_who_63 rfl (lv_at hl 2 rfl) ?_
              refine va_get (D := G.1) (ci := 6) (v := .ref a_maps) (C := RX10) (T := TX10) (N := 28) hx hb hts (fun _ h => List.mem_cons_of_mem _ (List.mem_append_right _ h)) hown E.K hP 0 rfl rfl 1 (by decide) (hts (.fieldLink RX10 7 "LastMapModel" "maps" "[I") (by decide +kernel)) (fun _ h9 => h9) rfl dX10_who_64 ?_
              refine lv_iload_n hx hb dX10_who_67 rfl (lv_at hl 3 rfl) ?_
              refine va_iald hx hb E.K hP 1 1 rfl rfl (i := nI j_p0) (vp_in_nI (by omega) (by decide)) dX10_who_68 ?_
              refine lv_topi (fun x23 ex23 => ?_)
              obtain ⟨a_x23, ha_x23, hvx23⟩ := hfm j_p0 (by omega)
              obtain rfl : x23 = nI a_x23 := by rw [ex23, nI_clamp (by omega)]; exact hvx23
              refine lv_aload_n hx hb dX10_who_69 rfl (lv_at hl 2 rfl) ?_
              refine va_get (D := G.1) (ci := 6) (v := .ref a_maps) (C := RX10) (T := TX10) (N := 28) hx hb hts (fun _ h => List.mem_cons_of_mem _ (List.mem_append_right _ h)) hown E.K hP 0 rfl rfl 1 (by decide) (hts (.fieldLink RX10 7 "LastMapModel" "maps" "[I") (by decide +kernel)) (fun _ h9 => h9) rfl dX10_who_70 ?_
              refine lv_iload_n hx hb dX10_who_73 rfl (lv_at hl 4 rfl) ?_
              refine va_iald hx hb E.K hP 1 1 rfl rfl (i := nI j_p1) (vp_in_nI (by omega) (by decide)) dX10_who_74 ?_
              refine lv_topi (fun x24 ex24 => ?_)
              obtain ⟨a_x24, ha_x24, hvx24⟩ := hfm j_p1 (by omega)
              obtain rfl : x24 = nI a_x24 := by rw [ex24, nI_clamp (by omega)]; exact hvx24
              refine lv_aload_n hx hb dX10_who_75 rfl (lv_at hl 2 rfl) ?_
              refine va_get (D := G.1) (ci := 6) (v := .ref a_kinds) (C := RX10) (T := TX10) (N := 28) hx hb hts (fun _ h => List.mem_cons_of_mem _ (List.mem_append_right _ h)) hown E.K hP 0 rfl rfl 3 (by decide) (hts (.fieldLink RX10 13 "LastMapModel" "kinds" "[I") (by decide +kernel)) (fun _ h9 => h9) rfl dX10_who_76 ?_
              refine lv_iload hx hb dX10_who_79 (lv_at hl 0 rfl) ?_
              refine va_iald hx hb E.K hP 2 1 rfl rfl (i := nI x) (vp_in_nI (by omega) (by decide)) dX10_who_81 ?_
              refine lv_topi (fun x25 ex25 => ?_)
              refine ca_i (wr := [(a_maps, .inl (gI G, 6, .inl fm)), (a_kinds, .inl (gI G, 4, .inl fk))]) (va_runV (As := [.int (nI a_x23), .int (nI a_x24), .int x25]) (rest := []) ⟨hx, hb, hml, hown, hts⟩ (m_farOf l G H.size h1 (.ref a_maps) (.int told) (.ref a_kinds) v_land v_spades v_pad v_padMany v_slips v_slipMany v_made v_offOf v_parent v_best v_trees v_least v_sums v_toward v_kept v_isKept v_keptAt v_isWriting a_part fp a_queue a_depth a_by a_from fq1 fd1 fb1 fr1 k a_x23 a_x24 cm1 x25 hk2 hk6 hp (by omega) (by omega)) (cwV 3 hts gX10_who_X10_farOf rfl rfl rfl (by decide +kernel) ⟨by decide +kernel, by decide +kernel⟩) (pre_V E hP hD hS hA [0, 3, 4, 5, 6, 7] (by decide) rfl 0 6 rfl rfl) rfl rfl hl.1 rfl (lv_room (Nat.le_of_ble_eq_true rfl)) dX10_who_82 ⟨by decide +kernel, by decide +kernel⟩) hS hP hD hA [0, 3, 4, 5, 6, 7] [1, 2] rfl rfl (by decide) (by decide) (fun r27 u28 H locs w26 hP hD hS => ?_)
              obtain ⟨cm1_29, gq_30, gd_31, gb_32, gr_33⟩ := u28
              try dsimp only at w26 hP hD
              have hP := (hP.sub (ws' := [(h1, .inr (6, [.int (nI k), .ref a_maps, .int told, .ref a_kinds, v_land, v_spades, .ref a_part, v_pad, v_padMany, v_slips, v_slipMany, v_made, .ref a_queue, .ref a_depth, .ref a_by, .ref a_from, .int (nI cm1_29), v_offOf, v_parent, v_best, v_trees, v_least, v_sums, v_toward, v_kept, v_isKept, v_keptAt, v_isWriting])), (a_maps, .inl (gI G, 6, .inl fm)), (a_kinds, .inl (gI G, 4, .inl fk)), (a_part, .inl (gI G, 6, .inl fp)), (a_queue, .inl (gI G, 15625, .inl gq_30)), (a_depth, .inl (gI G, 15625, .inl gd_31)), (a_by, .inl (gI G, 15625, .inl gb_32)), (a_from, .inl (gI G, 15625, .inl gr_33))]) [2, 0, 1, 3, 4, 5, 6, 7] rfl)
              have hD := (hD.sub (ws' := [(h1, .inr (6, [.int (nI k), .ref a_maps, .int told, .ref a_kinds, v_land, v_spades, .ref a_part, v_pad, v_padMany, v_slips, v_slipMany, v_made, .ref a_queue, .ref a_depth, .ref a_by, .ref a_from, .int (nI cm1_29), v_offOf, v_parent, v_best, v_trees, v_least, v_sums, v_toward, v_kept, v_isKept, v_keptAt, v_isWriting])), (a_maps, .inl (gI G, 6, .inl fm)), (a_kinds, .inl (gI G, 4, .inl fk)), (a_part, .inl (gI G, 6, .inl fp)), (a_queue, .inl (gI G, 15625, .inl gq_30)), (a_depth, .inl (gI G, 15625, .inl gd_31)), (a_by, .inl (gI G, 15625, .inl gb_32)), (a_from, .inl (gI G, 15625, .inl gr_33))]) [2, 0, 1, 3, 4, 5, 6, 7] (by decide) rfl)
              refine lv_istore (lv' := [(6, .int r27), (5, .int (nI x)), (4, .int bi), (0, .ref h1), (1, .int (nI j_p0)), (2, .int (nI j_p1)), (3, .int p2)]) hx hb dX10_who_85 hl (by decide) rfl (fun ls hl => ?_)
              refine lv_iload hx hb dX10_who_87 (lv_at hl 2 rfl) ?_
              refine lv_iload hx hb dX10_who_89 (lv_at hl 0 rfl) ?_
              refine lv_if_lt (tgt := 107) hx hb dX10_who_91 (by decide) (fun c34 => ?_) (fun c34 => ?_)
              · refine lv_iconst (v := 0) hx hb dX10_who_107 (by decide) ?_
                refine lv_ior hx hb dX10_who_108 ?_
                refine lv_topi (fun x35 ex35 => ?_)
                refine lv_istore (lv' := [(4, .int x35), (6, .int r27), (5, .int (nI x)), (0, .ref h1), (1, .int (nI j_p0)), (2, .int (nI j_p1)), (3, .int p2)]) hx hb dX10_who_109 hl (by decide) rfl (fun ls hl => ?_)
                obtain ⟨x36, ex36⟩ : ∃ yy_ : Int32, yy_ = (nI x) + 1 := ⟨_, rfl⟩
                refine lv_iinc (v := x36) (lv' := [(5, .int x36), (4, .int x35), (6, .int r27), (0, .ref h1), (1, .int (nI j_p0)), (2, .int (nI j_p1)), (3, .int p2)]) hx hb dX10_who_111 hl (k := 2) rfl (by rw [ex36]; rfl) (by decide) rfl (fun ls hl => ?_)
                obtain rfl : x36 = nI (x + 1) := by rw [ex36]; exact nI_add x 1
                refine lv_goto (tgt := 56) hx hb dX10_who_114 (by decide) ?_
                refine ih56 ((x + 1), x35, nI cm1_29, gq_30, gd_31, gb_32, gr_33) ?_ (by first | omega | (dsimp only; omega)) H locs ls (hP.sub [0, 1, 2, 3, 4, 5, 6, 7] rfl) (hD.sub [0, 1, 2, 3, 4, 5, 6, 7] (by decide) rfl) hS (lv_sub hl [0, 1, 3, 4, 5, 6] rfl)
                try dsimp only
                omega
              · refine lv_iload hx hb dX10_who_94 (lv_at hl 0 rfl) ?_
                refine lv_iload_n hx hb dX10_who_96 rfl (lv_at hl 6 rfl) ?_
                refine lv_icmp_gt (tgt := 107) hx hb dX10_who_97 (by decide) (fun c37 => ?_) (fun c37 => ?_)
                · refine lv_iconst (v := 0) hx hb dX10_who_107 (by decide) ?_
                  refine lv_ior hx hb dX10_who_108 ?_
                  refine lv_topi (fun x38 ex38 => ?_)
                  refine lv_istore (lv' := [(4, .int x38), (6, .int r27), (5, .int (nI x)), (0, .ref h1), (1, .int (nI j_p0)), (2, .int (nI j_p1)), (3, .int p2)]) hx hb dX10_who_109 hl (by decide) rfl (fun ls hl => ?_)
                  obtain ⟨x39, ex39⟩ : ∃ yy_ : Int32, yy_ = (nI x) + 1 := ⟨_, rfl⟩
                  refine lv_iinc (v := x39) (lv' := [(5, .int x39), (4, .int x38), (6, .int r27), (0, .ref h1), (1, .int (nI j_p0)), (2, .int (nI j_p1)), (3, .int p2)]) hx hb dX10_who_111 hl (k := 2) rfl (by rw [ex39]; rfl) (by decide) rfl (fun ls hl => ?_)
                  obtain rfl : x39 = nI (x + 1) := by rw [ex39]; exact nI_add x 1
                  refine lv_goto (tgt := 56) hx hb dX10_who_114 (by decide) ?_
                  refine ih56 ((x + 1), x38, nI cm1_29, gq_30, gd_31, gb_32, gr_33) ?_ (by first | omega | (dsimp only; omega)) H locs ls (hP.sub [0, 1, 2, 3, 4, 5, 6, 7] rfl) (hD.sub [0, 1, 2, 3, 4, 5, 6, 7] (by decide) rfl) hS (lv_sub hl [0, 1, 3, 4, 5, 6] rfl)
                  try dsimp only
                  omega
                · refine lv_iconst (v := 1) hx hb dX10_who_100 (by decide) ?_
                  refine lv_iload hx hb dX10_who_101 (lv_at hl 1 rfl) ?_
                  refine lv_ishl hx hb dX10_who_103 ?_
                  refine lv_topi (fun x40 ex40 => ?_)
                  refine lv_goto (tgt := 108) hx hb dX10_who_104 (by decide) ?_
                  refine lv_ior hx hb dX10_who_108 ?_
                  refine lv_topi (fun x41 ex41 => ?_)
                  refine lv_istore (lv' := [(4, .int x41), (6, .int r27), (5, .int (nI x)), (0, .ref h1), (1, .int (nI j_p0)), (2, .int (nI j_p1)), (3, .int p2)]) hx hb dX10_who_109 hl (by decide) rfl (fun ls hl => ?_)
                  obtain ⟨x42, ex42⟩ : ∃ yy_ : Int32, yy_ = (nI x) + 1 := ⟨_, rfl⟩
                  refine lv_iinc (v := x42) (lv' := [(5, .int x42), (4, .int x41), (6, .int r27), (0, .ref h1), (1, .int (nI j_p0)), (2, .int (nI j_p1)), (3, .int p2)]) hx hb dX10_who_111 hl (k := 2) rfl (by rw [ex42]; rfl) (by decide) rfl (fun ls hl => ?_)
                  obtain rfl : x42 = nI (x + 1) := by rw [ex42]; exact nI_add x 1
                  refine lv_goto (tgt := 56) hx hb dX10_who_114 (by decide) ?_
                  refine ih56 ((x + 1), x41, nI cm1_29, gq_30, gd_31, gb_32, gr_33) ?_ (by first | omega | (dsimp only; omega)) H locs ls (hP.sub [0, 1, 2, 3, 4, 5, 6, 7] rfl) (hD.sub [0, 1, 2, 3, 4, 5, 6, 7] (by decide) rfl) hS (lv_sub hl [0, 1, 3, 4, 5, 6] rfl)
                  try dsimp only
                  omega
          · refine lv_if_ne (tgt := 50) hx hb dX10_who_44 (by decide) (fun c43 => False.elim (by revert c43; decide)) (fun _ => ?_)
            refine lv_bipush (v := (-3)) hx hb dX10_who_47 (by decide) ?_
            have hP9 := (hP.sub (ws' := [(h1, .inr (6, [.int (nI k), .ref a_maps, .int told, .ref a_kinds, v_land, v_spades, .ref a_part, v_pad, v_padMany, v_slips, v_slipMany, v_made, .ref a_queue, .ref a_depth, .ref a_by, .ref a_from, .int cm0, v_offOf, v_parent, v_best, v_trees, v_least, v_sums, v_toward, v_kept, v_isKept, v_keptAt, v_isWriting])), (a_maps, .inl (gI G, 6, .inl fm)), (a_kinds, .inl (gI G, 4, .inl fk)), (a_part, .inl (gI G, 6, .inl fp)), (a_queue, .inl (gI G, 15625, .inl fq)), (a_depth, .inl (gI G, 15625, .inl fd)), (a_by, .inl (gI G, 15625, .inl fb)), (a_from, .inl (gI G, 15625, .inl fr))]) [0, 1, 2, 3, 4, 5, 6, 7] rfl)
            have hD9 := (hD.sub (ws' := [(h1, .inr (6, [.int (nI k), .ref a_maps, .int told, .ref a_kinds, v_land, v_spades, .ref a_part, v_pad, v_padMany, v_slips, v_slipMany, v_made, .ref a_queue, .ref a_depth, .ref a_by, .ref a_from, .int cm0, v_offOf, v_parent, v_best, v_trees, v_least, v_sums, v_toward, v_kept, v_isKept, v_keptAt, v_isWriting])), (a_maps, .inl (gI G, 6, .inl fm)), (a_kinds, .inl (gI G, 4, .inl fk)), (a_part, .inl (gI G, 6, .inl fp)), (a_queue, .inl (gI G, 15625, .inl fq)), (a_depth, .inl (gI G, 15625, .inl fd)), (a_by, .inl (gI G, 15625, .inl fb)), (a_from, .inl (gI G, 15625, .inl fr))]) [0, 1, 2, 3, 4, 5, 6, 7] (by decide) rfl)
            exact W.iret (v := (-3)) hx hb hr (fun t9_ ht9_ hW9_ => ⟨⟨(-3), (cm0, fq, fd, fb, fr), rfl, trivial, by rw [ht9_]; exact hP9, hD9⟩, hS.F ht9_⟩) hS.2.2 dX10_who_49
        · refine lv_if_eq (tgt := 47) hx hb dX10_who_36 (by decide) (fun _ => ?_) (fun c44 => False.elim (by revert c44; decide))
          refine lv_bipush (v := (-3)) hx hb dX10_who_47 (by decide) ?_
          have hP9 := (hP.sub (ws' := [(h1, .inr (6, [.int (nI k), .ref a_maps, .int told, .ref a_kinds, v_land, v_spades, .ref a_part, v_pad, v_padMany, v_slips, v_slipMany, v_made, .ref a_queue, .ref a_depth, .ref a_by, .ref a_from, .int cm0, v_offOf, v_parent, v_best, v_trees, v_least, v_sums, v_toward, v_kept, v_isKept, v_keptAt, v_isWriting])), (a_maps, .inl (gI G, 6, .inl fm)), (a_kinds, .inl (gI G, 4, .inl fk)), (a_part, .inl (gI G, 6, .inl fp)), (a_queue, .inl (gI G, 15625, .inl fq)), (a_depth, .inl (gI G, 15625, .inl fd)), (a_by, .inl (gI G, 15625, .inl fb)), (a_from, .inl (gI G, 15625, .inl fr))]) [0, 1, 2, 3, 4, 5, 6, 7] rfl)
          have hD9 := (hD.sub (ws' := [(h1, .inr (6, [.int (nI k), .ref a_maps, .int told, .ref a_kinds, v_land, v_spades, .ref a_part, v_pad, v_padMany, v_slips, v_slipMany, v_made, .ref a_queue, .ref a_depth, .ref a_by, .ref a_from, .int cm0, v_offOf, v_parent, v_best, v_trees, v_least, v_sums, v_toward, v_kept, v_isKept, v_keptAt, v_isWriting])), (a_maps, .inl (gI G, 6, .inl fm)), (a_kinds, .inl (gI G, 4, .inl fk)), (a_part, .inl (gI G, 6, .inl fp)), (a_queue, .inl (gI G, 15625, .inl fq)), (a_depth, .inl (gI G, 15625, .inl fd)), (a_by, .inl (gI G, 15625, .inl fb)), (a_from, .inl (gI G, 15625, .inl fr))]) [0, 1, 2, 3, 4, 5, 6, 7] (by decide) rfl)
          exact W.iret (v := (-3)) hx hb hr (fun t9_ ht9_ hW9_ => ⟨⟨(-3), (cm0, fq, fd, fb, fr), rfl, trivial, by rw [ht9_]; exact hP9, hD9⟩, hS.F ht9_⟩) hS.2.2 dX10_who_49
      · refine lv_if_ne (tgt := 31) hx hb dX10_who_25 (by decide) (fun c45 => False.elim (by revert c45; decide)) (fun _ => ?_)
        refine lv_bipush (v := (-2)) hx hb dX10_who_28 (by decide) ?_
        have hP9 := (hP.sub (ws' := [(h1, .inr (6, [.int (nI k), .ref a_maps, .int told, .ref a_kinds, v_land, v_spades, .ref a_part, v_pad, v_padMany, v_slips, v_slipMany, v_made, .ref a_queue, .ref a_depth, .ref a_by, .ref a_from, .int cm0, v_offOf, v_parent, v_best, v_trees, v_least, v_sums, v_toward, v_kept, v_isKept, v_keptAt, v_isWriting])), (a_maps, .inl (gI G, 6, .inl fm)), (a_kinds, .inl (gI G, 4, .inl fk)), (a_part, .inl (gI G, 6, .inl fp)), (a_queue, .inl (gI G, 15625, .inl fq)), (a_depth, .inl (gI G, 15625, .inl fd)), (a_by, .inl (gI G, 15625, .inl fb)), (a_from, .inl (gI G, 15625, .inl fr))]) [0, 1, 2, 3, 4, 5, 6, 7] rfl)
        have hD9 := (hD.sub (ws' := [(h1, .inr (6, [.int (nI k), .ref a_maps, .int told, .ref a_kinds, v_land, v_spades, .ref a_part, v_pad, v_padMany, v_slips, v_slipMany, v_made, .ref a_queue, .ref a_depth, .ref a_by, .ref a_from, .int cm0, v_offOf, v_parent, v_best, v_trees, v_least, v_sums, v_toward, v_kept, v_isKept, v_keptAt, v_isWriting])), (a_maps, .inl (gI G, 6, .inl fm)), (a_kinds, .inl (gI G, 4, .inl fk)), (a_part, .inl (gI G, 6, .inl fp)), (a_queue, .inl (gI G, 15625, .inl fq)), (a_depth, .inl (gI G, 15625, .inl fd)), (a_by, .inl (gI G, 15625, .inl fb)), (a_from, .inl (gI G, 15625, .inl fr))]) [0, 1, 2, 3, 4, 5, 6, 7] (by decide) rfl)
        exact W.iret (v := (-2)) hx hb hr (fun t9_ ht9_ hW9_ => ⟨⟨(-2), (cm0, fq, fd, fb, fr), rfl, trivial, by rw [ht9_]; exact hP9, hD9⟩, hS.F ht9_⟩) hS.2.2 dX10_who_30
    · refine lv_if_ne (tgt := 16) hx hb dX10_who_11 (by decide) (fun c46 => False.elim (by revert c46; decide)) (fun _ => ?_)
      refine lv_iconst (v := (-1)) hx hb dX10_who_14 (by decide) ?_
      have hP9 := (hP.sub (ws' := [(h1, .inr (6, [.int (nI k), .ref a_maps, .int told, .ref a_kinds, v_land, v_spades, .ref a_part, v_pad, v_padMany, v_slips, v_slipMany, v_made, .ref a_queue, .ref a_depth, .ref a_by, .ref a_from, .int cm0, v_offOf, v_parent, v_best, v_trees, v_least, v_sums, v_toward, v_kept, v_isKept, v_keptAt, v_isWriting])), (a_maps, .inl (gI G, 6, .inl fm)), (a_kinds, .inl (gI G, 4, .inl fk)), (a_part, .inl (gI G, 6, .inl fp)), (a_queue, .inl (gI G, 15625, .inl fq)), (a_depth, .inl (gI G, 15625, .inl fd)), (a_by, .inl (gI G, 15625, .inl fb)), (a_from, .inl (gI G, 15625, .inl fr))]) [0, 1, 2, 3, 4, 5, 6, 7] rfl)
      have hD9 := (hD.sub (ws' := [(h1, .inr (6, [.int (nI k), .ref a_maps, .int told, .ref a_kinds, v_land, v_spades, .ref a_part, v_pad, v_padMany, v_slips, v_slipMany, v_made, .ref a_queue, .ref a_depth, .ref a_by, .ref a_from, .int cm0, v_offOf, v_parent, v_best, v_trees, v_least, v_sums, v_toward, v_kept, v_isKept, v_keptAt, v_isWriting])), (a_maps, .inl (gI G, 6, .inl fm)), (a_kinds, .inl (gI G, 4, .inl fk)), (a_part, .inl (gI G, 6, .inl fp)), (a_queue, .inl (gI G, 15625, .inl fq)), (a_depth, .inl (gI G, 15625, .inl fd)), (a_by, .inl (gI G, 15625, .inl fb)), (a_from, .inl (gI G, 15625, .inl fr))]) [0, 1, 2, 3, 4, 5, 6, 7] (by decide) rfl)
      exact W.iret (v := (-1)) hx hb hr (fun t9_ ht9_ hW9_ => ⟨⟨(-1), (cm0, fq, fd, fb, fr), rfl, trivial, by rw [ht9_]; exact hP9, hD9⟩, hS.F ht9_⟩) hS.2.2 dX10_who_15
  · refine lv_if_eq (tgt := 14) hx hb dX10_who_4 (by decide) (fun _ => ?_) (fun c47 => False.elim (by revert c47; decide))
    refine lv_iconst (v := (-1)) hx hb dX10_who_14 (by decide) ?_
    have hP9 := (hP.sub (ws' := [(h1, .inr (6, [.int (nI k), .ref a_maps, .int told, .ref a_kinds, v_land, v_spades, .ref a_part, v_pad, v_padMany, v_slips, v_slipMany, v_made, .ref a_queue, .ref a_depth, .ref a_by, .ref a_from, .int cm0, v_offOf, v_parent, v_best, v_trees, v_least, v_sums, v_toward, v_kept, v_isKept, v_keptAt, v_isWriting])), (a_maps, .inl (gI G, 6, .inl fm)), (a_kinds, .inl (gI G, 4, .inl fk)), (a_part, .inl (gI G, 6, .inl fp)), (a_queue, .inl (gI G, 15625, .inl fq)), (a_depth, .inl (gI G, 15625, .inl fd)), (a_by, .inl (gI G, 15625, .inl fb)), (a_from, .inl (gI G, 15625, .inl fr))]) [0, 1, 2, 3, 4, 5, 6, 7] rfl)
    have hD9 := (hD.sub (ws' := [(h1, .inr (6, [.int (nI k), .ref a_maps, .int told, .ref a_kinds, v_land, v_spades, .ref a_part, v_pad, v_padMany, v_slips, v_slipMany, v_made, .ref a_queue, .ref a_depth, .ref a_by, .ref a_from, .int cm0, v_offOf, v_parent, v_best, v_trees, v_least, v_sums, v_toward, v_kept, v_isKept, v_keptAt, v_isWriting])), (a_maps, .inl (gI G, 6, .inl fm)), (a_kinds, .inl (gI G, 4, .inl fk)), (a_part, .inl (gI G, 6, .inl fp)), (a_queue, .inl (gI G, 15625, .inl fq)), (a_depth, .inl (gI G, 15625, .inl fd)), (a_by, .inl (gI G, 15625, .inl fb)), (a_from, .inl (gI G, 15625, .inl fr))]) [0, 1, 2, 3, 4, 5, 6, 7] (by decide) rfl)
    exact W.iret (v := (-1)) hx hb hr (fun t9_ ht9_ hW9_ => ⟨⟨(-1), (cm0, fq, fd, fb, fr), rfl, trivial, by rw [ht9_]; exact hP9, hD9⟩, hS.F ht9_⟩) hS.2.2 dX10_who_15

set_option maxHeartbeats 1000000 in
set_option maxRecDepth 100000 in
theorem m_between (l : Launch) (G : Gy) (sz : Nat) (h1 : Nat) (v_land : Value) (v_spades : Value) (v_pad : Value) (v_padMany : Value) (v_slips : Value) (v_slipMany : Value) (v_made : Value) (v_offOf : Value) (v_parent : Value) (v_best : Value) (v_trees : Value) (v_least : Value) (v_sums : Value) (v_toward : Value) (v_kept : Value) (v_isKept : Value) (v_keptAt : Value) (v_isWriting : Value) (a_maps : Nat) (fm : Nat → Int32) (a_kinds : Nat) (fk : Nat → Int32) (a_part : Nat) (fp : Nat → Int32) (a_queue : Nat) (a_depth : Nat) (a_by : Nat) (a_from : Nat) (fq : Nat → Int32) (fd : Nat → Int32) (fb : Nat → Int32) (fr : Nat → Int32) (k : Nat) (told : Int32) (cm0 : Int32) (p0 : Int32) (p1 : Int32) (p2 : Int32) (p3 : Int32) (hk2 : 2 ≤ k) (hk6 : k ≤ 6) (hp : pOK k fp) (hfm : mapsOK k fm) : Ci l G yX10_between wsX10_between ({ frames := 5, cells := 0, slots := 0, locals := 121 }) [.ref h1, .int p0, .int p1, .int p2, .int p3] ([(h1, .inr (6, [.int (nI k), .ref a_maps, .int told, .ref a_kinds, v_land, v_spades, .ref a_part, v_pad, v_padMany, v_slips, v_slipMany, v_made, .ref a_queue, .ref a_depth, .ref a_by, .ref a_from, .int cm0, v_offOf, v_parent, v_best, v_trees, v_least, v_sums, v_toward, v_kept, v_isKept, v_keptAt, v_isWriting])), (a_maps, .inl (gI G, 6, .inl fm)), (a_kinds, .inl (gI G, 4, .inl fk)), (a_part, .inl (gI G, 6, .inl fp)), (a_queue, .inl (gI G, 15625, .inl fq)), (a_depth, .inl (gI G, 15625, .inl fd)), (a_by, .inl (gI G, 15625, .inl fb)), (a_from, .inl (gI G, 15625, .inl fr))]) sz (fun (r : Int32) (u : Int32 × (Nat → Int32) × (Nat → Int32) × (Nat → Int32) × (Nat → Int32)) => match u with | (cm1, gq, gd, gb, gr) => True) (fun (u : Int32 × (Nat → Int32) × (Nat → Int32) × (Nat → Int32) × (Nat → Int32)) => match u with | (cm1, gq, gd, gb, gr) => [(h1, .inr (6, [.int (nI k), .ref a_maps, .int told, .ref a_kinds, v_land, v_spades, .ref a_part, v_pad, v_padMany, v_slips, v_slipMany, v_made, .ref a_queue, .ref a_depth, .ref a_by, .ref a_from, .int cm1, v_offOf, v_parent, v_best, v_trees, v_least, v_sums, v_toward, v_kept, v_isKept, v_keptAt, v_isWriting])), (a_maps, .inl (gI G, 6, .inl fm)), (a_kinds, .inl (gI G, 4, .inl fk)), (a_part, .inl (gI G, 6, .inl fp)), (a_queue, .inl (gI G, 15625, .inl gq)), (a_depth, .inl (gI G, 15625, .inl gd)), (a_by, .inl (gI G, 15625, .inl gb)), (a_from, .inl (gI G, 15625, .inl gr))]) 0 0 := by
  refine Met.ofW (cc := cX10_between) (maxL := 6) (ret := (some .int)) (by decide) rfl ?_
  intro p e s m args below meth c s₁ B hml hv
  obtain ⟨rfl, hsz, hP, hD0, E0⟩ := hv
  have hx := B.exec
  have hb := B.bytes
  have hr := B.returns
  have hts := atoms_spec (ws := wsX10_between) B.pre
  have hown : s.vm.findClass RX10 = some m.cls := findClass_of_methodNamed B.named
  have hlocks := B.notSynchronized
  subst hsz
  have hD := hD0.self (sz := s.heap.size)
  generalize hAe : va_A ([(h1, .inr (6, [.int (nI k), .ref a_maps, .int told, .ref a_kinds, v_land, v_spades, .ref a_part, v_pad, v_padMany, v_slips, v_slipMany, v_made, .ref a_queue, .ref a_depth, .ref a_by, .ref a_from, .int cm0, v_offOf, v_parent, v_best, v_trees, v_least, v_sums, v_toward, v_kept, v_isKept, v_keptAt, v_isWriting])), (a_maps, .inl (gI G, 6, .inl fm)), (a_kinds, .inl (gI G, 4, .inl fk)), (a_part, .inl (gI G, 6, .inl fp)), (a_queue, .inl (gI G, 15625, .inl fq)), (a_depth, .inl (gI G, 15625, .inl fd)), (a_by, .inl (gI G, 15625, .inl fb)), (a_from, .inl (gI G, 15625, .inl fr))]) s.heap.size = A at hD E0 ⊢
  have E : EV G A s s.heap := E0
  have hA : ∀ q : Nat, s.heap.size ≤ q → A q := fun q h => by rw [← hAe]; exact Or.inr h
  have hS : va_S A s.heap s.heap [] := va_S.rf
  have hl := lv_entry ([.ref h1, .int p0, .int p1, .int p2, .int p3]) (n := 6) (Nat.le_of_ble_eq_true rfl)
  rw [lg_entry_eq]
  generalize (lg_sl ([.ref h1, .int p0, .int p1, .int p2, .int p3]) ++ List.replicate (6 - (lg_sl ([.ref h1, .int p0, .int p1, .int p2, .int p3])).length) Slot.unset).toArray = ls at hl ⊢
  have hl : lv_has ls 6 [(0, .ref h1), (1, .int p0), (2, .int p1), (3, .int p2), (4, .int p3)] := hl
  have hP : va_P G.1 vwCl ([(h1, .inr (6, [.int (nI k), .ref a_maps, .int told, .ref a_kinds, v_land, v_spades, .ref a_part, v_pad, v_padMany, v_slips, v_slipMany, v_made, .ref a_queue, .ref a_depth, .ref a_by, .ref a_from, .int cm0, v_offOf, v_parent, v_best, v_trees, v_least, v_sums, v_toward, v_kept, v_isKept, v_keptAt, v_isWriting])), (a_maps, .inl (gI G, 6, .inl fm)), (a_kinds, .inl (gI G, 4, .inl fk)), (a_part, .inl (gI G, 6, .inl fp)), (a_queue, .inl (gI G, 15625, .inl fq)), (a_depth, .inl (gI G, 15625, .inl fd)), (a_by, .inl (gI G, 15625, .inl fb)), (a_from, .inl (gI G, 15625, .inl fr))]) s.heap := hP
  have hal := p5le hk6
  refine lv_iload_n hx hb dX10_between_0 rfl (lv_at hl 1 rfl) ?_
  refine ca_iR (va_runS (As := [.int p0]) (rest := []) ⟨hx, hb, hml, hown, hts⟩ (m_isMap l G s.heap.size p0) (va_cwS 1 hts gX10_between_X10_isMap rfl rfl rfl (by decide +kernel) ⟨by decide +kernel, by decide +kernel⟩) (pre_S E hP hD hS hA [] (by decide) rfl) rfl rfl hl.1 rfl (lv_room (Nat.le_of_ble_eq_true rfl)) dX10_between_1 ⟨by decide +kernel, by decide +kernel⟩) hS hP hD hA [] rfl (fun r2 _ H locs w1 hP hS => ?_)
  rcases w1 with ⟨rfl, b3⟩ | ⟨rfl, b3⟩
  · refine lv_if_eq (tgt := 21) hx hb dX10_between_4 (by decide) (fun c4 => False.elim (by revert c4; decide)) (fun _ => ?_)
    refine lv_iload_n hx hb dX10_between_7 rfl (lv_at hl 2 rfl) ?_
    refine ca_iR (va_runS (As := [.int p1]) (rest := []) ⟨hx, hb, hml, hown, hts⟩ (m_isMap l G H.size p1) (va_cwS 1 hts gX10_between_X10_isMap rfl rfl rfl (by decide +kernel) ⟨by decide +kernel, by decide +kernel⟩) (pre_S E hP hD hS hA [] (by decide) rfl) rfl rfl hl.1 rfl (lv_room (Nat.le_of_ble_eq_true rfl)) dX10_between_8 ⟨by decide +kernel, by decide +kernel⟩) hS hP hD hA [] rfl (fun r6 _ H locs w5 hP hS => ?_)
    rcases w5 with ⟨rfl, b7⟩ | ⟨rfl, b7⟩
    · refine lv_if_eq (tgt := 21) hx hb dX10_between_11 (by decide) (fun c8 => False.elim (by revert c8; decide)) (fun _ => ?_)
      refine lv_iload_n hx hb dX10_between_14 rfl (lv_at hl 3 rfl) ?_
      refine ca_iR (va_runS (As := [.int p2]) (rest := []) ⟨hx, hb, hml, hown, hts⟩ (m_isHand l G H.size p2) (va_cwS 1 hts gX10_between_X10_isHand rfl rfl rfl (by decide +kernel) ⟨by decide +kernel, by decide +kernel⟩) (pre_S E hP hD hS hA [] (by decide) rfl) rfl rfl hl.1 rfl (lv_room (Nat.le_of_ble_eq_true rfl)) dX10_between_15 ⟨by decide +kernel, by decide +kernel⟩) hS hP hD hA [] rfl (fun r10 _ H locs w9 hP hS => ?_)
      rcases w9 with ⟨rfl, b11⟩ | ⟨rfl, b11⟩
      · refine lv_if_ne (tgt := 23) hx hb dX10_between_18 (by decide) (fun _ => ?_) (fun c12 => False.elim (by revert c12; decide))
        refine lv_iload hx hb dX10_between_23 (lv_at hl 4 rfl) ?_
        refine lv_i2l hx hb dX10_between_25 rfl ?_
        refine lv_topl (fun x13 ex13 => ?_)
        refine lv_lconst (v := 1) hx hb dX10_between_26 (by decide) ?_
        refine lv_ldc2 (v := 9) hx hb hown (hts (.constantLong RX10 183 (9)) (by decide +kernel)) dX10_between_27 ?_
        refine ca_iR (va_runS (As := [.long x13, .long 1, .long 9]) (rest := []) ⟨hx, hb, hml, hown, hts⟩ (m_in l G H.size x13 1 9 p3 1 9 ex13 (by decide) (by decide)) (va_cwS 3 hts gX10_between_X10_in rfl rfl rfl (by decide +kernel) ⟨by decide +kernel, by decide +kernel⟩) (pre_S E hP hD hS hA [] (by decide) rfl) rfl rfl hl.1 rfl (lv_room (Nat.le_of_ble_eq_true rfl)) dX10_between_30 ⟨by decide +kernel, by decide +kernel⟩) hS hP hD hA [] rfl (fun r15 _ H locs w14 hP hS => ?_)
        rcases w14 with ⟨rfl, b16⟩ | ⟨rfl, b16⟩
        · refine lv_if_ne (tgt := 39) hx hb dX10_between_33 (by decide) (fun _ => ?_) (fun c17 => False.elim (by revert c17; decide))
          obtain ⟨j_p0, hj_p0, ej_p0⟩ := inR6 b3
          have hl : lv_has ls 6 [(0, .ref h1), (1, .int (nI j_p0)), (2, .int p1), (3, .int p2), (4, .int p3)] := by have q := hl; rw [ej_p0] at q; exact q
          obtain ⟨j_p1, hj_p1, ej_p1⟩ := inR6 b7
          have hl : lv_has ls 6 [(0, .ref h1), (1, .int (nI j_p0)), (2, .int (nI j_p1)), (3, .int p2), (4, .int p3)] := by have q := hl; rw [ej_p1] at q; exact q
          obtain ⟨j_p2, hj_p2, ej_p2⟩ := inR4 b11
          have hl : lv_has ls 6 [(0, .ref h1), (1, .int (nI j_p0)), (2, .int (nI j_p1)), (3, .int (nI j_p2)), (4, .int p3)] := by have q := hl; rw [ej_p2] at q; exact q
          refine lv_aload_n hx hb dX10_between_39 rfl (lv_at hl 0 rfl) ?_
          refine lv_iload_n hx hb dX10_between_40 rfl (lv_at hl 1 rfl) ?_
          refine ca_iR (va_runV (As := [.int (nI j_p0)]) (rest := []) ⟨hx, hb, hml, hown, hts⟩ (m_isTold l G H.size h1 (.int (nI k)) (.ref a_maps) (.ref a_kinds) v_land v_spades (.ref a_part) v_pad v_padMany v_slips v_slipMany v_made (.ref a_queue) (.ref a_depth) (.ref a_by) (.ref a_from) (.int cm0) v_offOf v_parent v_best v_trees v_least v_sums v_toward v_kept v_isKept v_keptAt v_isWriting told (nI j_p0)) (cwV 1 hts gX10_between_X10_isTold rfl rfl rfl (by decide +kernel) ⟨by decide +kernel, by decide +kernel⟩) (pre_V E hP hD hS hA [0] (by decide) rfl 0 6 rfl rfl) rfl rfl hl.1 rfl (lv_room (Nat.le_of_ble_eq_true rfl)) dX10_between_41 ⟨by decide +kernel, by decide +kernel⟩) hS hP hD hA [0] rfl (fun r19 _ H locs w18 hP hS => ?_)
          rcases w18 with ⟨rfl, b20⟩ | ⟨rfl, b20⟩
          · refine lv_if_eq (tgt := 55) hx hb dX10_between_44 (by decide) (fun c21 => False.elim (by revert c21; decide)) (fun _ => ?_)
            refine lv_aload_n hx hb dX10_between_47 rfl (lv_at hl 0 rfl) ?_
            refine lv_iload_n hx hb dX10_between_48 rfl (lv_at hl 2 rfl) ?_
            refine ca_iR (va_runV (As := [.int (nI j_p1)]) (rest := []) ⟨hx, hb, hml, hown, hts⟩ (m_isTold l G H.size h1 (.int (nI k)) (.ref a_maps) (.ref a_kinds) v_land v_spades (.ref a_part) v_pad v_padMany v_slips v_slipMany v_made (.ref a_queue) (.ref a_depth) (.ref a_by) (.ref a_from) (.int cm0) v_offOf v_parent v_best v_trees v_least v_sums v_toward v_kept v_isKept v_keptAt v_isWriting told (nI j_p1)) (cwV 1 hts gX10_between_X10_isTold rfl rfl rfl (by decide +kernel) ⟨by decide +kernel, by decide +kernel⟩) (pre_V E hP hD hS hA [0] (by decide) rfl 0 6 rfl rfl) rfl rfl hl.1 rfl (lv_room (Nat.le_of_ble_eq_true rfl)) dX10_between_49 ⟨by decide +kernel, by decide +kernel⟩) hS hP hD hA [0] rfl (fun r23 _ H locs w22 hP hS => ?_)
            rcases w22 with ⟨rfl, b24⟩ | ⟨rfl, b24⟩
            · refine lv_if_ne (tgt := 58) hx hb dX10_between_52 (by decide) (fun _ => ?_) (fun c25 => False.elim (by revert c25; decide))
              refine lv_aload_n hx hb dX10_between_58 rfl (lv_at hl 0 rfl) ?_
              refine lv_aload_n hx hb dX10_between_59 rfl (lv_at hl 0 rfl) ?_
              refine va_get (D := G.1) (ci := 6) (v := .ref a_maps) (C := RX10) (T := TX10) (N := 28) hx hb hts (fun _ h => List.mem_cons_of_mem _ (List.mem_append_right _ h)) hown E.K hP 0 rfl rfl 1 (by decide) (hts (.fieldLink RX10 7 "LastMapModel" "maps" "[I") (by decide +kernel)) (fun _ h9 => h9) rfl dX10_between_60 ?_
              refine lv_iload_n hx hb dX10_between_63 rfl (lv_at hl 1 rfl) ?_
              refine va_iald hx hb E.K hP 1 1 rfl rfl (i := nI j_p0) (vp_in_nI (by omega) (by decide)) dX10_between_64 ?_
              refine lv_topi (fun x26 ex26 => ?_)
              obtain ⟨a_x26, ha_x26, hvx26⟩ := hfm j_p0 (by omega)
              obtain rfl : x26 = nI a_x26 := by rw [ex26, nI_clamp (by omega)]; exact hvx26
              refine lv_aload_n hx hb dX10_between_65 rfl (lv_at hl 0 rfl) ?_
              refine va_get (D := G.1) (ci := 6) (v := .ref a_maps) (C := RX10) (T := TX10) (N := 28) hx hb hts (fun _ h => List.mem_cons_of_mem _ (List.mem_append_right _ h)) hown E.K hP 0 rfl rfl 1 (by decide) (hts (.fieldLink RX10 7 "LastMapModel" "maps" "[I") (by decide +kernel)) (fun _ h9 => h9) rfl dX10_between_66 ?_
              refine lv_iload_n hx hb dX10_between_69 rfl (lv_at hl 2 rfl) ?_
              refine va_iald hx hb E.K hP 1 1 rfl rfl (i := nI j_p1) (vp_in_nI (by omega) (by decide)) dX10_between_70 ?_
              refine lv_topi (fun x27 ex27 => ?_)
              obtain ⟨a_x27, ha_x27, hvx27⟩ := hfm j_p1 (by omega)
              obtain rfl : x27 = nI a_x27 := by rw [ex27, nI_clamp (by omega)]; exact hvx27
              refine lv_aload_n hx hb dX10_between_71 rfl (lv_at hl 0 rfl) ?_
              refine va_get (D := G.1) (ci := 6) (v := .ref a_kinds) (C := RX10) (T := TX10) (N := 28) hx hb hts (fun _ h => List.mem_cons_of_mem _ (List.mem_append_right _ h)) hown E.K hP 0 rfl rfl 3 (by decide) (hts (.fieldLink RX10 13 "LastMapModel" "kinds" "[I") (by decide +kernel)) (fun _ h9 => h9) rfl dX10_between_72 ?_
              refine lv_iload_n hx hb dX10_between_75 rfl (lv_at hl 3 rfl) ?_
              refine va_iald hx hb E.K hP 2 1 rfl rfl (i := nI j_p2) (vp_in_nI (by omega) (by decide)) dX10_between_76 ?_
              refine lv_topi (fun x28 ex28 => ?_)
              refine ca_i (wr := [(a_maps, .inl (gI G, 6, .inl fm)), (a_kinds, .inl (gI G, 4, .inl fk))]) (va_runV (As := [.int (nI a_x26), .int (nI a_x27), .int x28]) (rest := []) ⟨hx, hb, hml, hown, hts⟩ (m_farOf l G H.size h1 (.ref a_maps) (.int told) (.ref a_kinds) v_land v_spades v_pad v_padMany v_slips v_slipMany v_made v_offOf v_parent v_best v_trees v_least v_sums v_toward v_kept v_isKept v_keptAt v_isWriting a_part fp a_queue a_depth a_by a_from fq fd fb fr k a_x26 a_x27 cm0 x28 hk2 hk6 hp (by omega) (by omega)) (cwV 3 hts gX10_between_X10_farOf rfl rfl rfl (by decide +kernel) ⟨by decide +kernel, by decide +kernel⟩) (pre_V E hP hD hS hA [0, 3, 4, 5, 6, 7] (by decide) rfl 0 6 rfl rfl) rfl rfl hl.1 rfl (lv_room (Nat.le_of_ble_eq_true rfl)) dX10_between_77 ⟨by decide +kernel, by decide +kernel⟩) hS hP hD hA [0, 3, 4, 5, 6, 7] [1, 2] rfl rfl (by decide) (by decide) (fun r30 u31 H locs w29 hP hD hS => ?_)
              obtain ⟨cm1_32, gq_33, gd_34, gb_35, gr_36⟩ := u31
              try dsimp only at w29 hP hD
              have hP := (hP.sub (ws' := [(h1, .inr (6, [.int (nI k), .ref a_maps, .int told, .ref a_kinds, v_land, v_spades, .ref a_part, v_pad, v_padMany, v_slips, v_slipMany, v_made, .ref a_queue, .ref a_depth, .ref a_by, .ref a_from, .int (nI cm1_32), v_offOf, v_parent, v_best, v_trees, v_least, v_sums, v_toward, v_kept, v_isKept, v_keptAt, v_isWriting])), (a_maps, .inl (gI G, 6, .inl fm)), (a_kinds, .inl (gI G, 4, .inl fk)), (a_part, .inl (gI G, 6, .inl fp)), (a_queue, .inl (gI G, 15625, .inl gq_33)), (a_depth, .inl (gI G, 15625, .inl gd_34)), (a_by, .inl (gI G, 15625, .inl gb_35)), (a_from, .inl (gI G, 15625, .inl gr_36))]) [2, 0, 1, 3, 4, 5, 6, 7] rfl)
              have hD := (hD.sub (ws' := [(h1, .inr (6, [.int (nI k), .ref a_maps, .int told, .ref a_kinds, v_land, v_spades, .ref a_part, v_pad, v_padMany, v_slips, v_slipMany, v_made, .ref a_queue, .ref a_depth, .ref a_by, .ref a_from, .int (nI cm1_32), v_offOf, v_parent, v_best, v_trees, v_least, v_sums, v_toward, v_kept, v_isKept, v_keptAt, v_isWriting])), (a_maps, .inl (gI G, 6, .inl fm)), (a_kinds, .inl (gI G, 4, .inl fk)), (a_part, .inl (gI G, 6, .inl fp)), (a_queue, .inl (gI G, 15625, .inl gq_33)), (a_depth, .inl (gI G, 15625, .inl gd_34)), (a_by, .inl (gI G, 15625, .inl gb_35)), (a_from, .inl (gI G, 15625, .inl gr_36))]) [2, 0, 1, 3, 4, 5, 6, 7] (by decide) rfl)
              refine lv_istore (lv' := [(5, .int r30), (0, .ref h1), (1, .int (nI j_p0)), (2, .int (nI j_p1)), (3, .int (nI j_p2)), (4, .int p3)]) hx hb dX10_between_80 hl (by decide) rfl (fun ls hl => ?_)
              refine lv_iload hx hb dX10_between_82 (lv_at hl 0 rfl) ?_
              refine lv_if_ge (tgt := 92) hx hb dX10_between_84 (by decide) (fun c37 => ?_) (fun c37 => ?_)
              · refine lv_iload hx hb dX10_between_92 (lv_at hl 0 rfl) ?_
                refine lv_iload hx hb dX10_between_94 (lv_at hl 5 rfl) ?_
                refine lv_iadd hx hb dX10_between_96 ?_
                refine lv_topi (fun x38 ex38 => ?_)
                refine lv_iconst (v := 1) hx hb dX10_between_97 (by decide) ?_
                refine lv_isub hx hb dX10_between_98 ?_
                refine lv_topi (fun x39 ex39 => ?_)
                refine lv_iload hx hb dX10_between_99 (lv_at hl 5 rfl) ?_
                refine lv_idiv hx hb dX10_between_101 (fun h => absurd b16 (by rw [h]; unfold inR; decide)) ?_
                refine lv_topi (fun x40 ex40 => ?_)
                have hP9 := (hP.sub (ws' := [(h1, .inr (6, [.int (nI k), .ref a_maps, .int told, .ref a_kinds, v_land, v_spades, .ref a_part, v_pad, v_padMany, v_slips, v_slipMany, v_made, .ref a_queue, .ref a_depth, .ref a_by, .ref a_from, .int (nI cm1_32), v_offOf, v_parent, v_best, v_trees, v_least, v_sums, v_toward, v_kept, v_isKept, v_keptAt, v_isWriting])), (a_maps, .inl (gI G, 6, .inl fm)), (a_kinds, .inl (gI G, 4, .inl fk)), (a_part, .inl (gI G, 6, .inl fp)), (a_queue, .inl (gI G, 15625, .inl gq_33)), (a_depth, .inl (gI G, 15625, .inl gd_34)), (a_by, .inl (gI G, 15625, .inl gb_35)), (a_from, .inl (gI G, 15625, .inl gr_36))]) [0, 1, 2, 3, 4, 5, 6, 7] rfl)
                have hD9 := (hD.sub (ws' := [(h1, .inr (6, [.int (nI k), .ref a_maps, .int told, .ref a_kinds, v_land, v_spades, .ref a_part, v_pad, v_padMany, v_slips, v_slipMany, v_made, .ref a_queue, .ref a_depth, .ref a_by, .ref a_from, .int (nI cm1_32), v_offOf, v_parent, v_best, v_trees, v_least, v_sums, v_toward, v_kept, v_isKept, v_keptAt, v_isWriting])), (a_maps, .inl (gI G, 6, .inl fm)), (a_kinds, .inl (gI G, 4, .inl fk)), (a_part, .inl (gI G, 6, .inl fp)), (a_queue, .inl (gI G, 15625, .inl gq_33)), (a_depth, .inl (gI G, 15625, .inl gd_34)), (a_by, .inl (gI G, 15625, .inl gb_35)), (a_from, .inl (gI G, 15625, .inl gr_36))]) [0, 1, 2, 3, 4, 5, 6, 7] (by decide) rfl)
                exact W.iret (v := x40) hx hb hr (fun t9_ ht9_ hW9_ => ⟨⟨x40, (nI cm1_32, gq_33, gd_34, gb_35, gr_36), rfl, trivial, by rw [ht9_]; exact hP9, hD9⟩, hS.F ht9_⟩) hS.2.2 dX10_between_102
              · refine lv_bipush (v := (-6)) hx hb dX10_between_87 (by decide) ?_
                refine lv_goto (tgt := 102) hx hb dX10_between_89 (by decide) ?_
                have hP9 := (hP.sub (ws' := [(h1, .inr (6, [.int (nI k), .ref a_maps, .int told, .ref a_kinds, v_land, v_spades, .ref a_part, v_pad, v_padMany, v_slips, v_slipMany, v_made, .ref a_queue, .ref a_depth, .ref a_by, .ref a_from, .int (nI cm1_32), v_offOf, v_parent, v_best, v_trees, v_least, v_sums, v_toward, v_kept, v_isKept, v_keptAt, v_isWriting])), (a_maps, .inl (gI G, 6, .inl fm)), (a_kinds, .inl (gI G, 4, .inl fk)), (a_part, .inl (gI G, 6, .inl fp)), (a_queue, .inl (gI G, 15625, .inl gq_33)), (a_depth, .inl (gI G, 15625, .inl gd_34)), (a_by, .inl (gI G, 15625, .inl gb_35)), (a_from, .inl (gI G, 15625, .inl gr_36))]) [0, 1, 2, 3, 4, 5, 6, 7] rfl)
                have hD9 := (hD.sub (ws' := [(h1, .inr (6, [.int (nI k), .ref a_maps, .int told, .ref a_kinds, v_land, v_spades, .ref a_part, v_pad, v_padMany, v_slips, v_slipMany, v_made, .ref a_queue, .ref a_depth, .ref a_by, .ref a_from, .int (nI cm1_32), v_offOf, v_parent, v_best, v_trees, v_least, v_sums, v_toward, v_kept, v_isKept, v_keptAt, v_isWriting])), (a_maps, .inl (gI G, 6, .inl fm)), (a_kinds, .inl (gI G, 4, .inl fk)), (a_part, .inl (gI G, 6, .inl fp)), (a_queue, .inl (gI G, 15625, .inl gq_33)), (a_depth, .inl (gI G, 15625, .inl gd_34)), (a_by, .inl (gI G, 15625, .inl gb_35)), (a_from, .inl (gI G, 15625, .inl gr_36))]) [0, 1, 2, 3, 4, 5, 6, 7] (by decide) rfl)
                exact W.iret (v := (-6)) hx hb hr (fun t9_ ht9_ hW9_ => ⟨⟨(-6), (nI cm1_32, gq_33, gd_34, gb_35, gr_36), rfl, trivial, by rw [ht9_]; exact hP9, hD9⟩, hS.F ht9_⟩) hS.2.2 dX10_between_102
            · refine lv_if_ne (tgt := 58) hx hb dX10_between_52 (by decide) (fun c41 => False.elim (by revert c41; decide)) (fun _ => ?_)
              refine lv_bipush (v := (-3)) hx hb dX10_between_55 (by decide) ?_
              have hP9 := (hP.sub (ws' := [(h1, .inr (6, [.int (nI k), .ref a_maps, .int told, .ref a_kinds, v_land, v_spades, .ref a_part, v_pad, v_padMany, v_slips, v_slipMany, v_made, .ref a_queue, .ref a_depth, .ref a_by, .ref a_from, .int cm0, v_offOf, v_parent, v_best, v_trees, v_least, v_sums, v_toward, v_kept, v_isKept, v_keptAt, v_isWriting])), (a_maps, .inl (gI G, 6, .inl fm)), (a_kinds, .inl (gI G, 4, .inl fk)), (a_part, .inl (gI G, 6, .inl fp)), (a_queue, .inl (gI G, 15625, .inl fq)), (a_depth, .inl (gI G, 15625, .inl fd)), (a_by, .inl (gI G, 15625, .inl fb)), (a_from, .inl (gI G, 15625, .inl fr))]) [0, 1, 2, 3, 4, 5, 6, 7] rfl)
              have hD9 := (hD.sub (ws' := [(h1, .inr (6, [.int (nI k), .ref a_maps, .int told, .ref a_kinds, v_land, v_spades, .ref a_part, v_pad, v_padMany, v_slips, v_slipMany, v_made, .ref a_queue, .ref a_depth, .ref a_by, .ref a_from, .int cm0, v_offOf, v_parent, v_best, v_trees, v_least, v_sums, v_toward, v_kept, v_isKept, v_keptAt, v_isWriting])), (a_maps, .inl (gI G, 6, .inl fm)), (a_kinds, .inl (gI G, 4, .inl fk)), (a_part, .inl (gI G, 6, .inl fp)), (a_queue, .inl (gI G, 15625, .inl fq)), (a_depth, .inl (gI G, 15625, .inl fd)), (a_by, .inl (gI G, 15625, .inl fb)), (a_from, .inl (gI G, 15625, .inl fr))]) [0, 1, 2, 3, 4, 5, 6, 7] (by decide) rfl)
              exact W.iret (v := (-3)) hx hb hr (fun t9_ ht9_ hW9_ => ⟨⟨(-3), (cm0, fq, fd, fb, fr), rfl, trivial, by rw [ht9_]; exact hP9, hD9⟩, hS.F ht9_⟩) hS.2.2 dX10_between_57
          · refine lv_if_eq (tgt := 55) hx hb dX10_between_44 (by decide) (fun _ => ?_) (fun c42 => False.elim (by revert c42; decide))
            refine lv_bipush (v := (-3)) hx hb dX10_between_55 (by decide) ?_
            have hP9 := (hP.sub (ws' := [(h1, .inr (6, [.int (nI k), .ref a_maps, .int told, .ref a_kinds, v_land, v_spades, .ref a_part, v_pad, v_padMany, v_slips, v_slipMany, v_made, .ref a_queue, .ref a_depth, .ref a_by, .ref a_from, .int cm0, v_offOf, v_parent, v_best, v_trees, v_least, v_sums, v_toward, v_kept, v_isKept, v_keptAt, v_isWriting])), (a_maps, .inl (gI G, 6, .inl fm)), (a_kinds, .inl (gI G, 4, .inl fk)), (a_part, .inl (gI G, 6, .inl fp)), (a_queue, .inl (gI G, 15625, .inl fq)), (a_depth, .inl (gI G, 15625, .inl fd)), (a_by, .inl (gI G, 15625, .inl fb)), (a_from, .inl (gI G, 15625, .inl fr))]) [0, 1, 2, 3, 4, 5, 6, 7] rfl)
            have hD9 := (hD.sub (ws' := [(h1, .inr (6, [.int (nI k), .ref a_maps, .int told, .ref a_kinds, v_land, v_spades, .ref a_part, v_pad, v_padMany, v_slips, v_slipMany, v_made, .ref a_queue, .ref a_depth, .ref a_by, .ref a_from, .int cm0, v_offOf, v_parent, v_best, v_trees, v_least, v_sums, v_toward, v_kept, v_isKept, v_keptAt, v_isWriting])), (a_maps, .inl (gI G, 6, .inl fm)), (a_kinds, .inl (gI G, 4, .inl fk)), (a_part, .inl (gI G, 6, .inl fp)), (a_queue, .inl (gI G, 15625, .inl fq)), (a_depth, .inl (gI G, 15625, .inl fd)), (a_by, .inl (gI G, 15625, .inl fb)), (a_from, .inl (gI G, 15625, .inl fr))]) [0, 1, 2, 3, 4, 5, 6, 7] (by decide) rfl)
            exact W.iret (v := (-3)) hx hb hr (fun t9_ ht9_ hW9_ => ⟨⟨(-3), (cm0, fq, fd, fb, fr), rfl, trivial, by rw [ht9_]; exact hP9, hD9⟩, hS.F ht9_⟩) hS.2.2 dX10_between_57
        · refine lv_if_ne (tgt := 39) hx hb dX10_between_33 (by decide) (fun c43 => False.elim (by revert c43; decide)) (fun _ => ?_)
          refine lv_bipush (v := (-2)) hx hb dX10_between_36 (by decide) ?_
          have hP9 := (hP.sub (ws' := [(h1, .inr (6, [.int (nI k), .ref a_maps, .int told, .ref a_kinds, v_land, v_spades, .ref a_part, v_pad, v_padMany, v_slips, v_slipMany, v_made, .ref a_queue, .ref a_depth, .ref a_by, .ref a_from, .int cm0, v_offOf, v_parent, v_best, v_trees, v_least, v_sums, v_toward, v_kept, v_isKept, v_keptAt, v_isWriting])), (a_maps, .inl (gI G, 6, .inl fm)), (a_kinds, .inl (gI G, 4, .inl fk)), (a_part, .inl (gI G, 6, .inl fp)), (a_queue, .inl (gI G, 15625, .inl fq)), (a_depth, .inl (gI G, 15625, .inl fd)), (a_by, .inl (gI G, 15625, .inl fb)), (a_from, .inl (gI G, 15625, .inl fr))]) [0, 1, 2, 3, 4, 5, 6, 7] rfl)
          have hD9 := (hD.sub (ws' := [(h1, .inr (6, [.int (nI k), .ref a_maps, .int told, .ref a_kinds, v_land, v_spades, .ref a_part, v_pad, v_padMany, v_slips, v_slipMany, v_made, .ref a_queue, .ref a_depth, .ref a_by, .ref a_from, .int cm0, v_offOf, v_parent, v_best, v_trees, v_least, v_sums, v_toward, v_kept, v_isKept, v_keptAt, v_isWriting])), (a_maps, .inl (gI G, 6, .inl fm)), (a_kinds, .inl (gI G, 4, .inl fk)), (a_part, .inl (gI G, 6, .inl fp)), (a_queue, .inl (gI G, 15625, .inl fq)), (a_depth, .inl (gI G, 15625, .inl fd)), (a_by, .inl (gI G, 15625, .inl fb)), (a_from, .inl (gI G, 15625, .inl fr))]) [0, 1, 2, 3, 4, 5, 6, 7] (by decide) rfl)
          exact W.iret (v := (-2)) hx hb hr (fun t9_ ht9_ hW9_ => ⟨⟨(-2), (cm0, fq, fd, fb, fr), rfl, trivial, by rw [ht9_]; exact hP9, hD9⟩, hS.F ht9_⟩) hS.2.2 dX10_between_38
      · refine lv_if_ne (tgt := 23) hx hb dX10_between_18 (by decide) (fun c44 => False.elim (by revert c44; decide)) (fun _ => ?_)
        refine lv_iconst (v := (-1)) hx hb dX10_between_21 (by decide) ?_
        have hP9 := (hP.sub (ws' := [(h1, .inr (6, [.int (nI k), .ref a_maps, .int told, .ref a_kinds, v_land, v_spades, .ref a_part, v_pad, v_padMany, v_slips, v_slipMany, v_made, .ref a_queue, .ref a_depth, .ref a_by, .ref a_from, .int cm0, v_offOf, v_parent, v_best, v_trees, v_least, v_sums, v_toward, v_kept, v_isKept, v_keptAt, v_isWriting])), (a_maps, .inl (gI G, 6, .inl fm)), (a_kinds, .inl (gI G, 4, .inl fk)), (a_part, .inl (gI G, 6, .inl fp)), (a_queue, .inl (gI G, 15625, .inl fq)), (a_depth, .inl (gI G, 15625, .inl fd)), (a_by, .inl (gI G, 15625, .inl fb)), (a_from, .inl (gI G, 15625, .inl fr))]) [0, 1, 2, 3, 4, 5, 6, 7] rfl)
        have hD9 := (hD.sub (ws' := [(h1, .inr (6, [.int (nI k), .ref a_maps, .int told, .ref a_kinds, v_land, v_spades, .ref a_part, v_pad, v_padMany, v_slips, v_slipMany, v_made, .ref a_queue, .ref a_depth, .ref a_by, .ref a_from, .int cm0, v_offOf, v_parent, v_best, v_trees, v_least, v_sums, v_toward, v_kept, v_isKept, v_keptAt, v_isWriting])), (a_maps, .inl (gI G, 6, .inl fm)), (a_kinds, .inl (gI G, 4, .inl fk)), (a_part, .inl (gI G, 6, .inl fp)), (a_queue, .inl (gI G, 15625, .inl fq)), (a_depth, .inl (gI G, 15625, .inl fd)), (a_by, .inl (gI G, 15625, .inl fb)), (a_from, .inl (gI G, 15625, .inl fr))]) [0, 1, 2, 3, 4, 5, 6, 7] (by decide) rfl)
        exact W.iret (v := (-1)) hx hb hr (fun t9_ ht9_ hW9_ => ⟨⟨(-1), (cm0, fq, fd, fb, fr), rfl, trivial, by rw [ht9_]; exact hP9, hD9⟩, hS.F ht9_⟩) hS.2.2 dX10_between_22
    · refine lv_if_eq (tgt := 21) hx hb dX10_between_11 (by decide) (fun _ => ?_) (fun c45 => False.elim (by revert c45; decide))
      refine lv_iconst (v := (-1)) hx hb dX10_between_21 (by decide) ?_
      have hP9 := (hP.sub (ws' := [(h1, .inr (6, [.int (nI k), .ref a_maps, .int told, .ref a_kinds, v_land, v_spades, .ref a_part, v_pad, v_padMany, v_slips, v_slipMany, v_made, .ref a_queue, .ref a_depth, .ref a_by, .ref a_from, .int cm0, v_offOf, v_parent, v_best, v_trees, v_least, v_sums, v_toward, v_kept, v_isKept, v_keptAt, v_isWriting])), (a_maps, .inl (gI G, 6, .inl fm)), (a_kinds, .inl (gI G, 4, .inl fk)), (a_part, .inl (gI G, 6, .inl fp)), (a_queue, .inl (gI G, 15625, .inl fq)), (a_depth, .inl (gI G, 15625, .inl fd)), (a_by, .inl (gI G, 15625, .inl fb)), (a_from, .inl (gI G, 15625, .inl fr))]) [0, 1, 2, 3, 4, 5, 6, 7] rfl)
      have hD9 := (hD.sub (ws' := [(h1, .inr (6, [.int (nI k), .ref a_maps, .int told, .ref a_kinds, v_land, v_spades, .ref a_part, v_pad, v_padMany, v_slips, v_slipMany, v_made, .ref a_queue, .ref a_depth, .ref a_by, .ref a_from, .int cm0, v_offOf, v_parent, v_best, v_trees, v_least, v_sums, v_toward, v_kept, v_isKept, v_keptAt, v_isWriting])), (a_maps, .inl (gI G, 6, .inl fm)), (a_kinds, .inl (gI G, 4, .inl fk)), (a_part, .inl (gI G, 6, .inl fp)), (a_queue, .inl (gI G, 15625, .inl fq)), (a_depth, .inl (gI G, 15625, .inl fd)), (a_by, .inl (gI G, 15625, .inl fb)), (a_from, .inl (gI G, 15625, .inl fr))]) [0, 1, 2, 3, 4, 5, 6, 7] (by decide) rfl)
      exact W.iret (v := (-1)) hx hb hr (fun t9_ ht9_ hW9_ => ⟨⟨(-1), (cm0, fq, fd, fb, fr), rfl, trivial, by rw [ht9_]; exact hP9, hD9⟩, hS.F ht9_⟩) hS.2.2 dX10_between_22
  · refine lv_if_eq (tgt := 21) hx hb dX10_between_4 (by decide) (fun _ => ?_) (fun c46 => False.elim (by revert c46; decide))
    refine lv_iconst (v := (-1)) hx hb dX10_between_21 (by decide) ?_
    have hP9 := (hP.sub (ws' := [(h1, .inr (6, [.int (nI k), .ref a_maps, .int told, .ref a_kinds, v_land, v_spades, .ref a_part, v_pad, v_padMany, v_slips, v_slipMany, v_made, .ref a_queue, .ref a_depth, .ref a_by, .ref a_from, .int cm0, v_offOf, v_parent, v_best, v_trees, v_least, v_sums, v_toward, v_kept, v_isKept, v_keptAt, v_isWriting])), (a_maps, .inl (gI G, 6, .inl fm)), (a_kinds, .inl (gI G, 4, .inl fk)), (a_part, .inl (gI G, 6, .inl fp)), (a_queue, .inl (gI G, 15625, .inl fq)), (a_depth, .inl (gI G, 15625, .inl fd)), (a_by, .inl (gI G, 15625, .inl fb)), (a_from, .inl (gI G, 15625, .inl fr))]) [0, 1, 2, 3, 4, 5, 6, 7] rfl)
    have hD9 := (hD.sub (ws' := [(h1, .inr (6, [.int (nI k), .ref a_maps, .int told, .ref a_kinds, v_land, v_spades, .ref a_part, v_pad, v_padMany, v_slips, v_slipMany, v_made, .ref a_queue, .ref a_depth, .ref a_by, .ref a_from, .int cm0, v_offOf, v_parent, v_best, v_trees, v_least, v_sums, v_toward, v_kept, v_isKept, v_keptAt, v_isWriting])), (a_maps, .inl (gI G, 6, .inl fm)), (a_kinds, .inl (gI G, 4, .inl fk)), (a_part, .inl (gI G, 6, .inl fp)), (a_queue, .inl (gI G, 15625, .inl fq)), (a_depth, .inl (gI G, 15625, .inl fd)), (a_by, .inl (gI G, 15625, .inl fb)), (a_from, .inl (gI G, 15625, .inl fr))]) [0, 1, 2, 3, 4, 5, 6, 7] (by decide) rfl)
    exact W.iret (v := (-1)) hx hb hr (fun t9_ ht9_ hW9_ => ⟨⟨(-1), (cm0, fq, fd, fb, fr), rfl, trivial, by rw [ht9_]; exact hP9, hD9⟩, hS.F ht9_⟩) hS.2.2 dX10_between_22
