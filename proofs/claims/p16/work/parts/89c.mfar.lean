set_option maxHeartbeats 1000000 in
set_option maxRecDepth 100000 in
theorem m3_slipTo (l : Launch) (G : Gy) (sz : Nat) (h1 : Nat) (v_sites : Value) (v_maps : Value) (v_told : Value) (v_kinds : Value) (v_land : Value) (v_spades : Value) (v_part : Value) (v_pad : Value) (v_padMany : Value) (v_slips : Value) (v_slipMany : Value) (v_made : Value) (v_queue : Value) (v_come : Value) (v_offOf : Value) (v_parent : Value) (v_best : Value) (v_trees : Value) (v_least : Value) (v_sums : Value) (v_toward : Value) (v_kept : Value) (v_isKept : Value) (v_keptAt : Value) (v_isWriting : Value) (a_depth : Nat) (a_by : Nat) (a_from : Nat) (fd : Nat → Int32) (fb : Nat → Int32) (fr : Nat → Int32) (fq : Nat → Int32) (k : Nat) (a : Nat) (cm : Nat) (p1 : Int32) (a0 : Nat) (bb : Nat → Bool) (gc : Nat → Nat) (hk6 : k ≤ 6) (ha : a < 5 ^ k) (hdo : dOK (5 ^ k) cm fd fr fq) (hgo : GO k bb a0 cm 0 cm fd fr fb fq gc) (hfx : ¬ fd a < 0) : Ci l G yX10_slipTo wsX10_slipTo ({ frames := 1, cells := 0, slots := 0, locals := 25 }) [.ref h1, .int (nI a), .int p1] ([(h1, .inr (6, [v_sites, v_maps, v_told, v_kinds, v_land, v_spades, v_part, v_pad, v_padMany, v_slips, v_slipMany, v_made, v_queue, .ref a_depth, .ref a_by, .ref a_from, v_come, v_offOf, v_parent, v_best, v_trees, v_least, v_sums, v_toward, v_kept, v_isKept, v_keptAt, v_isWriting])), (a_depth, .inl (gI G, 15625, .inl fd)), (a_by, .inl (gI G, 15625, .inl fb)), (a_from, .inl (gI G, 15625, .inl fr))]) sz (fun (r : Int32) (_ : Unit) => slA k (tN fd a) (gc a) p1 r) (fun (_ : Unit) => [(h1, .inr (6, [v_sites, v_maps, v_told, v_kinds, v_land, v_spades, v_part, v_pad, v_padMany, v_slips, v_slipMany, v_made, v_queue, .ref a_depth, .ref a_by, .ref a_from, v_come, v_offOf, v_parent, v_best, v_trees, v_least, v_sums, v_toward, v_kept, v_isKept, v_keptAt, v_isWriting])), (a_depth, .inl (gI G, 15625, .inl fd)), (a_by, .inl (gI G, 15625, .inl fb)), (a_from, .inl (gI G, 15625, .inl fr))]) 0 0 := by
  refine Met.ofW (cc := cX10_slipTo) (maxL := 4) (ret := (some .int)) (by decide) rfl ?_
  intro p e s m args below meth c s₁ B hml hv
  obtain ⟨rfl, hsz, hP, hD0, E0⟩ := hv
  have hx := B.exec
  have hb := B.bytes
  have hr := B.returns
  have hts := atoms_spec (ws := wsX10_slipTo) B.pre
  have hown : s.vm.findClass RX10 = some m.cls := findClass_of_methodNamed B.named
  have hlocks := B.notSynchronized
  subst hsz
  have hD := hD0.self (sz := s.heap.size)
  generalize hAe : va_A ([(h1, .inr (6, [v_sites, v_maps, v_told, v_kinds, v_land, v_spades, v_part, v_pad, v_padMany, v_slips, v_slipMany, v_made, v_queue, .ref a_depth, .ref a_by, .ref a_from, v_come, v_offOf, v_parent, v_best, v_trees, v_least, v_sums, v_toward, v_kept, v_isKept, v_keptAt, v_isWriting])), (a_depth, .inl (gI G, 15625, .inl fd)), (a_by, .inl (gI G, 15625, .inl fb)), (a_from, .inl (gI G, 15625, .inl fr))]) s.heap.size = A at hD E0 ⊢
  have E : EV G A s s.heap := E0
  have hA : ∀ q : Nat, s.heap.size ≤ q → A q := fun q h => by rw [← hAe]; exact Or.inr h
  have hS : va_S A s.heap s.heap [] := va_S.rf
  have hl := lv_entry ([.ref h1, .int (nI a), .int p1]) (n := 4) (Nat.le_of_ble_eq_true rfl)
  rw [lg_entry_eq]
  generalize (lg_sl ([.ref h1, .int (nI a), .int p1]) ++ List.replicate (4 - (lg_sl ([.ref h1, .int (nI a), .int p1])).length) Slot.unset).toArray = ls at hl ⊢
  have hl : lv_has ls 4 [(0, .ref h1), (1, .int (nI a)), (2, .int p1)] := hl
  have hP : va_P G.1 vwCl ([(h1, .inr (6, [v_sites, v_maps, v_told, v_kinds, v_land, v_spades, v_part, v_pad, v_padMany, v_slips, v_slipMany, v_made, v_queue, .ref a_depth, .ref a_by, .ref a_from, v_come, v_offOf, v_parent, v_best, v_trees, v_least, v_sums, v_toward, v_kept, v_isKept, v_keptAt, v_isWriting])), (a_depth, .inl (gI G, 15625, .inl fd)), (a_by, .inl (gI G, 15625, .inl fb)), (a_from, .inl (gI G, 15625, .inl fr))]) s.heap := hP
  have hal := p5le hk6
  have hcl := dOK_le hdo
  have hD0 := (hgo.2.2.1 a ha hfx).2.1
  have eD0 := (hgo.2.2.1 a ha hfx).1
  refine lv_iload_n hx hb dX10_slipTo_0 rfl (lv_at hl 2 rfl) ?_
  refine lv_i2l hx hb dX10_slipTo_1 rfl ?_
  refine lv_topl (fun x1 ex1 => ?_)
  refine lv_lconst (v := 0) hx hb dX10_slipTo_2 (by decide) ?_
  refine lv_aload_n hx hb dX10_slipTo_3 rfl (lv_at hl 0 rfl) ?_
  refine va_get (D := G.1) (ci := 6) (v := .ref a_depth) (C := RX10) (T := TX10) (N := 28) hx hb hts (fun _ h => List.mem_cons_of_mem _ (List.mem_append_right _ h)) hown E.K hP 0 rfl rfl 13 (by decide) (hts (.fieldLink RX10 28 "LastMapModel" "depth" "[I") (by decide +kernel)) (fun _ h9 => h9) rfl dX10_slipTo_4 ?_
  refine lv_iload_n hx hb dX10_slipTo_7 rfl (lv_at hl 1 rfl) ?_
  refine va_iald hx hb E.K hP 1 1 rfl rfl (i := nI a) (vp_in_nI (by omega) (by decide)) dX10_slipTo_8 ?_
  refine lv_topi (fun x2 ex2 => ?_)
  have hx9 : x2 = fd a := by rw [ex2, nI_clamp (by omega)]
  refine lv_iconst (v := 1) hx hb dX10_slipTo_9 (by decide) ?_
  refine lv_isub hx hb dX10_slipTo_10 ?_
  refine lv_topi (fun x3 ex3 => ?_)
  refine lv_i2l hx hb dX10_slipTo_11 rfl ?_
  refine lv_topl (fun x4 ex4 => ?_)
  refine ca_iR (va_runS (As := [.long x1, .long 0, .long x4]) (rest := []) ⟨hx, hb, hml, hown, hts⟩ (m_in l G s.heap.size x1 0 x4 p1 0 x3 ex1 (by decide) ex4) (va_cwS 3 hts gX10_slipTo_X10_in rfl rfl rfl (by decide +kernel) ⟨by decide +kernel, by decide +kernel⟩) (pre_S E hP hD hS hA [] (by decide) rfl) rfl rfl hl.1 rfl (lv_room (Nat.le_of_ble_eq_true rfl)) dX10_slipTo_12 ⟨by decide +kernel, by decide +kernel⟩) hS hP hD hA [] rfl (fun r6 _ H locs w5 hP hS => ?_)
  rcases w5 with ⟨rfl, b7⟩ | ⟨rfl, b7⟩
  · refine lv_if_ne (tgt := 21) hx hb dX10_slipTo_15 (by decide) (fun _ => ?_) (fun c8 => False.elim (by revert c8; decide))
    obtain ⟨j_p1, hj_p1, ej_p1⟩ := (inR_pre (n := tN fd a) (by omega) (by rw [ex3, hx9, eD0])).mp b7
    have hl : lv_has ls 4 [(0, .ref h1), (1, .int (nI a)), (2, .int (nI j_p1))] := by have q := hl; rw [ej_p1] at q; exact q
    refine lv_iload_n hx hb dX10_slipTo_21 rfl (lv_at hl 1 rfl) ?_
    refine lv_istore_n (lv' := [(3, .int (nI a)), (0, .ref h1), (1, .int (nI a)), (2, .int (nI j_p1))]) hx hb dX10_slipTo_22 rfl hl (by decide) rfl (fun ls hl => ?_)
    refine lp_run (x0 := a) (fun y : Nat => [(h1, .inr (6, [v_sites, v_maps, v_told, v_kinds, v_land, v_spades, v_part, v_pad, v_padMany, v_slips, v_slipMany, v_made, v_queue, .ref a_depth, .ref a_by, .ref a_from, v_come, v_offOf, v_parent, v_best, v_trees, v_least, v_sums, v_toward, v_kept, v_isKept, v_keptAt, v_isWriting])), (a_depth, .inl (gI G, 15625, .inl fd)), (a_by, .inl (gI G, 15625, .inl fb)), (a_from, .inl (gI G, 15625, .inl fr))]) (fun y : Nat => [(3, .int (nI y)), (0, .ref h1), (1, .int (nI a)), (2, .int (nI j_p1))]) (fun y : Nat => (y < 5 ^ k) ∧ (¬ fd y < 0) ∧ (j_p1 + 1 ≤ tN fd y ∧ tN fd y ≤ tN fd a) ∧ (gc y = gc a / 64 ^ (tN fd a - tN fd y))) (fun y : Nat => tN fd y) (hP.sub [0, 1, 2, 3] rfl) (hD.sub [0, 1, 2, 3] (by decide) rfl) hS (lv_sub hl [0, 1, 2, 3] rfl) ⟨ha, hfx, ⟨by omega, Nat.le_refl _⟩, by rw [Nat.sub_self, Nat.pow_zero, Nat.div_one]⟩ ?_
    intro xx_ hI ih23 H locs ls hP hD hS hl
    obtain ⟨y, rfl⟩ : ∃ zz_, zz_ = xx_ := ⟨_, rfl⟩
    obtain ⟨hy, hyn, hge, hgy⟩ := hI
    have hl : lv_has ls 4 [(3, .int (nI y)), (0, .ref h1), (1, .int (nI a)), (2, .int (nI j_p1))] := hl
    have hP : va_P G.1 vwCl ([(h1, .inr (6, [v_sites, v_maps, v_told, v_kinds, v_land, v_spades, v_part, v_pad, v_padMany, v_slips, v_slipMany, v_made, v_queue, .ref a_depth, .ref a_by, .ref a_from, v_come, v_offOf, v_parent, v_best, v_trees, v_least, v_sums, v_toward, v_kept, v_isKept, v_keptAt, v_isWriting])), (a_depth, .inl (gI G, 15625, .inl fd)), (a_by, .inl (gI G, 15625, .inl fb)), (a_from, .inl (gI G, 15625, .inl fr))]) H := hP
    have hD : va_D A ([(h1, .inr (6, [v_sites, v_maps, v_told, v_kinds, v_land, v_spades, v_part, v_pad, v_padMany, v_slips, v_slipMany, v_made, v_queue, .ref a_depth, .ref a_by, .ref a_from, v_come, v_offOf, v_parent, v_best, v_trees, v_least, v_sums, v_toward, v_kept, v_isKept, v_keptAt, v_isWriting])), (a_depth, .inl (gI G, 15625, .inl fd)), (a_by, .inl (gI G, 15625, .inl fb)), (a_from, .inl (gI G, 15625, .inl fr))]) := hD
    refine lv_aload_n hx hb dX10_slipTo_23 rfl (lv_at hl 1 rfl) ?_
    have hyb := (hgo.2.2.1 y hy hyn).2.1
    refine va_get (D := G.1) (ci := 6) (v := .ref a_depth) (C := RX10) (T := TX10) (N := 28) hx hb hts (fun _ h => List.mem_cons_of_mem _ (List.mem_append_right _ h)) hown E.K hP 0 rfl rfl 13 (by decide) (hts (.fieldLink RX10 28 "LastMapModel" "depth" "[I") (by decide +kernel)) (fun _ h9 => h9) rfl dX10_slipTo_24 ?_
    refine lv_iload_n hx hb dX10_slipTo_27 rfl (lv_at hl 0 rfl) ?_
    refine va_iald hx hb E.K hP 1 1 rfl rfl (i := nI y) (vp_in_nI (by omega) (by decide)) dX10_slipTo_28 ?_
    refine lv_topi (fun x9 ex9 => ?_)
    obtain rfl : x9 = nI (tN fd y) := by rw [ex9, nI_clamp (by omega)]; exact (hgo.2.2.1 y hy hyn).1
    refine lv_iload_n hx hb dX10_slipTo_29 rfl (lv_at hl 3 rfl) ?_
    refine lv_iconst (v := 1) hx hb dX10_slipTo_30 (by decide) ?_
    refine lv_iadd hx hb dX10_slipTo_31 ?_
    refine lv_topi (fun x10 ex10 => ?_)
    obtain rfl : x10 = nI (j_p1 + 1) := by rw [ex10]; exact nI_add j_p1 1
    refine lv_icmp_le (tgt := 45) hx hb dX10_slipTo_32 (by decide) (fun c11 => ?_) (fun c11 => ?_)
    · have c11 : (tN fd y) ≤ (j_p1 + 1) := (nI_leI (a := (tN fd y)) (b := (j_p1 + 1)) (by omega) (by omega)).mp c11
      obtain ⟨u9, t9, hu9, eu9, hn9, ef9, ed9, eg9, ht9⟩ := GO_back hk6 hgo hy hyn (by omega)
      refine lv_aload_n hx hb dX10_slipTo_45 rfl (lv_at hl 1 rfl) ?_
      refine va_get (D := G.1) (ci := 6) (v := .ref a_by) (C := RX10) (T := TX10) (N := 28) hx hb hts (fun _ h => List.mem_cons_of_mem _ (List.mem_append_right _ h)) hown E.K hP 0 rfl rfl 14 (by decide) (hts (.fieldLink RX10 31 "LastMapModel" "by" "[I") (by decide +kernel)) (fun _ h9 => h9) rfl dX10_slipTo_46 ?_
      refine lv_iload_n hx hb dX10_slipTo_49 rfl (lv_at hl 0 rfl) ?_
      refine va_iald hx hb E.K hP 2 1 rfl rfl (i := nI y) (vp_in_nI (by omega) (by decide)) dX10_slipTo_50 ?_
      refine lv_topi (fun x12 ex12 => ?_)
      obtain rfl : x12 = nI (slv k t9) := by rw [ex12, nI_clamp (by omega)]; exact ef9
      have hP9 := (hP.sub (ws' := [(h1, .inr (6, [v_sites, v_maps, v_told, v_kinds, v_land, v_spades, v_part, v_pad, v_padMany, v_slips, v_slipMany, v_made, v_queue, .ref a_depth, .ref a_by, .ref a_from, v_come, v_offOf, v_parent, v_best, v_trees, v_least, v_sums, v_toward, v_kept, v_isKept, v_keptAt, v_isWriting])), (a_depth, .inl (gI G, 15625, .inl fd)), (a_by, .inl (gI G, 15625, .inl fb)), (a_from, .inl (gI G, 15625, .inl fr))]) [0, 1, 2, 3] rfl)
      have hD9 := (hD.sub (ws' := [(h1, .inr (6, [v_sites, v_maps, v_told, v_kinds, v_land, v_spades, v_part, v_pad, v_padMany, v_slips, v_slipMany, v_made, v_queue, .ref a_depth, .ref a_by, .ref a_from, v_come, v_offOf, v_parent, v_best, v_trees, v_least, v_sums, v_toward, v_kept, v_isKept, v_keptAt, v_isWriting])), (a_depth, .inl (gI G, 15625, .inl fd)), (a_by, .inl (gI G, 15625, .inl fb)), (a_from, .inl (gI G, 15625, .inl fr))]) [0, 1, 2, 3] (by decide) rfl)
      exact W.iret (v := (nI (slv k t9))) hx hb hr (fun t9_ ht9_ hW9_ => ⟨⟨nI (slv k t9), (), rfl, Or.inr ⟨j_p1, hj_p1, ej_p1, by rw [dg_back hgy (by omega) eg9 ht9]⟩, by rw [ht9_]; exact hP9, hD9⟩, hS.F ht9_⟩) hS.2.2 dX10_slipTo_51
    · have c11 : ¬ (tN fd y) ≤ (j_p1 + 1) := fun h9_ => c11 ((nI_leI (a := (tN fd y)) (b := (j_p1 + 1)) (by omega) (by omega)).mpr h9_)
      obtain ⟨u9, t9, hu9, eu9, hn9, ef9, ed9, eg9, ht9⟩ := GO_back hk6 hgo hy hyn (by omega)
      refine lv_aload_n hx hb dX10_slipTo_35 rfl (lv_at hl 1 rfl) ?_
      refine va_get (D := G.1) (ci := 6) (v := .ref a_from) (C := RX10) (T := TX10) (N := 28) hx hb hts (fun _ h => List.mem_cons_of_mem _ (List.mem_append_right _ h)) hown E.K hP 0 rfl rfl 15 (by decide) (hts (.fieldLink RX10 34 "LastMapModel" "from" "[I") (by decide +kernel)) (fun _ h9 => h9) rfl dX10_slipTo_36 ?_
      refine lv_iload_n hx hb dX10_slipTo_39 rfl (lv_at hl 0 rfl) ?_
      refine va_iald hx hb E.K hP 3 1 rfl rfl (i := nI y) (vp_in_nI (by omega) (by decide)) dX10_slipTo_40 ?_
      refine lv_topi (fun x13 ex13 => ?_)
      obtain rfl : x13 = nI u9 := by rw [ex13, nI_clamp (by omega)]; exact eu9
      refine lv_istore_n (lv' := [(3, .int (nI u9)), (0, .ref h1), (1, .int (nI a)), (2, .int (nI j_p1))]) hx hb dX10_slipTo_41 rfl hl (by decide) rfl (fun ls hl => ?_)
      refine lv_goto (tgt := 23) hx hb dX10_slipTo_42 (by decide) ?_
      refine ih23 u9 ⟨?_, ?_, ?_, ?_⟩ (by first | omega | (dsimp only; omega)) H locs ls (hP.sub [0, 1, 2, 3] rfl) (hD.sub [0, 1, 2, 3] (by decide) rfl) hS (lv_sub hl [0, 1, 2, 3] rfl)
      · try dsimp only
        exact hu9
      · try dsimp only
        exact hn9
      · try dsimp only
        omega
      · try dsimp only
        have q9 := gc_back hgy (by omega) (by omega) eg9 ht9; rw [show tN fd y - 1 = tN fd u9 by omega] at q9; exact q9
  · refine lv_if_ne (tgt := 21) hx hb dX10_slipTo_15 (by decide) (fun c14 => False.elim (by revert c14; decide)) (fun _ => ?_)
    refine lv_bipush (v := (-6)) hx hb dX10_slipTo_18 (by decide) ?_
    have hP9 := (hP.sub (ws' := [(h1, .inr (6, [v_sites, v_maps, v_told, v_kinds, v_land, v_spades, v_part, v_pad, v_padMany, v_slips, v_slipMany, v_made, v_queue, .ref a_depth, .ref a_by, .ref a_from, v_come, v_offOf, v_parent, v_best, v_trees, v_least, v_sums, v_toward, v_kept, v_isKept, v_keptAt, v_isWriting])), (a_depth, .inl (gI G, 15625, .inl fd)), (a_by, .inl (gI G, 15625, .inl fb)), (a_from, .inl (gI G, 15625, .inl fr))]) [0, 1, 2, 3] rfl)
    have hD9 := (hD.sub (ws' := [(h1, .inr (6, [v_sites, v_maps, v_told, v_kinds, v_land, v_spades, v_part, v_pad, v_padMany, v_slips, v_slipMany, v_made, v_queue, .ref a_depth, .ref a_by, .ref a_from, v_come, v_offOf, v_parent, v_best, v_trees, v_least, v_sums, v_toward, v_kept, v_isKept, v_keptAt, v_isWriting])), (a_depth, .inl (gI G, 15625, .inl fd)), (a_by, .inl (gI G, 15625, .inl fb)), (a_from, .inl (gI G, 15625, .inl fr))]) [0, 1, 2, 3] (by decide) rfl)
    exact W.iret (v := (-6)) hx hb hr (fun t9_ ht9_ hW9_ => ⟨⟨(-6), (), rfl, Or.inl ⟨fun q9 => b7 ((inR_pre (n := tN fd a) (by omega) (by rw [ex3, hx9, eD0])).mpr q9), rfl⟩, by rw [ht9_]; exact hP9, hD9⟩, hS.F ht9_⟩) hS.2.2 dX10_slipTo_20

set_option maxHeartbeats 1000000 in
set_option maxRecDepth 100000 in
theorem m3_farOf (l : Launch) (G : Gy) (sz : Nat) (h1 : Nat) (v_maps : Value) (v_told : Value) (v_kinds : Value) (v_land : Value) (v_spades : Value) (v_pad : Value) (v_padMany : Value) (v_slips : Value) (v_slipMany : Value) (v_made : Value) (v_offOf : Value) (v_parent : Value) (v_best : Value) (v_trees : Value) (v_least : Value) (v_sums : Value) (v_toward : Value) (v_kept : Value) (v_isKept : Value) (v_keptAt : Value) (v_isWriting : Value) (a_part : Nat) (fp : Nat → Int32) (a_queue : Nat) (a_depth : Nat) (a_by : Nat) (a_from : Nat) (fq : Nat → Int32) (fd : Nat → Int32) (fb : Nat → Int32) (fr : Nat → Int32) (k : Nat) (a : Nat) (a2 : Nat) (cm0 : Int32) (p1 : Int32) (hk2 : 2 ≤ k) (hk6 : k ≤ 6) (hp : pOK k fp) (ha : a < 5 ^ k) (ha2 : a2 < 5 ^ k) : Ci l G yX10_farOf wsX10_farOf ({ frames := 4, cells := 0, slots := 0, locals := 98 }) [.ref h1, .int (nI a), .int (nI a2), .int p1] ([(h1, .inr (6, [.int (nI k), v_maps, v_told, v_kinds, v_land, v_spades, .ref a_part, v_pad, v_padMany, v_slips, v_slipMany, v_made, .ref a_queue, .ref a_depth, .ref a_by, .ref a_from, .int cm0, v_offOf, v_parent, v_best, v_trees, v_least, v_sums, v_toward, v_kept, v_isKept, v_keptAt, v_isWriting])), (a_part, .inl (gI G, 6, .inl fp)), (a_queue, .inl (gI G, 15625, .inl fq)), (a_depth, .inl (gI G, 15625, .inl fd)), (a_by, .inl (gI G, 15625, .inl fb)), (a_from, .inl (gI G, 15625, .inl fr))]) sz (fun (r : Int32) (u : Nat × (Nat → Int32) × (Nat → Int32) × (Nat → Int32) × (Nat → Int32)) => match u with | (cm1, gq, gd, gb, gr) => dOK (5 ^ k) cm1 gd gr gq ∧ (∃ gc, GO k (bK p1) a cm1 0 cm1 gd gr gb gq gc) ∧ r = gd a2) (fun (u : Nat × (Nat → Int32) × (Nat → Int32) × (Nat → Int32) × (Nat → Int32)) => match u with | (cm1, gq, gd, gb, gr) => [(h1, .inr (6, [.int (nI k), v_maps, v_told, v_kinds, v_land, v_spades, .ref a_part, v_pad, v_padMany, v_slips, v_slipMany, v_made, .ref a_queue, .ref a_depth, .ref a_by, .ref a_from, .int (nI cm1), v_offOf, v_parent, v_best, v_trees, v_least, v_sums, v_toward, v_kept, v_isKept, v_keptAt, v_isWriting])), (a_part, .inl (gI G, 6, .inl fp)), (a_queue, .inl (gI G, 15625, .inl gq)), (a_depth, .inl (gI G, 15625, .inl gd)), (a_by, .inl (gI G, 15625, .inl gb)), (a_from, .inl (gI G, 15625, .inl gr))]) 0 0 := by
  refine Met.ofW (cc := cX10_farOf) (maxL := 4) (ret := (some .int)) (by decide) rfl ?_
  intro p e s m args below meth c s₁ B hml hv
  obtain ⟨rfl, hsz, hP, hD0, E0⟩ := hv
  have hx := B.exec
  have hb := B.bytes
  have hr := B.returns
  have hts := atoms_spec (ws := wsX10_farOf) B.pre
  have hown : s.vm.findClass RX10 = some m.cls := findClass_of_methodNamed B.named
  have hlocks := B.notSynchronized
  subst hsz
  have hD := hD0.self (sz := s.heap.size)
  generalize hAe : va_A ([(h1, .inr (6, [.int (nI k), v_maps, v_told, v_kinds, v_land, v_spades, .ref a_part, v_pad, v_padMany, v_slips, v_slipMany, v_made, .ref a_queue, .ref a_depth, .ref a_by, .ref a_from, .int cm0, v_offOf, v_parent, v_best, v_trees, v_least, v_sums, v_toward, v_kept, v_isKept, v_keptAt, v_isWriting])), (a_part, .inl (gI G, 6, .inl fp)), (a_queue, .inl (gI G, 15625, .inl fq)), (a_depth, .inl (gI G, 15625, .inl fd)), (a_by, .inl (gI G, 15625, .inl fb)), (a_from, .inl (gI G, 15625, .inl fr))]) s.heap.size = A at hD E0 ⊢
  have E : EV G A s s.heap := E0
  have hA : ∀ q : Nat, s.heap.size ≤ q → A q := fun q h => by rw [← hAe]; exact Or.inr h
  have hS : va_S A s.heap s.heap [] := va_S.rf
  have hl := lv_entry ([.ref h1, .int (nI a), .int (nI a2), .int p1]) (n := 4) (Nat.le_of_ble_eq_true rfl)
  rw [lg_entry_eq]
  generalize (lg_sl ([.ref h1, .int (nI a), .int (nI a2), .int p1]) ++ List.replicate (4 - (lg_sl ([.ref h1, .int (nI a), .int (nI a2), .int p1])).length) Slot.unset).toArray = ls at hl ⊢
  have hl : lv_has ls 4 [(0, .ref h1), (1, .int (nI a)), (2, .int (nI a2)), (3, .int p1)] := hl
  have hP : va_P G.1 vwCl ([(h1, .inr (6, [.int (nI k), v_maps, v_told, v_kinds, v_land, v_spades, .ref a_part, v_pad, v_padMany, v_slips, v_slipMany, v_made, .ref a_queue, .ref a_depth, .ref a_by, .ref a_from, .int cm0, v_offOf, v_parent, v_best, v_trees, v_least, v_sums, v_toward, v_kept, v_isKept, v_keptAt, v_isWriting])), (a_part, .inl (gI G, 6, .inl fp)), (a_queue, .inl (gI G, 15625, .inl fq)), (a_depth, .inl (gI G, 15625, .inl fd)), (a_by, .inl (gI G, 15625, .inl fb)), (a_from, .inl (gI G, 15625, .inl fr))]) s.heap := hP
  have hal := p5le hk6
  refine lv_aload_n hx hb dX10_farOf_0 rfl (lv_at hl 0 rfl) ?_
  refine lv_iload_n hx hb dX10_farOf_1 rfl (lv_at hl 1 rfl) ?_
  refine lv_iload_n hx hb dX10_farOf_2 rfl (lv_at hl 3 rfl) ?_
  refine ca_v (wr := []) (va_runV (As := [.int (nI a), .int p1]) (rest := []) ⟨hx, hb, hml, hown, hts⟩ (m3_goFrom l G s.heap.size h1 v_maps v_told v_kinds v_land v_spades v_pad v_padMany v_slips v_slipMany v_made v_offOf v_parent v_best v_trees v_least v_sums v_toward v_kept v_isKept v_keptAt v_isWriting a_part fp a_queue a_depth a_by a_from fq fd fb fr k a cm0 p1 hk2 hk6 hp (by omega)) (cwV 2 hts gX10_farOf_X10_goFrom rfl rfl rfl (by decide +kernel) ⟨by decide +kernel, by decide +kernel⟩) (pre_V E hP hD hS hA [0, 1, 2, 3, 4, 5] (by decide) rfl 0 6 rfl rfl) rfl rfl hl.1 rfl (lv_room (Nat.le_of_ble_eq_true rfl)) dX10_farOf_3 ⟨by decide +kernel, by decide +kernel⟩) hS hP hD hA [0, 1, 2, 3, 4, 5] [] rfl rfl (by decide) (by decide) (fun u3 H locs w1 hP hD hS => ?_)
  obtain ⟨cm1_4, gq_5, gd_6, gb_7, gr_8⟩ := u3
  try dsimp only at w1 hP hD
  have hP := (hP.sub (ws' := [(h1, .inr (6, [.int (nI k), v_maps, v_told, v_kinds, v_land, v_spades, .ref a_part, v_pad, v_padMany, v_slips, v_slipMany, v_made, .ref a_queue, .ref a_depth, .ref a_by, .ref a_from, .int (nI cm1_4), v_offOf, v_parent, v_best, v_trees, v_least, v_sums, v_toward, v_kept, v_isKept, v_keptAt, v_isWriting])), (a_part, .inl (gI G, 6, .inl fp)), (a_queue, .inl (gI G, 15625, .inl gq_5)), (a_depth, .inl (gI G, 15625, .inl gd_6)), (a_by, .inl (gI G, 15625, .inl gb_7)), (a_from, .inl (gI G, 15625, .inl gr_8))]) [0, 1, 2, 3, 4, 5] rfl)
  have hD := (hD.sub (ws' := [(h1, .inr (6, [.int (nI k), v_maps, v_told, v_kinds, v_land, v_spades, .ref a_part, v_pad, v_padMany, v_slips, v_slipMany, v_made, .ref a_queue, .ref a_depth, .ref a_by, .ref a_from, .int (nI cm1_4), v_offOf, v_parent, v_best, v_trees, v_least, v_sums, v_toward, v_kept, v_isKept, v_keptAt, v_isWriting])), (a_part, .inl (gI G, 6, .inl fp)), (a_queue, .inl (gI G, 15625, .inl gq_5)), (a_depth, .inl (gI G, 15625, .inl gd_6)), (a_by, .inl (gI G, 15625, .inl gb_7)), (a_from, .inl (gI G, 15625, .inl gr_8))]) [0, 1, 2, 3, 4, 5] (by decide) rfl)
  refine lv_aload_n hx hb dX10_farOf_6 rfl (lv_at hl 0 rfl) ?_
  refine va_get (D := G.1) (ci := 6) (v := .ref a_depth) (C := RX10) (T := TX10) (N := 28) hx hb hts (fun _ h => List.mem_cons_of_mem _ (List.mem_append_right _ h)) hown E.K hP 0 rfl rfl 13 (by decide) (hts (.fieldLink RX10 28 "LastMapModel" "depth" "[I") (by decide +kernel)) (fun _ h9 => h9) rfl dX10_farOf_7 ?_
  refine lv_iload_n hx hb dX10_farOf_10 rfl (lv_at hl 2 rfl) ?_
  refine va_iald hx hb E.K hP 3 1 rfl rfl (i := nI a2) (vp_in_nI (by omega) (by decide)) dX10_farOf_11 ?_
  refine lv_topi (fun x9 ex9 => ?_)
  have hP9 := (hP.sub (ws' := [(h1, .inr (6, [.int (nI k), v_maps, v_told, v_kinds, v_land, v_spades, .ref a_part, v_pad, v_padMany, v_slips, v_slipMany, v_made, .ref a_queue, .ref a_depth, .ref a_by, .ref a_from, .int (nI cm1_4), v_offOf, v_parent, v_best, v_trees, v_least, v_sums, v_toward, v_kept, v_isKept, v_keptAt, v_isWriting])), (a_part, .inl (gI G, 6, .inl fp)), (a_queue, .inl (gI G, 15625, .inl gq_5)), (a_depth, .inl (gI G, 15625, .inl gd_6)), (a_by, .inl (gI G, 15625, .inl gb_7)), (a_from, .inl (gI G, 15625, .inl gr_8))]) [0, 1, 2, 3, 4, 5] rfl)
  have hD9 := (hD.sub (ws' := [(h1, .inr (6, [.int (nI k), v_maps, v_told, v_kinds, v_land, v_spades, .ref a_part, v_pad, v_padMany, v_slips, v_slipMany, v_made, .ref a_queue, .ref a_depth, .ref a_by, .ref a_from, .int (nI cm1_4), v_offOf, v_parent, v_best, v_trees, v_least, v_sums, v_toward, v_kept, v_isKept, v_keptAt, v_isWriting])), (a_part, .inl (gI G, 6, .inl fp)), (a_queue, .inl (gI G, 15625, .inl gq_5)), (a_depth, .inl (gI G, 15625, .inl gd_6)), (a_by, .inl (gI G, 15625, .inl gb_7)), (a_from, .inl (gI G, 15625, .inl gr_8))]) [0, 1, 2, 3, 4, 5] (by decide) rfl)
  exact W.iret (v := x9) hx hb hr (fun t9_ ht9_ hW9_ => ⟨⟨x9, (cm1_4, gq_5, gd_6, gb_7, gr_8), rfl, ⟨w1.1, w1.2, by rw [ex9, nI_clamp (by omega)]⟩, by rw [ht9_]; exact hP9, hD9⟩, hS.F ht9_⟩) hS.2.2 dX10_farOf_12

set_option maxHeartbeats 1000000 in
set_option maxRecDepth 100000 in
theorem m3_far (l : Launch) (G : Gy) (sz : Nat) (h1 : Nat) (v_land : Value) (v_spades : Value) (v_pad : Value) (v_padMany : Value) (v_slips : Value) (v_slipMany : Value) (v_made : Value) (v_offOf : Value) (v_parent : Value) (v_best : Value) (v_trees : Value) (v_least : Value) (v_sums : Value) (v_toward : Value) (v_kept : Value) (v_isKept : Value) (v_keptAt : Value) (v_isWriting : Value) (a_maps : Nat) (fm : Nat → Int32) (a_kinds : Nat) (fk : Nat → Int32) (a_part : Nat) (fp : Nat → Int32) (a_queue : Nat) (a_depth : Nat) (a_by : Nat) (a_from : Nat) (fq : Nat → Int32) (fd : Nat → Int32) (fb : Nat → Int32) (fr : Nat → Int32) (k : Nat) (told : Int32) (cm0 : Int32) (p0 : Int32) (p1 : Int32) (p2 : Int32) (p3 : Int32) (hk2 : 2 ≤ k) (hk6 : k ≤ 6) (hp : pOK k fp) (hfm : mapsOK k fm) : Ci l G yX10_far wsX10_far ({ frames := 5, cells := 0, slots := 0, locals := 121 }) [.ref h1, .int p0, .int p1, .int p2, .int p3] ([(h1, .inr (6, [.int (nI k), .ref a_maps, .int told, .ref a_kinds, v_land, v_spades, .ref a_part, v_pad, v_padMany, v_slips, v_slipMany, v_made, .ref a_queue, .ref a_depth, .ref a_by, .ref a_from, .int cm0, v_offOf, v_parent, v_best, v_trees, v_least, v_sums, v_toward, v_kept, v_isKept, v_keptAt, v_isWriting])), (a_maps, .inl (gI G, 6, .inl fm)), (a_kinds, .inl (gI G, 4, .inl fk)), (a_part, .inl (gI G, 6, .inl fp)), (a_queue, .inl (gI G, 15625, .inl fq)), (a_depth, .inl (gI G, 15625, .inl fd)), (a_by, .inl (gI G, 15625, .inl fb)), (a_from, .inl (gI G, 15625, .inl fr))]) sz (fun (r : Int32) (u : Int32 × (Nat → Int32) × (Nat → Int32) × (Nat → Int32) × (Nat → Int32)) => match u with | (cm1, gq, gd, gb, gr) => farP k told (maN fm) fk p0 p1 p2 p3 r) (fun (u : Int32 × (Nat → Int32) × (Nat → Int32) × (Nat → Int32) × (Nat → Int32)) => match u with | (cm1, gq, gd, gb, gr) => [(h1, .inr (6, [.int (nI k), .ref a_maps, .int told, .ref a_kinds, v_land, v_spades, .ref a_part, v_pad, v_padMany, v_slips, v_slipMany, v_made, .ref a_queue, .ref a_depth, .ref a_by, .ref a_from, .int cm1, v_offOf, v_parent, v_best, v_trees, v_least, v_sums, v_toward, v_kept, v_isKept, v_keptAt, v_isWriting])), (a_maps, .inl (gI G, 6, .inl fm)), (a_kinds, .inl (gI G, 4, .inl fk)), (a_part, .inl (gI G, 6, .inl fp)), (a_queue, .inl (gI G, 15625, .inl gq)), (a_depth, .inl (gI G, 15625, .inl gd)), (a_by, .inl (gI G, 15625, .inl gb)), (a_from, .inl (gI G, 15625, .inl gr))]) 0 0 := by
  refine Met.ofW (cc := cX10_far) (maxL := 6) (ret := (some .int)) (by decide) rfl ?_
  intro p e s m args below meth c s₁ B hml hv
  obtain ⟨rfl, hsz, hP, hD0, E0⟩ := hv
  have hx := B.exec
  have hb := B.bytes
  have hr := B.returns
  have hts := atoms_spec (ws := wsX10_far) B.pre
  have hown : s.vm.findClass RX10 = some m.cls := findClass_of_methodNamed B.named
  have hlocks := B.notSynchronized
  subst hsz
  have hD := hD0.self (sz := s.heap.size)
  generalize hAe : va_A ([(h1, .inr (6, [.int (nI k), .ref a_maps, .int told, .ref a_kinds, v_land, v_spades, .ref a_part, v_pad, v_padMany, v_slips, v_slipMany, v_made, .ref a_queue, .ref a_depth, .ref a_by, .ref a_from, .int cm0, v_offOf, v_parent, v_best, v_trees, v_least, v_sums, v_toward, v_kept, v_isKept, v_keptAt, v_isWriting])), (a_maps, .inl (gI G, 6, .inl fm)), (a_kinds, .inl (gI G, 4, .inl fk)), (a_part, .inl (gI G, 6, .inl fp)), (a_queue, .inl (gI G, 15625, .inl fq)), (a_depth, .inl (gI G, 15625, .inl fd)), (a_by, .inl (gI G, 15625, .inl fb)), (a_from, .inl (gI G, 15625, .inl fr))]) s.heap.size = A at hD E0 ⊢
  have E : EV G A s s.heap := E0
  have hA : ∀ q : Nat, s.heap.size ≤ q → A q := fun q h => by rw [← hAe]; exact Or.inr h
  have hS : va_S A s.heap s.heap [] := va_S.rf
  have hl := lv_entry ([.ref h1, .int p0, .int p1, .int p2, .int p3]) (n := 6) (Nat.le_of_ble_eq_true rfl)
  rw [lg_entry_eq]
  generalize (lg_sl ([.ref h1, .int p0, .int p1, .int p2, .int p3]) ++ List.replicate (6 - (lg_sl ([.ref h1, .int p0, .int p1, .int p2, .int p3])).length) Slot.unset).toArray = ls at hl ⊢
  have hl : lv_has ls 6 [(0, .ref h1), (1, .int p0), (2, .int p1), (3, .int p2), (4, .int p3)] := hl
  have hP : va_P G.1 vwCl ([(h1, .inr (6, [.int (nI k), .ref a_maps, .int told, .ref a_kinds, v_land, v_spades, .ref a_part, v_pad, v_padMany, v_slips, v_slipMany, v_made, .ref a_queue, .ref a_depth, .ref a_by, .ref a_from, .int cm0, v_offOf, v_parent, v_best, v_trees, v_least, v_sums, v_toward, v_kept, v_isKept, v_keptAt, v_isWriting])), (a_maps, .inl (gI G, 6, .inl fm)), (a_kinds, .inl (gI G, 4, .inl fk)), (a_part, .inl (gI G, 6, .inl fp)), (a_queue, .inl (gI G, 15625, .inl fq)), (a_depth, .inl (gI G, 15625, .inl fd)), (a_by, .inl (gI G, 15625, .inl fb)), (a_from, .inl (gI G, 15625, .inl fr))]) s.heap := hP
  have hal := p5le hk6
  refine lv_iload_n hx hb dX10_far_0 rfl (lv_at hl 1 rfl) ?_
  refine ca_iR (va_runS (As := [.int p0]) (rest := []) ⟨hx, hb, hml, hown, hts⟩ (m_isMap l G s.heap.size p0) (va_cwS 1 hts gX10_far_X10_isMap rfl rfl rfl (by decide +kernel) ⟨by decide +kernel, by decide +kernel⟩) (pre_S E hP hD hS hA [] (by decide) rfl) rfl rfl hl.1 rfl (lv_room (Nat.le_of_ble_eq_true rfl)) dX10_far_1 ⟨by decide +kernel, by decide +kernel⟩) hS hP hD hA [] rfl (fun r2 _ H locs w1 hP hS => ?_)
  rcases w1 with ⟨rfl, b3⟩ | ⟨rfl, b3⟩
  · refine lv_if_eq (tgt := 21) hx hb dX10_far_4 (by decide) (fun c4 => False.elim (by revert c4; decide)) (fun _ => ?_)
    refine lv_iload_n hx hb dX10_far_7 rfl (lv_at hl 2 rfl) ?_
    refine ca_iR (va_runS (As := [.int p1]) (rest := []) ⟨hx, hb, hml, hown, hts⟩ (m_isMap l G H.size p1) (va_cwS 1 hts gX10_far_X10_isMap rfl rfl rfl (by decide +kernel) ⟨by decide +kernel, by decide +kernel⟩) (pre_S E hP hD hS hA [] (by decide) rfl) rfl rfl hl.1 rfl (lv_room (Nat.le_of_ble_eq_true rfl)) dX10_far_8 ⟨by decide +kernel, by decide +kernel⟩) hS hP hD hA [] rfl (fun r6 _ H locs w5 hP hS => ?_)
    rcases w5 with ⟨rfl, b7⟩ | ⟨rfl, b7⟩
    · refine lv_if_eq (tgt := 21) hx hb dX10_far_11 (by decide) (fun c8 => False.elim (by revert c8; decide)) (fun _ => ?_)
      refine lv_iload_n hx hb dX10_far_14 rfl (lv_at hl 3 rfl) ?_
      refine ca_iR (va_runS (As := [.int p2]) (rest := []) ⟨hx, hb, hml, hown, hts⟩ (m_isHand l G H.size p2) (va_cwS 1 hts gX10_far_X10_isHand rfl rfl rfl (by decide +kernel) ⟨by decide +kernel, by decide +kernel⟩) (pre_S E hP hD hS hA [] (by decide) rfl) rfl rfl hl.1 rfl (lv_room (Nat.le_of_ble_eq_true rfl)) dX10_far_15 ⟨by decide +kernel, by decide +kernel⟩) hS hP hD hA [] rfl (fun r10 _ H locs w9 hP hS => ?_)
      rcases w9 with ⟨rfl, b11⟩ | ⟨rfl, b11⟩
      · refine lv_if_ne (tgt := 23) hx hb dX10_far_18 (by decide) (fun _ => ?_) (fun c12 => False.elim (by revert c12; decide))
        obtain ⟨j_p0, hj_p0, ej_p0⟩ := inR6 b3
        have hl : lv_has ls 6 [(0, .ref h1), (1, .int (nI j_p0)), (2, .int p1), (3, .int p2), (4, .int p3)] := by have q := hl; rw [ej_p0] at q; exact q
        obtain ⟨j_p1, hj_p1, ej_p1⟩ := inR6 b7
        have hl : lv_has ls 6 [(0, .ref h1), (1, .int (nI j_p0)), (2, .int (nI j_p1)), (3, .int p2), (4, .int p3)] := by have q := hl; rw [ej_p1] at q; exact q
        obtain ⟨j_p2, hj_p2, ej_p2⟩ := inR4 b11
        have hl : lv_has ls 6 [(0, .ref h1), (1, .int (nI j_p0)), (2, .int (nI j_p1)), (3, .int (nI j_p2)), (4, .int p3)] := by have q := hl; rw [ej_p2] at q; exact q
        refine lv_aload_n hx hb dX10_far_23 rfl (lv_at hl 0 rfl) ?_
        refine lv_iload_n hx hb dX10_far_24 rfl (lv_at hl 1 rfl) ?_
        refine ca_iR (va_runV (As := [.int (nI j_p0)]) (rest := []) ⟨hx, hb, hml, hown, hts⟩ (m_isTold l G H.size h1 (.int (nI k)) (.ref a_maps) (.ref a_kinds) v_land v_spades (.ref a_part) v_pad v_padMany v_slips v_slipMany v_made (.ref a_queue) (.ref a_depth) (.ref a_by) (.ref a_from) (.int cm0) v_offOf v_parent v_best v_trees v_least v_sums v_toward v_kept v_isKept v_keptAt v_isWriting told (nI j_p0)) (cwV 1 hts gX10_far_X10_isTold rfl rfl rfl (by decide +kernel) ⟨by decide +kernel, by decide +kernel⟩) (pre_V E hP hD hS hA [0] (by decide) rfl 0 6 rfl rfl) rfl rfl hl.1 rfl (lv_room (Nat.le_of_ble_eq_true rfl)) dX10_far_25 ⟨by decide +kernel, by decide +kernel⟩) hS hP hD hA [0] rfl (fun r14 _ H locs w13 hP hS => ?_)
        rcases w13 with ⟨rfl, b15⟩ | ⟨rfl, b15⟩
        · refine lv_if_eq (tgt := 39) hx hb dX10_far_28 (by decide) (fun c16 => False.elim (by revert c16; decide)) (fun _ => ?_)
          refine lv_aload_n hx hb dX10_far_31 rfl (lv_at hl 0 rfl) ?_
          refine lv_iload_n hx hb dX10_far_32 rfl (lv_at hl 2 rfl) ?_
          refine ca_iR (va_runV (As := [.int (nI j_p1)]) (rest := []) ⟨hx, hb, hml, hown, hts⟩ (m_isTold l G H.size h1 (.int (nI k)) (.ref a_maps) (.ref a_kinds) v_land v_spades (.ref a_part) v_pad v_padMany v_slips v_slipMany v_made (.ref a_queue) (.ref a_depth) (.ref a_by) (.ref a_from) (.int cm0) v_offOf v_parent v_best v_trees v_least v_sums v_toward v_kept v_isKept v_keptAt v_isWriting told (nI j_p1)) (cwV 1 hts gX10_far_X10_isTold rfl rfl rfl (by decide +kernel) ⟨by decide +kernel, by decide +kernel⟩) (pre_V E hP hD hS hA [0] (by decide) rfl 0 6 rfl rfl) rfl rfl hl.1 rfl (lv_room (Nat.le_of_ble_eq_true rfl)) dX10_far_33 ⟨by decide +kernel, by decide +kernel⟩) hS hP hD hA [0] rfl (fun r18 _ H locs w17 hP hS => ?_)
          rcases w17 with ⟨rfl, b19⟩ | ⟨rfl, b19⟩
          · refine lv_if_ne (tgt := 42) hx hb dX10_far_36 (by decide) (fun _ => ?_) (fun c20 => False.elim (by revert c20; decide))
            refine lv_aload_n hx hb dX10_far_42 rfl (lv_at hl 0 rfl) ?_
            refine lv_aload_n hx hb dX10_far_43 rfl (lv_at hl 0 rfl) ?_
            refine va_get (D := G.1) (ci := 6) (v := .ref a_maps) (C := RX10) (T := TX10) (N := 28) hx hb hts (fun _ h => List.mem_cons_of_mem _ (List.mem_append_right _ h)) hown E.K hP 0 rfl rfl 1 (by decide) (hts (.fieldLink RX10 7 "LastMapModel" "maps" "[I") (by decide +kernel)) (fun _ h9 => h9) rfl dX10_far_44 ?_
            refine lv_iload_n hx hb dX10_far_47 rfl (lv_at hl 1 rfl) ?_
            refine va_iald hx hb E.K hP 1 1 rfl rfl (i := nI j_p0) (vp_in_nI (by omega) (by decide)) dX10_far_48 ?_
            refine lv_topi (fun x21 ex21 => ?_)
            have hmf := maN_ok hk6 hfm hj_p0
            obtain rfl : x21 = nI (maN fm j_p0) := by rw [ex21, nI_clamp (by omega)]; exact hmf.2
            refine lv_aload_n hx hb dX10_far_49 rfl (lv_at hl 0 rfl) ?_
            refine va_get (D := G.1) (ci := 6) (v := .ref a_maps) (C := RX10) (T := TX10) (N := 28) hx hb hts (fun _ h => List.mem_cons_of_mem _ (List.mem_append_right _ h)) hown E.K hP 0 rfl rfl 1 (by decide) (hts (.fieldLink RX10 7 "LastMapModel" "maps" "[I") (by decide +kernel)) (fun _ h9 => h9) rfl dX10_far_50 ?_
            refine lv_iload_n hx hb dX10_far_53 rfl (lv_at hl 2 rfl) ?_
            refine va_iald hx hb E.K hP 1 1 rfl rfl (i := nI j_p1) (vp_in_nI (by omega) (by decide)) dX10_far_54 ?_
            refine lv_topi (fun x22 ex22 => ?_)
            have hmt := maN_ok hk6 hfm hj_p1
            obtain rfl : x22 = nI (maN fm j_p1) := by rw [ex22, nI_clamp (by omega)]; exact hmt.2
            refine lv_aload_n hx hb dX10_far_55 rfl (lv_at hl 0 rfl) ?_
            refine va_get (D := G.1) (ci := 6) (v := .ref a_kinds) (C := RX10) (T := TX10) (N := 28) hx hb hts (fun _ h => List.mem_cons_of_mem _ (List.mem_append_right _ h)) hown E.K hP 0 rfl rfl 3 (by decide) (hts (.fieldLink RX10 13 "LastMapModel" "kinds" "[I") (by decide +kernel)) (fun _ h9 => h9) rfl dX10_far_56 ?_
            refine lv_iload_n hx hb dX10_far_59 rfl (lv_at hl 3 rfl) ?_
            refine va_iald hx hb E.K hP 2 1 rfl rfl (i := nI j_p2) (vp_in_nI (by omega) (by decide)) dX10_far_60 ?_
            refine lv_topi (fun x23 ex23 => ?_)
            obtain rfl : x23 = fk j_p2 := by rw [ex23, nI_clamp (by omega)]
            refine ca_i (wr := [(a_maps, .inl (gI G, 6, .inl fm)), (a_kinds, .inl (gI G, 4, .inl fk))]) (va_runV (As := [.int (nI (maN fm j_p0)), .int (nI (maN fm j_p1)), .int (fk j_p2)]) (rest := []) ⟨hx, hb, hml, hown, hts⟩ (m3_farOf l G H.size h1 (.ref a_maps) (.int told) (.ref a_kinds) v_land v_spades v_pad v_padMany v_slips v_slipMany v_made v_offOf v_parent v_best v_trees v_least v_sums v_toward v_kept v_isKept v_keptAt v_isWriting a_part fp a_queue a_depth a_by a_from fq fd fb fr k (maN fm j_p0) (maN fm j_p1) cm0 (fk j_p2) hk2 hk6 hp hmf.1 hmt.1) (cwV 3 hts gX10_far_X10_farOf rfl rfl rfl (by decide +kernel) ⟨by decide +kernel, by decide +kernel⟩) (pre_V E hP hD hS hA [0, 3, 4, 5, 6, 7] (by decide) rfl 0 6 rfl rfl) rfl rfl hl.1 rfl (lv_room (Nat.le_of_ble_eq_true rfl)) dX10_far_61 ⟨by decide +kernel, by decide +kernel⟩) hS hP hD hA [0, 3, 4, 5, 6, 7] [1, 2] rfl rfl (by decide) (by decide) (fun r25 u26 H locs w24 hP hD hS => ?_)
            obtain ⟨cm1_27, gq_28, gd_29, gb_30, gr_31⟩ := u26
            try dsimp only at w24 hP hD
            have hP := (hP.sub (ws' := [(h1, .inr (6, [.int (nI k), .ref a_maps, .int told, .ref a_kinds, v_land, v_spades, .ref a_part, v_pad, v_padMany, v_slips, v_slipMany, v_made, .ref a_queue, .ref a_depth, .ref a_by, .ref a_from, .int (nI cm1_27), v_offOf, v_parent, v_best, v_trees, v_least, v_sums, v_toward, v_kept, v_isKept, v_keptAt, v_isWriting])), (a_maps, .inl (gI G, 6, .inl fm)), (a_kinds, .inl (gI G, 4, .inl fk)), (a_part, .inl (gI G, 6, .inl fp)), (a_queue, .inl (gI G, 15625, .inl gq_28)), (a_depth, .inl (gI G, 15625, .inl gd_29)), (a_by, .inl (gI G, 15625, .inl gb_30)), (a_from, .inl (gI G, 15625, .inl gr_31))]) [2, 0, 1, 3, 4, 5, 6, 7] rfl)
            have hD := (hD.sub (ws' := [(h1, .inr (6, [.int (nI k), .ref a_maps, .int told, .ref a_kinds, v_land, v_spades, .ref a_part, v_pad, v_padMany, v_slips, v_slipMany, v_made, .ref a_queue, .ref a_depth, .ref a_by, .ref a_from, .int (nI cm1_27), v_offOf, v_parent, v_best, v_trees, v_least, v_sums, v_toward, v_kept, v_isKept, v_keptAt, v_isWriting])), (a_maps, .inl (gI G, 6, .inl fm)), (a_kinds, .inl (gI G, 4, .inl fk)), (a_part, .inl (gI G, 6, .inl fp)), (a_queue, .inl (gI G, 15625, .inl gq_28)), (a_depth, .inl (gI G, 15625, .inl gd_29)), (a_by, .inl (gI G, 15625, .inl gb_30)), (a_from, .inl (gI G, 15625, .inl gr_31))]) [2, 0, 1, 3, 4, 5, 6, 7] (by decide) rfl)
            have hdo9 := w24.1
            obtain ⟨gc9, hgo9⟩ := w24.2.1
            have hfo9 := w24.2.2
            refine lv_istore (lv' := [(5, .int r25), (0, .ref h1), (1, .int (nI j_p0)), (2, .int (nI j_p1)), (3, .int (nI j_p2)), (4, .int p3)]) hx hb dX10_far_64 hl (by decide) rfl (fun ls hl => ?_)
            refine lv_iload hx hb dX10_far_66 (lv_at hl 0 rfl) ?_
            refine lv_if_lt (tgt := 77) hx hb dX10_far_68 (by decide) (fun c32 => ?_) (fun c32 => ?_)
            · refine lv_iload hx hb dX10_far_77 (lv_at hl 0 rfl) ?_
              refine lv_goto (tgt := 94) hx hb dX10_far_79 (by decide) ?_
              have hP9 := (hP.sub (ws' := [(h1, .inr (6, [.int (nI k), .ref a_maps, .int told, .ref a_kinds, v_land, v_spades, .ref a_part, v_pad, v_padMany, v_slips, v_slipMany, v_made, .ref a_queue, .ref a_depth, .ref a_by, .ref a_from, .int (nI cm1_27), v_offOf, v_parent, v_best, v_trees, v_least, v_sums, v_toward, v_kept, v_isKept, v_keptAt, v_isWriting])), (a_maps, .inl (gI G, 6, .inl fm)), (a_kinds, .inl (gI G, 4, .inl fk)), (a_part, .inl (gI G, 6, .inl fp)), (a_queue, .inl (gI G, 15625, .inl gq_28)), (a_depth, .inl (gI G, 15625, .inl gd_29)), (a_by, .inl (gI G, 15625, .inl gb_30)), (a_from, .inl (gI G, 15625, .inl gr_31))]) [0, 1, 2, 3, 4, 5, 6, 7] rfl)
              have hD9 := (hD.sub (ws' := [(h1, .inr (6, [.int (nI k), .ref a_maps, .int told, .ref a_kinds, v_land, v_spades, .ref a_part, v_pad, v_padMany, v_slips, v_slipMany, v_made, .ref a_queue, .ref a_depth, .ref a_by, .ref a_from, .int (nI cm1_27), v_offOf, v_parent, v_best, v_trees, v_least, v_sums, v_toward, v_kept, v_isKept, v_keptAt, v_isWriting])), (a_maps, .inl (gI G, 6, .inl fm)), (a_kinds, .inl (gI G, 4, .inl fk)), (a_part, .inl (gI G, 6, .inl fp)), (a_queue, .inl (gI G, 15625, .inl gq_28)), (a_depth, .inl (gI G, 15625, .inl gd_29)), (a_by, .inl (gI G, 15625, .inl gb_30)), (a_from, .inl (gI G, 15625, .inl gr_31))]) [0, 1, 2, 3, 4, 5, 6, 7] (by decide) rfl)
              exact W.iret (v := r25) hx hb hr (fun t9_ ht9_ hW9_ => ⟨⟨r25, (nI cm1_27, gq_28, gd_29, gb_30, gr_31), rfl, farP_4 hj_p0 ej_p0 hj_p1 ej_p1 hj_p2 ej_p2 ⟨(by rw [ej_p0]; exact b15), (by rw [ej_p1]; exact b19)⟩ (fun x9 h9 => Iff.rfl) (by rw [hfo9]; exact go_none hk6 hmf.1 hdo9 hgo9 hmt.1 (by have q9 := c32; rw [hfo9] at q9; simp only [i3_le, i3_lt, Int32.reduceToInt] at q9 ⊢; omega)), by rw [ht9_]; exact hP9, hD9⟩, hS.F ht9_⟩) hS.2.2 dX10_far_94
            · have hfx9 : ¬ gd_29 (maN fm j_p1) < 0 := (by have q9 := c32; rw [hfo9] at q9; simp only [i3_le, i3_lt, Int32.reduceToInt] at q9 ⊢; omega)
              refine lv_iload hx hb dX10_far_71 (lv_at hl 5 rfl) ?_
              refine lv_iconst (v := (-1)) hx hb dX10_far_73 (by decide) ?_
              refine lv_icmp_ne (tgt := 82) hx hb dX10_far_74 (by decide) (fun c33 => ?_) (fun c33 => ?_)
              · refine lv_aload_n hx hb dX10_far_82 rfl (lv_at hl 1 rfl) ?_
                refine lv_aload_n hx hb dX10_far_83 rfl (lv_at hl 1 rfl) ?_
                refine va_get (D := G.1) (ci := 6) (v := .ref a_maps) (C := RX10) (T := TX10) (N := 28) hx hb hts (fun _ h => List.mem_cons_of_mem _ (List.mem_append_right _ h)) hown E.K hP 0 rfl rfl 1 (by decide) (hts (.fieldLink RX10 7 "LastMapModel" "maps" "[I") (by decide +kernel)) (fun _ h9 => h9) rfl dX10_far_84 ?_
                refine lv_iload_n hx hb dX10_far_87 rfl (lv_at hl 3 rfl) ?_
                refine va_iald hx hb E.K hP 1 1 rfl rfl (i := nI j_p1) (vp_in_nI (by omega) (by decide)) dX10_far_88 ?_
                refine lv_topi (fun x34 ex34 => ?_)
                obtain rfl : x34 = nI (maN fm j_p1) := by rw [ex34, nI_clamp (by omega)]; exact hmt.2
                refine lv_iload hx hb dX10_far_89 (lv_at hl 5 rfl) ?_
                refine ca_iR (va_runV (As := [.int (nI (maN fm j_p1)), .int p3]) (rest := []) ⟨hx, hb, hml, hown, hts⟩ (m3_slipTo l G H.size h1 (.int (nI k)) (.ref a_maps) (.int told) (.ref a_kinds) v_land v_spades (.ref a_part) v_pad v_padMany v_slips v_slipMany v_made (.ref a_queue) (.int (nI cm1_27)) v_offOf v_parent v_best v_trees v_least v_sums v_toward v_kept v_isKept v_keptAt v_isWriting a_depth a_by a_from gd_29 gb_30 gr_31 gq_28 k (maN fm j_p1) cm1_27 p3 (maN fm j_p0) (bK (fk j_p2)) gc9 hk6 hmt.1 hdo9 hgo9 hfx9) (cwV 2 hts gX10_far_X10_slipTo rfl rfl rfl (by decide +kernel) ⟨by decide +kernel, by decide +kernel⟩) (pre_V E hP hD hS hA [0, 5, 6, 7] (by decide) rfl 0 6 rfl rfl) rfl rfl hl.1 rfl (lv_room (Nat.le_of_ble_eq_true rfl)) dX10_far_91 ⟨by decide +kernel, by decide +kernel⟩) hS hP hD hA [0, 5, 6, 7] rfl (fun r36 _ H locs w35 hP hS => ?_)
                have hP9 := (hP.sub (ws' := [(h1, .inr (6, [.int (nI k), .ref a_maps, .int told, .ref a_kinds, v_land, v_spades, .ref a_part, v_pad, v_padMany, v_slips, v_slipMany, v_made, .ref a_queue, .ref a_depth, .ref a_by, .ref a_from, .int (nI cm1_27), v_offOf, v_parent, v_best, v_trees, v_least, v_sums, v_toward, v_kept, v_isKept, v_keptAt, v_isWriting])), (a_maps, .inl (gI G, 6, .inl fm)), (a_kinds, .inl (gI G, 4, .inl fk)), (a_part, .inl (gI G, 6, .inl fp)), (a_queue, .inl (gI G, 15625, .inl gq_28)), (a_depth, .inl (gI G, 15625, .inl gd_29)), (a_by, .inl (gI G, 15625, .inl gb_30)), (a_from, .inl (gI G, 15625, .inl gr_31))]) [0, 1, 2, 3, 4, 5, 6, 7] rfl)
                have hD9 := (hD.sub (ws' := [(h1, .inr (6, [.int (nI k), .ref a_maps, .int told, .ref a_kinds, v_land, v_spades, .ref a_part, v_pad, v_padMany, v_slips, v_slipMany, v_made, .ref a_queue, .ref a_depth, .ref a_by, .ref a_from, .int (nI cm1_27), v_offOf, v_parent, v_best, v_trees, v_least, v_sums, v_toward, v_kept, v_isKept, v_keptAt, v_isWriting])), (a_maps, .inl (gI G, 6, .inl fm)), (a_kinds, .inl (gI G, 4, .inl fk)), (a_part, .inl (gI G, 6, .inl fp)), (a_queue, .inl (gI G, 15625, .inl gq_28)), (a_depth, .inl (gI G, 15625, .inl gd_29)), (a_by, .inl (gI G, 15625, .inl gb_30)), (a_from, .inl (gI G, 15625, .inl gr_31))]) [0, 1, 2, 3, 4, 5, 6, 7] (by decide) rfl)
                exact W.iret (v := r36) hx hb hr (fun t9_ ht9_ hW9_ => ⟨⟨r36, (nI cm1_27, gq_28, gd_29, gb_30, gr_31), rfl, farP_4 hj_p0 ej_p0 hj_p1 ej_p1 hj_p2 ej_p2 ⟨(by rw [ej_p0]; exact b15), (by rw [ej_p1]; exact b19)⟩ (fun x9 h9 => Iff.rfl) (go_one hk6 hmf.1 hgo9 hmt.1 hfx9 (Or.inr ⟨c33, w35⟩)), by rw [ht9_]; exact hP9, hD9⟩, hS.F ht9_⟩) hS.2.2 dX10_far_94
              · refine lv_iload hx hb dX10_far_77 (lv_at hl 0 rfl) ?_
                refine lv_goto (tgt := 94) hx hb dX10_far_79 (by decide) ?_
                have hP9 := (hP.sub (ws' := [(h1, .inr (6, [.int (nI k), .ref a_maps, .int told, .ref a_kinds, v_land, v_spades, .ref a_part, v_pad, v_padMany, v_slips, v_slipMany, v_made, .ref a_queue, .ref a_depth, .ref a_by, .ref a_from, .int (nI cm1_27), v_offOf, v_parent, v_best, v_trees, v_least, v_sums, v_toward, v_kept, v_isKept, v_keptAt, v_isWriting])), (a_maps, .inl (gI G, 6, .inl fm)), (a_kinds, .inl (gI G, 4, .inl fk)), (a_part, .inl (gI G, 6, .inl fp)), (a_queue, .inl (gI G, 15625, .inl gq_28)), (a_depth, .inl (gI G, 15625, .inl gd_29)), (a_by, .inl (gI G, 15625, .inl gb_30)), (a_from, .inl (gI G, 15625, .inl gr_31))]) [0, 1, 2, 3, 4, 5, 6, 7] rfl)
                have hD9 := (hD.sub (ws' := [(h1, .inr (6, [.int (nI k), .ref a_maps, .int told, .ref a_kinds, v_land, v_spades, .ref a_part, v_pad, v_padMany, v_slips, v_slipMany, v_made, .ref a_queue, .ref a_depth, .ref a_by, .ref a_from, .int (nI cm1_27), v_offOf, v_parent, v_best, v_trees, v_least, v_sums, v_toward, v_kept, v_isKept, v_keptAt, v_isWriting])), (a_maps, .inl (gI G, 6, .inl fm)), (a_kinds, .inl (gI G, 4, .inl fk)), (a_part, .inl (gI G, 6, .inl fp)), (a_queue, .inl (gI G, 15625, .inl gq_28)), (a_depth, .inl (gI G, 15625, .inl gd_29)), (a_by, .inl (gI G, 15625, .inl gb_30)), (a_from, .inl (gI G, 15625, .inl gr_31))]) [0, 1, 2, 3, 4, 5, 6, 7] (by decide) rfl)
                exact W.iret (v := r25) hx hb hr (fun t9_ ht9_ hW9_ => ⟨⟨r25, (nI cm1_27, gq_28, gd_29, gb_30, gr_31), rfl, farP_4 hj_p0 ej_p0 hj_p1 ej_p1 hj_p2 ej_p2 ⟨(by rw [ej_p0]; exact b15), (by rw [ej_p1]; exact b19)⟩ (fun x9 h9 => Iff.rfl) (go_one hk6 hmf.1 hgo9 hmt.1 hfx9 (Or.inl ⟨c33, hfo9⟩)), by rw [ht9_]; exact hP9, hD9⟩, hS.F ht9_⟩) hS.2.2 dX10_far_94
          · refine lv_if_ne (tgt := 42) hx hb dX10_far_36 (by decide) (fun c37 => False.elim (by revert c37; decide)) (fun _ => ?_)
            refine lv_bipush (v := (-3)) hx hb dX10_far_39 (by decide) ?_
            have hP9 := (hP.sub (ws' := [(h1, .inr (6, [.int (nI k), .ref a_maps, .int told, .ref a_kinds, v_land, v_spades, .ref a_part, v_pad, v_padMany, v_slips, v_slipMany, v_made, .ref a_queue, .ref a_depth, .ref a_by, .ref a_from, .int cm0, v_offOf, v_parent, v_best, v_trees, v_least, v_sums, v_toward, v_kept, v_isKept, v_keptAt, v_isWriting])), (a_maps, .inl (gI G, 6, .inl fm)), (a_kinds, .inl (gI G, 4, .inl fk)), (a_part, .inl (gI G, 6, .inl fp)), (a_queue, .inl (gI G, 15625, .inl fq)), (a_depth, .inl (gI G, 15625, .inl fd)), (a_by, .inl (gI G, 15625, .inl fb)), (a_from, .inl (gI G, 15625, .inl fr))]) [0, 1, 2, 3, 4, 5, 6, 7] rfl)
            have hD9 := (hD.sub (ws' := [(h1, .inr (6, [.int (nI k), .ref a_maps, .int told, .ref a_kinds, v_land, v_spades, .ref a_part, v_pad, v_padMany, v_slips, v_slipMany, v_made, .ref a_queue, .ref a_depth, .ref a_by, .ref a_from, .int cm0, v_offOf, v_parent, v_best, v_trees, v_least, v_sums, v_toward, v_kept, v_isKept, v_keptAt, v_isWriting])), (a_maps, .inl (gI G, 6, .inl fm)), (a_kinds, .inl (gI G, 4, .inl fk)), (a_part, .inl (gI G, 6, .inl fp)), (a_queue, .inl (gI G, 15625, .inl fq)), (a_depth, .inl (gI G, 15625, .inl fd)), (a_by, .inl (gI G, 15625, .inl fb)), (a_from, .inl (gI G, 15625, .inl fr))]) [0, 1, 2, 3, 4, 5, 6, 7] (by decide) rfl)
            exact W.iret (v := (-3)) hx hb hr (fun t9_ ht9_ hW9_ => ⟨⟨(-3), (cm0, fq, fd, fb, fr), rfl, Or.inr ⟨⟨b3, b7, b11⟩, Or.inl ⟨fun q9 => b19 (by rw [← ej_p1]; exact q9.2), rfl⟩⟩, by rw [ht9_]; exact hP9, hD9⟩, hS.F ht9_⟩) hS.2.2 dX10_far_41
        · refine lv_if_eq (tgt := 39) hx hb dX10_far_28 (by decide) (fun _ => ?_) (fun c38 => False.elim (by revert c38; decide))
          refine lv_bipush (v := (-3)) hx hb dX10_far_39 (by decide) ?_
          have hP9 := (hP.sub (ws' := [(h1, .inr (6, [.int (nI k), .ref a_maps, .int told, .ref a_kinds, v_land, v_spades, .ref a_part, v_pad, v_padMany, v_slips, v_slipMany, v_made, .ref a_queue, .ref a_depth, .ref a_by, .ref a_from, .int cm0, v_offOf, v_parent, v_best, v_trees, v_least, v_sums, v_toward, v_kept, v_isKept, v_keptAt, v_isWriting])), (a_maps, .inl (gI G, 6, .inl fm)), (a_kinds, .inl (gI G, 4, .inl fk)), (a_part, .inl (gI G, 6, .inl fp)), (a_queue, .inl (gI G, 15625, .inl fq)), (a_depth, .inl (gI G, 15625, .inl fd)), (a_by, .inl (gI G, 15625, .inl fb)), (a_from, .inl (gI G, 15625, .inl fr))]) [0, 1, 2, 3, 4, 5, 6, 7] rfl)
          have hD9 := (hD.sub (ws' := [(h1, .inr (6, [.int (nI k), .ref a_maps, .int told, .ref a_kinds, v_land, v_spades, .ref a_part, v_pad, v_padMany, v_slips, v_slipMany, v_made, .ref a_queue, .ref a_depth, .ref a_by, .ref a_from, .int cm0, v_offOf, v_parent, v_best, v_trees, v_least, v_sums, v_toward, v_kept, v_isKept, v_keptAt, v_isWriting])), (a_maps, .inl (gI G, 6, .inl fm)), (a_kinds, .inl (gI G, 4, .inl fk)), (a_part, .inl (gI G, 6, .inl fp)), (a_queue, .inl (gI G, 15625, .inl fq)), (a_depth, .inl (gI G, 15625, .inl fd)), (a_by, .inl (gI G, 15625, .inl fb)), (a_from, .inl (gI G, 15625, .inl fr))]) [0, 1, 2, 3, 4, 5, 6, 7] (by decide) rfl)
          exact W.iret (v := (-3)) hx hb hr (fun t9_ ht9_ hW9_ => ⟨⟨(-3), (cm0, fq, fd, fb, fr), rfl, Or.inr ⟨⟨b3, b7, b11⟩, Or.inl ⟨fun q9 => b15 (by rw [← ej_p0]; exact q9.1), rfl⟩⟩, by rw [ht9_]; exact hP9, hD9⟩, hS.F ht9_⟩) hS.2.2 dX10_far_41
      · refine lv_if_ne (tgt := 23) hx hb dX10_far_18 (by decide) (fun c39 => False.elim (by revert c39; decide)) (fun _ => ?_)
        refine lv_iconst (v := (-1)) hx hb dX10_far_21 (by decide) ?_
        have hP9 := (hP.sub (ws' := [(h1, .inr (6, [.int (nI k), .ref a_maps, .int told, .ref a_kinds, v_land, v_spades, .ref a_part, v_pad, v_padMany, v_slips, v_slipMany, v_made, .ref a_queue, .ref a_depth, .ref a_by, .ref a_from, .int cm0, v_offOf, v_parent, v_best, v_trees, v_least, v_sums, v_toward, v_kept, v_isKept, v_keptAt, v_isWriting])), (a_maps, .inl (gI G, 6, .inl fm)), (a_kinds, .inl (gI G, 4, .inl fk)), (a_part, .inl (gI G, 6, .inl fp)), (a_queue, .inl (gI G, 15625, .inl fq)), (a_depth, .inl (gI G, 15625, .inl fd)), (a_by, .inl (gI G, 15625, .inl fb)), (a_from, .inl (gI G, 15625, .inl fr))]) [0, 1, 2, 3, 4, 5, 6, 7] rfl)
        have hD9 := (hD.sub (ws' := [(h1, .inr (6, [.int (nI k), .ref a_maps, .int told, .ref a_kinds, v_land, v_spades, .ref a_part, v_pad, v_padMany, v_slips, v_slipMany, v_made, .ref a_queue, .ref a_depth, .ref a_by, .ref a_from, .int cm0, v_offOf, v_parent, v_best, v_trees, v_least, v_sums, v_toward, v_kept, v_isKept, v_keptAt, v_isWriting])), (a_maps, .inl (gI G, 6, .inl fm)), (a_kinds, .inl (gI G, 4, .inl fk)), (a_part, .inl (gI G, 6, .inl fp)), (a_queue, .inl (gI G, 15625, .inl fq)), (a_depth, .inl (gI G, 15625, .inl fd)), (a_by, .inl (gI G, 15625, .inl fb)), (a_from, .inl (gI G, 15625, .inl fr))]) [0, 1, 2, 3, 4, 5, 6, 7] (by decide) rfl)
        exact W.iret (v := (-1)) hx hb hr (fun t9_ ht9_ hW9_ => ⟨⟨(-1), (cm0, fq, fd, fb, fr), rfl, Or.inl ⟨fun q9 => b11 q9.2.2, rfl⟩, by rw [ht9_]; exact hP9, hD9⟩, hS.F ht9_⟩) hS.2.2 dX10_far_22
    · refine lv_if_eq (tgt := 21) hx hb dX10_far_11 (by decide) (fun _ => ?_) (fun c40 => False.elim (by revert c40; decide))
      refine lv_iconst (v := (-1)) hx hb dX10_far_21 (by decide) ?_
      have hP9 := (hP.sub (ws' := [(h1, .inr (6, [.int (nI k), .ref a_maps, .int told, .ref a_kinds, v_land, v_spades, .ref a_part, v_pad, v_padMany, v_slips, v_slipMany, v_made, .ref a_queue, .ref a_depth, .ref a_by, .ref a_from, .int cm0, v_offOf, v_parent, v_best, v_trees, v_least, v_sums, v_toward, v_kept, v_isKept, v_keptAt, v_isWriting])), (a_maps, .inl (gI G, 6, .inl fm)), (a_kinds, .inl (gI G, 4, .inl fk)), (a_part, .inl (gI G, 6, .inl fp)), (a_queue, .inl (gI G, 15625, .inl fq)), (a_depth, .inl (gI G, 15625, .inl fd)), (a_by, .inl (gI G, 15625, .inl fb)), (a_from, .inl (gI G, 15625, .inl fr))]) [0, 1, 2, 3, 4, 5, 6, 7] rfl)
      have hD9 := (hD.sub (ws' := [(h1, .inr (6, [.int (nI k), .ref a_maps, .int told, .ref a_kinds, v_land, v_spades, .ref a_part, v_pad, v_padMany, v_slips, v_slipMany, v_made, .ref a_queue, .ref a_depth, .ref a_by, .ref a_from, .int cm0, v_offOf, v_parent, v_best, v_trees, v_least, v_sums, v_toward, v_kept, v_isKept, v_keptAt, v_isWriting])), (a_maps, .inl (gI G, 6, .inl fm)), (a_kinds, .inl (gI G, 4, .inl fk)), (a_part, .inl (gI G, 6, .inl fp)), (a_queue, .inl (gI G, 15625, .inl fq)), (a_depth, .inl (gI G, 15625, .inl fd)), (a_by, .inl (gI G, 15625, .inl fb)), (a_from, .inl (gI G, 15625, .inl fr))]) [0, 1, 2, 3, 4, 5, 6, 7] (by decide) rfl)
      exact W.iret (v := (-1)) hx hb hr (fun t9_ ht9_ hW9_ => ⟨⟨(-1), (cm0, fq, fd, fb, fr), rfl, Or.inl ⟨fun q9 => b7 q9.2.1, rfl⟩, by rw [ht9_]; exact hP9, hD9⟩, hS.F ht9_⟩) hS.2.2 dX10_far_22
  · refine lv_if_eq (tgt := 21) hx hb dX10_far_4 (by decide) (fun _ => ?_) (fun c41 => False.elim (by revert c41; decide))
    refine lv_iconst (v := (-1)) hx hb dX10_far_21 (by decide) ?_
    have hP9 := (hP.sub (ws' := [(h1, .inr (6, [.int (nI k), .ref a_maps, .int told, .ref a_kinds, v_land, v_spades, .ref a_part, v_pad, v_padMany, v_slips, v_slipMany, v_made, .ref a_queue, .ref a_depth, .ref a_by, .ref a_from, .int cm0, v_offOf, v_parent, v_best, v_trees, v_least, v_sums, v_toward, v_kept, v_isKept, v_keptAt, v_isWriting])), (a_maps, .inl (gI G, 6, .inl fm)), (a_kinds, .inl (gI G, 4, .inl fk)), (a_part, .inl (gI G, 6, .inl fp)), (a_queue, .inl (gI G, 15625, .inl fq)), (a_depth, .inl (gI G, 15625, .inl fd)), (a_by, .inl (gI G, 15625, .inl fb)), (a_from, .inl (gI G, 15625, .inl fr))]) [0, 1, 2, 3, 4, 5, 6, 7] rfl)
    have hD9 := (hD.sub (ws' := [(h1, .inr (6, [.int (nI k), .ref a_maps, .int told, .ref a_kinds, v_land, v_spades, .ref a_part, v_pad, v_padMany, v_slips, v_slipMany, v_made, .ref a_queue, .ref a_depth, .ref a_by, .ref a_from, .int cm0, v_offOf, v_parent, v_best, v_trees, v_least, v_sums, v_toward, v_kept, v_isKept, v_keptAt, v_isWriting])), (a_maps, .inl (gI G, 6, .inl fm)), (a_kinds, .inl (gI G, 4, .inl fk)), (a_part, .inl (gI G, 6, .inl fp)), (a_queue, .inl (gI G, 15625, .inl fq)), (a_depth, .inl (gI G, 15625, .inl fd)), (a_by, .inl (gI G, 15625, .inl fb)), (a_from, .inl (gI G, 15625, .inl fr))]) [0, 1, 2, 3, 4, 5, 6, 7] (by decide) rfl)
    exact W.iret (v := (-1)) hx hb hr (fun t9_ ht9_ hW9_ => ⟨⟨(-1), (cm0, fq, fd, fb, fr), rfl, Or.inl ⟨fun q9 => b3 q9.1, rfl⟩, by rw [ht9_]; exact hP9, hD9⟩, hS.F ht9_⟩) hS.2.2 dX10_far_22

set_option maxHeartbeats 1000000 in
set_option maxRecDepth 100000 in
theorem m3_between (l : Launch) (G : Gy) (sz : Nat) (h1 : Nat) (v_land : Value) (v_spades : Value) (v_pad : Value) (v_padMany : Value) (v_slips : Value) (v_slipMany : Value) (v_made : Value) (v_offOf : Value) (v_parent : Value) (v_best : Value) (v_trees : Value) (v_least : Value) (v_sums : Value) (v_toward : Value) (v_kept : Value) (v_isKept : Value) (v_keptAt : Value) (v_isWriting : Value) (a_maps : Nat) (fm : Nat → Int32) (a_kinds : Nat) (fk : Nat → Int32) (a_part : Nat) (fp : Nat → Int32) (a_queue : Nat) (a_depth : Nat) (a_by : Nat) (a_from : Nat) (fq : Nat → Int32) (fd : Nat → Int32) (fb : Nat → Int32) (fr : Nat → Int32) (k : Nat) (told : Int32) (cm0 : Int32) (p0 : Int32) (p1 : Int32) (p2 : Int32) (p3 : Int32) (hk2 : 2 ≤ k) (hk6 : k ≤ 6) (hp : pOK k fp) (hfm : mapsOK k fm) : Ci l G yX10_between wsX10_between ({ frames := 5, cells := 0, slots := 0, locals := 121 }) [.ref h1, .int p0, .int p1, .int p2, .int p3] ([(h1, .inr (6, [.int (nI k), .ref a_maps, .int told, .ref a_kinds, v_land, v_spades, .ref a_part, v_pad, v_padMany, v_slips, v_slipMany, v_made, .ref a_queue, .ref a_depth, .ref a_by, .ref a_from, .int cm0, v_offOf, v_parent, v_best, v_trees, v_least, v_sums, v_toward, v_kept, v_isKept, v_keptAt, v_isWriting])), (a_maps, .inl (gI G, 6, .inl fm)), (a_kinds, .inl (gI G, 4, .inl fk)), (a_part, .inl (gI G, 6, .inl fp)), (a_queue, .inl (gI G, 15625, .inl fq)), (a_depth, .inl (gI G, 15625, .inl fd)), (a_by, .inl (gI G, 15625, .inl fb)), (a_from, .inl (gI G, 15625, .inl fr))]) sz (fun (r : Int32) (u : Int32 × (Nat → Int32) × (Nat → Int32) × (Nat → Int32) × (Nat → Int32)) => match u with | (cm1, gq, gd, gb, gr) => btP k told (maN fm) fk p0 p1 p2 p3 r) (fun (u : Int32 × (Nat → Int32) × (Nat → Int32) × (Nat → Int32) × (Nat → Int32)) => match u with | (cm1, gq, gd, gb, gr) => [(h1, .inr (6, [.int (nI k), .ref a_maps, .int told, .ref a_kinds, v_land, v_spades, .ref a_part, v_pad, v_padMany, v_slips, v_slipMany, v_made, .ref a_queue, .ref a_depth, .ref a_by, .ref a_from, .int cm1, v_offOf, v_parent, v_best, v_trees, v_least, v_sums, v_toward, v_kept, v_isKept, v_keptAt, v_isWriting])), (a_maps, .inl (gI G, 6, .inl fm)), (a_kinds, .inl (gI G, 4, .inl fk)), (a_part, .inl (gI G, 6, .inl fp)), (a_queue, .inl (gI G, 15625, .inl gq)), (a_depth, .inl (gI G, 15625, .inl gd)), (a_by, .inl (gI G, 15625, .inl gb)), (a_from, .inl (gI G, 15625, .inl gr))]) 0 0 := by
  refine Met.ofW (cc := cX10_between) (maxL := 6) (ret := (some .int)) (by decide) rfl ?_
  intro p e s m args below meth c s₁ B hml hv
  obtain ⟨rfl, hsz, hP, hD0, E0⟩ := hv
  have hx := B.exec
  have hb := B.bytes
  have hr := B.returns
  have hts := atoms_spec (ws := wsX10_between) B.pre
  have hown : s.vm.findClass RX10 = some m.cls := findClass_of_methodNamed B.named
  have hlocks := B.notSynchronized
  subst hsz
  have hD := hD0.self (sz := s.heap.size)
  generalize hAe : va_A ([(h1, .inr (6, [.int (nI k), .ref a_maps, .int told, .ref a_kinds, v_land, v_spades, .ref a_part, v_pad, v_padMany, v_slips, v_slipMany, v_made, .ref a_queue, .ref a_depth, .ref a_by, .ref a_from, .int cm0, v_offOf, v_parent, v_best, v_trees, v_least, v_sums, v_toward, v_kept, v_isKept, v_keptAt, v_isWriting])), (a_maps, .inl (gI G, 6, .inl fm)), (a_kinds, .inl (gI G, 4, .inl fk)), (a_part, .inl (gI G, 6, .inl fp)), (a_queue, .inl (gI G, 15625, .inl fq)), (a_depth, .inl (gI G, 15625, .inl fd)), (a_by, .inl (gI G, 15625, .inl fb)), (a_from, .inl (gI G, 15625, .inl fr))]) s.heap.size = A at hD E0 ⊢
  have E : EV G A s s.heap := E0
  have hA : ∀ q : Nat, s.heap.size ≤ q → A q := fun q h => by rw [← hAe]; exact Or.inr h
  have hS : va_S A s.heap s.heap [] := va_S.rf
  have hl := lv_entry ([.ref h1, .int p0, .int p1, .int p2, .int p3]) (n := 6) (Nat.le_of_ble_eq_true rfl)
  rw [lg_entry_eq]
  generalize (lg_sl ([.ref h1, .int p0, .int p1, .int p2, .int p3]) ++ List.replicate (6 - (lg_sl ([.ref h1, .int p0, .int p1, .int p2, .int p3])).length) Slot.unset).toArray = ls at hl ⊢
  have hl : lv_has ls 6 [(0, .ref h1), (1, .int p0), (2, .int p1), (3, .int p2), (4, .int p3)] := hl
  have hP : va_P G.1 vwCl ([(h1, .inr (6, [.int (nI k), .ref a_maps, .int told, .ref a_kinds, v_land, v_spades, .ref a_part, v_pad, v_padMany, v_slips, v_slipMany, v_made, .ref a_queue, .ref a_depth, .ref a_by, .ref a_from, .int cm0, v_offOf, v_parent, v_best, v_trees, v_least, v_sums, v_toward, v_kept, v_isKept, v_keptAt, v_isWriting])), (a_maps, .inl (gI G, 6, .inl fm)), (a_kinds, .inl (gI G, 4, .inl fk)), (a_part, .inl (gI G, 6, .inl fp)), (a_queue, .inl (gI G, 15625, .inl fq)), (a_depth, .inl (gI G, 15625, .inl fd)), (a_by, .inl (gI G, 15625, .inl fb)), (a_from, .inl (gI G, 15625, .inl fr))]) s.heap := hP
  have hal := p5le hk6
  refine lv_iload_n hx hb dX10_between_0 rfl (lv_at hl 1 rfl) ?_
  refine ca_iR (va_runS (As := [.int p0]) (rest := []) ⟨hx, hb, hml, hown, hts⟩ (m_isMap l G s.heap.size p0) (va_cwS 1 hts gX10_between_X10_isMap rfl rfl rfl (by decide +kernel) ⟨by decide +kernel, by decide +kernel⟩) (pre_S E hP hD hS hA [] (by decide) rfl) rfl rfl hl.1 rfl (lv_room (Nat.le_of_ble_eq_true rfl)) dX10_between_1 ⟨by decide +kernel, by decide +kernel⟩) hS hP hD hA [] rfl (fun r2 _ H locs w1 hP hS => ?_)
  rcases w1 with ⟨rfl, b3⟩ | ⟨rfl, b3⟩
  · refine lv_if_eq (tgt := 21) hx hb dX10_between_4 (by decide) (fun c4 => False.elim (by revert c4; decide)) (fun _ => ?_)
    refine lv_iload_n hx hb dX10_between_7 rfl (lv_at hl 2 rfl) ?_
    refine ca_iR (va_runS (As := [.int p1]) (rest := []) ⟨hx, hb, hml, hown, hts⟩ (m_isMap l G H.size p1) (va_cwS 1 hts gX10_between_X10_isMap rfl rfl rfl (by decide +kernel) ⟨by decide +kernel, by decide +kernel⟩) (pre_S E hP hD hS hA [] (by decide) rfl) rfl rfl hl.1 rfl (lv_room (Nat.le_of_ble_eq_true rfl)) dX10_between_8 ⟨by decide +kernel, by decide +kernel⟩) hS hP hD hA [] rfl (fun r6 _ H locs w5 hP hS => ?_)
    rcases w5 with ⟨rfl, b7⟩ | ⟨rfl, b7⟩
    · refine lv_if_eq (tgt := 21) hx hb dX10_between_11 (by decide) (fun c8 => False.elim (by revert c8; decide)) (fun _ => ?_)
      refine lv_iload_n hx hb dX10_between_14 rfl (lv_at hl 3 rfl) ?_
      refine ca_iR (va_runS (As := [.int p2]) (rest := []) ⟨hx, hb, hml, hown, hts⟩ (m_isHand l G H.size p2) (va_cwS 1 hts gX10_between_X10_isHand rfl rfl rfl (by decide +kernel) ⟨by decide +kernel, by decide +kernel⟩) (pre_S E hP hD hS hA [] (by decide) rfl) rfl rfl hl.1 rfl (lv_room (Nat.le_of_ble_eq_true rfl)) dX10_between_15 ⟨by decide +kernel, by decide +kernel⟩) hS hP hD hA [] rfl (fun r10 _ H locs w9 hP hS => ?_)
      rcases w9 with ⟨rfl, b11⟩ | ⟨rfl, b11⟩
      · refine lv_if_ne (tgt := 23) hx hb dX10_between_18 (by decide) (fun _ => ?_) (fun c12 => False.elim (by revert c12; decide))
        refine lv_iload hx hb dX10_between_23 (lv_at hl 4 rfl) ?_
        refine lv_i2l hx hb dX10_between_25 rfl ?_
        refine lv_topl (fun x13 ex13 => ?_)
        refine lv_lconst (v := 1) hx hb dX10_between_26 (by decide) ?_
        refine lv_ldc2 (v := 9) hx hb hown (hts (.constantLong RX10 183 (9)) (by decide +kernel)) dX10_between_27 ?_
        refine ca_iR (va_runS (As := [.long x13, .long 1, .long 9]) (rest := []) ⟨hx, hb, hml, hown, hts⟩ (m_in l G H.size x13 1 9 p3 1 9 ex13 (by decide) (by decide)) (va_cwS 3 hts gX10_between_X10_in rfl rfl rfl (by decide +kernel) ⟨by decide +kernel, by decide +kernel⟩) (pre_S E hP hD hS hA [] (by decide) rfl) rfl rfl hl.1 rfl (lv_room (Nat.le_of_ble_eq_true rfl)) dX10_between_30 ⟨by decide +kernel, by decide +kernel⟩) hS hP hD hA [] rfl (fun r15 _ H locs w14 hP hS => ?_)
        rcases w14 with ⟨rfl, b16⟩ | ⟨rfl, b16⟩
        · refine lv_if_ne (tgt := 39) hx hb dX10_between_33 (by decide) (fun _ => ?_) (fun c17 => False.elim (by revert c17; decide))
          obtain ⟨j_p0, hj_p0, ej_p0⟩ := inR6 b3
          have hl : lv_has ls 6 [(0, .ref h1), (1, .int (nI j_p0)), (2, .int p1), (3, .int p2), (4, .int p3)] := by have q := hl; rw [ej_p0] at q; exact q
          obtain ⟨j_p1, hj_p1, ej_p1⟩ := inR6 b7
          have hl : lv_has ls 6 [(0, .ref h1), (1, .int (nI j_p0)), (2, .int (nI j_p1)), (3, .int p2), (4, .int p3)] := by have q := hl; rw [ej_p1] at q; exact q
          obtain ⟨j_p2, hj_p2, ej_p2⟩ := inR4 b11
          have hl : lv_has ls 6 [(0, .ref h1), (1, .int (nI j_p0)), (2, .int (nI j_p1)), (3, .int (nI j_p2)), (4, .int p3)] := by have q := hl; rw [ej_p2] at q; exact q
          refine lv_aload_n hx hb dX10_between_39 rfl (lv_at hl 0 rfl) ?_
          refine lv_iload_n hx hb dX10_between_40 rfl (lv_at hl 1 rfl) ?_
          refine ca_iR (va_runV (As := [.int (nI j_p0)]) (rest := []) ⟨hx, hb, hml, hown, hts⟩ (m_isTold l G H.size h1 (.int (nI k)) (.ref a_maps) (.ref a_kinds) v_land v_spades (.ref a_part) v_pad v_padMany v_slips v_slipMany v_made (.ref a_queue) (.ref a_depth) (.ref a_by) (.ref a_from) (.int cm0) v_offOf v_parent v_best v_trees v_least v_sums v_toward v_kept v_isKept v_keptAt v_isWriting told (nI j_p0)) (cwV 1 hts gX10_between_X10_isTold rfl rfl rfl (by decide +kernel) ⟨by decide +kernel, by decide +kernel⟩) (pre_V E hP hD hS hA [0] (by decide) rfl 0 6 rfl rfl) rfl rfl hl.1 rfl (lv_room (Nat.le_of_ble_eq_true rfl)) dX10_between_41 ⟨by decide +kernel, by decide +kernel⟩) hS hP hD hA [0] rfl (fun r19 _ H locs w18 hP hS => ?_)
          rcases w18 with ⟨rfl, b20⟩ | ⟨rfl, b20⟩
          · refine lv_if_eq (tgt := 55) hx hb dX10_between_44 (by decide) (fun c21 => False.elim (by revert c21; decide)) (fun _ => ?_)
            refine lv_aload_n hx hb dX10_between_47 rfl (lv_at hl 0 rfl) ?_
            refine lv_iload_n hx hb dX10_between_48 rfl (lv_at hl 2 rfl) ?_
            refine ca_iR (va_runV (As := [.int (nI j_p1)]) (rest := []) ⟨hx, hb, hml, hown, hts⟩ (m_isTold l G H.size h1 (.int (nI k)) (.ref a_maps) (.ref a_kinds) v_land v_spades (.ref a_part) v_pad v_padMany v_slips v_slipMany v_made (.ref a_queue) (.ref a_depth) (.ref a_by) (.ref a_from) (.int cm0) v_offOf v_parent v_best v_trees v_least v_sums v_toward v_kept v_isKept v_keptAt v_isWriting told (nI j_p1)) (cwV 1 hts gX10_between_X10_isTold rfl rfl rfl (by decide +kernel) ⟨by decide +kernel, by decide +kernel⟩) (pre_V E hP hD hS hA [0] (by decide) rfl 0 6 rfl rfl) rfl rfl hl.1 rfl (lv_room (Nat.le_of_ble_eq_true rfl)) dX10_between_49 ⟨by decide +kernel, by decide +kernel⟩) hS hP hD hA [0] rfl (fun r23 _ H locs w22 hP hS => ?_)
            rcases w22 with ⟨rfl, b24⟩ | ⟨rfl, b24⟩
            · refine lv_if_ne (tgt := 58) hx hb dX10_between_52 (by decide) (fun _ => ?_) (fun c25 => False.elim (by revert c25; decide))
              refine lv_aload_n hx hb dX10_between_58 rfl (lv_at hl 0 rfl) ?_
              refine lv_aload_n hx hb dX10_between_59 rfl (lv_at hl 0 rfl) ?_
              refine va_get (D := G.1) (ci := 6) (v := .ref a_maps) (C := RX10) (T := TX10) (N := 28) hx hb hts (fun _ h => List.mem_cons_of_mem _ (List.mem_append_right _ h)) hown E.K hP 0 rfl rfl 1 (by decide) (hts (.fieldLink RX10 7 "LastMapModel" "maps" "[I") (by decide +kernel)) (fun _ h9 => h9) rfl dX10_between_60 ?_
              refine lv_iload_n hx hb dX10_between_63 rfl (lv_at hl 1 rfl) ?_
              refine va_iald hx hb E.K hP 1 1 rfl rfl (i := nI j_p0) (vp_in_nI (by omega) (by decide)) dX10_between_64 ?_
              refine lv_topi (fun x26 ex26 => ?_)
              have hmf := maN_ok hk6 hfm hj_p0
              obtain rfl : x26 = nI (maN fm j_p0) := by rw [ex26, nI_clamp (by omega)]; exact hmf.2
              refine lv_aload_n hx hb dX10_between_65 rfl (lv_at hl 0 rfl) ?_
              refine va_get (D := G.1) (ci := 6) (v := .ref a_maps) (C := RX10) (T := TX10) (N := 28) hx hb hts (fun _ h => List.mem_cons_of_mem _ (List.mem_append_right _ h)) hown E.K hP 0 rfl rfl 1 (by decide) (hts (.fieldLink RX10 7 "LastMapModel" "maps" "[I") (by decide +kernel)) (fun _ h9 => h9) rfl dX10_between_66 ?_
              refine lv_iload_n hx hb dX10_between_69 rfl (lv_at hl 2 rfl) ?_
              refine va_iald hx hb E.K hP 1 1 rfl rfl (i := nI j_p1) (vp_in_nI (by omega) (by decide)) dX10_between_70 ?_
              refine lv_topi (fun x27 ex27 => ?_)
              have hmt := maN_ok hk6 hfm hj_p1
              obtain rfl : x27 = nI (maN fm j_p1) := by rw [ex27, nI_clamp (by omega)]; exact hmt.2
              refine lv_aload_n hx hb dX10_between_71 rfl (lv_at hl 0 rfl) ?_
              refine va_get (D := G.1) (ci := 6) (v := .ref a_kinds) (C := RX10) (T := TX10) (N := 28) hx hb hts (fun _ h => List.mem_cons_of_mem _ (List.mem_append_right _ h)) hown E.K hP 0 rfl rfl 3 (by decide) (hts (.fieldLink RX10 13 "LastMapModel" "kinds" "[I") (by decide +kernel)) (fun _ h9 => h9) rfl dX10_between_72 ?_
              refine lv_iload_n hx hb dX10_between_75 rfl (lv_at hl 3 rfl) ?_
              refine va_iald hx hb E.K hP 2 1 rfl rfl (i := nI j_p2) (vp_in_nI (by omega) (by decide)) dX10_between_76 ?_
              refine lv_topi (fun x28 ex28 => ?_)
              obtain rfl : x28 = fk j_p2 := by rw [ex28, nI_clamp (by omega)]
              refine ca_i (wr := [(a_maps, .inl (gI G, 6, .inl fm)), (a_kinds, .inl (gI G, 4, .inl fk))]) (va_runV (As := [.int (nI (maN fm j_p0)), .int (nI (maN fm j_p1)), .int (fk j_p2)]) (rest := []) ⟨hx, hb, hml, hown, hts⟩ (m3_farOf l G H.size h1 (.ref a_maps) (.int told) (.ref a_kinds) v_land v_spades v_pad v_padMany v_slips v_slipMany v_made v_offOf v_parent v_best v_trees v_least v_sums v_toward v_kept v_isKept v_keptAt v_isWriting a_part fp a_queue a_depth a_by a_from fq fd fb fr k (maN fm j_p0) (maN fm j_p1) cm0 (fk j_p2) hk2 hk6 hp hmf.1 hmt.1) (cwV 3 hts gX10_between_X10_farOf rfl rfl rfl (by decide +kernel) ⟨by decide +kernel, by decide +kernel⟩) (pre_V E hP hD hS hA [0, 3, 4, 5, 6, 7] (by decide) rfl 0 6 rfl rfl) rfl rfl hl.1 rfl (lv_room (Nat.le_of_ble_eq_true rfl)) dX10_between_77 ⟨by decide +kernel, by decide +kernel⟩) hS hP hD hA [0, 3, 4, 5, 6, 7] [1, 2] rfl rfl (by decide) (by decide) (fun r30 u31 H locs w29 hP hD hS => ?_)
              obtain ⟨cm1_32, gq_33, gd_34, gb_35, gr_36⟩ := u31
              try dsimp only at w29 hP hD
              have hP := (hP.sub (ws' := [(h1, .inr (6, [.int (nI k), .ref a_maps, .int told, .ref a_kinds, v_land, v_spades, .ref a_part, v_pad, v_padMany, v_slips, v_slipMany, v_made, .ref a_queue, .ref a_depth, .ref a_by, .ref a_from, .int (nI cm1_32), v_offOf, v_parent, v_best, v_trees, v_least, v_sums, v_toward, v_kept, v_isKept, v_keptAt, v_isWriting])), (a_maps, .inl (gI G, 6, .inl fm)), (a_kinds, .inl (gI G, 4, .inl fk)), (a_part, .inl (gI G, 6, .inl fp)), (a_queue, .inl (gI G, 15625, .inl gq_33)), (a_depth, .inl (gI G, 15625, .inl gd_34)), (a_by, .inl (gI G, 15625, .inl gb_35)), (a_from, .inl (gI G, 15625, .inl gr_36))]) [2, 0, 1, 3, 4, 5, 6, 7] rfl)
              have hD := (hD.sub (ws' := [(h1, .inr (6, [.int (nI k), .ref a_maps, .int told, .ref a_kinds, v_land, v_spades, .ref a_part, v_pad, v_padMany, v_slips, v_slipMany, v_made, .ref a_queue, .ref a_depth, .ref a_by, .ref a_from, .int (nI cm1_32), v_offOf, v_parent, v_best, v_trees, v_least, v_sums, v_toward, v_kept, v_isKept, v_keptAt, v_isWriting])), (a_maps, .inl (gI G, 6, .inl fm)), (a_kinds, .inl (gI G, 4, .inl fk)), (a_part, .inl (gI G, 6, .inl fp)), (a_queue, .inl (gI G, 15625, .inl gq_33)), (a_depth, .inl (gI G, 15625, .inl gd_34)), (a_by, .inl (gI G, 15625, .inl gb_35)), (a_from, .inl (gI G, 15625, .inl gr_36))]) [2, 0, 1, 3, 4, 5, 6, 7] (by decide) rfl)
              have hdo9 := w29.1
              obtain ⟨gc9, hgo9⟩ := w29.2.1
              have hfo9 := w29.2.2
              refine lv_istore (lv' := [(5, .int r30), (0, .ref h1), (1, .int (nI j_p0)), (2, .int (nI j_p1)), (3, .int (nI j_p2)), (4, .int p3)]) hx hb dX10_between_80 hl (by decide) rfl (fun ls hl => ?_)
              refine lv_iload hx hb dX10_between_82 (lv_at hl 0 rfl) ?_
              refine lv_if_ge (tgt := 92) hx hb dX10_between_84 (by decide) (fun c37 => ?_) (fun c37 => ?_)
              · refine lv_iload hx hb dX10_between_92 (lv_at hl 0 rfl) ?_
                refine lv_iload hx hb dX10_between_94 (lv_at hl 5 rfl) ?_
                refine lv_iadd hx hb dX10_between_96 ?_
                refine lv_topi (fun x38 ex38 => ?_)
                refine lv_iconst (v := 1) hx hb dX10_between_97 (by decide) ?_
                refine lv_isub hx hb dX10_between_98 ?_
                refine lv_topi (fun x39 ex39 => ?_)
                refine lv_iload hx hb dX10_between_99 (lv_at hl 5 rfl) ?_
                refine lv_idiv hx hb dX10_between_101 (fun h => absurd b16 (by rw [h]; unfold inR; decide)) ?_
                refine lv_topi (fun x40 ex40 => ?_)
                have hP9 := (hP.sub (ws' := [(h1, .inr (6, [.int (nI k), .ref a_maps, .int told, .ref a_kinds, v_land, v_spades, .ref a_part, v_pad, v_padMany, v_slips, v_slipMany, v_made, .ref a_queue, .ref a_depth, .ref a_by, .ref a_from, .int (nI cm1_32), v_offOf, v_parent, v_best, v_trees, v_least, v_sums, v_toward, v_kept, v_isKept, v_keptAt, v_isWriting])), (a_maps, .inl (gI G, 6, .inl fm)), (a_kinds, .inl (gI G, 4, .inl fk)), (a_part, .inl (gI G, 6, .inl fp)), (a_queue, .inl (gI G, 15625, .inl gq_33)), (a_depth, .inl (gI G, 15625, .inl gd_34)), (a_by, .inl (gI G, 15625, .inl gb_35)), (a_from, .inl (gI G, 15625, .inl gr_36))]) [0, 1, 2, 3, 4, 5, 6, 7] rfl)
                have hD9 := (hD.sub (ws' := [(h1, .inr (6, [.int (nI k), .ref a_maps, .int told, .ref a_kinds, v_land, v_spades, .ref a_part, v_pad, v_padMany, v_slips, v_slipMany, v_made, .ref a_queue, .ref a_depth, .ref a_by, .ref a_from, .int (nI cm1_32), v_offOf, v_parent, v_best, v_trees, v_least, v_sums, v_toward, v_kept, v_isKept, v_keptAt, v_isWriting])), (a_maps, .inl (gI G, 6, .inl fm)), (a_kinds, .inl (gI G, 4, .inl fk)), (a_part, .inl (gI G, 6, .inl fp)), (a_queue, .inl (gI G, 15625, .inl gq_33)), (a_depth, .inl (gI G, 15625, .inl gd_34)), (a_by, .inl (gI G, 15625, .inl gb_35)), (a_from, .inl (gI G, 15625, .inl gr_36))]) [0, 1, 2, 3, 4, 5, 6, 7] (by decide) rfl)
                exact W.iret (v := x40) hx hb hr (fun t9_ ht9_ hW9_ => ⟨⟨x40, (nI cm1_32, gq_33, gd_34, gb_35, gr_36), rfl, btP_4 (x := r30) hj_p0 ej_p0 hj_p1 ej_p1 hj_p2 ej_p2 b16 ⟨(by rw [ej_p0]; exact b20), (by rw [ej_p1]; exact b24)⟩ (fun x9 h9 => Iff.rfl) (by rw [hfo9]; exact go_ds hk6 hmf.1 hdo9 hgo9 hmt.1) (by rw [ex40, ex39, ex38]; exact (cIf_f (by have q9 := c37; simp only [i3_le, i3_lt, Int32.reduceToInt] at q9 ⊢; omega)).symm), by rw [ht9_]; exact hP9, hD9⟩, hS.F ht9_⟩) hS.2.2 dX10_between_102
              · refine lv_bipush (v := (-6)) hx hb dX10_between_87 (by decide) ?_
                refine lv_goto (tgt := 102) hx hb dX10_between_89 (by decide) ?_
                have hP9 := (hP.sub (ws' := [(h1, .inr (6, [.int (nI k), .ref a_maps, .int told, .ref a_kinds, v_land, v_spades, .ref a_part, v_pad, v_padMany, v_slips, v_slipMany, v_made, .ref a_queue, .ref a_depth, .ref a_by, .ref a_from, .int (nI cm1_32), v_offOf, v_parent, v_best, v_trees, v_least, v_sums, v_toward, v_kept, v_isKept, v_keptAt, v_isWriting])), (a_maps, .inl (gI G, 6, .inl fm)), (a_kinds, .inl (gI G, 4, .inl fk)), (a_part, .inl (gI G, 6, .inl fp)), (a_queue, .inl (gI G, 15625, .inl gq_33)), (a_depth, .inl (gI G, 15625, .inl gd_34)), (a_by, .inl (gI G, 15625, .inl gb_35)), (a_from, .inl (gI G, 15625, .inl gr_36))]) [0, 1, 2, 3, 4, 5, 6, 7] rfl)
                have hD9 := (hD.sub (ws' := [(h1, .inr (6, [.int (nI k), .ref a_maps, .int told, .ref a_kinds, v_land, v_spades, .ref a_part, v_pad, v_padMany, v_slips, v_slipMany, v_made, .ref a_queue, .ref a_depth, .ref a_by, .ref a_from, .int (nI cm1_32), v_offOf, v_parent, v_best, v_trees, v_least, v_sums, v_toward, v_kept, v_isKept, v_keptAt, v_isWriting])), (a_maps, .inl (gI G, 6, .inl fm)), (a_kinds, .inl (gI G, 4, .inl fk)), (a_part, .inl (gI G, 6, .inl fp)), (a_queue, .inl (gI G, 15625, .inl gq_33)), (a_depth, .inl (gI G, 15625, .inl gd_34)), (a_by, .inl (gI G, 15625, .inl gb_35)), (a_from, .inl (gI G, 15625, .inl gr_36))]) [0, 1, 2, 3, 4, 5, 6, 7] (by decide) rfl)
                exact W.iret (v := (-6)) hx hb hr (fun t9_ ht9_ hW9_ => ⟨⟨(-6), (nI cm1_32, gq_33, gd_34, gb_35, gr_36), rfl, btP_4 (x := r30) hj_p0 ej_p0 hj_p1 ej_p1 hj_p2 ej_p2 b16 ⟨(by rw [ej_p0]; exact b20), (by rw [ej_p1]; exact b24)⟩ (fun x9 h9 => Iff.rfl) (by rw [hfo9]; exact go_ds hk6 hmf.1 hdo9 hgo9 hmt.1) (cIf_t (by have q9 := c37; simp only [i3_le, i3_lt, Int32.reduceToInt] at q9 ⊢; omega)).symm, by rw [ht9_]; exact hP9, hD9⟩, hS.F ht9_⟩) hS.2.2 dX10_between_102
            · refine lv_if_ne (tgt := 58) hx hb dX10_between_52 (by decide) (fun c41 => False.elim (by revert c41; decide)) (fun _ => ?_)
              refine lv_bipush (v := (-3)) hx hb dX10_between_55 (by decide) ?_
              have hP9 := (hP.sub (ws' := [(h1, .inr (6, [.int (nI k), .ref a_maps, .int told, .ref a_kinds, v_land, v_spades, .ref a_part, v_pad, v_padMany, v_slips, v_slipMany, v_made, .ref a_queue, .ref a_depth, .ref a_by, .ref a_from, .int cm0, v_offOf, v_parent, v_best, v_trees, v_least, v_sums, v_toward, v_kept, v_isKept, v_keptAt, v_isWriting])), (a_maps, .inl (gI G, 6, .inl fm)), (a_kinds, .inl (gI G, 4, .inl fk)), (a_part, .inl (gI G, 6, .inl fp)), (a_queue, .inl (gI G, 15625, .inl fq)), (a_depth, .inl (gI G, 15625, .inl fd)), (a_by, .inl (gI G, 15625, .inl fb)), (a_from, .inl (gI G, 15625, .inl fr))]) [0, 1, 2, 3, 4, 5, 6, 7] rfl)
              have hD9 := (hD.sub (ws' := [(h1, .inr (6, [.int (nI k), .ref a_maps, .int told, .ref a_kinds, v_land, v_spades, .ref a_part, v_pad, v_padMany, v_slips, v_slipMany, v_made, .ref a_queue, .ref a_depth, .ref a_by, .ref a_from, .int cm0, v_offOf, v_parent, v_best, v_trees, v_least, v_sums, v_toward, v_kept, v_isKept, v_keptAt, v_isWriting])), (a_maps, .inl (gI G, 6, .inl fm)), (a_kinds, .inl (gI G, 4, .inl fk)), (a_part, .inl (gI G, 6, .inl fp)), (a_queue, .inl (gI G, 15625, .inl fq)), (a_depth, .inl (gI G, 15625, .inl fd)), (a_by, .inl (gI G, 15625, .inl fb)), (a_from, .inl (gI G, 15625, .inl fr))]) [0, 1, 2, 3, 4, 5, 6, 7] (by decide) rfl)
              exact W.iret (v := (-3)) hx hb hr (fun t9_ ht9_ hW9_ => ⟨⟨(-3), (cm0, fq, fd, fb, fr), rfl, Or.inr ⟨⟨b3, b7, b11⟩, Or.inr ⟨b16, Or.inl ⟨fun q9 => b24 (by rw [← ej_p1]; exact q9.2), rfl⟩⟩⟩, by rw [ht9_]; exact hP9, hD9⟩, hS.F ht9_⟩) hS.2.2 dX10_between_57
          · refine lv_if_eq (tgt := 55) hx hb dX10_between_44 (by decide) (fun _ => ?_) (fun c42 => False.elim (by revert c42; decide))
            refine lv_bipush (v := (-3)) hx hb dX10_between_55 (by decide) ?_
            have hP9 := (hP.sub (ws' := [(h1, .inr (6, [.int (nI k), .ref a_maps, .int told, .ref a_kinds, v_land, v_spades, .ref a_part, v_pad, v_padMany, v_slips, v_slipMany, v_made, .ref a_queue, .ref a_depth, .ref a_by, .ref a_from, .int cm0, v_offOf, v_parent, v_best, v_trees, v_least, v_sums, v_toward, v_kept, v_isKept, v_keptAt, v_isWriting])), (a_maps, .inl (gI G, 6, .inl fm)), (a_kinds, .inl (gI G, 4, .inl fk)), (a_part, .inl (gI G, 6, .inl fp)), (a_queue, .inl (gI G, 15625, .inl fq)), (a_depth, .inl (gI G, 15625, .inl fd)), (a_by, .inl (gI G, 15625, .inl fb)), (a_from, .inl (gI G, 15625, .inl fr))]) [0, 1, 2, 3, 4, 5, 6, 7] rfl)
            have hD9 := (hD.sub (ws' := [(h1, .inr (6, [.int (nI k), .ref a_maps, .int told, .ref a_kinds, v_land, v_spades, .ref a_part, v_pad, v_padMany, v_slips, v_slipMany, v_made, .ref a_queue, .ref a_depth, .ref a_by, .ref a_from, .int cm0, v_offOf, v_parent, v_best, v_trees, v_least, v_sums, v_toward, v_kept, v_isKept, v_keptAt, v_isWriting])), (a_maps, .inl (gI G, 6, .inl fm)), (a_kinds, .inl (gI G, 4, .inl fk)), (a_part, .inl (gI G, 6, .inl fp)), (a_queue, .inl (gI G, 15625, .inl fq)), (a_depth, .inl (gI G, 15625, .inl fd)), (a_by, .inl (gI G, 15625, .inl fb)), (a_from, .inl (gI G, 15625, .inl fr))]) [0, 1, 2, 3, 4, 5, 6, 7] (by decide) rfl)
            exact W.iret (v := (-3)) hx hb hr (fun t9_ ht9_ hW9_ => ⟨⟨(-3), (cm0, fq, fd, fb, fr), rfl, Or.inr ⟨⟨b3, b7, b11⟩, Or.inr ⟨b16, Or.inl ⟨fun q9 => b20 (by rw [← ej_p0]; exact q9.1), rfl⟩⟩⟩, by rw [ht9_]; exact hP9, hD9⟩, hS.F ht9_⟩) hS.2.2 dX10_between_57
        · refine lv_if_ne (tgt := 39) hx hb dX10_between_33 (by decide) (fun c43 => False.elim (by revert c43; decide)) (fun _ => ?_)
          refine lv_bipush (v := (-2)) hx hb dX10_between_36 (by decide) ?_
          have hP9 := (hP.sub (ws' := [(h1, .inr (6, [.int (nI k), .ref a_maps, .int told, .ref a_kinds, v_land, v_spades, .ref a_part, v_pad, v_padMany, v_slips, v_slipMany, v_made, .ref a_queue, .ref a_depth, .ref a_by, .ref a_from, .int cm0, v_offOf, v_parent, v_best, v_trees, v_least, v_sums, v_toward, v_kept, v_isKept, v_keptAt, v_isWriting])), (a_maps, .inl (gI G, 6, .inl fm)), (a_kinds, .inl (gI G, 4, .inl fk)), (a_part, .inl (gI G, 6, .inl fp)), (a_queue, .inl (gI G, 15625, .inl fq)), (a_depth, .inl (gI G, 15625, .inl fd)), (a_by, .inl (gI G, 15625, .inl fb)), (a_from, .inl (gI G, 15625, .inl fr))]) [0, 1, 2, 3, 4, 5, 6, 7] rfl)
          have hD9 := (hD.sub (ws' := [(h1, .inr (6, [.int (nI k), .ref a_maps, .int told, .ref a_kinds, v_land, v_spades, .ref a_part, v_pad, v_padMany, v_slips, v_slipMany, v_made, .ref a_queue, .ref a_depth, .ref a_by, .ref a_from, .int cm0, v_offOf, v_parent, v_best, v_trees, v_least, v_sums, v_toward, v_kept, v_isKept, v_keptAt, v_isWriting])), (a_maps, .inl (gI G, 6, .inl fm)), (a_kinds, .inl (gI G, 4, .inl fk)), (a_part, .inl (gI G, 6, .inl fp)), (a_queue, .inl (gI G, 15625, .inl fq)), (a_depth, .inl (gI G, 15625, .inl fd)), (a_by, .inl (gI G, 15625, .inl fb)), (a_from, .inl (gI G, 15625, .inl fr))]) [0, 1, 2, 3, 4, 5, 6, 7] (by decide) rfl)
          exact W.iret (v := (-2)) hx hb hr (fun t9_ ht9_ hW9_ => ⟨⟨(-2), (cm0, fq, fd, fb, fr), rfl, Or.inr ⟨⟨b3, b7, b11⟩, Or.inl ⟨b16, rfl⟩⟩, by rw [ht9_]; exact hP9, hD9⟩, hS.F ht9_⟩) hS.2.2 dX10_between_38
      · refine lv_if_ne (tgt := 23) hx hb dX10_between_18 (by decide) (fun c44 => False.elim (by revert c44; decide)) (fun _ => ?_)
        refine lv_iconst (v := (-1)) hx hb dX10_between_21 (by decide) ?_
        have hP9 := (hP.sub (ws' := [(h1, .inr (6, [.int (nI k), .ref a_maps, .int told, .ref a_kinds, v_land, v_spades, .ref a_part, v_pad, v_padMany, v_slips, v_slipMany, v_made, .ref a_queue, .ref a_depth, .ref a_by, .ref a_from, .int cm0, v_offOf, v_parent, v_best, v_trees, v_least, v_sums, v_toward, v_kept, v_isKept, v_keptAt, v_isWriting])), (a_maps, .inl (gI G, 6, .inl fm)), (a_kinds, .inl (gI G, 4, .inl fk)), (a_part, .inl (gI G, 6, .inl fp)), (a_queue, .inl (gI G, 15625, .inl fq)), (a_depth, .inl (gI G, 15625, .inl fd)), (a_by, .inl (gI G, 15625, .inl fb)), (a_from, .inl (gI G, 15625, .inl fr))]) [0, 1, 2, 3, 4, 5, 6, 7] rfl)
        have hD9 := (hD.sub (ws' := [(h1, .inr (6, [.int (nI k), .ref a_maps, .int told, .ref a_kinds, v_land, v_spades, .ref a_part, v_pad, v_padMany, v_slips, v_slipMany, v_made, .ref a_queue, .ref a_depth, .ref a_by, .ref a_from, .int cm0, v_offOf, v_parent, v_best, v_trees, v_least, v_sums, v_toward, v_kept, v_isKept, v_keptAt, v_isWriting])), (a_maps, .inl (gI G, 6, .inl fm)), (a_kinds, .inl (gI G, 4, .inl fk)), (a_part, .inl (gI G, 6, .inl fp)), (a_queue, .inl (gI G, 15625, .inl fq)), (a_depth, .inl (gI G, 15625, .inl fd)), (a_by, .inl (gI G, 15625, .inl fb)), (a_from, .inl (gI G, 15625, .inl fr))]) [0, 1, 2, 3, 4, 5, 6, 7] (by decide) rfl)
        exact W.iret (v := (-1)) hx hb hr (fun t9_ ht9_ hW9_ => ⟨⟨(-1), (cm0, fq, fd, fb, fr), rfl, Or.inl ⟨fun q9 => b11 q9.2.2, rfl⟩, by rw [ht9_]; exact hP9, hD9⟩, hS.F ht9_⟩) hS.2.2 dX10_between_22
    · refine lv_if_eq (tgt := 21) hx hb dX10_between_11 (by decide) (fun _ => ?_) (fun c45 => False.elim (by revert c45; decide))
      refine lv_iconst (v := (-1)) hx hb dX10_between_21 (by decide) ?_
      have hP9 := (hP.sub (ws' := [(h1, .inr (6, [.int (nI k), .ref a_maps, .int told, .ref a_kinds, v_land, v_spades, .ref a_part, v_pad, v_padMany, v_slips, v_slipMany, v_made, .ref a_queue, .ref a_depth, .ref a_by, .ref a_from, .int cm0, v_offOf, v_parent, v_best, v_trees, v_least, v_sums, v_toward, v_kept, v_isKept, v_keptAt, v_isWriting])), (a_maps, .inl (gI G, 6, .inl fm)), (a_kinds, .inl (gI G, 4, .inl fk)), (a_part, .inl (gI G, 6, .inl fp)), (a_queue, .inl (gI G, 15625, .inl fq)), (a_depth, .inl (gI G, 15625, .inl fd)), (a_by, .inl (gI G, 15625, .inl fb)), (a_from, .inl (gI G, 15625, .inl fr))]) [0, 1, 2, 3, 4, 5, 6, 7] rfl)
      have hD9 := (hD.sub (ws' := [(h1, .inr (6, [.int (nI k), .ref a_maps, .int told, .ref a_kinds, v_land, v_spades, .ref a_part, v_pad, v_padMany, v_slips, v_slipMany, v_made, .ref a_queue, .ref a_depth, .ref a_by, .ref a_from, .int cm0, v_offOf, v_parent, v_best, v_trees, v_least, v_sums, v_toward, v_kept, v_isKept, v_keptAt, v_isWriting])), (a_maps, .inl (gI G, 6, .inl fm)), (a_kinds, .inl (gI G, 4, .inl fk)), (a_part, .inl (gI G, 6, .inl fp)), (a_queue, .inl (gI G, 15625, .inl fq)), (a_depth, .inl (gI G, 15625, .inl fd)), (a_by, .inl (gI G, 15625, .inl fb)), (a_from, .inl (gI G, 15625, .inl fr))]) [0, 1, 2, 3, 4, 5, 6, 7] (by decide) rfl)
      exact W.iret (v := (-1)) hx hb hr (fun t9_ ht9_ hW9_ => ⟨⟨(-1), (cm0, fq, fd, fb, fr), rfl, Or.inl ⟨fun q9 => b7 q9.2.1, rfl⟩, by rw [ht9_]; exact hP9, hD9⟩, hS.F ht9_⟩) hS.2.2 dX10_between_22
  · refine lv_if_eq (tgt := 21) hx hb dX10_between_4 (by decide) (fun _ => ?_) (fun c46 => False.elim (by revert c46; decide))
    refine lv_iconst (v := (-1)) hx hb dX10_between_21 (by decide) ?_
    have hP9 := (hP.sub (ws' := [(h1, .inr (6, [.int (nI k), .ref a_maps, .int told, .ref a_kinds, v_land, v_spades, .ref a_part, v_pad, v_padMany, v_slips, v_slipMany, v_made, .ref a_queue, .ref a_depth, .ref a_by, .ref a_from, .int cm0, v_offOf, v_parent, v_best, v_trees, v_least, v_sums, v_toward, v_kept, v_isKept, v_keptAt, v_isWriting])), (a_maps, .inl (gI G, 6, .inl fm)), (a_kinds, .inl (gI G, 4, .inl fk)), (a_part, .inl (gI G, 6, .inl fp)), (a_queue, .inl (gI G, 15625, .inl fq)), (a_depth, .inl (gI G, 15625, .inl fd)), (a_by, .inl (gI G, 15625, .inl fb)), (a_from, .inl (gI G, 15625, .inl fr))]) [0, 1, 2, 3, 4, 5, 6, 7] rfl)
    have hD9 := (hD.sub (ws' := [(h1, .inr (6, [.int (nI k), .ref a_maps, .int told, .ref a_kinds, v_land, v_spades, .ref a_part, v_pad, v_padMany, v_slips, v_slipMany, v_made, .ref a_queue, .ref a_depth, .ref a_by, .ref a_from, .int cm0, v_offOf, v_parent, v_best, v_trees, v_least, v_sums, v_toward, v_kept, v_isKept, v_keptAt, v_isWriting])), (a_maps, .inl (gI G, 6, .inl fm)), (a_kinds, .inl (gI G, 4, .inl fk)), (a_part, .inl (gI G, 6, .inl fp)), (a_queue, .inl (gI G, 15625, .inl fq)), (a_depth, .inl (gI G, 15625, .inl fd)), (a_by, .inl (gI G, 15625, .inl fb)), (a_from, .inl (gI G, 15625, .inl fr))]) [0, 1, 2, 3, 4, 5, 6, 7] (by decide) rfl)
    exact W.iret (v := (-1)) hx hb hr (fun t9_ ht9_ hW9_ => ⟨⟨(-1), (cm0, fq, fd, fb, fr), rfl, Or.inl ⟨fun q9 => b3 q9.1, rfl⟩, by rw [ht9_]; exact hP9, hD9⟩, hS.F ht9_⟩) hS.2.2 dX10_between_22

set_option maxHeartbeats 1000000 in
set_option maxRecDepth 100000 in
theorem m3_who (l : Launch) (G : Gy) (sz : Nat) (h1 : Nat) (v_land : Value) (v_spades : Value) (v_pad : Value) (v_padMany : Value) (v_slips : Value) (v_slipMany : Value) (v_made : Value) (v_offOf : Value) (v_parent : Value) (v_best : Value) (v_trees : Value) (v_least : Value) (v_sums : Value) (v_toward : Value) (v_kept : Value) (v_isKept : Value) (v_keptAt : Value) (v_isWriting : Value) (a_maps : Nat) (fm : Nat → Int32) (a_kinds : Nat) (fk : Nat → Int32) (a_part : Nat) (fp : Nat → Int32) (a_queue : Nat) (a_depth : Nat) (a_by : Nat) (a_from : Nat) (fq : Nat → Int32) (fd : Nat → Int32) (fb : Nat → Int32) (fr : Nat → Int32) (k : Nat) (told : Int32) (cm0 : Int32) (p0 : Int32) (p1 : Int32) (p2 : Int32) (hk2 : 2 ≤ k) (hk6 : k ≤ 6) (hp : pOK k fp) (hfm : mapsOK k fm) : Ci l G yX10_who wsX10_who ({ frames := 5, cells := 0, slots := 0, locals := 121 }) [.ref h1, .int p0, .int p1, .int p2] ([(h1, .inr (6, [.int (nI k), .ref a_maps, .int told, .ref a_kinds, v_land, v_spades, .ref a_part, v_pad, v_padMany, v_slips, v_slipMany, v_made, .ref a_queue, .ref a_depth, .ref a_by, .ref a_from, .int cm0, v_offOf, v_parent, v_best, v_trees, v_least, v_sums, v_toward, v_kept, v_isKept, v_keptAt, v_isWriting])), (a_maps, .inl (gI G, 6, .inl fm)), (a_kinds, .inl (gI G, 4, .inl fk)), (a_part, .inl (gI G, 6, .inl fp)), (a_queue, .inl (gI G, 15625, .inl fq)), (a_depth, .inl (gI G, 15625, .inl fd)), (a_by, .inl (gI G, 15625, .inl fb)), (a_from, .inl (gI G, 15625, .inl fr))]) sz (fun (r : Int32) (u : Int32 × (Nat → Int32) × (Nat → Int32) × (Nat → Int32) × (Nat → Int32)) => match u with | (cm1, gq, gd, gb, gr) => r = whA k told (maN fm) fk p0 p1 p2) (fun (u : Int32 × (Nat → Int32) × (Nat → Int32) × (Nat → Int32) × (Nat → Int32)) => match u with | (cm1, gq, gd, gb, gr) => [(h1, .inr (6, [.int (nI k), .ref a_maps, .int told, .ref a_kinds, v_land, v_spades, .ref a_part, v_pad, v_padMany, v_slips, v_slipMany, v_made, .ref a_queue, .ref a_depth, .ref a_by, .ref a_from, .int cm1, v_offOf, v_parent, v_best, v_trees, v_least, v_sums, v_toward, v_kept, v_isKept, v_keptAt, v_isWriting])), (a_maps, .inl (gI G, 6, .inl fm)), (a_kinds, .inl (gI G, 4, .inl fk)), (a_part, .inl (gI G, 6, .inl fp)), (a_queue, .inl (gI G, 15625, .inl gq)), (a_depth, .inl (gI G, 15625, .inl gd)), (a_by, .inl (gI G, 15625, .inl gb)), (a_from, .inl (gI G, 15625, .inl gr))]) 0 0 := by
  refine Met.ofW (cc := cX10_who) (maxL := 7) (ret := (some .int)) (by decide) rfl ?_
  intro p e s m args below meth c s₁ B hml hv
  obtain ⟨rfl, hsz, hP, hD0, E0⟩ := hv
  have hx := B.exec
  have hb := B.bytes
  have hr := B.returns
  have hts := atoms_spec (ws := wsX10_who) B.pre
  have hown : s.vm.findClass RX10 = some m.cls := findClass_of_methodNamed B.named
  have hlocks := B.notSynchronized
  subst hsz
  have hD := hD0.self (sz := s.heap.size)
  generalize hAe : va_A ([(h1, .inr (6, [.int (nI k), .ref a_maps, .int told, .ref a_kinds, v_land, v_spades, .ref a_part, v_pad, v_padMany, v_slips, v_slipMany, v_made, .ref a_queue, .ref a_depth, .ref a_by, .ref a_from, .int cm0, v_offOf, v_parent, v_best, v_trees, v_least, v_sums, v_toward, v_kept, v_isKept, v_keptAt, v_isWriting])), (a_maps, .inl (gI G, 6, .inl fm)), (a_kinds, .inl (gI G, 4, .inl fk)), (a_part, .inl (gI G, 6, .inl fp)), (a_queue, .inl (gI G, 15625, .inl fq)), (a_depth, .inl (gI G, 15625, .inl fd)), (a_by, .inl (gI G, 15625, .inl fb)), (a_from, .inl (gI G, 15625, .inl fr))]) s.heap.size = A at hD E0 ⊢
  have E : EV G A s s.heap := E0
  have hA : ∀ q : Nat, s.heap.size ≤ q → A q := fun q h => by rw [← hAe]; exact Or.inr h
  have hS : va_S A s.heap s.heap [] := va_S.rf
  have hl := lv_entry ([.ref h1, .int p0, .int p1, .int p2]) (n := 7) (Nat.le_of_ble_eq_true rfl)
  rw [lg_entry_eq]
  generalize (lg_sl ([.ref h1, .int p0, .int p1, .int p2]) ++ List.replicate (7 - (lg_sl ([.ref h1, .int p0, .int p1, .int p2])).length) Slot.unset).toArray = ls at hl ⊢
  have hl : lv_has ls 7 [(0, .ref h1), (1, .int p0), (2, .int p1), (3, .int p2)] := hl
  have hP : va_P G.1 vwCl ([(h1, .inr (6, [.int (nI k), .ref a_maps, .int told, .ref a_kinds, v_land, v_spades, .ref a_part, v_pad, v_padMany, v_slips, v_slipMany, v_made, .ref a_queue, .ref a_depth, .ref a_by, .ref a_from, .int cm0, v_offOf, v_parent, v_best, v_trees, v_least, v_sums, v_toward, v_kept, v_isKept, v_keptAt, v_isWriting])), (a_maps, .inl (gI G, 6, .inl fm)), (a_kinds, .inl (gI G, 4, .inl fk)), (a_part, .inl (gI G, 6, .inl fp)), (a_queue, .inl (gI G, 15625, .inl fq)), (a_depth, .inl (gI G, 15625, .inl fd)), (a_by, .inl (gI G, 15625, .inl fb)), (a_from, .inl (gI G, 15625, .inl fr))]) s.heap := hP
  have hal := p5le hk6
  refine lv_iload_n hx hb dX10_who_0 rfl (lv_at hl 1 rfl) ?_
  refine ca_iR (va_runS (As := [.int p0]) (rest := []) ⟨hx, hb, hml, hown, hts⟩ (m_isMap l G s.heap.size p0) (va_cwS 1 hts gX10_who_X10_isMap rfl rfl rfl (by decide +kernel) ⟨by decide +kernel, by decide +kernel⟩) (pre_S E hP hD hS hA [] (by decide) rfl) rfl rfl hl.1 rfl (lv_room (Nat.le_of_ble_eq_true rfl)) dX10_who_1 ⟨by decide +kernel, by decide +kernel⟩) hS hP hD hA [] rfl (fun r2 _ H locs w1 hP hS => ?_)
  rcases w1 with ⟨rfl, b3⟩ | ⟨rfl, b3⟩
  · refine lv_if_eq (tgt := 14) hx hb dX10_who_4 (by decide) (fun c4 => False.elim (by revert c4; decide)) (fun _ => ?_)
    refine lv_iload_n hx hb dX10_who_7 rfl (lv_at hl 2 rfl) ?_
    refine ca_iR (va_runS (As := [.int p1]) (rest := []) ⟨hx, hb, hml, hown, hts⟩ (m_isMap l G H.size p1) (va_cwS 1 hts gX10_who_X10_isMap rfl rfl rfl (by decide +kernel) ⟨by decide +kernel, by decide +kernel⟩) (pre_S E hP hD hS hA [] (by decide) rfl) rfl rfl hl.1 rfl (lv_room (Nat.le_of_ble_eq_true rfl)) dX10_who_8 ⟨by decide +kernel, by decide +kernel⟩) hS hP hD hA [] rfl (fun r6 _ H locs w5 hP hS => ?_)
    rcases w5 with ⟨rfl, b7⟩ | ⟨rfl, b7⟩
    · refine lv_if_ne (tgt := 16) hx hb dX10_who_11 (by decide) (fun _ => ?_) (fun c8 => False.elim (by revert c8; decide))
      refine lv_iload_n hx hb dX10_who_16 rfl (lv_at hl 3 rfl) ?_
      refine lv_i2l hx hb dX10_who_17 rfl ?_
      refine lv_topl (fun x9 ex9 => ?_)
      refine lv_lconst (v := 0) hx hb dX10_who_18 (by decide) ?_
      refine lv_ldc2 (v := 30) hx hb hown (hts (.constantLong RX10 181 (30)) (by decide +kernel)) dX10_who_19 ?_
      refine ca_iR (va_runS (As := [.long x9, .long 0, .long 30]) (rest := []) ⟨hx, hb, hml, hown, hts⟩ (m_in l G H.size x9 0 30 p2 0 30 ex9 (by decide) (by decide)) (va_cwS 3 hts gX10_who_X10_in rfl rfl rfl (by decide +kernel) ⟨by decide +kernel, by decide +kernel⟩) (pre_S E hP hD hS hA [] (by decide) rfl) rfl rfl hl.1 rfl (lv_room (Nat.le_of_ble_eq_true rfl)) dX10_who_22 ⟨by decide +kernel, by decide +kernel⟩) hS hP hD hA [] rfl (fun r11 _ H locs w10 hP hS => ?_)
      rcases w10 with ⟨rfl, b12⟩ | ⟨rfl, b12⟩
      · refine lv_if_ne (tgt := 31) hx hb dX10_who_25 (by decide) (fun _ => ?_) (fun c13 => False.elim (by revert c13; decide))
        obtain ⟨j_p0, hj_p0, ej_p0⟩ := inR6 b3
        have hl : lv_has ls 7 [(0, .ref h1), (1, .int (nI j_p0)), (2, .int p1), (3, .int p2)] := by have q := hl; rw [ej_p0] at q; exact q
        obtain ⟨j_p1, hj_p1, ej_p1⟩ := inR6 b7
        have hl : lv_has ls 7 [(0, .ref h1), (1, .int (nI j_p0)), (2, .int (nI j_p1)), (3, .int p2)] := by have q := hl; rw [ej_p1] at q; exact q
        obtain ⟨j_p2, hj_p2, ej_p2⟩ := inRn (n := 30) (by decide) b12
        have hl : lv_has ls 7 [(0, .ref h1), (1, .int (nI j_p0)), (2, .int (nI j_p1)), (3, .int (nI j_p2))] := by have q := hl; rw [ej_p2] at q; exact q
        refine lv_aload_n hx hb dX10_who_31 rfl (lv_at hl 0 rfl) ?_
        refine lv_iload_n hx hb dX10_who_32 rfl (lv_at hl 1 rfl) ?_
        refine ca_iR (va_runV (As := [.int (nI j_p0)]) (rest := []) ⟨hx, hb, hml, hown, hts⟩ (m_isTold l G H.size h1 (.int (nI k)) (.ref a_maps) (.ref a_kinds) v_land v_spades (.ref a_part) v_pad v_padMany v_slips v_slipMany v_made (.ref a_queue) (.ref a_depth) (.ref a_by) (.ref a_from) (.int cm0) v_offOf v_parent v_best v_trees v_least v_sums v_toward v_kept v_isKept v_keptAt v_isWriting told (nI j_p0)) (cwV 1 hts gX10_who_X10_isTold rfl rfl rfl (by decide +kernel) ⟨by decide +kernel, by decide +kernel⟩) (pre_V E hP hD hS hA [0] (by decide) rfl 0 6 rfl rfl) rfl rfl hl.1 rfl (lv_room (Nat.le_of_ble_eq_true rfl)) dX10_who_33 ⟨by decide +kernel, by decide +kernel⟩) hS hP hD hA [0] rfl (fun r15 _ H locs w14 hP hS => ?_)
        rcases w14 with ⟨rfl, b16⟩ | ⟨rfl, b16⟩
        · refine lv_if_eq (tgt := 47) hx hb dX10_who_36 (by decide) (fun c17 => False.elim (by revert c17; decide)) (fun _ => ?_)
          refine lv_aload_n hx hb dX10_who_39 rfl (lv_at hl 0 rfl) ?_
          refine lv_iload_n hx hb dX10_who_40 rfl (lv_at hl 2 rfl) ?_
          refine ca_iR (va_runV (As := [.int (nI j_p1)]) (rest := []) ⟨hx, hb, hml, hown, hts⟩ (m_isTold l G H.size h1 (.int (nI k)) (.ref a_maps) (.ref a_kinds) v_land v_spades (.ref a_part) v_pad v_padMany v_slips v_slipMany v_made (.ref a_queue) (.ref a_depth) (.ref a_by) (.ref a_from) (.int cm0) v_offOf v_parent v_best v_trees v_least v_sums v_toward v_kept v_isKept v_keptAt v_isWriting told (nI j_p1)) (cwV 1 hts gX10_who_X10_isTold rfl rfl rfl (by decide +kernel) ⟨by decide +kernel, by decide +kernel⟩) (pre_V E hP hD hS hA [0] (by decide) rfl 0 6 rfl rfl) rfl rfl hl.1 rfl (lv_room (Nat.le_of_ble_eq_true rfl)) dX10_who_41 ⟨by decide +kernel, by decide +kernel⟩) hS hP hD hA [0] rfl (fun r19 _ H locs w18 hP hS => ?_)
          rcases w18 with ⟨rfl, b20⟩ | ⟨rfl, b20⟩
          · refine lv_if_ne (tgt := 50) hx hb dX10_who_44 (by decide) (fun _ => ?_) (fun c21 => False.elim (by revert c21; decide))
            refine lv_iconst (v := 0) hx hb dX10_who_50 (by decide) ?_
            refine lv_istore (lv' := [(4, .int 0), (0, .ref h1), (1, .int (nI j_p0)), (2, .int (nI j_p1)), (3, .int (nI j_p2))]) hx hb dX10_who_51 hl (by decide) rfl (fun ls hl => ?_)
            have hmf := maN_ok hk6 hfm hj_p0
            have hmt := maN_ok hk6 hfm hj_p1
            refine lv_iconst (v := 0) hx hb dX10_who_53 (by decide) ?_
            refine lv_istore (lv' := [(5, .int 0), (4, .int 0), (0, .ref h1), (1, .int (nI j_p0)), (2, .int (nI j_p1)), (3, .int (nI j_p2))]) hx hb dX10_who_54 hl (by decide) rfl (fun ls hl => ?_)
            refine lp_run (x0 := (0, 0, cm0, fq, fd, fb, fr)) (fun xx_ : Nat × Int32 × Int32 × (Nat → Int32) × (Nat → Int32) × (Nat → Int32) × (Nat → Int32) => match xx_ with | (x, bi, cm1, fq1, fd1, fb1, fr1) => [(h1, .inr (6, [.int (nI k), .ref a_maps, .int told, .ref a_kinds, v_land, v_spades, .ref a_part, v_pad, v_padMany, v_slips, v_slipMany, v_made, .ref a_queue, .ref a_depth, .ref a_by, .ref a_from, .int cm1, v_offOf, v_parent, v_best, v_trees, v_least, v_sums, v_toward, v_kept, v_isKept, v_keptAt, v_isWriting])), (a_maps, .inl (gI G, 6, .inl fm)), (a_kinds, .inl (gI G, 4, .inl fk)), (a_part, .inl (gI G, 6, .inl fp)), (a_queue, .inl (gI G, 15625, .inl fq1)), (a_depth, .inl (gI G, 15625, .inl fd1)), (a_by, .inl (gI G, 15625, .inl fb1)), (a_from, .inl (gI G, 15625, .inl fr1))]) (fun xx_ : Nat × Int32 × Int32 × (Nat → Int32) × (Nat → Int32) × (Nat → Int32) × (Nat → Int32) => match xx_ with | (x, bi, cm1, fq1, fd1, fb1, fr1) => [(5, .int (nI x)), (4, .int bi), (0, .ref h1), (1, .int (nI j_p0)), (2, .int (nI j_p1)), (3, .int (nI j_p2))]) (fun xx_ : Nat × Int32 × Int32 × (Nat → Int32) × (Nat → Int32) × (Nat → Int32) × (Nat → Int32) => match xx_ with | (x, bi, cm1, fq1, fd1, fb1, fr1) => (x ≤ 4) ∧ (bi = hbA (whR k fk (maN fm j_p0) (maN fm j_p1) j_p2) x)) (fun xx_ : Nat × Int32 × Int32 × (Nat → Int32) × (Nat → Int32) × (Nat → Int32) × (Nat → Int32) => match xx_ with | (x, bi, cm1, fq1, fd1, fb1, fr1) => 4 - x) (hP.sub [0, 1, 2, 3, 4, 5, 6, 7] rfl) (hD.sub [0, 1, 2, 3, 4, 5, 6, 7] (by decide) rfl) hS (lv_sub hl [0, 1, 2, 3, 4, 5] rfl) ⟨(by omega), rfl⟩ ?_
            intro xx_ hI ih56 H locs ls hP hD hS hl
            obtain ⟨x, bi, cm1, fq1, fd1, fb1, fr1⟩ := xx_
            dsimp only at hI ih56 hP hD hl
            obtain ⟨hx0, hbi⟩ := hI
            have hl : lv_has ls 7 [(5, .int (nI x)), (4, .int bi), (0, .ref h1), (1, .int (nI j_p0)), (2, .int (nI j_p1)), (3, .int (nI j_p2))] := hl
            have hP : va_P G.1 vwCl ([(h1, .inr (6, [.int (nI k), .ref a_maps, .int told, .ref a_kinds, v_land, v_spades, .ref a_part, v_pad, v_padMany, v_slips, v_slipMany, v_made, .ref a_queue, .ref a_depth, .ref a_by, .ref a_from, .int cm1, v_offOf, v_parent, v_best, v_trees, v_least, v_sums, v_toward, v_kept, v_isKept, v_keptAt, v_isWriting])), (a_maps, .inl (gI G, 6, .inl fm)), (a_kinds, .inl (gI G, 4, .inl fk)), (a_part, .inl (gI G, 6, .inl fp)), (a_queue, .inl (gI G, 15625, .inl fq1)), (a_depth, .inl (gI G, 15625, .inl fd1)), (a_by, .inl (gI G, 15625, .inl fb1)), (a_from, .inl (gI G, 15625, .inl fr1))]) H := hP
            have hD : va_D A ([(h1, .inr (6, [.int (nI k), .ref a_maps, .int told, .ref a_kinds, v_land, v_spades, .ref a_part, v_pad, v_padMany, v_slips, v_slipMany, v_made, .ref a_queue, .ref a_depth, .ref a_by, .ref a_from, .int cm1, v_offOf, v_parent, v_best, v_trees, v_least, v_sums, v_toward, v_kept, v_isKept, v_keptAt, v_isWriting])), (a_maps, .inl (gI G, 6, .inl fm)), (a_kinds, .inl (gI G, 4, .inl fk)), (a_part, .inl (gI G, 6, .inl fp)), (a_queue, .inl (gI G, 15625, .inl fq1)), (a_depth, .inl (gI G, 15625, .inl fd1)), (a_by, .inl (gI G, 15625, .inl fb1)), (a_from, .inl (gI G, 15625, .inl fr1))]) := hD
            refine lv_iload hx hb dX10_who_56 (lv_at hl 0 rfl) ?_
            refine lv_iconst (v := 4) hx hb dX10_who_58 (by decide) ?_
            refine lv_icmp_ge (tgt := 117) hx hb dX10_who_59 (by decide) (fun c22 => ?_) (fun c22 => ?_)
            · have c22 : 4 ≤ x := (nI_leI (a := 4) (b := x) (by omega) (by omega)).mp c22
              refine lv_iload hx hb dX10_who_117 (lv_at hl 1 rfl) ?_
              have hP9 := (hP.sub (ws' := [(h1, .inr (6, [.int (nI k), .ref a_maps, .int told, .ref a_kinds, v_land, v_spades, .ref a_part, v_pad, v_padMany, v_slips, v_slipMany, v_made, .ref a_queue, .ref a_depth, .ref a_by, .ref a_from, .int cm1, v_offOf, v_parent, v_best, v_trees, v_least, v_sums, v_toward, v_kept, v_isKept, v_keptAt, v_isWriting])), (a_maps, .inl (gI G, 6, .inl fm)), (a_kinds, .inl (gI G, 4, .inl fk)), (a_part, .inl (gI G, 6, .inl fp)), (a_queue, .inl (gI G, 15625, .inl fq1)), (a_depth, .inl (gI G, 15625, .inl fd1)), (a_by, .inl (gI G, 15625, .inl fb1)), (a_from, .inl (gI G, 15625, .inl fr1))]) [0, 1, 2, 3, 4, 5, 6, 7] rfl)
              have hD9 := (hD.sub (ws' := [(h1, .inr (6, [.int (nI k), .ref a_maps, .int told, .ref a_kinds, v_land, v_spades, .ref a_part, v_pad, v_padMany, v_slips, v_slipMany, v_made, .ref a_queue, .ref a_depth, .ref a_by, .ref a_from, .int cm1, v_offOf, v_parent, v_best, v_trees, v_least, v_sums, v_toward, v_kept, v_isKept, v_keptAt, v_isWriting])), (a_maps, .inl (gI G, 6, .inl fm)), (a_kinds, .inl (gI G, 4, .inl fk)), (a_part, .inl (gI G, 6, .inl fp)), (a_queue, .inl (gI G, 15625, .inl fq1)), (a_depth, .inl (gI G, 15625, .inl fd1)), (a_by, .inl (gI G, 15625, .inl fb1)), (a_from, .inl (gI G, 15625, .inl fr1))]) [0, 1, 2, 3, 4, 5, 6, 7] (by decide) rfl)
              exact W.iret (v := bi) hx hb hr (fun t9_ ht9_ hW9_ => ⟨⟨bi, (cm1, fq1, fd1, fb1, fr1), rfl, by rw [hbi, show x = 4 by omega]; exact whA_4 hj_p0 ej_p0 hj_p1 ej_p1 hj_p2 ej_p2 ⟨(by rw [ej_p0]; exact b16), (by rw [ej_p1]; exact b20)⟩, by rw [ht9_]; exact hP9, hD9⟩, hS.F ht9_⟩) hS.2.2 dX10_who_119
            · have c22 : ¬ 4 ≤ x := fun h9_ => c22 ((nI_leI (a := 4) (b := x) (by omega) (by omega)).mpr h9_)
              refine lv_aload_n hx hb dX10_who_62 rfl (lv_at hl 2 rfl) ?_
              refine lv_aload_n hx hb dX10_who_63 rfl (lv_at hl 2 rfl) ?_
              refine va_get (D := G.1) (ci := 6) (v := .ref a_maps) (C := RX10) (T := TX10) (N := 28) hx hb hts (fun _ h => List.mem_cons_of_mem _ (List.mem_append_right _ h)) hown E.K hP 0 rfl rfl 1 (by decide) (hts (.fieldLink RX10 7 "LastMapModel" "maps" "[I") (by decide +kernel)) (fun _ h9 => h9) rfl dX10_who_64 ?_
              refine lv_iload_n hx hb dX10_who_67 rfl (lv_at hl 3 rfl) ?_
              refine va_iald hx hb E.K hP 1 1 rfl rfl (i := nI j_p0) (vp_in_nI (by omega) (by decide)) dX10_who_68 ?_
              refine lv_topi (fun x23 ex23 => ?_)
              obtain rfl : x23 = nI (maN fm j_p0) := by rw [ex23, nI_clamp (by omega)]; exact hmf.2
              refine lv_aload_n hx hb dX10_who_69 rfl (lv_at hl 2 rfl) ?_
              refine va_get (D := G.1) (ci := 6) (v := .ref a_maps) (C := RX10) (T := TX10) (N := 28) hx hb hts (fun _ h => List.mem_cons_of_mem _ (List.mem_append_right _ h)) hown E.K hP 0 rfl rfl 1 (by decide) (hts (.fieldLink RX10 7 "LastMapModel" "maps" "[I") (by decide +kernel)) (fun _ h9 => h9) rfl dX10_who_70 ?_
              refine lv_iload_n hx hb dX10_who_73 rfl (lv_at hl 4 rfl) ?_
              refine va_iald hx hb E.K hP 1 1 rfl rfl (i := nI j_p1) (vp_in_nI (by omega) (by decide)) dX10_who_74 ?_
              refine lv_topi (fun x24 ex24 => ?_)
              obtain rfl : x24 = nI (maN fm j_p1) := by rw [ex24, nI_clamp (by omega)]; exact hmt.2
              refine lv_aload_n hx hb dX10_who_75 rfl (lv_at hl 2 rfl) ?_
              refine va_get (D := G.1) (ci := 6) (v := .ref a_kinds) (C := RX10) (T := TX10) (N := 28) hx hb hts (fun _ h => List.mem_cons_of_mem _ (List.mem_append_right _ h)) hown E.K hP 0 rfl rfl 3 (by decide) (hts (.fieldLink RX10 13 "LastMapModel" "kinds" "[I") (by decide +kernel)) (fun _ h9 => h9) rfl dX10_who_76 ?_
              refine lv_iload hx hb dX10_who_79 (lv_at hl 0 rfl) ?_
              refine va_iald hx hb E.K hP 2 1 rfl rfl (i := nI x) (vp_in_nI (by omega) (by decide)) dX10_who_81 ?_
              refine lv_topi (fun x25 ex25 => ?_)
              obtain rfl : x25 = fk x := by rw [ex25, nI_clamp (by omega)]
              refine ca_i (wr := [(a_maps, .inl (gI G, 6, .inl fm)), (a_kinds, .inl (gI G, 4, .inl fk))]) (va_runV (As := [.int (nI (maN fm j_p0)), .int (nI (maN fm j_p1)), .int (fk x)]) (rest := []) ⟨hx, hb, hml, hown, hts⟩ (m3_farOf l G H.size h1 (.ref a_maps) (.int told) (.ref a_kinds) v_land v_spades v_pad v_padMany v_slips v_slipMany v_made v_offOf v_parent v_best v_trees v_least v_sums v_toward v_kept v_isKept v_keptAt v_isWriting a_part fp a_queue a_depth a_by a_from fq1 fd1 fb1 fr1 k (maN fm j_p0) (maN fm j_p1) cm1 (fk x) hk2 hk6 hp hmf.1 hmt.1) (cwV 3 hts gX10_who_X10_farOf rfl rfl rfl (by decide +kernel) ⟨by decide +kernel, by decide +kernel⟩) (pre_V E hP hD hS hA [0, 3, 4, 5, 6, 7] (by decide) rfl 0 6 rfl rfl) rfl rfl hl.1 rfl (lv_room (Nat.le_of_ble_eq_true rfl)) dX10_who_82 ⟨by decide +kernel, by decide +kernel⟩) hS hP hD hA [0, 3, 4, 5, 6, 7] [1, 2] rfl rfl (by decide) (by decide) (fun r27 u28 H locs w26 hP hD hS => ?_)
              obtain ⟨cm1_29, gq_30, gd_31, gb_32, gr_33⟩ := u28
              try dsimp only at w26 hP hD
              have hP := (hP.sub (ws' := [(h1, .inr (6, [.int (nI k), .ref a_maps, .int told, .ref a_kinds, v_land, v_spades, .ref a_part, v_pad, v_padMany, v_slips, v_slipMany, v_made, .ref a_queue, .ref a_depth, .ref a_by, .ref a_from, .int (nI cm1_29), v_offOf, v_parent, v_best, v_trees, v_least, v_sums, v_toward, v_kept, v_isKept, v_keptAt, v_isWriting])), (a_maps, .inl (gI G, 6, .inl fm)), (a_kinds, .inl (gI G, 4, .inl fk)), (a_part, .inl (gI G, 6, .inl fp)), (a_queue, .inl (gI G, 15625, .inl gq_30)), (a_depth, .inl (gI G, 15625, .inl gd_31)), (a_by, .inl (gI G, 15625, .inl gb_32)), (a_from, .inl (gI G, 15625, .inl gr_33))]) [2, 0, 1, 3, 4, 5, 6, 7] rfl)
              have hD := (hD.sub (ws' := [(h1, .inr (6, [.int (nI k), .ref a_maps, .int told, .ref a_kinds, v_land, v_spades, .ref a_part, v_pad, v_padMany, v_slips, v_slipMany, v_made, .ref a_queue, .ref a_depth, .ref a_by, .ref a_from, .int (nI cm1_29), v_offOf, v_parent, v_best, v_trees, v_least, v_sums, v_toward, v_kept, v_isKept, v_keptAt, v_isWriting])), (a_maps, .inl (gI G, 6, .inl fm)), (a_kinds, .inl (gI G, 4, .inl fk)), (a_part, .inl (gI G, 6, .inl fp)), (a_queue, .inl (gI G, 15625, .inl gq_30)), (a_depth, .inl (gI G, 15625, .inl gd_31)), (a_by, .inl (gI G, 15625, .inl gb_32)), (a_from, .inl (gI G, 15625, .inl gr_33))]) [2, 0, 1, 3, 4, 5, 6, 7] (by decide) rfl)
              have hdo9 := w26.1
              obtain ⟨gc9, hgo9⟩ := w26.2.1
              have hfo9 := w26.2.2
              have whr := wh_ds (x := r27) (p2 := nI j_p2) rfl hj_p2 (by rw [hfo9]; exact go_ds hk6 hmf.1 hdo9 hgo9 hmt.1)
              refine lv_istore (lv' := [(6, .int r27), (5, .int (nI x)), (4, .int bi), (0, .ref h1), (1, .int (nI j_p0)), (2, .int (nI j_p1)), (3, .int (nI j_p2))]) hx hb dX10_who_85 hl (by decide) rfl (fun ls hl => ?_)
              refine lv_iload hx hb dX10_who_87 (lv_at hl 2 rfl) ?_
              refine lv_iload hx hb dX10_who_89 (lv_at hl 0 rfl) ?_
              refine lv_if_lt (tgt := 107) hx hb dX10_who_91 (by decide) (fun c34 => ?_) (fun c34 => ?_)
              · refine lv_iconst (v := 0) hx hb dX10_who_107 (by decide) ?_
                refine lv_ior hx hb dX10_who_108 ?_
                refine lv_topi (fun x35 ex35 => ?_)
                refine lv_istore (lv' := [(4, .int x35), (6, .int r27), (5, .int (nI x)), (0, .ref h1), (1, .int (nI j_p0)), (2, .int (nI j_p1)), (3, .int (nI j_p2))]) hx hb dX10_who_109 hl (by decide) rfl (fun ls hl => ?_)
                obtain ⟨x36, ex36⟩ : ∃ yy_ : Int32, yy_ = (nI x) + 1 := ⟨_, rfl⟩
                refine lv_iinc (v := x36) (lv' := [(5, .int x36), (4, .int x35), (6, .int r27), (0, .ref h1), (1, .int (nI j_p0)), (2, .int (nI j_p1)), (3, .int (nI j_p2))]) hx hb dX10_who_111 hl (k := 2) rfl (by rw [ex36]; rfl) (by decide) rfl (fun ls hl => ?_)
                obtain rfl : x36 = nI (x + 1) := by rw [ex36]; exact nI_add x 1
                refine lv_goto (tgt := 56) hx hb dX10_who_114 (by decide) ?_
                refine ih56 ((x + 1), x35, nI cm1_29, gq_30, gd_31, gb_32, gr_33) ⟨?_, ?_⟩ (by first | omega | (dsimp only; omega)) H locs ls (hP.sub [0, 1, 2, 3, 4, 5, 6, 7] rfl) (hD.sub [0, 1, 2, 3, 4, 5, 6, 7] (by decide) rfl) hS (lv_sub hl [0, 1, 3, 4, 5, 6] rfl)
                · try dsimp only
                  omega
                · try dsimp only
                  rw [hbA_f (R := whR k fk (maN fm j_p0) (maN fm j_p1) j_p2) (fun q9 => by have q8 := whr.mpr q9; have q7 := c34; have q6 := q8.1; have q5 := q8.2; simp only [i3_le, i3_lt, Int32.reduceToInt] at q5 q6 q7; omega), ex35, or_0]; exact hbi
              · refine lv_iload hx hb dX10_who_94 (lv_at hl 0 rfl) ?_
                refine lv_iload_n hx hb dX10_who_96 rfl (lv_at hl 6 rfl) ?_
                refine lv_icmp_gt (tgt := 107) hx hb dX10_who_97 (by decide) (fun c37 => ?_) (fun c37 => ?_)
                · refine lv_iconst (v := 0) hx hb dX10_who_107 (by decide) ?_
                  refine lv_ior hx hb dX10_who_108 ?_
                  refine lv_topi (fun x38 ex38 => ?_)
                  refine lv_istore (lv' := [(4, .int x38), (6, .int r27), (5, .int (nI x)), (0, .ref h1), (1, .int (nI j_p0)), (2, .int (nI j_p1)), (3, .int (nI j_p2))]) hx hb dX10_who_109 hl (by decide) rfl (fun ls hl => ?_)
                  obtain ⟨x39, ex39⟩ : ∃ yy_ : Int32, yy_ = (nI x) + 1 := ⟨_, rfl⟩
                  refine lv_iinc (v := x39) (lv' := [(5, .int x39), (4, .int x38), (6, .int r27), (0, .ref h1), (1, .int (nI j_p0)), (2, .int (nI j_p1)), (3, .int (nI j_p2))]) hx hb dX10_who_111 hl (k := 2) rfl (by rw [ex39]; rfl) (by decide) rfl (fun ls hl => ?_)
                  obtain rfl : x39 = nI (x + 1) := by rw [ex39]; exact nI_add x 1
                  refine lv_goto (tgt := 56) hx hb dX10_who_114 (by decide) ?_
                  refine ih56 ((x + 1), x38, nI cm1_29, gq_30, gd_31, gb_32, gr_33) ⟨?_, ?_⟩ (by first | omega | (dsimp only; omega)) H locs ls (hP.sub [0, 1, 2, 3, 4, 5, 6, 7] rfl) (hD.sub [0, 1, 2, 3, 4, 5, 6, 7] (by decide) rfl) hS (lv_sub hl [0, 1, 3, 4, 5, 6] rfl)
                  · try dsimp only
                    omega
                  · try dsimp only
                    rw [hbA_f (R := whR k fk (maN fm j_p0) (maN fm j_p1) j_p2) (fun q9 => by have q8 := whr.mpr q9; have q7 := c37; have q6 := q8.1; have q5 := q8.2; simp only [i3_le, i3_lt, Int32.reduceToInt] at q5 q6 q7; omega), ex38, or_0]; exact hbi
                · refine lv_iconst (v := 1) hx hb dX10_who_100 (by decide) ?_
                  refine lv_iload hx hb dX10_who_101 (lv_at hl 1 rfl) ?_
                  refine lv_ishl hx hb dX10_who_103 ?_
                  refine lv_topi (fun x40 ex40 => ?_)
                  refine lv_goto (tgt := 108) hx hb dX10_who_104 (by decide) ?_
                  refine lv_ior hx hb dX10_who_108 ?_
                  refine lv_topi (fun x41 ex41 => ?_)
                  refine lv_istore (lv' := [(4, .int x41), (6, .int r27), (5, .int (nI x)), (0, .ref h1), (1, .int (nI j_p0)), (2, .int (nI j_p1)), (3, .int (nI j_p2))]) hx hb dX10_who_109 hl (by decide) rfl (fun ls hl => ?_)
                  obtain ⟨x42, ex42⟩ : ∃ yy_ : Int32, yy_ = (nI x) + 1 := ⟨_, rfl⟩
                  refine lv_iinc (v := x42) (lv' := [(5, .int x42), (4, .int x41), (6, .int r27), (0, .ref h1), (1, .int (nI j_p0)), (2, .int (nI j_p1)), (3, .int (nI j_p2))]) hx hb dX10_who_111 hl (k := 2) rfl (by rw [ex42]; rfl) (by decide) rfl (fun ls hl => ?_)
                  obtain rfl : x42 = nI (x + 1) := by rw [ex42]; exact nI_add x 1
                  refine lv_goto (tgt := 56) hx hb dX10_who_114 (by decide) ?_
                  refine ih56 ((x + 1), x41, nI cm1_29, gq_30, gd_31, gb_32, gr_33) ⟨?_, ?_⟩ (by first | omega | (dsimp only; omega)) H locs ls (hP.sub [0, 1, 2, 3, 4, 5, 6, 7] rfl) (hD.sub [0, 1, 2, 3, 4, 5, 6, 7] (by decide) rfl) hS (lv_sub hl [0, 1, 3, 4, 5, 6] rfl)
                  · try dsimp only
                    omega
                  · try dsimp only
                    rw [hbA_t (R := whR k fk (maN fm j_p0) (maN fm j_p1) j_p2) (whr.mp ⟨by have q9 := c34; simp only [i3_le, i3_lt, Int32.reduceToInt] at q9 ⊢; omega, by have q9 := c37; simp only [i3_le, i3_lt] at q9 ⊢; omega⟩), ← hbi, ex41, ex40]
          · refine lv_if_ne (tgt := 50) hx hb dX10_who_44 (by decide) (fun c43 => False.elim (by revert c43; decide)) (fun _ => ?_)
            refine lv_bipush (v := (-3)) hx hb dX10_who_47 (by decide) ?_
            have hP9 := (hP.sub (ws' := [(h1, .inr (6, [.int (nI k), .ref a_maps, .int told, .ref a_kinds, v_land, v_spades, .ref a_part, v_pad, v_padMany, v_slips, v_slipMany, v_made, .ref a_queue, .ref a_depth, .ref a_by, .ref a_from, .int cm0, v_offOf, v_parent, v_best, v_trees, v_least, v_sums, v_toward, v_kept, v_isKept, v_keptAt, v_isWriting])), (a_maps, .inl (gI G, 6, .inl fm)), (a_kinds, .inl (gI G, 4, .inl fk)), (a_part, .inl (gI G, 6, .inl fp)), (a_queue, .inl (gI G, 15625, .inl fq)), (a_depth, .inl (gI G, 15625, .inl fd)), (a_by, .inl (gI G, 15625, .inl fb)), (a_from, .inl (gI G, 15625, .inl fr))]) [0, 1, 2, 3, 4, 5, 6, 7] rfl)
            have hD9 := (hD.sub (ws' := [(h1, .inr (6, [.int (nI k), .ref a_maps, .int told, .ref a_kinds, v_land, v_spades, .ref a_part, v_pad, v_padMany, v_slips, v_slipMany, v_made, .ref a_queue, .ref a_depth, .ref a_by, .ref a_from, .int cm0, v_offOf, v_parent, v_best, v_trees, v_least, v_sums, v_toward, v_kept, v_isKept, v_keptAt, v_isWriting])), (a_maps, .inl (gI G, 6, .inl fm)), (a_kinds, .inl (gI G, 4, .inl fk)), (a_part, .inl (gI G, 6, .inl fp)), (a_queue, .inl (gI G, 15625, .inl fq)), (a_depth, .inl (gI G, 15625, .inl fd)), (a_by, .inl (gI G, 15625, .inl fb)), (a_from, .inl (gI G, 15625, .inl fr))]) [0, 1, 2, 3, 4, 5, 6, 7] (by decide) rfl)
            exact W.iret (v := (-3)) hx hb hr (fun t9_ ht9_ hW9_ => ⟨⟨(-3), (cm0, fq, fd, fb, fr), rfl, whA_3 ⟨b3, b7⟩ b12 (fun q9 => b20 (by rw [← ej_p1]; exact q9.2)), by rw [ht9_]; exact hP9, hD9⟩, hS.F ht9_⟩) hS.2.2 dX10_who_49
        · refine lv_if_eq (tgt := 47) hx hb dX10_who_36 (by decide) (fun _ => ?_) (fun c44 => False.elim (by revert c44; decide))
          refine lv_bipush (v := (-3)) hx hb dX10_who_47 (by decide) ?_
          have hP9 := (hP.sub (ws' := [(h1, .inr (6, [.int (nI k), .ref a_maps, .int told, .ref a_kinds, v_land, v_spades, .ref a_part, v_pad, v_padMany, v_slips, v_slipMany, v_made, .ref a_queue, .ref a_depth, .ref a_by, .ref a_from, .int cm0, v_offOf, v_parent, v_best, v_trees, v_least, v_sums, v_toward, v_kept, v_isKept, v_keptAt, v_isWriting])), (a_maps, .inl (gI G, 6, .inl fm)), (a_kinds, .inl (gI G, 4, .inl fk)), (a_part, .inl (gI G, 6, .inl fp)), (a_queue, .inl (gI G, 15625, .inl fq)), (a_depth, .inl (gI G, 15625, .inl fd)), (a_by, .inl (gI G, 15625, .inl fb)), (a_from, .inl (gI G, 15625, .inl fr))]) [0, 1, 2, 3, 4, 5, 6, 7] rfl)
          have hD9 := (hD.sub (ws' := [(h1, .inr (6, [.int (nI k), .ref a_maps, .int told, .ref a_kinds, v_land, v_spades, .ref a_part, v_pad, v_padMany, v_slips, v_slipMany, v_made, .ref a_queue, .ref a_depth, .ref a_by, .ref a_from, .int cm0, v_offOf, v_parent, v_best, v_trees, v_least, v_sums, v_toward, v_kept, v_isKept, v_keptAt, v_isWriting])), (a_maps, .inl (gI G, 6, .inl fm)), (a_kinds, .inl (gI G, 4, .inl fk)), (a_part, .inl (gI G, 6, .inl fp)), (a_queue, .inl (gI G, 15625, .inl fq)), (a_depth, .inl (gI G, 15625, .inl fd)), (a_by, .inl (gI G, 15625, .inl fb)), (a_from, .inl (gI G, 15625, .inl fr))]) [0, 1, 2, 3, 4, 5, 6, 7] (by decide) rfl)
          exact W.iret (v := (-3)) hx hb hr (fun t9_ ht9_ hW9_ => ⟨⟨(-3), (cm0, fq, fd, fb, fr), rfl, whA_3 ⟨b3, b7⟩ b12 (fun q9 => b16 (by rw [← ej_p0]; exact q9.1)), by rw [ht9_]; exact hP9, hD9⟩, hS.F ht9_⟩) hS.2.2 dX10_who_49
      · refine lv_if_ne (tgt := 31) hx hb dX10_who_25 (by decide) (fun c45 => False.elim (by revert c45; decide)) (fun _ => ?_)
        refine lv_bipush (v := (-2)) hx hb dX10_who_28 (by decide) ?_
        have hP9 := (hP.sub (ws' := [(h1, .inr (6, [.int (nI k), .ref a_maps, .int told, .ref a_kinds, v_land, v_spades, .ref a_part, v_pad, v_padMany, v_slips, v_slipMany, v_made, .ref a_queue, .ref a_depth, .ref a_by, .ref a_from, .int cm0, v_offOf, v_parent, v_best, v_trees, v_least, v_sums, v_toward, v_kept, v_isKept, v_keptAt, v_isWriting])), (a_maps, .inl (gI G, 6, .inl fm)), (a_kinds, .inl (gI G, 4, .inl fk)), (a_part, .inl (gI G, 6, .inl fp)), (a_queue, .inl (gI G, 15625, .inl fq)), (a_depth, .inl (gI G, 15625, .inl fd)), (a_by, .inl (gI G, 15625, .inl fb)), (a_from, .inl (gI G, 15625, .inl fr))]) [0, 1, 2, 3, 4, 5, 6, 7] rfl)
        have hD9 := (hD.sub (ws' := [(h1, .inr (6, [.int (nI k), .ref a_maps, .int told, .ref a_kinds, v_land, v_spades, .ref a_part, v_pad, v_padMany, v_slips, v_slipMany, v_made, .ref a_queue, .ref a_depth, .ref a_by, .ref a_from, .int cm0, v_offOf, v_parent, v_best, v_trees, v_least, v_sums, v_toward, v_kept, v_isKept, v_keptAt, v_isWriting])), (a_maps, .inl (gI G, 6, .inl fm)), (a_kinds, .inl (gI G, 4, .inl fk)), (a_part, .inl (gI G, 6, .inl fp)), (a_queue, .inl (gI G, 15625, .inl fq)), (a_depth, .inl (gI G, 15625, .inl fd)), (a_by, .inl (gI G, 15625, .inl fb)), (a_from, .inl (gI G, 15625, .inl fr))]) [0, 1, 2, 3, 4, 5, 6, 7] (by decide) rfl)
        exact W.iret (v := (-2)) hx hb hr (fun t9_ ht9_ hW9_ => ⟨⟨(-2), (cm0, fq, fd, fb, fr), rfl, whA_2 ⟨b3, b7⟩ b12, by rw [ht9_]; exact hP9, hD9⟩, hS.F ht9_⟩) hS.2.2 dX10_who_30
    · refine lv_if_ne (tgt := 16) hx hb dX10_who_11 (by decide) (fun c46 => False.elim (by revert c46; decide)) (fun _ => ?_)
      refine lv_iconst (v := (-1)) hx hb dX10_who_14 (by decide) ?_
      have hP9 := (hP.sub (ws' := [(h1, .inr (6, [.int (nI k), .ref a_maps, .int told, .ref a_kinds, v_land, v_spades, .ref a_part, v_pad, v_padMany, v_slips, v_slipMany, v_made, .ref a_queue, .ref a_depth, .ref a_by, .ref a_from, .int cm0, v_offOf, v_parent, v_best, v_trees, v_least, v_sums, v_toward, v_kept, v_isKept, v_keptAt, v_isWriting])), (a_maps, .inl (gI G, 6, .inl fm)), (a_kinds, .inl (gI G, 4, .inl fk)), (a_part, .inl (gI G, 6, .inl fp)), (a_queue, .inl (gI G, 15625, .inl fq)), (a_depth, .inl (gI G, 15625, .inl fd)), (a_by, .inl (gI G, 15625, .inl fb)), (a_from, .inl (gI G, 15625, .inl fr))]) [0, 1, 2, 3, 4, 5, 6, 7] rfl)
      have hD9 := (hD.sub (ws' := [(h1, .inr (6, [.int (nI k), .ref a_maps, .int told, .ref a_kinds, v_land, v_spades, .ref a_part, v_pad, v_padMany, v_slips, v_slipMany, v_made, .ref a_queue, .ref a_depth, .ref a_by, .ref a_from, .int cm0, v_offOf, v_parent, v_best, v_trees, v_least, v_sums, v_toward, v_kept, v_isKept, v_keptAt, v_isWriting])), (a_maps, .inl (gI G, 6, .inl fm)), (a_kinds, .inl (gI G, 4, .inl fk)), (a_part, .inl (gI G, 6, .inl fp)), (a_queue, .inl (gI G, 15625, .inl fq)), (a_depth, .inl (gI G, 15625, .inl fd)), (a_by, .inl (gI G, 15625, .inl fb)), (a_from, .inl (gI G, 15625, .inl fr))]) [0, 1, 2, 3, 4, 5, 6, 7] (by decide) rfl)
      exact W.iret (v := (-1)) hx hb hr (fun t9_ ht9_ hW9_ => ⟨⟨(-1), (cm0, fq, fd, fb, fr), rfl, whA_1 (fun q9 => b7 q9.2), by rw [ht9_]; exact hP9, hD9⟩, hS.F ht9_⟩) hS.2.2 dX10_who_15
  · refine lv_if_eq (tgt := 14) hx hb dX10_who_4 (by decide) (fun _ => ?_) (fun c47 => False.elim (by revert c47; decide))
    refine lv_iconst (v := (-1)) hx hb dX10_who_14 (by decide) ?_
    have hP9 := (hP.sub (ws' := [(h1, .inr (6, [.int (nI k), .ref a_maps, .int told, .ref a_kinds, v_land, v_spades, .ref a_part, v_pad, v_padMany, v_slips, v_slipMany, v_made, .ref a_queue, .ref a_depth, .ref a_by, .ref a_from, .int cm0, v_offOf, v_parent, v_best, v_trees, v_least, v_sums, v_toward, v_kept, v_isKept, v_keptAt, v_isWriting])), (a_maps, .inl (gI G, 6, .inl fm)), (a_kinds, .inl (gI G, 4, .inl fk)), (a_part, .inl (gI G, 6, .inl fp)), (a_queue, .inl (gI G, 15625, .inl fq)), (a_depth, .inl (gI G, 15625, .inl fd)), (a_by, .inl (gI G, 15625, .inl fb)), (a_from, .inl (gI G, 15625, .inl fr))]) [0, 1, 2, 3, 4, 5, 6, 7] rfl)
    have hD9 := (hD.sub (ws' := [(h1, .inr (6, [.int (nI k), .ref a_maps, .int told, .ref a_kinds, v_land, v_spades, .ref a_part, v_pad, v_padMany, v_slips, v_slipMany, v_made, .ref a_queue, .ref a_depth, .ref a_by, .ref a_from, .int cm0, v_offOf, v_parent, v_best, v_trees, v_least, v_sums, v_toward, v_kept, v_isKept, v_keptAt, v_isWriting])), (a_maps, .inl (gI G, 6, .inl fm)), (a_kinds, .inl (gI G, 4, .inl fk)), (a_part, .inl (gI G, 6, .inl fp)), (a_queue, .inl (gI G, 15625, .inl fq)), (a_depth, .inl (gI G, 15625, .inl fd)), (a_by, .inl (gI G, 15625, .inl fb)), (a_from, .inl (gI G, 15625, .inl fr))]) [0, 1, 2, 3, 4, 5, 6, 7] (by decide) rfl)
    exact W.iret (v := (-1)) hx hb hr (fun t9_ ht9_ hW9_ => ⟨⟨(-1), (cm0, fq, fd, fb, fr), rfl, whA_1 (fun q9 => b3 q9.1), by rw [ht9_]; exact hP9, hD9⟩, hS.F ht9_⟩) hS.2.2 dX10_who_15
