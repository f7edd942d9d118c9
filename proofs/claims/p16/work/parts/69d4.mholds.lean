set_option maxHeartbeats 1000000 in
set_option maxRecDepth 100000 in
theorem m2_mostAt (l : Launch) (G : Gy) (sz : Nat) (h1 : Nat) (v_sites : Value) (v_told : Value) (v_kinds : Value) (v_land : Value) (v_spades : Value) (v_pad : Value) (v_padMany : Value) (v_slips : Value) (v_slipMany : Value) (v_made : Value) (v_queue : Value) (v_depth : Value) (v_by : Value) (v_from : Value) (v_come : Value) (v_offOf : Value) (v_parent : Value) (v_best : Value) (v_trees : Value) (v_least : Value) (v_sums : Value) (v_toward : Value) (v_kept : Value) (v_isKept : Value) (v_keptAt : Value) (v_isWriting : Value) (a_maps : Nat) (fm : Nat → Int32) (a_part : Nat) (fp : Nat → Int32) (k : Nat) (j : Nat) (p1 : Int32) (hk6 : k ≤ 6) (hp : pOK k fp) (hfm : mapsOK k fm) (hj : j < k) : Ci l G yX10_mostAt wsX10_mostAt ({ frames := 1, cells := 0, slots := 0, locals := 22 }) [.ref h1, .int p1, .int (nI j)] ([(h1, .inr (6, [v_sites, .ref a_maps, v_told, v_kinds, v_land, v_spades, .ref a_part, v_pad, v_padMany, v_slips, v_slipMany, v_made, v_queue, v_depth, v_by, v_from, v_come, v_offOf, v_parent, v_best, v_trees, v_least, v_sums, v_toward, v_kept, v_isKept, v_keptAt, v_isWriting])), (a_maps, .inl (gI G, 6, .inl fm)), (a_part, .inl (gI G, 6, .inl fp))]) sz (fun (r : Int32) (_ : Unit) => r = nI (mstA k p1 (maN fm) j)) (fun (_ : Unit) => [(h1, .inr (6, [v_sites, .ref a_maps, v_told, v_kinds, v_land, v_spades, .ref a_part, v_pad, v_padMany, v_slips, v_slipMany, v_made, v_queue, v_depth, v_by, v_from, v_come, v_offOf, v_parent, v_best, v_trees, v_least, v_sums, v_toward, v_kept, v_isKept, v_keptAt, v_isWriting])), (a_maps, .inl (gI G, 6, .inl fm)), (a_part, .inl (gI G, 6, .inl fp))]) 0 0 := by
  refine Met.ofW (cc := cX10_mostAt) (maxL := 8) (ret := (some .int)) (by decide) rfl ?_
  intro p e s m args below meth c s₁ B hml hv
  obtain ⟨rfl, hsz, hP, hD0, E0⟩ := hv
  have hx := B.exec
  have hb := B.bytes
  have hr := B.returns
  have hts := atoms_spec (ws := wsX10_mostAt) B.pre
  have hown : s.vm.findClass RX10 = some m.cls := findClass_of_methodNamed B.named
  have hlocks := B.notSynchronized
  subst hsz
  have hD := hD0.self (sz := s.heap.size)
  generalize hAe : va_A ([(h1, .inr (6, [v_sites, .ref a_maps, v_told, v_kinds, v_land, v_spades, .ref a_part, v_pad, v_padMany, v_slips, v_slipMany, v_made, v_queue, v_depth, v_by, v_from, v_come, v_offOf, v_parent, v_best, v_trees, v_least, v_sums, v_toward, v_kept, v_isKept, v_keptAt, v_isWriting])), (a_maps, .inl (gI G, 6, .inl fm)), (a_part, .inl (gI G, 6, .inl fp))]) s.heap.size = A at hD E0 ⊢
  have E : EV G A s s.heap := E0
  have hA : ∀ q : Nat, s.heap.size ≤ q → A q := fun q h => by rw [← hAe]; exact Or.inr h
  have hS : va_S A s.heap s.heap [] := va_S.rf
  have hl := lv_entry ([.ref h1, .int p1, .int (nI j)]) (n := 8) (Nat.le_of_ble_eq_true rfl)
  rw [lg_entry_eq]
  generalize (lg_sl ([.ref h1, .int p1, .int (nI j)]) ++ List.replicate (8 - (lg_sl ([.ref h1, .int p1, .int (nI j)])).length) Slot.unset).toArray = ls at hl ⊢
  have hl : lv_has ls 8 [(0, .ref h1), (1, .int p1), (2, .int (nI j))] := hl
  have hP : va_P G.1 vwCl ([(h1, .inr (6, [v_sites, .ref a_maps, v_told, v_kinds, v_land, v_spades, .ref a_part, v_pad, v_padMany, v_slips, v_slipMany, v_made, v_queue, v_depth, v_by, v_from, v_come, v_offOf, v_parent, v_best, v_trees, v_least, v_sums, v_toward, v_kept, v_isKept, v_keptAt, v_isWriting])), (a_maps, .inl (gI G, 6, .inl fm)), (a_part, .inl (gI G, 6, .inl fp))]) s.heap := hP
  have hal := p5le hk6
  refine lv_iconst (v := 0) hx hb dX10_mostAt_0 (by decide) ?_
  refine lv_istore_n (lv' := [(3, .int 0), (0, .ref h1), (1, .int p1), (2, .int (nI j))]) hx hb dX10_mostAt_1 rfl hl (by decide) rfl (fun ls hl => ?_)
  refine lv_iconst (v := 0) hx hb dX10_mostAt_2 (by decide) ?_
  refine lv_istore (lv' := [(4, .int 0), (3, .int 0), (0, .ref h1), (1, .int p1), (2, .int (nI j))]) hx hb dX10_mostAt_3 hl (by decide) rfl (fun ls hl => ?_)
  refine lv_iconst (v := 0) hx hb dX10_mostAt_5 (by decide) ?_
  refine lv_istore (lv' := [(5, .int 0), (4, .int 0), (3, .int 0), (0, .ref h1), (1, .int p1), (2, .int (nI j))]) hx hb dX10_mostAt_6 hl (by decide) rfl (fun ls hl => ?_)
  refine lp_run (x0 := (0, 0, 0)) (fun xx_ : Nat × Nat × Nat => match xx_ with | (x, be, mo_) => [(h1, .inr (6, [v_sites, .ref a_maps, v_told, v_kinds, v_land, v_spades, .ref a_part, v_pad, v_padMany, v_slips, v_slipMany, v_made, v_queue, v_depth, v_by, v_from, v_come, v_offOf, v_parent, v_best, v_trees, v_least, v_sums, v_toward, v_kept, v_isKept, v_keptAt, v_isWriting])), (a_maps, .inl (gI G, 6, .inl fm)), (a_part, .inl (gI G, 6, .inl fp))]) (fun xx_ : Nat × Nat × Nat => match xx_ with | (x, be, mo_) => [(5, .int (nI x)), (4, .int (nI mo_)), (3, .int (nI be)), (0, .ref h1), (1, .int p1), (2, .int (nI j))]) (fun xx_ : Nat × Nat × Nat => match xx_ with | (x, be, mo_) => (x ≤ 5) ∧ (be = mstN (fun g => hmN k p1 (maN fm) j g 6) (x - 1) ∧ (x = 0 → mo_ = 0) ∧ (1 ≤ x → mo_ = hmN k p1 (maN fm) j be 6)) ∧ (be < 5 ∧ mo_ ≤ 6)) (fun xx_ : Nat × Nat × Nat => match xx_ with | (x, be, mo_) => 5 - x) (hP.sub [0, 1, 2] rfl) (hD.sub [0, 1, 2] (by decide) rfl) hS (lv_sub hl [0, 1, 2, 3, 4, 5] rfl) ⟨(by omega), ⟨rfl, fun _ => rfl, by intro q9; omega⟩, by omega⟩ ?_
  intro xx_ hI ih8 H locs ls hP hD hS hl
  obtain ⟨x, be, mo_⟩ := xx_
  dsimp only at hI ih8 hP hD hl
  obtain ⟨hx0, hmo, hb5⟩ := hI
  have hl : lv_has ls 8 [(5, .int (nI x)), (4, .int (nI mo_)), (3, .int (nI be)), (0, .ref h1), (1, .int p1), (2, .int (nI j))] := hl
  have hP : va_P G.1 vwCl ([(h1, .inr (6, [v_sites, .ref a_maps, v_told, v_kinds, v_land, v_spades, .ref a_part, v_pad, v_padMany, v_slips, v_slipMany, v_made, v_queue, v_depth, v_by, v_from, v_come, v_offOf, v_parent, v_best, v_trees, v_least, v_sums, v_toward, v_kept, v_isKept, v_keptAt, v_isWriting])), (a_maps, .inl (gI G, 6, .inl fm)), (a_part, .inl (gI G, 6, .inl fp))]) H := hP
  have hD : va_D A ([(h1, .inr (6, [v_sites, .ref a_maps, v_told, v_kinds, v_land, v_spades, .ref a_part, v_pad, v_padMany, v_slips, v_slipMany, v_made, v_queue, v_depth, v_by, v_from, v_come, v_offOf, v_parent, v_best, v_trees, v_least, v_sums, v_toward, v_kept, v_isKept, v_keptAt, v_isWriting])), (a_maps, .inl (gI G, 6, .inl fm)), (a_part, .inl (gI G, 6, .inl fp))]) := hD
  refine lv_iload hx hb dX10_mostAt_8 (lv_at hl 0 rfl) ?_
  refine lv_iconst (v := 5) hx hb dX10_mostAt_10 (by decide) ?_
  refine lv_icmp_ge (tgt := 106) hx hb dX10_mostAt_11 (by decide) (fun c1 => ?_) (fun c1 => ?_)
  · have c1 : 5 ≤ x := (nI_leI (a := 5) (b := x) (by omega) (by omega)).mp c1
    refine lv_iload_n hx hb dX10_mostAt_106 rfl (lv_at hl 2 rfl) ?_
    have hP9 := (hP.sub (ws' := [(h1, .inr (6, [v_sites, .ref a_maps, v_told, v_kinds, v_land, v_spades, .ref a_part, v_pad, v_padMany, v_slips, v_slipMany, v_made, v_queue, v_depth, v_by, v_from, v_come, v_offOf, v_parent, v_best, v_trees, v_least, v_sums, v_toward, v_kept, v_isKept, v_keptAt, v_isWriting])), (a_maps, .inl (gI G, 6, .inl fm)), (a_part, .inl (gI G, 6, .inl fp))]) [0, 1, 2] rfl)
    have hD9 := (hD.sub (ws' := [(h1, .inr (6, [v_sites, .ref a_maps, v_told, v_kinds, v_land, v_spades, .ref a_part, v_pad, v_padMany, v_slips, v_slipMany, v_made, v_queue, v_depth, v_by, v_from, v_come, v_offOf, v_parent, v_best, v_trees, v_least, v_sums, v_toward, v_kept, v_isKept, v_keptAt, v_isWriting])), (a_maps, .inl (gI G, 6, .inl fm)), (a_part, .inl (gI G, 6, .inl fp))]) [0, 1, 2] (by decide) rfl)
    exact W.iret (v := (nI be)) hx hb hr (fun t9_ ht9_ hW9_ => ⟨⟨nI be, (), rfl, by unfold mstA; rw [hmo.1, show x = 5 by omega], by rw [ht9_]; exact hP9, hD9⟩, hS.F ht9_⟩) hS.2.2 dX10_mostAt_107
  · have c1 : ¬ 5 ≤ x := fun h9_ => c1 ((nI_leI (a := 5) (b := x) (by omega) (by omega)).mpr h9_)
    refine lv_iconst (v := 0) hx hb dX10_mostAt_14 (by decide) ?_
    refine lv_istore (lv' := [(6, .int 0), (5, .int (nI x)), (4, .int (nI mo_)), (3, .int (nI be)), (0, .ref h1), (1, .int p1), (2, .int (nI j))]) hx hb dX10_mostAt_15 hl (by decide) rfl (fun ls hl => ?_)
    refine lv_iconst (v := 0) hx hb dX10_mostAt_17 (by decide) ?_
    refine lv_istore (lv' := [(7, .int 0), (6, .int 0), (5, .int (nI x)), (4, .int (nI mo_)), (3, .int (nI be)), (0, .ref h1), (1, .int p1), (2, .int (nI j))]) hx hb dX10_mostAt_18 hl (by decide) rfl (fun ls hl => ?_)
    refine lp_run (x0 := (0, 0)) (fun xx_ : Nat × Nat => match xx_ with | (y, u) => [(h1, .inr (6, [v_sites, .ref a_maps, v_told, v_kinds, v_land, v_spades, .ref a_part, v_pad, v_padMany, v_slips, v_slipMany, v_made, v_queue, v_depth, v_by, v_from, v_come, v_offOf, v_parent, v_best, v_trees, v_least, v_sums, v_toward, v_kept, v_isKept, v_keptAt, v_isWriting])), (a_maps, .inl (gI G, 6, .inl fm)), (a_part, .inl (gI G, 6, .inl fp))]) (fun xx_ : Nat × Nat => match xx_ with | (y, u) => [(7, .int (nI y)), (6, .int (nI u)), (5, .int (nI x)), (4, .int (nI mo_)), (3, .int (nI be)), (0, .ref h1), (1, .int p1), (2, .int (nI j))]) (fun xx_ : Nat × Nat => match xx_ with | (y, u) => (y ≤ 6) ∧ (u = hmN k p1 (maN fm) j x y) ∧ (u ≤ y)) (fun xx_ : Nat × Nat => match xx_ with | (y, u) => 6 - y) (hP.sub [0, 1, 2] rfl) (hD.sub [0, 1, 2] (by decide) rfl) hS (lv_sub hl [0, 1, 2, 3, 4, 5, 6, 7] rfl) ⟨(by omega), rfl, by omega⟩ ?_
    intro xx_ hI ih20 H locs ls hP hD hS hl
    obtain ⟨y, u⟩ := xx_
    dsimp only at hI ih20 hP hD hl
    obtain ⟨hy0, hu, hu9⟩ := hI
    have hl : lv_has ls 8 [(7, .int (nI y)), (6, .int (nI u)), (5, .int (nI x)), (4, .int (nI mo_)), (3, .int (nI be)), (0, .ref h1), (1, .int p1), (2, .int (nI j))] := hl
    have hP : va_P G.1 vwCl ([(h1, .inr (6, [v_sites, .ref a_maps, v_told, v_kinds, v_land, v_spades, .ref a_part, v_pad, v_padMany, v_slips, v_slipMany, v_made, v_queue, v_depth, v_by, v_from, v_come, v_offOf, v_parent, v_best, v_trees, v_least, v_sums, v_toward, v_kept, v_isKept, v_keptAt, v_isWriting])), (a_maps, .inl (gI G, 6, .inl fm)), (a_part, .inl (gI G, 6, .inl fp))]) H := hP
    have hD : va_D A ([(h1, .inr (6, [v_sites, .ref a_maps, v_told, v_kinds, v_land, v_spades, .ref a_part, v_pad, v_padMany, v_slips, v_slipMany, v_made, v_queue, v_depth, v_by, v_from, v_come, v_offOf, v_parent, v_best, v_trees, v_least, v_sums, v_toward, v_kept, v_isKept, v_keptAt, v_isWriting])), (a_maps, .inl (gI G, 6, .inl fm)), (a_part, .inl (gI G, 6, .inl fp))]) := hD
    refine lv_iload hx hb dX10_mostAt_20 (lv_at hl 0 rfl) ?_
    refine lv_bipush (v := 6) hx hb dX10_mostAt_22 (by decide) ?_
    refine lv_icmp_ge (tgt := 70) hx hb dX10_mostAt_24 (by decide) (fun c2 => ?_) (fun c2 => ?_)
    · have c2 : 6 ≤ y := (nI_leI (a := 6) (b := y) (by omega) (by omega)).mp c2
      have hu6 : u = hmN k p1 (maN fm) j x 6 := by rw [hu, show y = 6 by omega]
      refine lv_iload hx hb dX10_mostAt_70 (lv_at hl 1 rfl) ?_
      refine lv_iload hx hb dX10_mostAt_72 (lv_at hl 3 rfl) ?_
      refine lv_icmp_le (tgt := 82) hx hb dX10_mostAt_74 (by decide) (fun c3 => ?_) (fun c3 => ?_)
      · have c3 : u ≤ mo_ := (nI_leI (a := u) (b := mo_) (by omega) (by omega)).mp c3
        refine lv_iload_n hx hb dX10_mostAt_82 rfl (lv_at hl 4 rfl) ?_
        refine lv_istore_n (lv' := [(3, .int (nI be)), (7, .int (nI y)), (6, .int (nI u)), (5, .int (nI x)), (4, .int (nI mo_)), (0, .ref h1), (1, .int p1), (2, .int (nI j))]) hx hb dX10_mostAt_83 rfl hl (by decide) rfl (fun ls hl => ?_)
        refine lv_iload hx hb dX10_mostAt_84 (lv_at hl 2 rfl) ?_
        refine lv_iload hx hb dX10_mostAt_86 (lv_at hl 4 rfl) ?_
        refine lv_icmp_le (tgt := 96) hx hb dX10_mostAt_88 (by decide) (fun c4 => ?_) (fun c4 => False.elim (c4 ((nI_leI (a := u) (b := mo_) (by omega) (by omega)).mpr (by omega))))
        refine lv_iload hx hb dX10_mostAt_96 (lv_at hl 4 rfl) ?_
        refine lv_istore (lv' := [(4, .int (nI mo_)), (3, .int (nI be)), (7, .int (nI y)), (6, .int (nI u)), (5, .int (nI x)), (0, .ref h1), (1, .int p1), (2, .int (nI j))]) hx hb dX10_mostAt_98 hl (by decide) rfl (fun ls hl => ?_)
        obtain ⟨x5, ex5⟩ : ∃ yy_ : Int32, yy_ = (nI x) + 1 := ⟨_, rfl⟩
        refine lv_iinc (v := x5) (lv' := [(5, .int x5), (4, .int (nI mo_)), (3, .int (nI be)), (7, .int (nI y)), (6, .int (nI u)), (0, .ref h1), (1, .int p1), (2, .int (nI j))]) hx hb dX10_mostAt_100 hl (k := 4) rfl (by rw [ex5]; rfl) (by decide) rfl (fun ls hl => ?_)
        obtain rfl : x5 = nI (x + 1) := by rw [ex5]; exact nI_add x 1
        refine lv_goto (tgt := 8) hx hb dX10_mostAt_103 (by decide) ?_
        refine ih8 ((x + 1), be, mo_) ⟨?_, ?_, ?_⟩ (by first | omega | (dsimp only; omega)) H locs ls (hP.sub [0, 1, 2] rfl) (hD.sub [0, 1, 2] (by decide) rfl) hS (lv_sub hl [0, 1, 2, 5, 6, 7] rfl)
        · try dsimp only
          omega
        · try dsimp only
          exact ⟨by rcases Nat.eq_zero_or_pos x with q9 | q9; (rw [q9]; exact hmo.1.trans (by rw [q9])); (rw [show x + 1 - 1 = (x - 1) + 1 by omega, mstN_f (f := (fun g => hmN k p1 (maN fm) j g 6)) (x := x - 1) (by show ¬ hmN k p1 (maN fm) j (mstN (fun g => hmN k p1 (maN fm) j g 6) (x - 1)) 6 < hmN k p1 (maN fm) j (x - 1 + 1) 6; rw [← hmo.1, show x - 1 + 1 = x by omega, ← hu6]; have q8 := hmo.2.2 (by omega); omega)]; exact hmo.1), by omega, fun _ => by rcases Nat.eq_zero_or_pos x with q9 | q9; (have q8 := hmo.2.1 q9; have q7 : be = 0 := hmo.1.trans (by rw [q9]; rfl); rw [q7, ← q9, ← hu6]; omega); exact hmo.2.2 (by omega)⟩
        · try dsimp only
          omega
      · have c3 : ¬ u ≤ mo_ := fun h9_ => c3 ((nI_leI (a := u) (b := mo_) (by omega) (by omega)).mpr h9_)
        refine lv_iload hx hb dX10_mostAt_77 (lv_at hl 2 rfl) ?_
        refine lv_goto (tgt := 83) hx hb dX10_mostAt_79 (by decide) ?_
        refine lv_istore_n (lv' := [(3, .int (nI x)), (7, .int (nI y)), (6, .int (nI u)), (5, .int (nI x)), (4, .int (nI mo_)), (0, .ref h1), (1, .int p1), (2, .int (nI j))]) hx hb dX10_mostAt_83 rfl hl (by decide) rfl (fun ls hl => ?_)
        refine lv_iload hx hb dX10_mostAt_84 (lv_at hl 2 rfl) ?_
        refine lv_iload hx hb dX10_mostAt_86 (lv_at hl 4 rfl) ?_
        refine lv_icmp_le (tgt := 96) hx hb dX10_mostAt_88 (by decide) (fun c6 => False.elim (by have q9 := (nI_leI (a := u) (b := mo_) (by omega) (by omega)).mp c6; omega)) (fun c6 => ?_)
        refine lv_iload hx hb dX10_mostAt_91 (lv_at hl 2 rfl) ?_
        refine lv_goto (tgt := 98) hx hb dX10_mostAt_93 (by decide) ?_
        refine lv_istore (lv' := [(4, .int (nI u)), (3, .int (nI x)), (7, .int (nI y)), (6, .int (nI u)), (5, .int (nI x)), (0, .ref h1), (1, .int p1), (2, .int (nI j))]) hx hb dX10_mostAt_98 hl (by decide) rfl (fun ls hl => ?_)
        obtain ⟨x7, ex7⟩ : ∃ yy_ : Int32, yy_ = (nI x) + 1 := ⟨_, rfl⟩
        refine lv_iinc (v := x7) (lv' := [(5, .int x7), (4, .int (nI u)), (3, .int (nI x)), (7, .int (nI y)), (6, .int (nI u)), (0, .ref h1), (1, .int p1), (2, .int (nI j))]) hx hb dX10_mostAt_100 hl (k := 4) rfl (by rw [ex7]; rfl) (by decide) rfl (fun ls hl => ?_)
        obtain rfl : x7 = nI (x + 1) := by rw [ex7]; exact nI_add x 1
        refine lv_goto (tgt := 8) hx hb dX10_mostAt_103 (by decide) ?_
        refine ih8 ((x + 1), x, u) ⟨?_, ?_, ?_⟩ (by first | omega | (dsimp only; omega)) H locs ls (hP.sub [0, 1, 2] rfl) (hD.sub [0, 1, 2] (by decide) rfl) hS (lv_sub hl [0, 1, 2, 5, 6, 7] rfl)
        · try dsimp only
          omega
        · try dsimp only
          exact ⟨by rcases Nat.eq_zero_or_pos x with q9 | q9; (rw [q9]; rfl); (rw [show x + 1 - 1 = (x - 1) + 1 by omega, mstN_t (f := (fun g => hmN k p1 (maN fm) j g 6)) (x := x - 1) (by show hmN k p1 (maN fm) j (mstN (fun g => hmN k p1 (maN fm) j g 6) (x - 1)) 6 < hmN k p1 (maN fm) j (x - 1 + 1) 6; rw [← hmo.1, show x - 1 + 1 = x by omega, ← hu6]; have q8 := hmo.2.2 (by omega); omega)]; omega), by omega, fun _ => hu6⟩
        · try dsimp only
          omega
    · have c2 : ¬ 6 ≤ y := fun h9_ => c2 ((nI_leI (a := 6) (b := y) (by omega) (by omega)).mpr h9_)
      refine lv_iload hx hb dX10_mostAt_27 (lv_at hl 1 rfl) ?_
      refine lv_iload_n hx hb dX10_mostAt_29 rfl (lv_at hl 6 rfl) ?_
      refine lv_iload hx hb dX10_mostAt_30 (lv_at hl 0 rfl) ?_
      refine lv_ishr hx hb dX10_mostAt_32 ?_
      refine lv_topi (fun x8 ex8 => ?_)
      refine lv_iconst (v := 1) hx hb dX10_mostAt_33 (by decide) ?_
      refine lv_iand hx hb dX10_mostAt_34 ?_
      refine lv_topi (fun x9 ex9 => ?_)
      refine lv_iconst (v := 1) hx hb dX10_mostAt_35 (by decide) ?_
      refine lv_icmp_ne (tgt := 60) hx hb dX10_mostAt_36 (by decide) (fun c10 => ?_) (fun c10 => ?_)
      · have hntd : ¬ tdP p1 (nI y) := by unfold tdP; rw [← ex8, ← ex9]; exact c10
        refine lv_iconst (v := 0) hx hb dX10_mostAt_60 (by decide) ?_
        refine lv_iadd hx hb dX10_mostAt_61 ?_
        refine lv_topi (fun x11 ex11 => ?_)
        obtain rfl : x11 = nI (u + 0) := by rw [ex11]; exact nI_add u 0
        refine lv_istore (lv' := [(6, .int (nI (u + 0))), (7, .int (nI y)), (5, .int (nI x)), (4, .int (nI mo_)), (3, .int (nI be)), (0, .ref h1), (1, .int p1), (2, .int (nI j))]) hx hb dX10_mostAt_62 hl (by decide) rfl (fun ls hl => ?_)
        obtain ⟨x12, ex12⟩ : ∃ yy_ : Int32, yy_ = (nI y) + 1 := ⟨_, rfl⟩
        refine lv_iinc (v := x12) (lv' := [(7, .int x12), (6, .int (nI (u + 0))), (5, .int (nI x)), (4, .int (nI mo_)), (3, .int (nI be)), (0, .ref h1), (1, .int p1), (2, .int (nI j))]) hx hb dX10_mostAt_64 hl (k := 1) rfl (by rw [ex12]; rfl) (by decide) rfl (fun ls hl => ?_)
        obtain rfl : x12 = nI (y + 1) := by rw [ex12]; exact nI_add y 1
        refine lv_goto (tgt := 20) hx hb dX10_mostAt_67 (by decide) ?_
        refine ih20 ((y + 1), (u + 0)) ⟨?_, ?_, ?_⟩ (by first | omega | (dsimp only; omega)) H locs ls (hP.sub [0, 1, 2] rfl) (hD.sub [0, 1, 2] (by decide) rfl) hS (lv_sub hl [0, 1, 2, 3, 4, 5, 6, 7] rfl)
        · try dsimp only
          omega
        · try dsimp only
          rw [hmN_f (fun q9 => hntd q9.1)]; omega
        · try dsimp only
          omega
      · have htd : tdP p1 (nI y) := by unfold tdP; rw [← ex8, ← ex9]; exact c10
        refine lv_aload_n hx hb dX10_mostAt_39 rfl (lv_at hl 5 rfl) ?_
        refine lv_aload_n hx hb dX10_mostAt_40 rfl (lv_at hl 5 rfl) ?_
        refine va_get (D := G.1) (ci := 6) (v := .ref a_maps) (C := RX10) (T := TX10) (N := 28) hx hb hts (fun _ h => List.mem_cons_of_mem _ (List.mem_append_right _ h)) hown E.K hP 0 rfl rfl 1 (by decide) (hts (.fieldLink RX10 7 "LastMapModel" "maps" "[I") (by decide +kernel)) (fun _ h9 => h9) rfl dX10_mostAt_41 ?_
        refine lv_iload hx hb dX10_mostAt_44 (lv_at hl 0 rfl) ?_
        refine va_iald hx hb E.K hP 1 1 rfl rfl (i := nI y) (vp_in_nI (by omega) (by decide)) dX10_mostAt_46 ?_
        refine lv_topi (fun x13 ex13 => ?_)
        have hmj := maN_ok hk6 hfm (show y < 6 by omega)
        obtain rfl : x13 = nI (maN fm y) := by rw [ex13, nI_clamp (by omega)]; exact hmj.2
        refine lv_iload_n hx hb dX10_mostAt_47 rfl (lv_at hl 7 rfl) ?_
        refine ca_iR (va_runV (As := [.int (nI (maN fm y)), .int (nI j)]) (rest := [.int (nI u)]) ⟨hx, hb, hml, hown, hts⟩ (m_signAt l G H.size h1 v_sites (.ref a_maps) v_told v_kinds v_land v_spades v_pad v_padMany v_slips v_slipMany v_made v_queue v_depth v_by v_from v_come v_offOf v_parent v_best v_trees v_least v_sums v_toward v_kept v_isKept v_keptAt v_isWriting a_part fp k (maN fm y) j hk6 hp hmj.1 hj) (cwV 2 hts gX10_mostAt_X10_signAt rfl rfl rfl (by decide +kernel) ⟨by decide +kernel, by decide +kernel⟩) (pre_V E hP hD hS hA [0, 2] (by decide) rfl 0 6 rfl rfl) rfl rfl hl.1 rfl (lv_room (Nat.le_of_ble_eq_true rfl)) dX10_mostAt_48 ⟨by decide +kernel, by decide +kernel⟩) hS hP hD hA [0, 2] rfl (fun r15 _ H locs w14 hP hS => ?_)
        rw [w14]
        have hdg9 : (dg k (maN fm y) j) < 5 := dg_lt _ _ _
        refine lv_iload hx hb dX10_mostAt_51 (lv_at hl 2 rfl) ?_
        refine lv_icmp_ne (tgt := 60) hx hb dX10_mostAt_53 (by decide) (fun c16 => ?_) (fun c16 => ?_)
        · have c16 : ¬ (dg k (maN fm y) j) = x := fun h9_ => c16 ((nI_eq (a := (dg k (maN fm y) j)) (b := x) (by omega) (by omega)).mpr h9_)
          refine lv_iconst (v := 0) hx hb dX10_mostAt_60 (by decide) ?_
          refine lv_iadd hx hb dX10_mostAt_61 ?_
          refine lv_topi (fun x17 ex17 => ?_)
          obtain rfl : x17 = nI (u + 0) := by rw [ex17]; exact nI_add u 0
          refine lv_istore (lv' := [(6, .int (nI (u + 0))), (7, .int (nI y)), (5, .int (nI x)), (4, .int (nI mo_)), (3, .int (nI be)), (0, .ref h1), (1, .int p1), (2, .int (nI j))]) hx hb dX10_mostAt_62 hl (by decide) rfl (fun ls hl => ?_)
          obtain ⟨x18, ex18⟩ : ∃ yy_ : Int32, yy_ = (nI y) + 1 := ⟨_, rfl⟩
          refine lv_iinc (v := x18) (lv' := [(7, .int x18), (6, .int (nI (u + 0))), (5, .int (nI x)), (4, .int (nI mo_)), (3, .int (nI be)), (0, .ref h1), (1, .int p1), (2, .int (nI j))]) hx hb dX10_mostAt_64 hl (k := 1) rfl (by rw [ex18]; rfl) (by decide) rfl (fun ls hl => ?_)
          obtain rfl : x18 = nI (y + 1) := by rw [ex18]; exact nI_add y 1
          refine lv_goto (tgt := 20) hx hb dX10_mostAt_67 (by decide) ?_
          refine ih20 ((y + 1), (u + 0)) ⟨?_, ?_, ?_⟩ (by first | omega | (dsimp only; omega)) H locs ls (hP.sub [0, 1, 2] rfl) (hD.sub [0, 1, 2] (by decide) rfl) hS (lv_sub hl [0, 1, 2, 3, 4, 5, 6, 7] rfl)
          · try dsimp only
            omega
          · try dsimp only
            rw [hmN_f (fun q9 => c16 q9.2)]; omega
          · try dsimp only
            omega
        · have c16 : (dg k (maN fm y) j) = x := (nI_eq (a := (dg k (maN fm y) j)) (b := x) (by omega) (by omega)).mp c16
          refine lv_iconst (v := 1) hx hb dX10_mostAt_56 (by decide) ?_
          refine lv_goto (tgt := 61) hx hb dX10_mostAt_57 (by decide) ?_
          refine lv_iadd hx hb dX10_mostAt_61 ?_
          refine lv_topi (fun x19 ex19 => ?_)
          obtain rfl : x19 = nI (u + 1) := by rw [ex19]; exact nI_add u 1
          refine lv_istore (lv' := [(6, .int (nI (u + 1))), (7, .int (nI y)), (5, .int (nI x)), (4, .int (nI mo_)), (3, .int (nI be)), (0, .ref h1), (1, .int p1), (2, .int (nI j))]) hx hb dX10_mostAt_62 hl (by decide) rfl (fun ls hl => ?_)
          obtain ⟨x20, ex20⟩ : ∃ yy_ : Int32, yy_ = (nI y) + 1 := ⟨_, rfl⟩
          refine lv_iinc (v := x20) (lv' := [(7, .int x20), (6, .int (nI (u + 1))), (5, .int (nI x)), (4, .int (nI mo_)), (3, .int (nI be)), (0, .ref h1), (1, .int p1), (2, .int (nI j))]) hx hb dX10_mostAt_64 hl (k := 1) rfl (by rw [ex20]; rfl) (by decide) rfl (fun ls hl => ?_)
          obtain rfl : x20 = nI (y + 1) := by rw [ex20]; exact nI_add y 1
          refine lv_goto (tgt := 20) hx hb dX10_mostAt_67 (by decide) ?_
          refine ih20 ((y + 1), (u + 1)) ⟨?_, ?_, ?_⟩ (by first | omega | (dsimp only; omega)) H locs ls (hP.sub [0, 1, 2] rfl) (hD.sub [0, 1, 2] (by decide) rfl) hS (lv_sub hl [0, 1, 2, 3, 4, 5, 6, 7] rfl)
          · try dsimp only
            omega
          · try dsimp only
            rw [hmN_t htd c16]; omega
          · try dsimp only
            omega

set_option maxHeartbeats 1000000 in
set_option maxRecDepth 100000 in
theorem m2_holdsAt (l : Launch) (G : Gy) (sz : Nat) (h1 : Nat) (v_sites : Value) (v_told : Value) (v_kinds : Value) (v_land : Value) (v_spades : Value) (v_pad : Value) (v_padMany : Value) (v_slips : Value) (v_slipMany : Value) (v_made : Value) (v_queue : Value) (v_depth : Value) (v_by : Value) (v_from : Value) (v_come : Value) (v_offOf : Value) (v_parent : Value) (v_best : Value) (v_trees : Value) (v_least : Value) (v_sums : Value) (v_toward : Value) (v_kept : Value) (v_isKept : Value) (v_keptAt : Value) (v_isWriting : Value) (a_maps : Nat) (fm : Nat → Int32) (a_part : Nat) (fp : Nat → Int32) (k : Nat) (j : Nat) (p1 : Int32) (hk6 : k ≤ 6) (hp : pOK k fp) (hfm : mapsOK k fm) (hj : j < k) : Ci l G yX10_holdsAt wsX10_holdsAt ({ frames := 2, cells := 0, slots := 0, locals := 49 }) [.ref h1, .int p1, .int (nI j)] ([(h1, .inr (6, [v_sites, .ref a_maps, v_told, v_kinds, v_land, v_spades, .ref a_part, v_pad, v_padMany, v_slips, v_slipMany, v_made, v_queue, v_depth, v_by, v_from, v_come, v_offOf, v_parent, v_best, v_trees, v_least, v_sums, v_toward, v_kept, v_isKept, v_keptAt, v_isWriting])), (a_maps, .inl (gI G, 6, .inl fm)), (a_part, .inl (gI G, 6, .inl fp))]) sz (fun (r : Int32) (_ : Unit) => (r = 1 ∧ allH k p1 (maN fm) j (mstA k p1 (maN fm) j)) ∨ (r = 0 ∧ ¬ allH k p1 (maN fm) j (mstA k p1 (maN fm) j))) (fun (_ : Unit) => [(h1, .inr (6, [v_sites, .ref a_maps, v_told, v_kinds, v_land, v_spades, .ref a_part, v_pad, v_padMany, v_slips, v_slipMany, v_made, v_queue, v_depth, v_by, v_from, v_come, v_offOf, v_parent, v_best, v_trees, v_least, v_sums, v_toward, v_kept, v_isKept, v_keptAt, v_isWriting])), (a_maps, .inl (gI G, 6, .inl fm)), (a_part, .inl (gI G, 6, .inl fp))]) 0 0 := by
  refine Met.ofW (cc := cX10_holdsAt) (maxL := 6) (ret := (some .boolean)) (by decide) rfl ?_
  intro p e s m args below meth c s₁ B hml hv
  obtain ⟨rfl, hsz, hP, hD0, E0⟩ := hv
  have hx := B.exec
  have hb := B.bytes
  have hr := B.returns
  have hts := atoms_spec (ws := wsX10_holdsAt) B.pre
  have hown : s.vm.findClass RX10 = some m.cls := findClass_of_methodNamed B.named
  have hlocks := B.notSynchronized
  subst hsz
  have hD := hD0.self (sz := s.heap.size)
  generalize hAe : va_A ([(h1, .inr (6, [v_sites, .ref a_maps, v_told, v_kinds, v_land, v_spades, .ref a_part, v_pad, v_padMany, v_slips, v_slipMany, v_made, v_queue, v_depth, v_by, v_from, v_come, v_offOf, v_parent, v_best, v_trees, v_least, v_sums, v_toward, v_kept, v_isKept, v_keptAt, v_isWriting])), (a_maps, .inl (gI G, 6, .inl fm)), (a_part, .inl (gI G, 6, .inl fp))]) s.heap.size = A at hD E0 ⊢
  have E : EV G A s s.heap := E0
  have hA : ∀ q : Nat, s.heap.size ≤ q → A q := fun q h => by rw [← hAe]; exact Or.inr h
  have hS : va_S A s.heap s.heap [] := va_S.rf
  have hl := lv_entry ([.ref h1, .int p1, .int (nI j)]) (n := 6) (Nat.le_of_ble_eq_true rfl)
  rw [lg_entry_eq]
  generalize (lg_sl ([.ref h1, .int p1, .int (nI j)]) ++ List.replicate (6 - (lg_sl ([.ref h1, .int p1, .int (nI j)])).length) Slot.unset).toArray = ls at hl ⊢
  have hl : lv_has ls 6 [(0, .ref h1), (1, .int p1), (2, .int (nI j))] := hl
  have hP : va_P G.1 vwCl ([(h1, .inr (6, [v_sites, .ref a_maps, v_told, v_kinds, v_land, v_spades, .ref a_part, v_pad, v_padMany, v_slips, v_slipMany, v_made, v_queue, v_depth, v_by, v_from, v_come, v_offOf, v_parent, v_best, v_trees, v_least, v_sums, v_toward, v_kept, v_isKept, v_keptAt, v_isWriting])), (a_maps, .inl (gI G, 6, .inl fm)), (a_part, .inl (gI G, 6, .inl fp))]) s.heap := hP
  have hal := p5le hk6
  refine lv_aload_n hx hb dX10_holdsAt_0 rfl (lv_at hl 0 rfl) ?_
  refine lv_iload_n hx hb dX10_holdsAt_1 rfl (lv_at hl 1 rfl) ?_
  refine lv_iload_n hx hb dX10_holdsAt_2 rfl (lv_at hl 2 rfl) ?_
  refine ca_iR (va_runV (As := [.int p1, .int (nI j)]) (rest := []) ⟨hx, hb, hml, hown, hts⟩ (m2_mostAt l G s.heap.size h1 v_sites v_told v_kinds v_land v_spades v_pad v_padMany v_slips v_slipMany v_made v_queue v_depth v_by v_from v_come v_offOf v_parent v_best v_trees v_least v_sums v_toward v_kept v_isKept v_keptAt v_isWriting a_maps fm a_part fp k j p1 hk6 hp hfm (by omega)) (cwV 2 hts gX10_holdsAt_X10_mostAt rfl rfl rfl (by decide +kernel) ⟨by decide +kernel, by decide +kernel⟩) (pre_V E hP hD hS hA [0, 1, 2] (by decide) rfl 0 6 rfl rfl) rfl rfl hl.1 rfl (lv_room (Nat.le_of_ble_eq_true rfl)) dX10_holdsAt_3 ⟨by decide +kernel, by decide +kernel⟩) hS hP hD hA [0, 1, 2] rfl (fun r2 _ H locs w1 hP hS => ?_)
  rw [w1]
  refine lv_istore_n (lv' := [(3, .int (nI (mstA k p1 (maN fm) j))), (0, .ref h1), (1, .int p1), (2, .int (nI j))]) hx hb dX10_holdsAt_6 rfl hl (by decide) rfl (fun ls hl => ?_)
  refine lv_iconst (v := 1) hx hb dX10_holdsAt_7 (by decide) ?_
  refine lv_istore (lv' := [(4, .int 1), (3, .int (nI (mstA k p1 (maN fm) j))), (0, .ref h1), (1, .int p1), (2, .int (nI j))]) hx hb dX10_holdsAt_8 hl (by decide) rfl (fun ls hl => ?_)
  refine lv_iconst (v := 0) hx hb dX10_holdsAt_10 (by decide) ?_
  refine lv_istore (lv' := [(5, .int 0), (4, .int 1), (3, .int (nI (mstA k p1 (maN fm) j))), (0, .ref h1), (1, .int p1), (2, .int (nI j))]) hx hb dX10_holdsAt_11 hl (by decide) rfl (fun ls hl => ?_)
  refine lp_run (x0 := (0, 1)) (fun xx_ : Nat × Int32 => match xx_ with | (x, is_) => [(h1, .inr (6, [v_sites, .ref a_maps, v_told, v_kinds, v_land, v_spades, .ref a_part, v_pad, v_padMany, v_slips, v_slipMany, v_made, v_queue, v_depth, v_by, v_from, v_come, v_offOf, v_parent, v_best, v_trees, v_least, v_sums, v_toward, v_kept, v_isKept, v_keptAt, v_isWriting])), (a_maps, .inl (gI G, 6, .inl fm)), (a_part, .inl (gI G, 6, .inl fp))]) (fun xx_ : Nat × Int32 => match xx_ with | (x, is_) => [(5, .int (nI x)), (4, .int is_), (3, .int (nI (mstA k p1 (maN fm) j))), (0, .ref h1), (1, .int p1), (2, .int (nI j))]) (fun xx_ : Nat × Int32 => match xx_ with | (x, is_) => (x ≤ 6) ∧ ((is_ = 1 ∧ ∀ i : Nat, i < x → tdP p1 (nI i) → dg k (maN fm i) j = (mstA k p1 (maN fm) j)) ∨ (is_ = 0 ∧ ¬ allH k p1 (maN fm) j (mstA k p1 (maN fm) j)))) (fun xx_ : Nat × Int32 => match xx_ with | (x, is_) => 6 - x) (hP.sub [0, 1, 2] rfl) (hD.sub [0, 1, 2] (by decide) rfl) hS (lv_sub hl [0, 1, 2, 3, 4, 5] rfl) ⟨(by omega), Or.inl ⟨rfl, fun i9 h9 => by omega⟩⟩ ?_
  intro xx_ hI ih13 H locs ls hP hD hS hl
  obtain ⟨x, is_⟩ := xx_
  dsimp only at hI ih13 hP hD hl
  obtain ⟨hx0, his⟩ := hI
  have hl : lv_has ls 6 [(5, .int (nI x)), (4, .int is_), (3, .int (nI (mstA k p1 (maN fm) j))), (0, .ref h1), (1, .int p1), (2, .int (nI j))] := hl
  have hP : va_P G.1 vwCl ([(h1, .inr (6, [v_sites, .ref a_maps, v_told, v_kinds, v_land, v_spades, .ref a_part, v_pad, v_padMany, v_slips, v_slipMany, v_made, v_queue, v_depth, v_by, v_from, v_come, v_offOf, v_parent, v_best, v_trees, v_least, v_sums, v_toward, v_kept, v_isKept, v_keptAt, v_isWriting])), (a_maps, .inl (gI G, 6, .inl fm)), (a_part, .inl (gI G, 6, .inl fp))]) H := hP
  have hD : va_D A ([(h1, .inr (6, [v_sites, .ref a_maps, v_told, v_kinds, v_land, v_spades, .ref a_part, v_pad, v_padMany, v_slips, v_slipMany, v_made, v_queue, v_depth, v_by, v_from, v_come, v_offOf, v_parent, v_best, v_trees, v_least, v_sums, v_toward, v_kept, v_isKept, v_keptAt, v_isWriting])), (a_maps, .inl (gI G, 6, .inl fm)), (a_part, .inl (gI G, 6, .inl fp))]) := hD
  refine lv_iload hx hb dX10_holdsAt_13 (lv_at hl 0 rfl) ?_
  refine lv_bipush (v := 6) hx hb dX10_holdsAt_15 (by decide) ?_
  refine lv_icmp_ge (tgt := 63) hx hb dX10_holdsAt_17 (by decide) (fun c3 => ?_) (fun c3 => ?_)
  · have c3 : 6 ≤ x := (nI_leI (a := 6) (b := x) (by omega) (by omega)).mp c3
    refine lv_iload hx hb dX10_holdsAt_63 (lv_at hl 1 rfl) ?_
    have hP9 := (hP.sub (ws' := [(h1, .inr (6, [v_sites, .ref a_maps, v_told, v_kinds, v_land, v_spades, .ref a_part, v_pad, v_padMany, v_slips, v_slipMany, v_made, v_queue, v_depth, v_by, v_from, v_come, v_offOf, v_parent, v_best, v_trees, v_least, v_sums, v_toward, v_kept, v_isKept, v_keptAt, v_isWriting])), (a_maps, .inl (gI G, 6, .inl fm)), (a_part, .inl (gI G, 6, .inl fp))]) [0, 1, 2] rfl)
    have hD9 := (hD.sub (ws' := [(h1, .inr (6, [v_sites, .ref a_maps, v_told, v_kinds, v_land, v_spades, .ref a_part, v_pad, v_padMany, v_slips, v_slipMany, v_made, v_queue, v_depth, v_by, v_from, v_come, v_offOf, v_parent, v_best, v_trees, v_least, v_sums, v_toward, v_kept, v_isKept, v_keptAt, v_isWriting])), (a_maps, .inl (gI G, 6, .inl fm)), (a_part, .inl (gI G, 6, .inl fp))]) [0, 1, 2] (by decide) rfl)
    exact W.zret (v := is_) hx hb hr (by rcases his with ⟨q9, -⟩ | ⟨q9, -⟩ <;> rw [q9] <;> decide) (fun t9_ ht9_ hW9_ => ⟨⟨is_, (), rfl, his.elim (fun q9 => Or.inl ⟨q9.1, fun i9 h9 => q9.2 i9 (by omega)⟩) (fun q9 => Or.inr q9), by rw [ht9_]; exact hP9, hD9⟩, hS.F ht9_⟩) hS.2.2 dX10_holdsAt_65
  · have c3 : ¬ 6 ≤ x := fun h9_ => c3 ((nI_leI (a := 6) (b := x) (by omega) (by omega)).mpr h9_)
    refine lv_iload hx hb dX10_holdsAt_20 (lv_at hl 1 rfl) ?_
    refine lv_if_eq (tgt := 54) hx hb dX10_holdsAt_22 (by decide) (fun c4 => ?_) (fun c4 => ?_)
    · refine lv_iconst (v := 0) hx hb dX10_holdsAt_54 (by decide) ?_
      refine lv_istore (lv' := [(4, .int 0), (5, .int (nI x)), (3, .int (nI (mstA k p1 (maN fm) j))), (0, .ref h1), (1, .int p1), (2, .int (nI j))]) hx hb dX10_holdsAt_55 hl (by decide) rfl (fun ls hl => ?_)
      obtain ⟨x5, ex5⟩ : ∃ yy_ : Int32, yy_ = (nI x) + 1 := ⟨_, rfl⟩
      refine lv_iinc (v := x5) (lv' := [(5, .int x5), (4, .int 0), (3, .int (nI (mstA k p1 (maN fm) j))), (0, .ref h1), (1, .int p1), (2, .int (nI j))]) hx hb dX10_holdsAt_57 hl (k := 1) rfl (by rw [ex5]; rfl) (by decide) rfl (fun ls hl => ?_)
      obtain rfl : x5 = nI (x + 1) := by rw [ex5]; exact nI_add x 1
      refine lv_goto (tgt := 13) hx hb dX10_holdsAt_60 (by decide) ?_
      refine ih13 ((x + 1), 0) ⟨?_, ?_⟩ (by first | omega | (dsimp only; omega)) H locs ls (hP.sub [0, 1, 2] rfl) (hD.sub [0, 1, 2] (by decide) rfl) hS (lv_sub hl [0, 1, 2, 3, 4, 5] rfl)
      · try dsimp only
        omega
      · try dsimp only
        exact Or.inr ⟨rfl, his.elim (fun q9 => absurd (q9.1.symm.trans c4) (by decide)) (fun q9 => q9.2)⟩
    · have hal2 : ∀ i : Nat, i < x → tdP p1 (nI i) → dg k (maN fm i) j = (mstA k p1 (maN fm) j) := his.elim (fun q9 => q9.2) (fun q9 => absurd q9.1 c4)
      refine lv_iload_n hx hb dX10_holdsAt_25 rfl (lv_at hl 4 rfl) ?_
      refine lv_iload hx hb dX10_holdsAt_26 (lv_at hl 0 rfl) ?_
      refine lv_ishr hx hb dX10_holdsAt_28 ?_
      refine lv_topi (fun x6 ex6 => ?_)
      refine lv_iconst (v := 1) hx hb dX10_holdsAt_29 (by decide) ?_
      refine lv_iand hx hb dX10_holdsAt_30 ?_
      refine lv_topi (fun x7 ex7 => ?_)
      refine lv_if_eq (tgt := 50) hx hb dX10_holdsAt_31 (by decide) (fun c8 => ?_) (fun c8 => ?_)
      · have hntd : ¬ tdP p1 (nI x) := by unfold tdP; rw [← ex6, ← ex7, c8]; decide
        refine lv_iconst (v := 1) hx hb dX10_holdsAt_50 (by decide) ?_
        refine lv_goto (tgt := 55) hx hb dX10_holdsAt_51 (by decide) ?_
        refine lv_istore (lv' := [(4, .int 1), (5, .int (nI x)), (3, .int (nI (mstA k p1 (maN fm) j))), (0, .ref h1), (1, .int p1), (2, .int (nI j))]) hx hb dX10_holdsAt_55 hl (by decide) rfl (fun ls hl => ?_)
        obtain ⟨x9, ex9⟩ : ∃ yy_ : Int32, yy_ = (nI x) + 1 := ⟨_, rfl⟩
        refine lv_iinc (v := x9) (lv' := [(5, .int x9), (4, .int 1), (3, .int (nI (mstA k p1 (maN fm) j))), (0, .ref h1), (1, .int p1), (2, .int (nI j))]) hx hb dX10_holdsAt_57 hl (k := 1) rfl (by rw [ex9]; rfl) (by decide) rfl (fun ls hl => ?_)
        obtain rfl : x9 = nI (x + 1) := by rw [ex9]; exact nI_add x 1
        refine lv_goto (tgt := 13) hx hb dX10_holdsAt_60 (by decide) ?_
        refine ih13 ((x + 1), 1) ⟨?_, ?_⟩ (by first | omega | (dsimp only; omega)) H locs ls (hP.sub [0, 1, 2] rfl) (hD.sub [0, 1, 2] (by decide) rfl) hS (lv_sub hl [0, 1, 2, 3, 4, 5] rfl)
        · try dsimp only
          omega
        · try dsimp only
          exact Or.inl ⟨rfl, fun i9 h9 t9 => by by_cases e9 : i9 = x; (rw [e9] at t9; exact absurd t9 hntd); exact hal2 i9 (by omega) t9⟩
      · have htd : tdP p1 (nI x) := by have q9 := and1 (p1 >>> (nI x &&& 31)); unfold tdP; rw [← ex6, ← ex7] at *; exact q9.elim (fun q8 => absurd q8 c8) id
        refine lv_aload_n hx hb dX10_holdsAt_34 rfl (lv_at hl 3 rfl) ?_
        refine lv_aload_n hx hb dX10_holdsAt_35 rfl (lv_at hl 3 rfl) ?_
        refine va_get (D := G.1) (ci := 6) (v := .ref a_maps) (C := RX10) (T := TX10) (N := 28) hx hb hts (fun _ h => List.mem_cons_of_mem _ (List.mem_append_right _ h)) hown E.K hP 0 rfl rfl 1 (by decide) (hts (.fieldLink RX10 7 "LastMapModel" "maps" "[I") (by decide +kernel)) (fun _ h9 => h9) rfl dX10_holdsAt_36 ?_
        refine lv_iload hx hb dX10_holdsAt_39 (lv_at hl 0 rfl) ?_
        refine va_iald hx hb E.K hP 1 1 rfl rfl (i := nI x) (vp_in_nI (by omega) (by decide)) dX10_holdsAt_41 ?_
        refine lv_topi (fun x10 ex10 => ?_)
        have hmj := maN_ok hk6 hfm (show x < 6 by omega)
        obtain rfl : x10 = nI (maN fm x) := by rw [ex10, nI_clamp (by omega)]; exact hmj.2
        refine lv_iload_n hx hb dX10_holdsAt_42 rfl (lv_at hl 5 rfl) ?_
        refine ca_iR (va_runV (As := [.int (nI (maN fm x)), .int (nI j)]) (rest := []) ⟨hx, hb, hml, hown, hts⟩ (m_signAt l G H.size h1 v_sites (.ref a_maps) v_told v_kinds v_land v_spades v_pad v_padMany v_slips v_slipMany v_made v_queue v_depth v_by v_from v_come v_offOf v_parent v_best v_trees v_least v_sums v_toward v_kept v_isKept v_keptAt v_isWriting a_part fp k (maN fm x) j hk6 hp hmj.1 hj) (cwV 2 hts gX10_holdsAt_X10_signAt rfl rfl rfl (by decide +kernel) ⟨by decide +kernel, by decide +kernel⟩) (pre_V E hP hD hS hA [0, 2] (by decide) rfl 0 6 rfl rfl) rfl rfl hl.1 rfl (lv_room (Nat.le_of_ble_eq_true rfl)) dX10_holdsAt_43 ⟨by decide +kernel, by decide +kernel⟩) hS hP hD hA [0, 2] rfl (fun r12 _ H locs w11 hP hS => ?_)
        rw [w11]
        have hdg9 : (dg k (maN fm x) j) < 5 := dg_lt _ _ _
        have hm5 : (mstA k p1 (maN fm) j) < 5 := mstA_lt
        refine lv_iload_n hx hb dX10_holdsAt_46 rfl (lv_at hl 2 rfl) ?_
        refine lv_icmp_ne (tgt := 54) hx hb dX10_holdsAt_47 (by decide) (fun c13 => ?_) (fun c13 => ?_)
        · have c13 : ¬ (dg k (maN fm x) j) = (mstA k p1 (maN fm) j) := fun h9_ => c13 ((nI_eq (a := (dg k (maN fm x) j)) (b := (mstA k p1 (maN fm) j)) (by omega) (by omega)).mpr h9_)
          refine lv_iconst (v := 0) hx hb dX10_holdsAt_54 (by decide) ?_
          refine lv_istore (lv' := [(4, .int 0), (5, .int (nI x)), (3, .int (nI (mstA k p1 (maN fm) j))), (0, .ref h1), (1, .int p1), (2, .int (nI j))]) hx hb dX10_holdsAt_55 hl (by decide) rfl (fun ls hl => ?_)
          obtain ⟨x14, ex14⟩ : ∃ yy_ : Int32, yy_ = (nI x) + 1 := ⟨_, rfl⟩
          refine lv_iinc (v := x14) (lv' := [(5, .int x14), (4, .int 0), (3, .int (nI (mstA k p1 (maN fm) j))), (0, .ref h1), (1, .int p1), (2, .int (nI j))]) hx hb dX10_holdsAt_57 hl (k := 1) rfl (by rw [ex14]; rfl) (by decide) rfl (fun ls hl => ?_)
          obtain rfl : x14 = nI (x + 1) := by rw [ex14]; exact nI_add x 1
          refine lv_goto (tgt := 13) hx hb dX10_holdsAt_60 (by decide) ?_
          refine ih13 ((x + 1), 0) ⟨?_, ?_⟩ (by first | omega | (dsimp only; omega)) H locs ls (hP.sub [0, 1, 2] rfl) (hD.sub [0, 1, 2] (by decide) rfl) hS (lv_sub hl [0, 1, 2, 3, 4, 5] rfl)
          · try dsimp only
            omega
          · try dsimp only
            exact Or.inr ⟨rfl, fun q9 => c13 (q9 x (by omega) htd)⟩
        · have c13 : (dg k (maN fm x) j) = (mstA k p1 (maN fm) j) := (nI_eq (a := (dg k (maN fm x) j)) (b := (mstA k p1 (maN fm) j)) (by omega) (by omega)).mp c13
          refine lv_iconst (v := 1) hx hb dX10_holdsAt_50 (by decide) ?_
          refine lv_goto (tgt := 55) hx hb dX10_holdsAt_51 (by decide) ?_
          refine lv_istore (lv' := [(4, .int 1), (5, .int (nI x)), (3, .int (nI (mstA k p1 (maN fm) j))), (0, .ref h1), (1, .int p1), (2, .int (nI j))]) hx hb dX10_holdsAt_55 hl (by decide) rfl (fun ls hl => ?_)
          obtain ⟨x15, ex15⟩ : ∃ yy_ : Int32, yy_ = (nI x) + 1 := ⟨_, rfl⟩
          refine lv_iinc (v := x15) (lv' := [(5, .int x15), (4, .int 1), (3, .int (nI (mstA k p1 (maN fm) j))), (0, .ref h1), (1, .int p1), (2, .int (nI j))]) hx hb dX10_holdsAt_57 hl (k := 1) rfl (by rw [ex15]; rfl) (by decide) rfl (fun ls hl => ?_)
          obtain rfl : x15 = nI (x + 1) := by rw [ex15]; exact nI_add x 1
          refine lv_goto (tgt := 13) hx hb dX10_holdsAt_60 (by decide) ?_
          refine ih13 ((x + 1), 1) ⟨?_, ?_⟩ (by first | omega | (dsimp only; omega)) H locs ls (hP.sub [0, 1, 2] rfl) (hD.sub [0, 1, 2] (by decide) rfl) hS (lv_sub hl [0, 1, 2, 3, 4, 5] rfl)
          · try dsimp only
            omega
          · try dsimp only
            exact Or.inl ⟨rfl, fun i9 h9 t9 => by by_cases e9 : i9 = x; (rw [e9]; exact c13); exact hal2 i9 (by omega) t9⟩

set_option maxHeartbeats 1000000 in
set_option maxRecDepth 100000 in
theorem m2_holds (l : Launch) (G : Gy) (sz : Nat) (h1 : Nat) (v_kinds : Value) (v_land : Value) (v_spades : Value) (v_pad : Value) (v_padMany : Value) (v_slips : Value) (v_slipMany : Value) (v_made : Value) (v_queue : Value) (v_depth : Value) (v_by : Value) (v_from : Value) (v_come : Value) (v_offOf : Value) (v_parent : Value) (v_best : Value) (v_trees : Value) (v_least : Value) (v_sums : Value) (v_toward : Value) (v_kept : Value) (v_isKept : Value) (v_keptAt : Value) (v_isWriting : Value) (a_maps : Nat) (fm : Nat → Int32) (a_part : Nat) (fp : Nat → Int32) (k : Nat) (told : Int32) (p0 : Int32) (p1 : Int32) (hk2 : 2 ≤ k) (hk6 : k ≤ 6) (hp : pOK k fp) (hfm : mapsOK k fm) : Ci l G yX10_holds wsX10_holds ({ frames := 3, cells := 0, slots := 0, locals := 74 }) [.ref h1, .int p0, .int p1] ([(h1, .inr (6, [.int (nI k), .ref a_maps, .int told, v_kinds, v_land, v_spades, .ref a_part, v_pad, v_padMany, v_slips, v_slipMany, v_made, v_queue, v_depth, v_by, v_from, v_come, v_offOf, v_parent, v_best, v_trees, v_least, v_sums, v_toward, v_kept, v_isKept, v_keptAt, v_isWriting])), (a_maps, .inl (gI G, 6, .inl fm)), (a_part, .inl (gI G, 6, .inl fp))]) sz (fun (r : Int32) (_ : Unit) => r = hoA k told (maN fm) p0 p1) (fun (_ : Unit) => [(h1, .inr (6, [.int (nI k), .ref a_maps, .int told, v_kinds, v_land, v_spades, .ref a_part, v_pad, v_padMany, v_slips, v_slipMany, v_made, v_queue, v_depth, v_by, v_from, v_come, v_offOf, v_parent, v_best, v_trees, v_least, v_sums, v_toward, v_kept, v_isKept, v_keptAt, v_isWriting])), (a_maps, .inl (gI G, 6, .inl fm)), (a_part, .inl (gI G, 6, .inl fp))]) 0 0 := by
  refine Met.ofW (cc := cX10_holds) (maxL := 5) (ret := (some .int)) (by decide) rfl ?_
  intro p e s m args below meth c s₁ B hml hv
  obtain ⟨rfl, hsz, hP, hD0, E0⟩ := hv
  have hx := B.exec
  have hb := B.bytes
  have hr := B.returns
  have hts := atoms_spec (ws := wsX10_holds) B.pre
  have hown : s.vm.findClass RX10 = some m.cls := findClass_of_methodNamed B.named
  have hlocks := B.notSynchronized
  subst hsz
  have hD := hD0.self (sz := s.heap.size)
  generalize hAe : va_A ([(h1, .inr (6, [.int (nI k), .ref a_maps, .int told, v_kinds, v_land, v_spades, .ref a_part, v_pad, v_padMany, v_slips, v_slipMany, v_made, v_queue, v_depth, v_by, v_from, v_come, v_offOf, v_parent, v_best, v_trees, v_least, v_sums, v_toward, v_kept, v_isKept, v_keptAt, v_isWriting])), (a_maps, .inl (gI G, 6, .inl fm)), (a_part, .inl (gI G, 6, .inl fp))]) s.heap.size = A at hD E0 ⊢
  have E : EV G A s s.heap := E0
  have hA : ∀ q : Nat, s.heap.size ≤ q → A q := fun q h => by rw [← hAe]; exact Or.inr h
  have hS : va_S A s.heap s.heap [] := va_S.rf
  have hl := lv_entry ([.ref h1, .int p0, .int p1]) (n := 5) (Nat.le_of_ble_eq_true rfl)
  rw [lg_entry_eq]
  generalize (lg_sl ([.ref h1, .int p0, .int p1]) ++ List.replicate (5 - (lg_sl ([.ref h1, .int p0, .int p1])).length) Slot.unset).toArray = ls at hl ⊢
  have hl : lv_has ls 5 [(0, .ref h1), (1, .int p0), (2, .int p1)] := hl
  have hP : va_P G.1 vwCl ([(h1, .inr (6, [.int (nI k), .ref a_maps, .int told, v_kinds, v_land, v_spades, .ref a_part, v_pad, v_padMany, v_slips, v_slipMany, v_made, v_queue, v_depth, v_by, v_from, v_come, v_offOf, v_parent, v_best, v_trees, v_least, v_sums, v_toward, v_kept, v_isKept, v_keptAt, v_isWriting])), (a_maps, .inl (gI G, 6, .inl fm)), (a_part, .inl (gI G, 6, .inl fp))]) s.heap := hP
  have hal := p5le hk6
  refine lv_iload_n hx hb dX10_holds_0 rfl (lv_at hl 2 rfl) ?_
  refine lv_iconst (v := (-1)) hx hb dX10_holds_1 (by decide) ?_
  refine lv_icmp_eq (tgt := 15) hx hb dX10_holds_2 (by decide) (fun c1 => ?_) (fun c1 => ?_)
  · refine lv_iload_n hx hb dX10_holds_15 rfl (lv_at hl 1 rfl) ?_
    refine lv_i2l hx hb dX10_holds_16 rfl ?_
    refine lv_topl (fun x2 ex2 => ?_)
    refine lv_lconst (v := 1) hx hb dX10_holds_17 (by decide) ?_
    refine lv_ldc2 (v := 63) hx hb hown (hts (.constantLong RX10 203 (63)) (by decide +kernel)) dX10_holds_18 ?_
    refine ca_iR (va_runS (As := [.long x2, .long 1, .long 63]) (rest := []) ⟨hx, hb, hml, hown, hts⟩ (m_in l G s.heap.size x2 1 63 p0 1 63 ex2 (by decide) (by decide)) (va_cwS 3 hts gX10_holds_X10_in rfl rfl rfl (by decide +kernel) ⟨by decide +kernel, by decide +kernel⟩) (pre_S E hP hD hS hA [] (by decide) rfl) rfl rfl hl.1 rfl (lv_room (Nat.le_of_ble_eq_true rfl)) dX10_holds_21 ⟨by decide +kernel, by decide +kernel⟩) hS hP hD hA [] rfl (fun r4 _ H locs w3 hP hS => ?_)
    rcases w3 with ⟨rfl, b5⟩ | ⟨rfl, b5⟩
    · refine lv_if_ne (tgt := 30) hx hb dX10_holds_24 (by decide) (fun _ => ?_) (fun c6 => False.elim (by revert c6; decide))
      refine lv_aload_n hx hb dX10_holds_30 rfl (lv_at hl 0 rfl) ?_
      refine lv_iload_n hx hb dX10_holds_31 rfl (lv_at hl 1 rfl) ?_
      refine ca_iR (va_runV (As := [.int p0]) (rest := []) ⟨hx, hb, hml, hown, hts⟩ (m_areTold l G H.size h1 (.int (nI k)) (.ref a_maps) v_kinds v_land v_spades (.ref a_part) v_pad v_padMany v_slips v_slipMany v_made v_queue v_depth v_by v_from v_come v_offOf v_parent v_best v_trees v_least v_sums v_toward v_kept v_isKept v_keptAt v_isWriting told p0) (cwV 1 hts gX10_holds_X10_areTold rfl rfl rfl (by decide +kernel) ⟨by decide +kernel, by decide +kernel⟩) (pre_V E hP hD hS hA [0] (by decide) rfl 0 6 rfl rfl) rfl rfl hl.1 rfl (lv_room (Nat.le_of_ble_eq_true rfl)) dX10_holds_32 ⟨by decide +kernel, by decide +kernel⟩) hS hP hD hA [0] rfl (fun r8 _ H locs w7 hP hS => ?_)
      rcases w7 with ⟨rfl, b9⟩ | ⟨rfl, b9⟩
      · refine lv_if_ne (tgt := 41) hx hb dX10_holds_35 (by decide) (fun _ => ?_) (fun c10 => False.elim (by revert c10; decide))
        refine lv_iload_n hx hb dX10_holds_41 rfl (lv_at hl 2 rfl) ?_
        refine lv_if_lt (tgt := 55) hx hb dX10_holds_42 (by decide) (fun c11 => ?_) (fun c11 => absurd (show p1 < 0 by rw [c1]; decide) c11)
        refine lv_iconst (v := 0) hx hb dX10_holds_55 (by decide) ?_
        refine lv_istore_n (lv' := [(3, .int 0), (0, .ref h1), (1, .int p0), (2, .int p1)]) hx hb dX10_holds_56 rfl hl (by decide) rfl (fun ls hl => ?_)
        refine lv_iconst (v := 0) hx hb dX10_holds_57 (by decide) ?_
        refine lv_istore (lv' := [(4, .int 0), (3, .int 0), (0, .ref h1), (1, .int p0), (2, .int p1)]) hx hb dX10_holds_58 hl (by decide) rfl (fun ls hl => ?_)
        refine lp_run (x0 := (0, 0)) (fun xx_ : Nat × Int32 => match xx_ with | (x, bi) => [(h1, .inr (6, [.int (nI k), .ref a_maps, .int told, v_kinds, v_land, v_spades, .ref a_part, v_pad, v_padMany, v_slips, v_slipMany, v_made, v_queue, v_depth, v_by, v_from, v_come, v_offOf, v_parent, v_best, v_trees, v_least, v_sums, v_toward, v_kept, v_isKept, v_keptAt, v_isWriting])), (a_maps, .inl (gI G, 6, .inl fm)), (a_part, .inl (gI G, 6, .inl fp))]) (fun xx_ : Nat × Int32 => match xx_ with | (x, bi) => [(4, .int (nI x)), (3, .int bi), (0, .ref h1), (1, .int p0), (2, .int p1)]) (fun xx_ : Nat × Int32 => match xx_ with | (x, bi) => (x ≤ k) ∧ (bi = hbA (fun j => allH k p0 (maN fm) j (mstA k p0 (maN fm) j)) x)) (fun xx_ : Nat × Int32 => match xx_ with | (x, bi) => k - x) (hP.sub [0, 1, 2] rfl) (hD.sub [0, 1, 2] (by decide) rfl) hS (lv_sub hl [0, 1, 2, 3, 4] rfl) ⟨(by omega), rfl⟩ ?_
        intro xx_ hI ih60 H locs ls hP hD hS hl
        obtain ⟨x, bi⟩ := xx_
        dsimp only at hI ih60 hP hD hl
        obtain ⟨hx0, hbi⟩ := hI
        have hl : lv_has ls 5 [(4, .int (nI x)), (3, .int bi), (0, .ref h1), (1, .int p0), (2, .int p1)] := hl
        have hP : va_P G.1 vwCl ([(h1, .inr (6, [.int (nI k), .ref a_maps, .int told, v_kinds, v_land, v_spades, .ref a_part, v_pad, v_padMany, v_slips, v_slipMany, v_made, v_queue, v_depth, v_by, v_from, v_come, v_offOf, v_parent, v_best, v_trees, v_least, v_sums, v_toward, v_kept, v_isKept, v_keptAt, v_isWriting])), (a_maps, .inl (gI G, 6, .inl fm)), (a_part, .inl (gI G, 6, .inl fp))]) H := hP
        have hD : va_D A ([(h1, .inr (6, [.int (nI k), .ref a_maps, .int told, v_kinds, v_land, v_spades, .ref a_part, v_pad, v_padMany, v_slips, v_slipMany, v_made, v_queue, v_depth, v_by, v_from, v_come, v_offOf, v_parent, v_best, v_trees, v_least, v_sums, v_toward, v_kept, v_isKept, v_keptAt, v_isWriting])), (a_maps, .inl (gI G, 6, .inl fm)), (a_part, .inl (gI G, 6, .inl fp))]) := hD
        refine lv_iload hx hb dX10_holds_60 (lv_at hl 0 rfl) ?_
        refine lv_aload_n hx hb dX10_holds_62 rfl (lv_at hl 2 rfl) ?_
        refine va_get (D := G.1) (ci := 6) (v := .int (nI k)) (C := RX10) (T := TX10) (N := 28) hx hb hts (fun _ h => List.mem_cons_of_mem _ (List.mem_append_right _ h)) hown E.K hP 0 rfl rfl 0 (by decide) (hts (.fieldLink RX10 67 "LastMapModel" "sites" "I") (by decide +kernel)) (fun _ h9 => h9) rfl dX10_holds_63 ?_
        refine lv_icmp_ge (tgt := 96) hx hb dX10_holds_66 (by decide) (fun c12 => ?_) (fun c12 => ?_)
        · have c12 : k ≤ x := (nI_leI (a := k) (b := x) (by omega) (by omega)).mp c12
          refine lv_iload_n hx hb dX10_holds_96 rfl (lv_at hl 1 rfl) ?_
          have hP9 := (hP.sub (ws' := [(h1, .inr (6, [.int (nI k), .ref a_maps, .int told, v_kinds, v_land, v_spades, .ref a_part, v_pad, v_padMany, v_slips, v_slipMany, v_made, v_queue, v_depth, v_by, v_from, v_come, v_offOf, v_parent, v_best, v_trees, v_least, v_sums, v_toward, v_kept, v_isKept, v_keptAt, v_isWriting])), (a_maps, .inl (gI G, 6, .inl fm)), (a_part, .inl (gI G, 6, .inl fp))]) [0, 1, 2] rfl)
          have hD9 := (hD.sub (ws' := [(h1, .inr (6, [.int (nI k), .ref a_maps, .int told, v_kinds, v_land, v_spades, .ref a_part, v_pad, v_padMany, v_slips, v_slipMany, v_made, v_queue, v_depth, v_by, v_from, v_come, v_offOf, v_parent, v_best, v_trees, v_least, v_sums, v_toward, v_kept, v_isKept, v_keptAt, v_isWriting])), (a_maps, .inl (gI G, 6, .inl fm)), (a_part, .inl (gI G, 6, .inl fp))]) [0, 1, 2] (by decide) rfl)
          exact W.iret (v := bi) hx hb hr (fun t9_ ht9_ hW9_ => ⟨⟨bi, (), rfl, by rw [hbi, show x = k by omega]; exact hoA_4 c1 b5 (are_of.mpr b9), by rw [ht9_]; exact hP9, hD9⟩, hS.F ht9_⟩) hS.2.2 dX10_holds_97
        · have c12 : ¬ k ≤ x := fun h9_ => c12 ((nI_leI (a := k) (b := x) (by omega) (by omega)).mpr h9_)
          refine lv_iload_n hx hb dX10_holds_69 rfl (lv_at hl 1 rfl) ?_
          refine lv_aload_n hx hb dX10_holds_70 rfl (lv_at hl 2 rfl) ?_
          refine lv_iload_n hx hb dX10_holds_71 rfl (lv_at hl 3 rfl) ?_
          refine lv_iload hx hb dX10_holds_72 (lv_at hl 0 rfl) ?_
          refine ca_iR (va_runV (As := [.int p0, .int (nI x)]) (rest := [.int bi]) ⟨hx, hb, hml, hown, hts⟩ (m2_holdsAt l G H.size h1 (.int (nI k)) (.int told) v_kinds v_land v_spades v_pad v_padMany v_slips v_slipMany v_made v_queue v_depth v_by v_from v_come v_offOf v_parent v_best v_trees v_least v_sums v_toward v_kept v_isKept v_keptAt v_isWriting a_maps fm a_part fp k x p0 hk6 hp hfm (by omega)) (cwV 2 hts gX10_holds_X10_holdsAt rfl rfl rfl (by decide +kernel) ⟨by decide +kernel, by decide +kernel⟩) (pre_V E hP hD hS hA [0, 1, 2] (by decide) rfl 0 6 rfl rfl) rfl rfl hl.1 rfl (lv_room (Nat.le_of_ble_eq_true rfl)) dX10_holds_74 ⟨by decide +kernel, by decide +kernel⟩) hS hP hD hA [0, 1, 2] rfl (fun r14 _ H locs w13 hP hS => ?_)
          rcases w13 with ⟨rfl, b15⟩ | ⟨rfl, b15⟩
          · refine lv_if_eq (tgt := 87) hx hb dX10_holds_77 (by decide) (fun c16 => False.elim (by revert c16; decide)) (fun _ => ?_)
            refine lv_iconst (v := 1) hx hb dX10_holds_80 (by decide) ?_
            refine lv_iload hx hb dX10_holds_81 (lv_at hl 0 rfl) ?_
            refine lv_ishl hx hb dX10_holds_83 ?_
            refine lv_topi (fun x17 ex17 => ?_)
            refine lv_goto (tgt := 88) hx hb dX10_holds_84 (by decide) ?_
            refine lv_ior hx hb dX10_holds_88 ?_
            refine lv_topi (fun x18 ex18 => ?_)
            refine lv_istore_n (lv' := [(3, .int x18), (4, .int (nI x)), (0, .ref h1), (1, .int p0), (2, .int p1)]) hx hb dX10_holds_89 rfl hl (by decide) rfl (fun ls hl => ?_)
            obtain ⟨x19, ex19⟩ : ∃ yy_ : Int32, yy_ = (nI x) + 1 := ⟨_, rfl⟩
            refine lv_iinc (v := x19) (lv' := [(4, .int x19), (3, .int x18), (0, .ref h1), (1, .int p0), (2, .int p1)]) hx hb dX10_holds_90 hl (k := 1) rfl (by rw [ex19]; rfl) (by decide) rfl (fun ls hl => ?_)
            obtain rfl : x19 = nI (x + 1) := by rw [ex19]; exact nI_add x 1
            refine lv_goto (tgt := 60) hx hb dX10_holds_93 (by decide) ?_
            refine ih60 ((x + 1), x18) ⟨?_, ?_⟩ (by first | omega | (dsimp only; omega)) H locs ls (hP.sub [0, 1, 2] rfl) (hD.sub [0, 1, 2] (by decide) rfl) hS (lv_sub hl [0, 1, 2, 3, 4] rfl)
            · try dsimp only
              omega
            · try dsimp only
              rw [hbA_t (R := (fun j => allH k p0 (maN fm) j (mstA k p0 (maN fm) j))) b15, ← hbi, ex18, ex17]
          · refine lv_if_eq (tgt := 87) hx hb dX10_holds_77 (by decide) (fun _ => ?_) (fun c20 => False.elim (by revert c20; decide))
            refine lv_iconst (v := 0) hx hb dX10_holds_87 (by decide) ?_
            refine lv_ior hx hb dX10_holds_88 ?_
            refine lv_topi (fun x21 ex21 => ?_)
            refine lv_istore_n (lv' := [(3, .int x21), (4, .int (nI x)), (0, .ref h1), (1, .int p0), (2, .int p1)]) hx hb dX10_holds_89 rfl hl (by decide) rfl (fun ls hl => ?_)
            obtain ⟨x22, ex22⟩ : ∃ yy_ : Int32, yy_ = (nI x) + 1 := ⟨_, rfl⟩
            refine lv_iinc (v := x22) (lv' := [(4, .int x22), (3, .int x21), (0, .ref h1), (1, .int p0), (2, .int p1)]) hx hb dX10_holds_90 hl (k := 1) rfl (by rw [ex22]; rfl) (by decide) rfl (fun ls hl => ?_)
            obtain rfl : x22 = nI (x + 1) := by rw [ex22]; exact nI_add x 1
            refine lv_goto (tgt := 60) hx hb dX10_holds_93 (by decide) ?_
            refine ih60 ((x + 1), x21) ⟨?_, ?_⟩ (by first | omega | (dsimp only; omega)) H locs ls (hP.sub [0, 1, 2] rfl) (hD.sub [0, 1, 2] (by decide) rfl) hS (lv_sub hl [0, 1, 2, 3, 4] rfl)
            · try dsimp only
              omega
            · try dsimp only
              rw [hbA_f (R := (fun j => allH k p0 (maN fm) j (mstA k p0 (maN fm) j))) b15, ex21, or_0]; exact hbi
      · refine lv_if_ne (tgt := 41) hx hb dX10_holds_35 (by decide) (fun c23 => False.elim (by revert c23; decide)) (fun _ => ?_)
        refine lv_bipush (v := (-3)) hx hb dX10_holds_38 (by decide) ?_
        have hP9 := (hP.sub (ws' := [(h1, .inr (6, [.int (nI k), .ref a_maps, .int told, v_kinds, v_land, v_spades, .ref a_part, v_pad, v_padMany, v_slips, v_slipMany, v_made, v_queue, v_depth, v_by, v_from, v_come, v_offOf, v_parent, v_best, v_trees, v_least, v_sums, v_toward, v_kept, v_isKept, v_keptAt, v_isWriting])), (a_maps, .inl (gI G, 6, .inl fm)), (a_part, .inl (gI G, 6, .inl fp))]) [0, 1, 2] rfl)
        have hD9 := (hD.sub (ws' := [(h1, .inr (6, [.int (nI k), .ref a_maps, .int told, v_kinds, v_land, v_spades, .ref a_part, v_pad, v_padMany, v_slips, v_slipMany, v_made, v_queue, v_depth, v_by, v_from, v_come, v_offOf, v_parent, v_best, v_trees, v_least, v_sums, v_toward, v_kept, v_isKept, v_keptAt, v_isWriting])), (a_maps, .inl (gI G, 6, .inl fm)), (a_part, .inl (gI G, 6, .inl fp))]) [0, 1, 2] (by decide) rfl)
        exact W.iret (v := (-3)) hx hb hr (fun t9_ ht9_ hW9_ => ⟨⟨(-3), (), rfl, hoA_3 (fun q9 => q9.1 c1) b5 (fun q9 => b9 (are_of.mp q9)), by rw [ht9_]; exact hP9, hD9⟩, hS.F ht9_⟩) hS.2.2 dX10_holds_40
    · refine lv_if_ne (tgt := 30) hx hb dX10_holds_24 (by decide) (fun c24 => False.elim (by revert c24; decide)) (fun _ => ?_)
      refine lv_bipush (v := (-2)) hx hb dX10_holds_27 (by decide) ?_
      have hP9 := (hP.sub (ws' := [(h1, .inr (6, [.int (nI k), .ref a_maps, .int told, v_kinds, v_land, v_spades, .ref a_part, v_pad, v_padMany, v_slips, v_slipMany, v_made, v_queue, v_depth, v_by, v_from, v_come, v_offOf, v_parent, v_best, v_trees, v_least, v_sums, v_toward, v_kept, v_isKept, v_keptAt, v_isWriting])), (a_maps, .inl (gI G, 6, .inl fm)), (a_part, .inl (gI G, 6, .inl fp))]) [0, 1, 2] rfl)
      have hD9 := (hD.sub (ws' := [(h1, .inr (6, [.int (nI k), .ref a_maps, .int told, v_kinds, v_land, v_spades, .ref a_part, v_pad, v_padMany, v_slips, v_slipMany, v_made, v_queue, v_depth, v_by, v_from, v_come, v_offOf, v_parent, v_best, v_trees, v_least, v_sums, v_toward, v_kept, v_isKept, v_keptAt, v_isWriting])), (a_maps, .inl (gI G, 6, .inl fm)), (a_part, .inl (gI G, 6, .inl fp))]) [0, 1, 2] (by decide) rfl)
      exact W.iret (v := (-2)) hx hb hr (fun t9_ ht9_ hW9_ => ⟨⟨(-2), (), rfl, hoA_2 (fun q9 => q9.1 c1) b5, by rw [ht9_]; exact hP9, hD9⟩, hS.F ht9_⟩) hS.2.2 dX10_holds_29
  · refine lv_aload_n hx hb dX10_holds_5 rfl (lv_at hl 0 rfl) ?_
    refine lv_iload_n hx hb dX10_holds_6 rfl (lv_at hl 2 rfl) ?_
    refine ca_iR (va_runV (As := [.int p1]) (rest := []) ⟨hx, hb, hml, hown, hts⟩ (m_isSite l G s.heap.size h1 (.ref a_maps) (.int told) v_kinds v_land v_spades (.ref a_part) v_pad v_padMany v_slips v_slipMany v_made v_queue v_depth v_by v_from v_come v_offOf v_parent v_best v_trees v_least v_sums v_toward v_kept v_isKept v_keptAt v_isWriting k p1 hk2 hk6) (cwV 1 hts gX10_holds_X10_isSite rfl rfl rfl (by decide +kernel) ⟨by decide +kernel, by decide +kernel⟩) (pre_V E hP hD hS hA [0] (by decide) rfl 0 6 rfl rfl) rfl rfl hl.1 rfl (lv_room (Nat.le_of_ble_eq_true rfl)) dX10_holds_7 ⟨by decide +kernel, by decide +kernel⟩) hS hP hD hA [0] rfl (fun r26 _ H locs w25 hP hS => ?_)
    rcases w25 with ⟨rfl, b27⟩ | ⟨rfl, b27⟩
    · refine lv_if_ne (tgt := 15) hx hb dX10_holds_10 (by decide) (fun _ => ?_) (fun c28 => False.elim (by revert c28; decide))
      obtain ⟨j_p1, hj_p1, ej_p1⟩ := b27
      have hl : lv_has ls 5 [(0, .ref h1), (1, .int p0), (2, .int (nI j_p1))] := by have q := hl; rw [ej_p1] at q; exact q
      refine lv_iload_n hx hb dX10_holds_15 rfl (lv_at hl 1 rfl) ?_
      refine lv_i2l hx hb dX10_holds_16 rfl ?_
      refine lv_topl (fun x29 ex29 => ?_)
      refine lv_lconst (v := 1) hx hb dX10_holds_17 (by decide) ?_
      refine lv_ldc2 (v := 63) hx hb hown (hts (.constantLong RX10 203 (63)) (by decide +kernel)) dX10_holds_18 ?_
      refine ca_iR (va_runS (As := [.long x29, .long 1, .long 63]) (rest := []) ⟨hx, hb, hml, hown, hts⟩ (m_in l G H.size x29 1 63 p0 1 63 ex29 (by decide) (by decide)) (va_cwS 3 hts gX10_holds_X10_in rfl rfl rfl (by decide +kernel) ⟨by decide +kernel, by decide +kernel⟩) (pre_S E hP hD hS hA [] (by decide) rfl) rfl rfl hl.1 rfl (lv_room (Nat.le_of_ble_eq_true rfl)) dX10_holds_21 ⟨by decide +kernel, by decide +kernel⟩) hS hP hD hA [] rfl (fun r31 _ H locs w30 hP hS => ?_)
      rcases w30 with ⟨rfl, b32⟩ | ⟨rfl, b32⟩
      · refine lv_if_ne (tgt := 30) hx hb dX10_holds_24 (by decide) (fun _ => ?_) (fun c33 => False.elim (by revert c33; decide))
        refine lv_aload_n hx hb dX10_holds_30 rfl (lv_at hl 0 rfl) ?_
        refine lv_iload_n hx hb dX10_holds_31 rfl (lv_at hl 1 rfl) ?_
        refine ca_iR (va_runV (As := [.int p0]) (rest := []) ⟨hx, hb, hml, hown, hts⟩ (m_areTold l G H.size h1 (.int (nI k)) (.ref a_maps) v_kinds v_land v_spades (.ref a_part) v_pad v_padMany v_slips v_slipMany v_made v_queue v_depth v_by v_from v_come v_offOf v_parent v_best v_trees v_least v_sums v_toward v_kept v_isKept v_keptAt v_isWriting told p0) (cwV 1 hts gX10_holds_X10_areTold rfl rfl rfl (by decide +kernel) ⟨by decide +kernel, by decide +kernel⟩) (pre_V E hP hD hS hA [0] (by decide) rfl 0 6 rfl rfl) rfl rfl hl.1 rfl (lv_room (Nat.le_of_ble_eq_true rfl)) dX10_holds_32 ⟨by decide +kernel, by decide +kernel⟩) hS hP hD hA [0] rfl (fun r35 _ H locs w34 hP hS => ?_)
        rcases w34 with ⟨rfl, b36⟩ | ⟨rfl, b36⟩
        · refine lv_if_ne (tgt := 41) hx hb dX10_holds_35 (by decide) (fun _ => ?_) (fun c37 => False.elim (by revert c37; decide))
          refine lv_iload_n hx hb dX10_holds_41 rfl (lv_at hl 2 rfl) ?_
          refine lv_if_lt (tgt := 55) hx hb dX10_holds_42 (by decide) (fun c38 => absurd c38 (nI_pos (by omega))) (fun c38 => ?_)
          refine lv_aload_n hx hb dX10_holds_45 rfl (lv_at hl 0 rfl) ?_
          refine lv_iload_n hx hb dX10_holds_46 rfl (lv_at hl 1 rfl) ?_
          refine lv_iload_n hx hb dX10_holds_47 rfl (lv_at hl 2 rfl) ?_
          refine ca_iR (va_runV (As := [.int p0, .int (nI j_p1)]) (rest := []) ⟨hx, hb, hml, hown, hts⟩ (m2_mostAt l G H.size h1 (.int (nI k)) (.int told) v_kinds v_land v_spades v_pad v_padMany v_slips v_slipMany v_made v_queue v_depth v_by v_from v_come v_offOf v_parent v_best v_trees v_least v_sums v_toward v_kept v_isKept v_keptAt v_isWriting a_maps fm a_part fp k j_p1 p0 hk6 hp hfm (by omega)) (cwV 2 hts gX10_holds_X10_mostAt rfl rfl rfl (by decide +kernel) ⟨by decide +kernel, by decide +kernel⟩) (pre_V E hP hD hS hA [0, 1, 2] (by decide) rfl 0 6 rfl rfl) rfl rfl hl.1 rfl (lv_room (Nat.le_of_ble_eq_true rfl)) dX10_holds_48 ⟨by decide +kernel, by decide +kernel⟩) hS hP hD hA [0, 1, 2] rfl (fun r40 _ H locs w39 hP hS => ?_)
          rw [w39]
          refine ca_iR (va_runS (As := [.int (nI (mstA k p0 (maN fm) j_p1))]) (rest := []) ⟨hx, hb, hml, hown, hts⟩ (m_codeOf l G H.size (nI (mstA k p0 (maN fm) j_p1))) (va_cwS 1 hts gX10_holds_X10_codeOf rfl rfl rfl (by decide +kernel) ⟨by decide +kernel, by decide +kernel⟩) (pre_S E hP hD hS hA [] (by decide) rfl) rfl rfl hl.1 rfl (lv_room (Nat.le_of_ble_eq_true rfl)) dX10_holds_51 ⟨by decide +kernel, by decide +kernel⟩) hS hP hD hA [] rfl (fun r42 _ H locs w41 hP hS => ?_)
          have hP9 := (hP.sub (ws' := [(h1, .inr (6, [.int (nI k), .ref a_maps, .int told, v_kinds, v_land, v_spades, .ref a_part, v_pad, v_padMany, v_slips, v_slipMany, v_made, v_queue, v_depth, v_by, v_from, v_come, v_offOf, v_parent, v_best, v_trees, v_least, v_sums, v_toward, v_kept, v_isKept, v_keptAt, v_isWriting])), (a_maps, .inl (gI G, 6, .inl fm)), (a_part, .inl (gI G, 6, .inl fp))]) [0, 1, 2] rfl)
          have hD9 := (hD.sub (ws' := [(h1, .inr (6, [.int (nI k), .ref a_maps, .int told, v_kinds, v_land, v_spades, .ref a_part, v_pad, v_padMany, v_slips, v_slipMany, v_made, v_queue, v_depth, v_by, v_from, v_come, v_offOf, v_parent, v_best, v_trees, v_least, v_sums, v_toward, v_kept, v_isKept, v_keptAt, v_isWriting])), (a_maps, .inl (gI G, 6, .inl fm)), (a_part, .inl (gI G, 6, .inl fp))]) [0, 1, 2] (by decide) rfl)
          exact W.iret (v := r42) hx hb hr (fun t9_ ht9_ hW9_ => ⟨⟨r42, (), rfl, by rw [w41]; exact hoA_5 hk6 hj_p1 ej_p1 b32 (are_of.mpr b36), by rw [ht9_]; exact hP9, hD9⟩, hS.F ht9_⟩) hS.2.2 dX10_holds_54
        · refine lv_if_ne (tgt := 41) hx hb dX10_holds_35 (by decide) (fun c43 => False.elim (by revert c43; decide)) (fun _ => ?_)
          refine lv_bipush (v := (-3)) hx hb dX10_holds_38 (by decide) ?_
          have hP9 := (hP.sub (ws' := [(h1, .inr (6, [.int (nI k), .ref a_maps, .int told, v_kinds, v_land, v_spades, .ref a_part, v_pad, v_padMany, v_slips, v_slipMany, v_made, v_queue, v_depth, v_by, v_from, v_come, v_offOf, v_parent, v_best, v_trees, v_least, v_sums, v_toward, v_kept, v_isKept, v_keptAt, v_isWriting])), (a_maps, .inl (gI G, 6, .inl fm)), (a_part, .inl (gI G, 6, .inl fp))]) [0, 1, 2] rfl)
          have hD9 := (hD.sub (ws' := [(h1, .inr (6, [.int (nI k), .ref a_maps, .int told, v_kinds, v_land, v_spades, .ref a_part, v_pad, v_padMany, v_slips, v_slipMany, v_made, v_queue, v_depth, v_by, v_from, v_come, v_offOf, v_parent, v_best, v_trees, v_least, v_sums, v_toward, v_kept, v_isKept, v_keptAt, v_isWriting])), (a_maps, .inl (gI G, 6, .inl fm)), (a_part, .inl (gI G, 6, .inl fp))]) [0, 1, 2] (by decide) rfl)
          exact W.iret (v := (-3)) hx hb hr (fun t9_ ht9_ hW9_ => ⟨⟨(-3), (), rfl, hoA_3 (fun q9 => q9.2 ⟨j_p1, hj_p1, ej_p1⟩) b32 (fun q9 => b36 (are_of.mp q9)), by rw [ht9_]; exact hP9, hD9⟩, hS.F ht9_⟩) hS.2.2 dX10_holds_40
      · refine lv_if_ne (tgt := 30) hx hb dX10_holds_24 (by decide) (fun c44 => False.elim (by revert c44; decide)) (fun _ => ?_)
        refine lv_bipush (v := (-2)) hx hb dX10_holds_27 (by decide) ?_
        have hP9 := (hP.sub (ws' := [(h1, .inr (6, [.int (nI k), .ref a_maps, .int told, v_kinds, v_land, v_spades, .ref a_part, v_pad, v_padMany, v_slips, v_slipMany, v_made, v_queue, v_depth, v_by, v_from, v_come, v_offOf, v_parent, v_best, v_trees, v_least, v_sums, v_toward, v_kept, v_isKept, v_keptAt, v_isWriting])), (a_maps, .inl (gI G, 6, .inl fm)), (a_part, .inl (gI G, 6, .inl fp))]) [0, 1, 2] rfl)
        have hD9 := (hD.sub (ws' := [(h1, .inr (6, [.int (nI k), .ref a_maps, .int told, v_kinds, v_land, v_spades, .ref a_part, v_pad, v_padMany, v_slips, v_slipMany, v_made, v_queue, v_depth, v_by, v_from, v_come, v_offOf, v_parent, v_best, v_trees, v_least, v_sums, v_toward, v_kept, v_isKept, v_keptAt, v_isWriting])), (a_maps, .inl (gI G, 6, .inl fm)), (a_part, .inl (gI G, 6, .inl fp))]) [0, 1, 2] (by decide) rfl)
        exact W.iret (v := (-2)) hx hb hr (fun t9_ ht9_ hW9_ => ⟨⟨(-2), (), rfl, hoA_2 (fun q9 => q9.2 ⟨j_p1, hj_p1, ej_p1⟩) b32, by rw [ht9_]; exact hP9, hD9⟩, hS.F ht9_⟩) hS.2.2 dX10_holds_29
    · refine lv_if_ne (tgt := 15) hx hb dX10_holds_10 (by decide) (fun c45 => False.elim (by revert c45; decide)) (fun _ => ?_)
      refine lv_iconst (v := (-1)) hx hb dX10_holds_13 (by decide) ?_
      have hP9 := (hP.sub (ws' := [(h1, .inr (6, [.int (nI k), .ref a_maps, .int told, v_kinds, v_land, v_spades, .ref a_part, v_pad, v_padMany, v_slips, v_slipMany, v_made, v_queue, v_depth, v_by, v_from, v_come, v_offOf, v_parent, v_best, v_trees, v_least, v_sums, v_toward, v_kept, v_isKept, v_keptAt, v_isWriting])), (a_maps, .inl (gI G, 6, .inl fm)), (a_part, .inl (gI G, 6, .inl fp))]) [0, 1, 2] rfl)
      have hD9 := (hD.sub (ws' := [(h1, .inr (6, [.int (nI k), .ref a_maps, .int told, v_kinds, v_land, v_spades, .ref a_part, v_pad, v_padMany, v_slips, v_slipMany, v_made, v_queue, v_depth, v_by, v_from, v_come, v_offOf, v_parent, v_best, v_trees, v_least, v_sums, v_toward, v_kept, v_isKept, v_keptAt, v_isWriting])), (a_maps, .inl (gI G, 6, .inl fm)), (a_part, .inl (gI G, 6, .inl fp))]) [0, 1, 2] (by decide) rfl)
      exact W.iret (v := (-1)) hx hb hr (fun t9_ ht9_ hW9_ => ⟨⟨(-1), (), rfl, hoA_1 c1 b27, by rw [ht9_]; exact hP9, hD9⟩, hS.F ht9_⟩) hS.2.2 dX10_holds_14
