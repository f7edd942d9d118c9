set_option maxHeartbeats 1000000 in
set_option maxRecDepth 100000 in
theorem m3_isWished (l : Launch) (G : Gy) (sz : Nat) (h1 : Nat) (v_maps : Value) (v_told : Value) (v_kinds : Value) (v_land : Value) (v_spades : Value) (v_padMany : Value) (v_slips : Value) (v_slipMany : Value) (v_made : Value) (v_queue : Value) (v_depth : Value) (v_by : Value) (v_from : Value) (v_come : Value) (v_offOf : Value) (v_parent : Value) (v_best : Value) (v_trees : Value) (v_least : Value) (v_sums : Value) (v_toward : Value) (v_kept : Value) (v_isKept : Value) (v_keptAt : Value) (v_isWriting : Value) (a_part : Nat) (fp : Nat → Int32) (a_pad : Nat) (fd : Nat → Int32) (k : Nat) (a : Nat) (a2 : Nat) (p2 : Int32) (hk2 : 2 ≤ k) (hk6 : k ≤ 6) (hp : pOK k fp) (ha : a < 5 ^ k) (ha2 : a2 < 5 ^ k) : Ci l G yX10_isWished wsX10_isWished ({ frames := 2, cells := 0, slots := 0, locals := 45 }) [.ref h1, .int (nI a), .int (nI a2), .int p2] ([(h1, .inr (6, [.int (nI k), v_maps, v_told, v_kinds, v_land, v_spades, .ref a_part, .ref a_pad, v_padMany, v_slips, v_slipMany, v_made, v_queue, v_depth, v_by, v_from, v_come, v_offOf, v_parent, v_best, v_trees, v_least, v_sums, v_toward, v_kept, v_isKept, v_keptAt, v_isWriting])), (a_part, .inl (gI G, 6, .inl fp)), (a_pad, .inl (gI G, 40, .inl fd))]) sz (fun (r : Int32) (_ : Unit) => (r = 1 ∧ wishS k fd p2 a2 a) ∨ (r = 0 ∧ ¬ wishS k fd p2 a2 a)) (fun (_ : Unit) => [(h1, .inr (6, [.int (nI k), v_maps, v_told, v_kinds, v_land, v_spades, .ref a_part, .ref a_pad, v_padMany, v_slips, v_slipMany, v_made, v_queue, v_depth, v_by, v_from, v_come, v_offOf, v_parent, v_best, v_trees, v_least, v_sums, v_toward, v_kept, v_isKept, v_keptAt, v_isWriting])), (a_part, .inl (gI G, 6, .inl fp)), (a_pad, .inl (gI G, 40, .inl fd))]) 0 0 := by
  refine Met.ofW (cc := cX10_isWished) (maxL := 7) (ret := (some .boolean)) (by decide) rfl ?_
  intro p e s m args below meth c s₁ B hml hv
  obtain ⟨rfl, hsz, hP, hD0, E0⟩ := hv
  have hx := B.exec
  have hb := B.bytes
  have hr := B.returns
  have hts := atoms_spec (ws := wsX10_isWished) B.pre
  have hown : s.vm.findClass RX10 = some m.cls := findClass_of_methodNamed B.named
  have hlocks := B.notSynchronized
  subst hsz
  have hD := hD0.self (sz := s.heap.size)
  generalize hAe : va_A ([(h1, .inr (6, [.int (nI k), v_maps, v_told, v_kinds, v_land, v_spades, .ref a_part, .ref a_pad, v_padMany, v_slips, v_slipMany, v_made, v_queue, v_depth, v_by, v_from, v_come, v_offOf, v_parent, v_best, v_trees, v_least, v_sums, v_toward, v_kept, v_isKept, v_keptAt, v_isWriting])), (a_part, .inl (gI G, 6, .inl fp)), (a_pad, .inl (gI G, 40, .inl fd))]) s.heap.size = A at hD E0 ⊢
  have E : EV G A s s.heap := E0
  have hA : ∀ q : Nat, s.heap.size ≤ q → A q := fun q h => by rw [← hAe]; exact Or.inr h
  have hS : va_S A s.heap s.heap [] := va_S.rf
  have hl := lv_entry ([.ref h1, .int (nI a), .int (nI a2), .int p2]) (n := 7) (Nat.le_of_ble_eq_true rfl)
  rw [lg_entry_eq]
  generalize (lg_sl ([.ref h1, .int (nI a), .int (nI a2), .int p2]) ++ List.replicate (7 - (lg_sl ([.ref h1, .int (nI a), .int (nI a2), .int p2])).length) Slot.unset).toArray = ls at hl ⊢
  have hl : lv_has ls 7 [(0, .ref h1), (1, .int (nI a)), (2, .int (nI a2)), (3, .int p2)] := hl
  have hP : va_P G.1 vwCl ([(h1, .inr (6, [.int (nI k), v_maps, v_told, v_kinds, v_land, v_spades, .ref a_part, .ref a_pad, v_padMany, v_slips, v_slipMany, v_made, v_queue, v_depth, v_by, v_from, v_come, v_offOf, v_parent, v_best, v_trees, v_least, v_sums, v_toward, v_kept, v_isKept, v_keptAt, v_isWriting])), (a_part, .inl (gI G, 6, .inl fp)), (a_pad, .inl (gI G, 40, .inl fd))]) s.heap := hP
  have hal := p5le hk6
  refine lv_iconst (v := 1) hx hb dX10_isWished_0 (by decide) ?_
  refine lv_istore (lv' := [(4, .int 1), (0, .ref h1), (1, .int (nI a)), (2, .int (nI a2)), (3, .int p2)]) hx hb dX10_isWished_1 hl (by decide) rfl (fun ls hl => ?_)
  refine lv_iconst (v := 0) hx hb dX10_isWished_3 (by decide) ?_
  refine lv_istore (lv' := [(5, .int 0), (4, .int 1), (0, .ref h1), (1, .int (nI a)), (2, .int (nI a2)), (3, .int p2)]) hx hb dX10_isWished_4 hl (by decide) rfl (fun ls hl => ?_)
  refine lp_run (x0 := (0, 1)) (fun xx_ : Nat × Int32 => match xx_ with | (x, is_) => [(h1, .inr (6, [.int (nI k), v_maps, v_told, v_kinds, v_land, v_spades, .ref a_part, .ref a_pad, v_padMany, v_slips, v_slipMany, v_made, v_queue, v_depth, v_by, v_from, v_come, v_offOf, v_parent, v_best, v_trees, v_least, v_sums, v_toward, v_kept, v_isKept, v_keptAt, v_isWriting])), (a_part, .inl (gI G, 6, .inl fp)), (a_pad, .inl (gI G, 40, .inl fd))]) (fun xx_ : Nat × Int32 => match xx_ with | (x, is_) => [(5, .int (nI x)), (4, .int is_), (0, .ref h1), (1, .int (nI a)), (2, .int (nI a2)), (3, .int p2)]) (fun xx_ : Nat × Int32 => match xx_ with | (x, is_) => (x ≤ k) ∧ ((is_ = 1 ∧ ∀ j, j < x → (fd j = 63 ∨ sgO (fd j) = nI (dg k a j)) ∧ (tdP p2 (nI j) → dg k a j = dg k a2 j)) ∨ (is_ = 0 ∧ ¬ wishS k fd p2 a2 a))) (fun xx_ : Nat × Int32 => match xx_ with | (x, is_) => k - x) (hP.sub [0, 1, 2] rfl) (hD.sub [0, 1, 2] (by decide) rfl) hS (lv_sub hl [0, 1, 2, 3, 4, 5] rfl) ⟨(by omega), Or.inl ⟨rfl, fun j9 h9 => by omega⟩⟩ ?_
  intro xx_ hI ih6 H locs ls hP hD hS hl
  obtain ⟨x, is_⟩ := xx_
  dsimp only at hI ih6 hP hD hl
  obtain ⟨hx0, his⟩ := hI
  have hl : lv_has ls 7 [(5, .int (nI x)), (4, .int is_), (0, .ref h1), (1, .int (nI a)), (2, .int (nI a2)), (3, .int p2)] := hl
  have hP : va_P G.1 vwCl ([(h1, .inr (6, [.int (nI k), v_maps, v_told, v_kinds, v_land, v_spades, .ref a_part, .ref a_pad, v_padMany, v_slips, v_slipMany, v_made, v_queue, v_depth, v_by, v_from, v_come, v_offOf, v_parent, v_best, v_trees, v_least, v_sums, v_toward, v_kept, v_isKept, v_keptAt, v_isWriting])), (a_part, .inl (gI G, 6, .inl fp)), (a_pad, .inl (gI G, 40, .inl fd))]) H := hP
  have hD : va_D A ([(h1, .inr (6, [.int (nI k), v_maps, v_told, v_kinds, v_land, v_spades, .ref a_part, .ref a_pad, v_padMany, v_slips, v_slipMany, v_made, v_queue, v_depth, v_by, v_from, v_come, v_offOf, v_parent, v_best, v_trees, v_least, v_sums, v_toward, v_kept, v_isKept, v_keptAt, v_isWriting])), (a_part, .inl (gI G, 6, .inl fp)), (a_pad, .inl (gI G, 40, .inl fd))]) := hD
  refine lv_iload hx hb dX10_isWished_6 (lv_at hl 0 rfl) ?_
  refine lv_aload_n hx hb dX10_isWished_8 rfl (lv_at hl 2 rfl) ?_
  refine va_get (D := G.1) (ci := 6) (v := .int (nI k)) (C := RX10) (T := TX10) (N := 28) hx hb hts (fun _ h => List.mem_cons_of_mem _ (List.mem_append_right _ h)) hown E.K hP 0 rfl rfl 0 (by decide) (hts (.fieldLink RX10 67 "LastMapModel" "sites" "I") (by decide +kernel)) (fun _ h9 => h9) rfl dX10_isWished_9 ?_
  refine lv_icmp_ge (tgt := 90) hx hb dX10_isWished_12 (by decide) (fun c1 => ?_) (fun c1 => ?_)
  · have c1 : k ≤ x := (nI_leI (a := k) (b := x) (by omega) (by omega)).mp c1
    refine lv_iload hx hb dX10_isWished_90 (lv_at hl 1 rfl) ?_
    have hP9 := (hP.sub (ws' := [(h1, .inr (6, [.int (nI k), v_maps, v_told, v_kinds, v_land, v_spades, .ref a_part, .ref a_pad, v_padMany, v_slips, v_slipMany, v_made, v_queue, v_depth, v_by, v_from, v_come, v_offOf, v_parent, v_best, v_trees, v_least, v_sums, v_toward, v_kept, v_isKept, v_keptAt, v_isWriting])), (a_part, .inl (gI G, 6, .inl fp)), (a_pad, .inl (gI G, 40, .inl fd))]) [0, 1, 2] rfl)
    have hD9 := (hD.sub (ws' := [(h1, .inr (6, [.int (nI k), v_maps, v_told, v_kinds, v_land, v_spades, .ref a_part, .ref a_pad, v_padMany, v_slips, v_slipMany, v_made, v_queue, v_depth, v_by, v_from, v_come, v_offOf, v_parent, v_best, v_trees, v_least, v_sums, v_toward, v_kept, v_isKept, v_keptAt, v_isWriting])), (a_part, .inl (gI G, 6, .inl fp)), (a_pad, .inl (gI G, 40, .inl fd))]) [0, 1, 2] (by decide) rfl)
    exact W.zret (v := is_) hx hb hr (by rcases his with ⟨q9, -⟩ | ⟨q9, -⟩ <;> rw [q9] <;> decide) (fun t9_ ht9_ hW9_ => ⟨⟨is_, (), rfl, his.elim (fun q9 => Or.inl ⟨q9.1, fun j9 h9 => q9.2 j9 (by omega)⟩) (fun q9 => Or.inr q9), by rw [ht9_]; exact hP9, hD9⟩, hS.F ht9_⟩) hS.2.2 dX10_isWished_92
  · have c1 : ¬ k ≤ x := fun h9_ => c1 ((nI_leI (a := k) (b := x) (by omega) (by omega)).mpr h9_)
    refine lv_aload_n hx hb dX10_isWished_15 rfl (lv_at hl 2 rfl) ?_
    refine lv_iload_n hx hb dX10_isWished_16 rfl (lv_at hl 3 rfl) ?_
    refine lv_iload hx hb dX10_isWished_17 (lv_at hl 0 rfl) ?_
    refine ca_iR (va_runV (As := [.int (nI a), .int (nI x)]) (rest := []) ⟨hx, hb, hml, hown, hts⟩ (m_signAt l G H.size h1 (.int (nI k)) v_maps v_told v_kinds v_land v_spades (.ref a_pad) v_padMany v_slips v_slipMany v_made v_queue v_depth v_by v_from v_come v_offOf v_parent v_best v_trees v_least v_sums v_toward v_kept v_isKept v_keptAt v_isWriting a_part fp k a x hk6 hp (by omega) (by omega)) (cwV 2 hts gX10_isWished_X10_signAt rfl rfl rfl (by decide +kernel) ⟨by decide +kernel, by decide +kernel⟩) (pre_V E hP hD hS hA [0, 1] (by decide) rfl 0 6 rfl rfl) rfl rfl hl.1 rfl (lv_room (Nat.le_of_ble_eq_true rfl)) dX10_isWished_19 ⟨by decide +kernel, by decide +kernel⟩) hS hP hD hA [0, 1] rfl (fun r3 _ H locs w2 hP hS => ?_)
    rw [w2]
    have hdg9 : (dg k a x) < 5 := dg_lt _ _ _
    refine lv_istore (lv' := [(6, .int (nI (dg k a x))), (5, .int (nI x)), (4, .int is_), (0, .ref h1), (1, .int (nI a)), (2, .int (nI a2)), (3, .int p2)]) hx hb dX10_isWished_22 hl (by decide) rfl (fun ls hl => ?_)
    refine lv_iload hx hb dX10_isWished_24 (lv_at hl 2 rfl) ?_
    refine lv_if_eq (tgt := 81) hx hb dX10_isWished_26 (by decide) (fun c4 => ?_) (fun c4 => ?_)
    · refine lv_iconst (v := 0) hx hb dX10_isWished_81 (by decide) ?_
      refine lv_istore (lv' := [(4, .int 0), (6, .int (nI (dg k a x))), (5, .int (nI x)), (0, .ref h1), (1, .int (nI a)), (2, .int (nI a2)), (3, .int p2)]) hx hb dX10_isWished_82 hl (by decide) rfl (fun ls hl => ?_)
      obtain ⟨x5, ex5⟩ : ∃ yy_ : Int32, yy_ = (nI x) + 1 := ⟨_, rfl⟩
      refine lv_iinc (v := x5) (lv' := [(5, .int x5), (4, .int 0), (6, .int (nI (dg k a x))), (0, .ref h1), (1, .int (nI a)), (2, .int (nI a2)), (3, .int p2)]) hx hb dX10_isWished_84 hl (k := 2) rfl (by rw [ex5]; rfl) (by decide) rfl (fun ls hl => ?_)
      obtain rfl : x5 = nI (x + 1) := by rw [ex5]; exact nI_add x 1
      refine lv_goto (tgt := 6) hx hb dX10_isWished_87 (by decide) ?_
      refine ih6 ((x + 1), 0) ⟨?_, ?_⟩ (by first | omega | (dsimp only; omega)) H locs ls (hP.sub [0, 1, 2] rfl) (hD.sub [0, 1, 2] (by decide) rfl) hS (lv_sub hl [0, 1, 3, 4, 5, 6] rfl)
      · try dsimp only
        omega
      · try dsimp only
        exact Or.inr ⟨rfl, his.elim (fun q9 => absurd (q9.1.symm.trans c4) (by decide)) (fun q9 => q9.2)⟩
    · have hal2 : ∀ j, j < x → (fd j = 63 ∨ sgO (fd j) = nI (dg k a j)) ∧ (tdP p2 (nI j) → dg k a j = dg k a2 j) := his.elim (fun q9 => q9.2) (fun q9 => absurd q9.1 c4)
      refine lv_aload_n hx hb dX10_isWished_29 rfl (lv_at hl 3 rfl) ?_
      refine va_get (D := G.1) (ci := 6) (v := .ref a_pad) (C := RX10) (T := TX10) (N := 28) hx hb hts (fun _ h => List.mem_cons_of_mem _ (List.mem_append_right _ h)) hown E.K hP 0 rfl rfl 7 (by decide) (hts (.fieldLink RX10 19 "LastMapModel" "pad" "[I") (by decide +kernel)) (fun _ h9 => h9) rfl dX10_isWished_30 ?_
      refine lv_iload hx hb dX10_isWished_33 (lv_at hl 1 rfl) ?_
      refine va_iald hx hb E.K hP 2 1 rfl rfl (i := nI x) (vp_in_nI (by omega) (by decide)) dX10_isWished_35 ?_
      refine lv_topi (fun x6 ex6 => ?_)
      obtain rfl : x6 = fd x := by rw [ex6, nI_clamp (by omega)]
      refine lv_bipush (v := 63) hx hb dX10_isWished_36 (by decide) ?_
      refine lv_icmp_eq (tgt := 56) hx hb dX10_isWished_38 (by decide) (fun c7 => ?_) (fun c7 => ?_)
      · have hw1 : fd x = 63 ∨ sgO (fd x) = nI (dg k a x) := Or.inl c7
        refine lv_iload_n hx hb dX10_isWished_56 rfl (lv_at hl 6 rfl) ?_
        refine lv_iload hx hb dX10_isWished_57 (lv_at hl 1 rfl) ?_
        refine lv_ishr hx hb dX10_isWished_59 ?_
        refine lv_topi (fun x8 ex8 => ?_)
        refine lv_iconst (v := 1) hx hb dX10_isWished_60 (by decide) ?_
        refine lv_iand hx hb dX10_isWished_61 ?_
        refine lv_topi (fun x9 ex9 => ?_)
        refine lv_if_eq (tgt := 77) hx hb dX10_isWished_62 (by decide) (fun c10 => ?_) (fun c10 => ?_)
        · have hntd : ¬ tdP p2 (nI x) := by unfold tdP; rw [← ex8, ← ex9, c10]; decide
          refine lv_iconst (v := 1) hx hb dX10_isWished_77 (by decide) ?_
          refine lv_goto (tgt := 82) hx hb dX10_isWished_78 (by decide) ?_
          refine lv_istore (lv' := [(4, .int 1), (6, .int (nI (dg k a x))), (5, .int (nI x)), (0, .ref h1), (1, .int (nI a)), (2, .int (nI a2)), (3, .int p2)]) hx hb dX10_isWished_82 hl (by decide) rfl (fun ls hl => ?_)
          obtain ⟨x11, ex11⟩ : ∃ yy_ : Int32, yy_ = (nI x) + 1 := ⟨_, rfl⟩
          refine lv_iinc (v := x11) (lv' := [(5, .int x11), (4, .int 1), (6, .int (nI (dg k a x))), (0, .ref h1), (1, .int (nI a)), (2, .int (nI a2)), (3, .int p2)]) hx hb dX10_isWished_84 hl (k := 2) rfl (by rw [ex11]; rfl) (by decide) rfl (fun ls hl => ?_)
          obtain rfl : x11 = nI (x + 1) := by rw [ex11]; exact nI_add x 1
          refine lv_goto (tgt := 6) hx hb dX10_isWished_87 (by decide) ?_
          refine ih6 ((x + 1), 1) ⟨?_, ?_⟩ (by first | omega | (dsimp only; omega)) H locs ls (hP.sub [0, 1, 2] rfl) (hD.sub [0, 1, 2] (by decide) rfl) hS (lv_sub hl [0, 1, 3, 4, 5, 6] rfl)
          · try dsimp only
            omega
          · try dsimp only
            exact Or.inl ⟨rfl, fun j9 h9 => by by_cases e9 : j9 = x; (rw [e9]; exact ⟨hw1, fun q9 => absurd q9 hntd⟩); exact hal2 j9 (by omega)⟩
        · have htd : tdP p2 (nI x) := by have q9 := and1 (p2 >>> (nI x &&& 31)); unfold tdP; rw [← ex8, ← ex9] at *; exact q9.elim (fun q8 => absurd q8 c10) id
          refine lv_iload hx hb dX10_isWished_65 (lv_at hl 0 rfl) ?_
          refine lv_aload_n hx hb dX10_isWished_67 rfl (lv_at hl 3 rfl) ?_
          refine lv_iload_n hx hb dX10_isWished_68 rfl (lv_at hl 5 rfl) ?_
          refine lv_iload hx hb dX10_isWished_69 (lv_at hl 1 rfl) ?_
          refine ca_iR (va_runV (As := [.int (nI a2), .int (nI x)]) (rest := [.int (nI (dg k a x))]) ⟨hx, hb, hml, hown, hts⟩ (m_signAt l G H.size h1 (.int (nI k)) v_maps v_told v_kinds v_land v_spades (.ref a_pad) v_padMany v_slips v_slipMany v_made v_queue v_depth v_by v_from v_come v_offOf v_parent v_best v_trees v_least v_sums v_toward v_kept v_isKept v_keptAt v_isWriting a_part fp k a2 x hk6 hp (by omega) (by omega)) (cwV 2 hts gX10_isWished_X10_signAt rfl rfl rfl (by decide +kernel) ⟨by decide +kernel, by decide +kernel⟩) (pre_V E hP hD hS hA [0, 1] (by decide) rfl 0 6 rfl rfl) rfl rfl hl.1 rfl (lv_room (Nat.le_of_ble_eq_true rfl)) dX10_isWished_71 ⟨by decide +kernel, by decide +kernel⟩) hS hP hD hA [0, 1] rfl (fun r13 _ H locs w12 hP hS => ?_)
          rw [w12]
          have hdg8 : (dg k a2 x) < 5 := dg_lt _ _ _
          refine lv_icmp_ne (tgt := 81) hx hb dX10_isWished_74 (by decide) (fun c14 => ?_) (fun c14 => ?_)
          · have c14 : ¬ (dg k a x) = (dg k a2 x) := fun h9_ => c14 ((nI_eq (a := (dg k a x)) (b := (dg k a2 x)) (by omega) (by omega)).mpr h9_)
            refine lv_iconst (v := 0) hx hb dX10_isWished_81 (by decide) ?_
            refine lv_istore (lv' := [(4, .int 0), (6, .int (nI (dg k a x))), (5, .int (nI x)), (0, .ref h1), (1, .int (nI a)), (2, .int (nI a2)), (3, .int p2)]) hx hb dX10_isWished_82 hl (by decide) rfl (fun ls hl => ?_)
            obtain ⟨x15, ex15⟩ : ∃ yy_ : Int32, yy_ = (nI x) + 1 := ⟨_, rfl⟩
            refine lv_iinc (v := x15) (lv' := [(5, .int x15), (4, .int 0), (6, .int (nI (dg k a x))), (0, .ref h1), (1, .int (nI a)), (2, .int (nI a2)), (3, .int p2)]) hx hb dX10_isWished_84 hl (k := 2) rfl (by rw [ex15]; rfl) (by decide) rfl (fun ls hl => ?_)
            obtain rfl : x15 = nI (x + 1) := by rw [ex15]; exact nI_add x 1
            refine lv_goto (tgt := 6) hx hb dX10_isWished_87 (by decide) ?_
            refine ih6 ((x + 1), 0) ⟨?_, ?_⟩ (by first | omega | (dsimp only; omega)) H locs ls (hP.sub [0, 1, 2] rfl) (hD.sub [0, 1, 2] (by decide) rfl) hS (lv_sub hl [0, 1, 3, 4, 5, 6] rfl)
            · try dsimp only
              omega
            · try dsimp only
              exact Or.inr ⟨rfl, fun q9 => c14 ((q9 x (by omega)).2 htd)⟩
          · have c14 : (dg k a x) = (dg k a2 x) := (nI_eq (a := (dg k a x)) (b := (dg k a2 x)) (by omega) (by omega)).mp c14
            refine lv_iconst (v := 1) hx hb dX10_isWished_77 (by decide) ?_
            refine lv_goto (tgt := 82) hx hb dX10_isWished_78 (by decide) ?_
            refine lv_istore (lv' := [(4, .int 1), (6, .int (nI (dg k a x))), (5, .int (nI x)), (0, .ref h1), (1, .int (nI a)), (2, .int (nI a2)), (3, .int p2)]) hx hb dX10_isWished_82 hl (by decide) rfl (fun ls hl => ?_)
            obtain ⟨x16, ex16⟩ : ∃ yy_ : Int32, yy_ = (nI x) + 1 := ⟨_, rfl⟩
            refine lv_iinc (v := x16) (lv' := [(5, .int x16), (4, .int 1), (6, .int (nI (dg k a x))), (0, .ref h1), (1, .int (nI a)), (2, .int (nI a2)), (3, .int p2)]) hx hb dX10_isWished_84 hl (k := 2) rfl (by rw [ex16]; rfl) (by decide) rfl (fun ls hl => ?_)
            obtain rfl : x16 = nI (x + 1) := by rw [ex16]; exact nI_add x 1
            refine lv_goto (tgt := 6) hx hb dX10_isWished_87 (by decide) ?_
            refine ih6 ((x + 1), 1) ⟨?_, ?_⟩ (by first | omega | (dsimp only; omega)) H locs ls (hP.sub [0, 1, 2] rfl) (hD.sub [0, 1, 2] (by decide) rfl) hS (lv_sub hl [0, 1, 3, 4, 5, 6] rfl)
            · try dsimp only
              omega
            · try dsimp only
              exact Or.inl ⟨rfl, fun j9 h9 => by by_cases e9 : j9 = x; (rw [e9]; exact ⟨hw1, fun _ => c14⟩); exact hal2 j9 (by omega)⟩
      · refine lv_aload_n hx hb dX10_isWished_41 rfl (lv_at hl 3 rfl) ?_
        refine va_get (D := G.1) (ci := 6) (v := .ref a_pad) (C := RX10) (T := TX10) (N := 28) hx hb hts (fun _ h => List.mem_cons_of_mem _ (List.mem_append_right _ h)) hown E.K hP 0 rfl rfl 7 (by decide) (hts (.fieldLink RX10 19 "LastMapModel" "pad" "[I") (by decide +kernel)) (fun _ h9 => h9) rfl dX10_isWished_42 ?_
        refine lv_iload hx hb dX10_isWished_45 (lv_at hl 1 rfl) ?_
        refine va_iald hx hb E.K hP 2 1 rfl rfl (i := nI x) (vp_in_nI (by omega) (by decide)) dX10_isWished_47 ?_
        refine lv_topi (fun x17 ex17 => ?_)
        obtain rfl : x17 = fd x := by rw [ex17, nI_clamp (by omega)]
        refine ca_iR (va_runS (As := [.int (fd x)]) (rest := []) ⟨hx, hb, hml, hown, hts⟩ (m_signOf l G H.size (fd x)) (va_cwS 1 hts gX10_isWished_X10_signOf rfl rfl rfl (by decide +kernel) ⟨by decide +kernel, by decide +kernel⟩) (pre_S E hP hD hS hA [] (by decide) rfl) rfl rfl hl.1 rfl (lv_room (Nat.le_of_ble_eq_true rfl)) dX10_isWished_48 ⟨by decide +kernel, by decide +kernel⟩) hS hP hD hA [] rfl (fun r19 _ H locs w18 hP hS => ?_)
        refine lv_iload hx hb dX10_isWished_51 (lv_at hl 0 rfl) ?_
        refine lv_icmp_ne (tgt := 81) hx hb dX10_isWished_53 (by decide) (fun c20 => ?_) (fun c20 => ?_)
        · refine lv_iconst (v := 0) hx hb dX10_isWished_81 (by decide) ?_
          refine lv_istore (lv' := [(4, .int 0), (6, .int (nI (dg k a x))), (5, .int (nI x)), (0, .ref h1), (1, .int (nI a)), (2, .int (nI a2)), (3, .int p2)]) hx hb dX10_isWished_82 hl (by decide) rfl (fun ls hl => ?_)
          obtain ⟨x21, ex21⟩ : ∃ yy_ : Int32, yy_ = (nI x) + 1 := ⟨_, rfl⟩
          refine lv_iinc (v := x21) (lv' := [(5, .int x21), (4, .int 0), (6, .int (nI (dg k a x))), (0, .ref h1), (1, .int (nI a)), (2, .int (nI a2)), (3, .int p2)]) hx hb dX10_isWished_84 hl (k := 2) rfl (by rw [ex21]; rfl) (by decide) rfl (fun ls hl => ?_)
          obtain rfl : x21 = nI (x + 1) := by rw [ex21]; exact nI_add x 1
          refine lv_goto (tgt := 6) hx hb dX10_isWished_87 (by decide) ?_
          refine ih6 ((x + 1), 0) ⟨?_, ?_⟩ (by first | omega | (dsimp only; omega)) H locs ls (hP.sub [0, 1, 2] rfl) (hD.sub [0, 1, 2] (by decide) rfl) hS (lv_sub hl [0, 1, 3, 4, 5, 6] rfl)
          · try dsimp only
            omega
          · try dsimp only
            exact Or.inr ⟨rfl, fun q9 => (q9 x (by omega)).1.elim c7 (fun q8 => c20 (by rw [w18]; exact q8))⟩
        · have hw1 : fd x = 63 ∨ sgO (fd x) = nI (dg k a x) := Or.inr (by rw [← w18]; exact c20)
          refine lv_iload_n hx hb dX10_isWished_56 rfl (lv_at hl 6 rfl) ?_
          refine lv_iload hx hb dX10_isWished_57 (lv_at hl 1 rfl) ?_
          refine lv_ishr hx hb dX10_isWished_59 ?_
          refine lv_topi (fun x22 ex22 => ?_)
          refine lv_iconst (v := 1) hx hb dX10_isWished_60 (by decide) ?_
          refine lv_iand hx hb dX10_isWished_61 ?_
          refine lv_topi (fun x23 ex23 => ?_)
          refine lv_if_eq (tgt := 77) hx hb dX10_isWished_62 (by decide) (fun c24 => ?_) (fun c24 => ?_)
          · have hntd : ¬ tdP p2 (nI x) := by unfold tdP; rw [← ex22, ← ex23, c24]; decide
            refine lv_iconst (v := 1) hx hb dX10_isWished_77 (by decide) ?_
            refine lv_goto (tgt := 82) hx hb dX10_isWished_78 (by decide) ?_
            refine lv_istore (lv' := [(4, .int 1), (6, .int (nI (dg k a x))), (5, .int (nI x)), (0, .ref h1), (1, .int (nI a)), (2, .int (nI a2)), (3, .int p2)]) hx hb dX10_isWished_82 hl (by decide) rfl (fun ls hl => ?_)
            obtain ⟨x25, ex25⟩ : ∃ yy_ : Int32, yy_ = (nI x) + 1 := ⟨_, rfl⟩
            refine lv_iinc (v := x25) (lv' := [(5, .int x25), (4, .int 1), (6, .int (nI (dg k a x))), (0, .ref h1), (1, .int (nI a)), (2, .int (nI a2)), (3, .int p2)]) hx hb dX10_isWished_84 hl (k := 2) rfl (by rw [ex25]; rfl) (by decide) rfl (fun ls hl => ?_)
            obtain rfl : x25 = nI (x + 1) := by rw [ex25]; exact nI_add x 1
            refine lv_goto (tgt := 6) hx hb dX10_isWished_87 (by decide) ?_
            refine ih6 ((x + 1), 1) ⟨?_, ?_⟩ (by first | omega | (dsimp only; omega)) H locs ls (hP.sub [0, 1, 2] rfl) (hD.sub [0, 1, 2] (by decide) rfl) hS (lv_sub hl [0, 1, 3, 4, 5, 6] rfl)
            · try dsimp only
              omega
            · try dsimp only
              exact Or.inl ⟨rfl, fun j9 h9 => by by_cases e9 : j9 = x; (rw [e9]; exact ⟨hw1, fun q9 => absurd q9 hntd⟩); exact hal2 j9 (by omega)⟩
          · have htd : tdP p2 (nI x) := by have q9 := and1 (p2 >>> (nI x &&& 31)); unfold tdP; rw [← ex22, ← ex23] at *; exact q9.elim (fun q8 => absurd q8 c24) id
            refine lv_iload hx hb dX10_isWished_65 (lv_at hl 0 rfl) ?_
            refine lv_aload_n hx hb dX10_isWished_67 rfl (lv_at hl 3 rfl) ?_
            refine lv_iload_n hx hb dX10_isWished_68 rfl (lv_at hl 5 rfl) ?_
            refine lv_iload hx hb dX10_isWished_69 (lv_at hl 1 rfl) ?_
            refine ca_iR (va_runV (As := [.int (nI a2), .int (nI x)]) (rest := [.int (nI (dg k a x))]) ⟨hx, hb, hml, hown, hts⟩ (m_signAt l G H.size h1 (.int (nI k)) v_maps v_told v_kinds v_land v_spades (.ref a_pad) v_padMany v_slips v_slipMany v_made v_queue v_depth v_by v_from v_come v_offOf v_parent v_best v_trees v_least v_sums v_toward v_kept v_isKept v_keptAt v_isWriting a_part fp k a2 x hk6 hp (by omega) (by omega)) (cwV 2 hts gX10_isWished_X10_signAt rfl rfl rfl (by decide +kernel) ⟨by decide +kernel, by decide +kernel⟩) (pre_V E hP hD hS hA [0, 1] (by decide) rfl 0 6 rfl rfl) rfl rfl hl.1 rfl (lv_room (Nat.le_of_ble_eq_true rfl)) dX10_isWished_71 ⟨by decide +kernel, by decide +kernel⟩) hS hP hD hA [0, 1] rfl (fun r27 _ H locs w26 hP hS => ?_)
            rw [w26]
            have hdg8 : (dg k a2 x) < 5 := dg_lt _ _ _
            refine lv_icmp_ne (tgt := 81) hx hb dX10_isWished_74 (by decide) (fun c28 => ?_) (fun c28 => ?_)
            · have c28 : ¬ (dg k a x) = (dg k a2 x) := fun h9_ => c28 ((nI_eq (a := (dg k a x)) (b := (dg k a2 x)) (by omega) (by omega)).mpr h9_)
              refine lv_iconst (v := 0) hx hb dX10_isWished_81 (by decide) ?_
              refine lv_istore (lv' := [(4, .int 0), (6, .int (nI (dg k a x))), (5, .int (nI x)), (0, .ref h1), (1, .int (nI a)), (2, .int (nI a2)), (3, .int p2)]) hx hb dX10_isWished_82 hl (by decide) rfl (fun ls hl => ?_)
              obtain ⟨x29, ex29⟩ : ∃ yy_ : Int32, yy_ = (nI x) + 1 := ⟨_, rfl⟩
              refine lv_iinc (v := x29) (lv' := [(5, .int x29), (4, .int 0), (6, .int (nI (dg k a x))), (0, .ref h1), (1, .int (nI a)), (2, .int (nI a2)), (3, .int p2)]) hx hb dX10_isWished_84 hl (k := 2) rfl (by rw [ex29]; rfl) (by decide) rfl (fun ls hl => ?_)
              obtain rfl : x29 = nI (x + 1) := by rw [ex29]; exact nI_add x 1
              refine lv_goto (tgt := 6) hx hb dX10_isWished_87 (by decide) ?_
              refine ih6 ((x + 1), 0) ⟨?_, ?_⟩ (by first | omega | (dsimp only; omega)) H locs ls (hP.sub [0, 1, 2] rfl) (hD.sub [0, 1, 2] (by decide) rfl) hS (lv_sub hl [0, 1, 3, 4, 5, 6] rfl)
              · try dsimp only
                omega
              · try dsimp only
                exact Or.inr ⟨rfl, fun q9 => c28 ((q9 x (by omega)).2 htd)⟩
            · have c28 : (dg k a x) = (dg k a2 x) := (nI_eq (a := (dg k a x)) (b := (dg k a2 x)) (by omega) (by omega)).mp c28
              refine lv_iconst (v := 1) hx hb dX10_isWished_77 (by decide) ?_
              refine lv_goto (tgt := 82) hx hb dX10_isWished_78 (by decide) ?_
              refine lv_istore (lv' := [(4, .int 1), (6, .int (nI (dg k a x))), (5, .int (nI x)), (0, .ref h1), (1, .int (nI a)), (2, .int (nI a2)), (3, .int p2)]) hx hb dX10_isWished_82 hl (by decide) rfl (fun ls hl => ?_)
              obtain ⟨x30, ex30⟩ : ∃ yy_ : Int32, yy_ = (nI x) + 1 := ⟨_, rfl⟩
              refine lv_iinc (v := x30) (lv' := [(5, .int x30), (4, .int 1), (6, .int (nI (dg k a x))), (0, .ref h1), (1, .int (nI a)), (2, .int (nI a2)), (3, .int p2)]) hx hb dX10_isWished_84 hl (k := 2) rfl (by rw [ex30]; rfl) (by decide) rfl (fun ls hl => ?_)
              obtain rfl : x30 = nI (x + 1) := by rw [ex30]; exact nI_add x 1
              refine lv_goto (tgt := 6) hx hb dX10_isWished_87 (by decide) ?_
              refine ih6 ((x + 1), 1) ⟨?_, ?_⟩ (by first | omega | (dsimp only; omega)) H locs ls (hP.sub [0, 1, 2] rfl) (hD.sub [0, 1, 2] (by decide) rfl) hS (lv_sub hl [0, 1, 3, 4, 5, 6] rfl)
              · try dsimp only
                omega
              · try dsimp only
                exact Or.inl ⟨rfl, fun j9 h9 => by by_cases e9 : j9 = x; (rw [e9]; exact ⟨hw1, fun _ => c28⟩); exact hal2 j9 (by omega)⟩

set_option maxHeartbeats 1000000 in
set_option maxRecDepth 100000 in
theorem m3_wished (l : Launch) (G : Gy) (sz : Nat) (h1 : Nat) (v_land : Value) (v_spades : Value) (v_slips : Value) (v_slipMany : Value) (v_made : Value) (v_offOf : Value) (v_parent : Value) (v_best : Value) (v_trees : Value) (v_least : Value) (v_sums : Value) (v_toward : Value) (v_kept : Value) (v_isKept : Value) (v_keptAt : Value) (v_isWriting : Value) (a_maps : Nat) (fm : Nat → Int32) (a_kinds : Nat) (a_pad : Nat) (pm : Nat) (fk : Nat → Int32) (fpd : Nat → Int32) (a_part : Nat) (fp : Nat → Int32) (a_queue : Nat) (a_depth : Nat) (a_by : Nat) (a_from : Nat) (fq : Nat → Int32) (fd : Nat → Int32) (fb : Nat → Int32) (fr : Nat → Int32) (k : Nat) (told : Int32) (cm0 : Int32) (p0 : Int32) (p1 : Int32) (p2 : Int32) (p3 : Int32) (hk2 : 2 ≤ k) (hk6 : k ≤ 6) (hp : pOK k fp) (hfm : mapsOK k fm) (hpm : pm ≤ 40) : Ci l G yX10_wished wsX10_wished ({ frames := 4, cells := 0, slots := 0, locals := 98 }) [.ref h1, .int p0, .int p1, .int p2, .int p3] ([(h1, .inr (6, [.int (nI k), .ref a_maps, .int told, .ref a_kinds, v_land, v_spades, .ref a_part, .ref a_pad, .int (nI pm), v_slips, v_slipMany, v_made, .ref a_queue, .ref a_depth, .ref a_by, .ref a_from, .int cm0, v_offOf, v_parent, v_best, v_trees, v_least, v_sums, v_toward, v_kept, v_isKept, v_keptAt, v_isWriting])), (a_maps, .inl (gI G, 6, .inl fm)), (a_kinds, .inl (gI G, 4, .inl fk)), (a_part, .inl (gI G, 6, .inl fp)), (a_pad, .inl (gI G, 40, .inl fpd)), (a_queue, .inl (gI G, 15625, .inl fq)), (a_depth, .inl (gI G, 15625, .inl fd)), (a_by, .inl (gI G, 15625, .inl fb)), (a_from, .inl (gI G, 15625, .inl fr))]) sz (fun (r : Int32) (u : Int32 × (Nat → Int32) × (Nat → Int32) × (Nat → Int32) × (Nat → Int32)) => match u with | (cm1, gq, gd, gb, gr) => wsP k pm told (maN fm) fpd fk p0 p1 p2 p3 r) (fun (u : Int32 × (Nat → Int32) × (Nat → Int32) × (Nat → Int32) × (Nat → Int32)) => match u with | (cm1, gq, gd, gb, gr) => [(h1, .inr (6, [.int (nI k), .ref a_maps, .int told, .ref a_kinds, v_land, v_spades, .ref a_part, .ref a_pad, .int (nI pm), v_slips, v_slipMany, v_made, .ref a_queue, .ref a_depth, .ref a_by, .ref a_from, .int cm1, v_offOf, v_parent, v_best, v_trees, v_least, v_sums, v_toward, v_kept, v_isKept, v_keptAt, v_isWriting])), (a_maps, .inl (gI G, 6, .inl fm)), (a_kinds, .inl (gI G, 4, .inl fk)), (a_part, .inl (gI G, 6, .inl fp)), (a_pad, .inl (gI G, 40, .inl fpd)), (a_queue, .inl (gI G, 15625, .inl gq)), (a_depth, .inl (gI G, 15625, .inl gd)), (a_by, .inl (gI G, 15625, .inl gb)), (a_from, .inl (gI G, 15625, .inl gr))]) 0 0 := by
  refine Met.ofW (cc := cX10_wished) (maxL := 6) (ret := (some .int)) (by decide) rfl ?_
  intro p e s m args below meth c s₁ B hml hv
  obtain ⟨rfl, hsz, hP, hD0, E0⟩ := hv
  have hx := B.exec
  have hb := B.bytes
  have hr := B.returns
  have hts := atoms_spec (ws := wsX10_wished) B.pre
  have hown : s.vm.findClass RX10 = some m.cls := findClass_of_methodNamed B.named
  have hlocks := B.notSynchronized
  subst hsz
  have hD := hD0.self (sz := s.heap.size)
  generalize hAe : va_A ([(h1, .inr (6, [.int (nI k), .ref a_maps, .int told, .ref a_kinds, v_land, v_spades, .ref a_part, .ref a_pad, .int (nI pm), v_slips, v_slipMany, v_made, .ref a_queue, .ref a_depth, .ref a_by, .ref a_from, .int cm0, v_offOf, v_parent, v_best, v_trees, v_least, v_sums, v_toward, v_kept, v_isKept, v_keptAt, v_isWriting])), (a_maps, .inl (gI G, 6, .inl fm)), (a_kinds, .inl (gI G, 4, .inl fk)), (a_part, .inl (gI G, 6, .inl fp)), (a_pad, .inl (gI G, 40, .inl fpd)), (a_queue, .inl (gI G, 15625, .inl fq)), (a_depth, .inl (gI G, 15625, .inl fd)), (a_by, .inl (gI G, 15625, .inl fb)), (a_from, .inl (gI G, 15625, .inl fr))]) s.heap.size = A at hD E0 ⊢
  have E : EV G A s s.heap := E0
  have hA : ∀ q : Nat, s.heap.size ≤ q → A q := fun q h => by rw [← hAe]; exact Or.inr h
  have hS : va_S A s.heap s.heap [] := va_S.rf
  have hl := lv_entry ([.ref h1, .int p0, .int p1, .int p2, .int p3]) (n := 6) (Nat.le_of_ble_eq_true rfl)
  rw [lg_entry_eq]
  generalize (lg_sl ([.ref h1, .int p0, .int p1, .int p2, .int p3]) ++ List.replicate (6 - (lg_sl ([.ref h1, .int p0, .int p1, .int p2, .int p3])).length) Slot.unset).toArray = ls at hl ⊢
  have hl : lv_has ls 6 [(0, .ref h1), (1, .int p0), (2, .int p1), (3, .int p2), (4, .int p3)] := hl
  have hP : va_P G.1 vwCl ([(h1, .inr (6, [.int (nI k), .ref a_maps, .int told, .ref a_kinds, v_land, v_spades, .ref a_part, .ref a_pad, .int (nI pm), v_slips, v_slipMany, v_made, .ref a_queue, .ref a_depth, .ref a_by, .ref a_from, .int cm0, v_offOf, v_parent, v_best, v_trees, v_least, v_sums, v_toward, v_kept, v_isKept, v_keptAt, v_isWriting])), (a_maps, .inl (gI G, 6, .inl fm)), (a_kinds, .inl (gI G, 4, .inl fk)), (a_part, .inl (gI G, 6, .inl fp)), (a_pad, .inl (gI G, 40, .inl fpd)), (a_queue, .inl (gI G, 15625, .inl fq)), (a_depth, .inl (gI G, 15625, .inl fd)), (a_by, .inl (gI G, 15625, .inl fb)), (a_from, .inl (gI G, 15625, .inl fr))]) s.heap := hP
  have hal := p5le hk6
  refine lv_iload_n hx hb dX10_wished_0 rfl (lv_at hl 1 rfl) ?_
  refine ca_iR (va_runS (As := [.int p0]) (rest := []) ⟨hx, hb, hml, hown, hts⟩ (m_isMap l G s.heap.size p0) (va_cwS 1 hts gX10_wished_X10_isMap rfl rfl rfl (by decide +kernel) ⟨by decide +kernel, by decide +kernel⟩) (pre_S E hP hD hS hA [] (by decide) rfl) rfl rfl hl.1 rfl (lv_room (Nat.le_of_ble_eq_true rfl)) dX10_wished_1 ⟨by decide +kernel, by decide +kernel⟩) hS hP hD hA [] rfl (fun r2 _ H locs w1 hP hS => ?_)
  rcases w1 with ⟨rfl, b3⟩ | ⟨rfl, b3⟩
  · refine lv_if_eq (tgt := 14) hx hb dX10_wished_4 (by decide) (fun c4 => False.elim (by revert c4; decide)) (fun _ => ?_)
    refine lv_iload_n hx hb dX10_wished_7 rfl (lv_at hl 2 rfl) ?_
    refine ca_iR (va_runS (As := [.int p1]) (rest := []) ⟨hx, hb, hml, hown, hts⟩ (m_isHand l G H.size p1) (va_cwS 1 hts gX10_wished_X10_isHand rfl rfl rfl (by decide +kernel) ⟨by decide +kernel, by decide +kernel⟩) (pre_S E hP hD hS hA [] (by decide) rfl) rfl rfl hl.1 rfl (lv_room (Nat.le_of_ble_eq_true rfl)) dX10_wished_8 ⟨by decide +kernel, by decide +kernel⟩) hS hP hD hA [] rfl (fun r6 _ H locs w5 hP hS => ?_)
    rcases w5 with ⟨rfl, b7⟩ | ⟨rfl, b7⟩
    · refine lv_if_ne (tgt := 16) hx hb dX10_wished_11 (by decide) (fun _ => ?_) (fun c8 => False.elim (by revert c8; decide))
      obtain ⟨j_p0, hj_p0, ej_p0⟩ := inR6 b3
      have hl : lv_has ls 6 [(0, .ref h1), (1, .int (nI j_p0)), (2, .int p1), (3, .int p2), (4, .int p3)] := by have q := hl; rw [ej_p0] at q; exact q
      obtain ⟨j_p1, hj_p1, ej_p1⟩ := inR4 b7
      have hl : lv_has ls 6 [(0, .ref h1), (1, .int (nI j_p0)), (2, .int (nI j_p1)), (3, .int p2), (4, .int p3)] := by have q := hl; rw [ej_p1] at q; exact q
      refine lv_iload_n hx hb dX10_wished_16 rfl (lv_at hl 3 rfl) ?_
      refine lv_i2l hx hb dX10_wished_17 rfl ?_
      refine lv_topl (fun x9 ex9 => ?_)
      refine lv_lconst (v := 0) hx hb dX10_wished_18 (by decide) ?_
      refine lv_iconst (v := 1) hx hb dX10_wished_19 (by decide) ?_
      refine lv_aload_n hx hb dX10_wished_20 rfl (lv_at hl 0 rfl) ?_
      refine va_get (D := G.1) (ci := 6) (v := .int (nI k)) (C := RX10) (T := TX10) (N := 28) hx hb hts (fun _ h => List.mem_cons_of_mem _ (List.mem_append_right _ h)) hown E.K hP 0 rfl rfl 0 (by decide) (hts (.fieldLink RX10 67 "LastMapModel" "sites" "I") (by decide +kernel)) (fun _ h9 => h9) rfl dX10_wished_21 ?_
      refine lv_ishl hx hb dX10_wished_24 ?_
      refine lv_topi (fun x10 ex10 => ?_)
      refine lv_iconst (v := 1) hx hb dX10_wished_25 (by decide) ?_
      refine lv_isub hx hb dX10_wished_26 ?_
      refine lv_topi (fun x11 ex11 => ?_)
      refine lv_i2l hx hb dX10_wished_27 rfl ?_
      refine lv_topl (fun x12 ex12 => ?_)
      refine ca_iR (va_runS (As := [.long x9, .long 0, .long x12]) (rest := []) ⟨hx, hb, hml, hown, hts⟩ (m_in l G H.size x9 0 x12 p2 0 x11 ex9 (by decide) ex12) (va_cwS 3 hts gX10_wished_X10_in rfl rfl rfl (by decide +kernel) ⟨by decide +kernel, by decide +kernel⟩) (pre_S E hP hD hS hA [] (by decide) rfl) rfl rfl hl.1 rfl (lv_room (Nat.le_of_ble_eq_true rfl)) dX10_wished_28 ⟨by decide +kernel, by decide +kernel⟩) hS hP hD hA [] rfl (fun r14 _ H locs w13 hP hS => ?_)
      rcases w13 with ⟨rfl, b15⟩ | ⟨rfl, b15⟩
      · refine lv_if_ne (tgt := 37) hx hb dX10_wished_31 (by decide) (fun _ => ?_) (fun c16 => False.elim (by revert c16; decide))
        have hrd := (inR_pre (n := 2 ^ k) (by have q9 := p2_64 hk6; omega) (by rw [ex11, ex10, shl_k k (by omega)])).mp b15
        refine lv_aload_n hx hb dX10_wished_37 rfl (lv_at hl 0 rfl) ?_
        refine lv_iload_n hx hb dX10_wished_38 rfl (lv_at hl 1 rfl) ?_
        refine ca_iR (va_runV (As := [.int (nI j_p0)]) (rest := []) ⟨hx, hb, hml, hown, hts⟩ (m_isTold l G H.size h1 (.int (nI k)) (.ref a_maps) (.ref a_kinds) v_land v_spades (.ref a_part) (.ref a_pad) (.int (nI pm)) v_slips v_slipMany v_made (.ref a_queue) (.ref a_depth) (.ref a_by) (.ref a_from) (.int cm0) v_offOf v_parent v_best v_trees v_least v_sums v_toward v_kept v_isKept v_keptAt v_isWriting told (nI j_p0)) (cwV 1 hts gX10_wished_X10_isTold rfl rfl rfl (by decide +kernel) ⟨by decide +kernel, by decide +kernel⟩) (pre_V E hP hD hS hA [0] (by decide) rfl 0 6 rfl rfl) rfl rfl hl.1 rfl (lv_room (Nat.le_of_ble_eq_true rfl)) dX10_wished_39 ⟨by decide +kernel, by decide +kernel⟩) hS hP hD hA [0] rfl (fun r18 _ H locs w17 hP hS => ?_)
        rcases w17 with ⟨rfl, b19⟩ | ⟨rfl, b19⟩
        · refine lv_if_ne (tgt := 48) hx hb dX10_wished_42 (by decide) (fun _ => ?_) (fun c20 => False.elim (by revert c20; decide))
          refine lv_aload_n hx hb dX10_wished_48 rfl (lv_at hl 0 rfl) ?_
          refine lv_iconst (v := 1) hx hb dX10_wished_49 (by decide) ?_
          refine ca_iR (va_runV (As := [.int 1]) (rest := []) ⟨hx, hb, hml, hown, hts⟩ (m2_faultOfMap l G H.size h1 (.ref a_maps) (.int told) (.ref a_kinds) v_land v_spades (.ref a_part) v_slips v_slipMany v_made (.ref a_queue) (.ref a_depth) (.ref a_by) (.ref a_from) (.int cm0) v_offOf v_parent v_best v_trees v_least v_sums v_toward v_kept v_isKept v_keptAt v_isWriting a_pad pm fpd k 1 hk2 hk6 (by omega)) (cwV 1 hts gX10_wished_X10_faultOfMap rfl rfl rfl (by decide +kernel) ⟨by decide +kernel, by decide +kernel⟩) (pre_V E hP hD hS hA [0, 4] (by decide) rfl 0 6 rfl rfl) rfl rfl hl.1 rfl (lv_room (Nat.le_of_ble_eq_true rfl)) dX10_wished_50 ⟨by decide +kernel, by decide +kernel⟩) hS hP hD hA [0, 4] rfl (fun r22 _ H locs w21 hP hS => ?_)
          have hfw : r22 = fmF fpd pm k True pm 0 := by rw [w21]; exact fmF_w (by decide)
          refine lv_if_lt (tgt := 59) hx hb dX10_wished_53 (by decide) (fun c23 => ?_) (fun c23 => ?_)
          · have hf6 : fmF fpd pm k True pm 0 = (-6) := by
              rcases fmF_cases (w := True) hpm pm 0 (by omega) with q9 | ⟨j9, g1, g2⟩
              · exact q9
              · exact absurd c23 (by rw [hfw, g2]; exact nI_pos (by omega))
            refine lv_aload_n hx hb dX10_wished_59 rfl (lv_at hl 0 rfl) ?_
            refine lv_aload_n hx hb dX10_wished_60 rfl (lv_at hl 0 rfl) ?_
            refine va_get (D := G.1) (ci := 6) (v := .ref a_maps) (C := RX10) (T := TX10) (N := 28) hx hb hts (fun _ h => List.mem_cons_of_mem _ (List.mem_append_right _ h)) hown E.K hP 0 rfl rfl 1 (by decide) (hts (.fieldLink RX10 7 "LastMapModel" "maps" "[I") (by decide +kernel)) (fun _ h9 => h9) rfl dX10_wished_61 ?_
            refine lv_iload_n hx hb dX10_wished_64 rfl (lv_at hl 1 rfl) ?_
            refine va_iald hx hb E.K hP 1 1 rfl rfl (i := nI j_p0) (vp_in_nI (by omega) (by decide)) dX10_wished_65 ?_
            refine lv_topi (fun x24 ex24 => ?_)
            have hmf := maN_ok hk6 hfm hj_p0
            obtain rfl : x24 = nI (maN fm j_p0) := by rw [ex24, nI_clamp (by omega)]; exact hmf.2
            refine lv_aload_n hx hb dX10_wished_66 rfl (lv_at hl 0 rfl) ?_
            refine va_get (D := G.1) (ci := 6) (v := .ref a_kinds) (C := RX10) (T := TX10) (N := 28) hx hb hts (fun _ h => List.mem_cons_of_mem _ (List.mem_append_right _ h)) hown E.K hP 0 rfl rfl 3 (by decide) (hts (.fieldLink RX10 13 "LastMapModel" "kinds" "[I") (by decide +kernel)) (fun _ h9 => h9) rfl dX10_wished_67 ?_
            refine lv_iload_n hx hb dX10_wished_70 rfl (lv_at hl 2 rfl) ?_
            refine va_iald hx hb E.K hP 2 1 rfl rfl (i := nI j_p1) (vp_in_nI (by omega) (by decide)) dX10_wished_71 ?_
            refine lv_topi (fun x25 ex25 => ?_)
            obtain rfl : x25 = fk j_p1 := by rw [ex25, nI_clamp (by omega)]
            refine ca_v (wr := [(a_maps, .inl (gI G, 6, .inl fm)), (a_kinds, .inl (gI G, 4, .inl fk)), (a_pad, .inl (gI G, 40, .inl fpd))]) (va_runV (As := [.int (nI (maN fm j_p0)), .int (fk j_p1)]) (rest := []) ⟨hx, hb, hml, hown, hts⟩ (m3_goFrom l G H.size h1 (.ref a_maps) (.int told) (.ref a_kinds) v_land v_spades (.ref a_pad) (.int (nI pm)) v_slips v_slipMany v_made v_offOf v_parent v_best v_trees v_least v_sums v_toward v_kept v_isKept v_keptAt v_isWriting a_part fp a_queue a_depth a_by a_from fq fd fb fr k (maN fm j_p0) cm0 (fk j_p1) hk2 hk6 hp hmf.1) (cwV 2 hts gX10_wished_X10_goFrom rfl rfl rfl (by decide +kernel) ⟨by decide +kernel, by decide +kernel⟩) (pre_V E hP hD hS hA [0, 3, 5, 6, 7, 8] (by decide) rfl 0 6 rfl rfl) rfl rfl hl.1 rfl (lv_room (Nat.le_of_ble_eq_true rfl)) dX10_wished_72 ⟨by decide +kernel, by decide +kernel⟩) hS hP hD hA [0, 3, 5, 6, 7, 8] [1, 2, 4] rfl rfl (by decide) (by decide) (fun u28 H locs w26 hP hD hS => ?_)
            obtain ⟨cm1_29, gq_30, gd_31, gb_32, gr_33⟩ := u28
            try dsimp only at w26 hP hD
            have hP := (hP.sub (ws' := [(h1, .inr (6, [.int (nI k), .ref a_maps, .int told, .ref a_kinds, v_land, v_spades, .ref a_part, .ref a_pad, .int (nI pm), v_slips, v_slipMany, v_made, .ref a_queue, .ref a_depth, .ref a_by, .ref a_from, .int (nI cm1_29), v_offOf, v_parent, v_best, v_trees, v_least, v_sums, v_toward, v_kept, v_isKept, v_keptAt, v_isWriting])), (a_maps, .inl (gI G, 6, .inl fm)), (a_kinds, .inl (gI G, 4, .inl fk)), (a_part, .inl (gI G, 6, .inl fp)), (a_pad, .inl (gI G, 40, .inl fpd)), (a_queue, .inl (gI G, 15625, .inl gq_30)), (a_depth, .inl (gI G, 15625, .inl gd_31)), (a_by, .inl (gI G, 15625, .inl gb_32)), (a_from, .inl (gI G, 15625, .inl gr_33))]) [3, 0, 1, 4, 2, 5, 6, 7, 8] rfl)
            have hD := (hD.sub (ws' := [(h1, .inr (6, [.int (nI k), .ref a_maps, .int told, .ref a_kinds, v_land, v_spades, .ref a_part, .ref a_pad, .int (nI pm), v_slips, v_slipMany, v_made, .ref a_queue, .ref a_depth, .ref a_by, .ref a_from, .int (nI cm1_29), v_offOf, v_parent, v_best, v_trees, v_least, v_sums, v_toward, v_kept, v_isKept, v_keptAt, v_isWriting])), (a_maps, .inl (gI G, 6, .inl fm)), (a_kinds, .inl (gI G, 4, .inl fk)), (a_part, .inl (gI G, 6, .inl fp)), (a_pad, .inl (gI G, 40, .inl fpd)), (a_queue, .inl (gI G, 15625, .inl gq_30)), (a_depth, .inl (gI G, 15625, .inl gd_31)), (a_by, .inl (gI G, 15625, .inl gb_32)), (a_from, .inl (gI G, 15625, .inl gr_33))]) [3, 0, 1, 4, 2, 5, 6, 7, 8] (by decide) rfl)
            have hdo9 := w26.1
            obtain ⟨gc9, hgo9⟩ := w26.2
            have hcl := dOK_le hdo9
            refine lv_iconst (v := 0) hx hb dX10_wished_75 (by decide) ?_
            refine lv_istore (lv' := [(5, .int 0), (0, .ref h1), (1, .int (nI j_p0)), (2, .int (nI j_p1)), (3, .int p2), (4, .int p3)]) hx hb dX10_wished_76 hl (by decide) rfl (fun ls hl => ?_)
            refine lp_run (x0 := 0) (fun x : Nat => [(h1, .inr (6, [.int (nI k), .ref a_maps, .int told, .ref a_kinds, v_land, v_spades, .ref a_part, .ref a_pad, .int (nI pm), v_slips, v_slipMany, v_made, .ref a_queue, .ref a_depth, .ref a_by, .ref a_from, .int (nI cm1_29), v_offOf, v_parent, v_best, v_trees, v_least, v_sums, v_toward, v_kept, v_isKept, v_keptAt, v_isWriting])), (a_maps, .inl (gI G, 6, .inl fm)), (a_kinds, .inl (gI G, 4, .inl fk)), (a_part, .inl (gI G, 6, .inl fp)), (a_pad, .inl (gI G, 40, .inl fpd)), (a_queue, .inl (gI G, 15625, .inl gq_30)), (a_depth, .inl (gI G, 15625, .inl gd_31)), (a_by, .inl (gI G, 15625, .inl gb_32)), (a_from, .inl (gI G, 15625, .inl gr_33))]) (fun x : Nat => [(5, .int (nI x)), (0, .ref h1), (1, .int (nI j_p0)), (2, .int (nI j_p1)), (3, .int p2), (4, .int p3)]) (fun x : Nat => (x ≤ cm1_29) ∧ (∀ j, j < x → ¬ wishS k fpd p2 (maN fm j_p0) (tN gq_30 j))) (fun x : Nat => cm1_29 - x) (hP.sub [0, 1, 2, 3, 4, 5, 6, 7, 8] rfl) (hD.sub [0, 1, 2, 3, 4, 5, 6, 7, 8] (by decide) rfl) hS (lv_sub hl [0, 1, 2, 3, 4, 5] rfl) ⟨(by omega), by intro j9 h9; omega⟩ ?_
            intro xx_ hI ih78 H locs ls hP hD hS hl
            obtain ⟨x, rfl⟩ : ∃ zz_, zz_ = xx_ := ⟨_, rfl⟩
            obtain ⟨hx0, hno⟩ := hI
            have hl : lv_has ls 6 [(5, .int (nI x)), (0, .ref h1), (1, .int (nI j_p0)), (2, .int (nI j_p1)), (3, .int p2), (4, .int p3)] := hl
            have hP : va_P G.1 vwCl ([(h1, .inr (6, [.int (nI k), .ref a_maps, .int told, .ref a_kinds, v_land, v_spades, .ref a_part, .ref a_pad, .int (nI pm), v_slips, v_slipMany, v_made, .ref a_queue, .ref a_depth, .ref a_by, .ref a_from, .int (nI cm1_29), v_offOf, v_parent, v_best, v_trees, v_least, v_sums, v_toward, v_kept, v_isKept, v_keptAt, v_isWriting])), (a_maps, .inl (gI G, 6, .inl fm)), (a_kinds, .inl (gI G, 4, .inl fk)), (a_part, .inl (gI G, 6, .inl fp)), (a_pad, .inl (gI G, 40, .inl fpd)), (a_queue, .inl (gI G, 15625, .inl gq_30)), (a_depth, .inl (gI G, 15625, .inl gd_31)), (a_by, .inl (gI G, 15625, .inl gb_32)), (a_from, .inl (gI G, 15625, .inl gr_33))]) H := hP
            have hD : va_D A ([(h1, .inr (6, [.int (nI k), .ref a_maps, .int told, .ref a_kinds, v_land, v_spades, .ref a_part, .ref a_pad, .int (nI pm), v_slips, v_slipMany, v_made, .ref a_queue, .ref a_depth, .ref a_by, .ref a_from, .int (nI cm1_29), v_offOf, v_parent, v_best, v_trees, v_least, v_sums, v_toward, v_kept, v_isKept, v_keptAt, v_isWriting])), (a_maps, .inl (gI G, 6, .inl fm)), (a_kinds, .inl (gI G, 4, .inl fk)), (a_part, .inl (gI G, 6, .inl fp)), (a_pad, .inl (gI G, 40, .inl fpd)), (a_queue, .inl (gI G, 15625, .inl gq_30)), (a_depth, .inl (gI G, 15625, .inl gd_31)), (a_by, .inl (gI G, 15625, .inl gb_32)), (a_from, .inl (gI G, 15625, .inl gr_33))]) := hD
            refine lv_iload hx hb dX10_wished_78 (lv_at hl 0 rfl) ?_
            refine lv_aload_n hx hb dX10_wished_80 rfl (lv_at hl 1 rfl) ?_
            refine va_get (D := G.1) (ci := 6) (v := .int (nI cm1_29)) (C := RX10) (T := TX10) (N := 28) hx hb hts (fun _ h => List.mem_cons_of_mem _ (List.mem_append_right _ h)) hown E.K hP 0 rfl rfl 16 (by decide) (hts (.fieldLink RX10 158 "LastMapModel" "come" "I") (by decide +kernel)) (fun _ h9 => h9) rfl dX10_wished_81 ?_
            refine lv_icmp_ge (tgt := 149) hx hb dX10_wished_84 (by decide) (fun c34 => ?_) (fun c34 => ?_)
            · have c34 : cm1_29 ≤ x := (nI_leI (a := cm1_29) (b := x) (by omega) (by omega)).mp c34
              refine lv_bipush (v := (-6)) hx hb dX10_wished_149 (by decide) ?_
              have hP9 := (hP.sub (ws' := [(h1, .inr (6, [.int (nI k), .ref a_maps, .int told, .ref a_kinds, v_land, v_spades, .ref a_part, .ref a_pad, .int (nI pm), v_slips, v_slipMany, v_made, .ref a_queue, .ref a_depth, .ref a_by, .ref a_from, .int (nI cm1_29), v_offOf, v_parent, v_best, v_trees, v_least, v_sums, v_toward, v_kept, v_isKept, v_keptAt, v_isWriting])), (a_maps, .inl (gI G, 6, .inl fm)), (a_kinds, .inl (gI G, 4, .inl fk)), (a_part, .inl (gI G, 6, .inl fp)), (a_pad, .inl (gI G, 40, .inl fpd)), (a_queue, .inl (gI G, 15625, .inl gq_30)), (a_depth, .inl (gI G, 15625, .inl gd_31)), (a_by, .inl (gI G, 15625, .inl gb_32)), (a_from, .inl (gI G, 15625, .inl gr_33))]) [0, 1, 2, 3, 4, 5, 6, 7, 8] rfl)
              have hD9 := (hD.sub (ws' := [(h1, .inr (6, [.int (nI k), .ref a_maps, .int told, .ref a_kinds, v_land, v_spades, .ref a_part, .ref a_pad, .int (nI pm), v_slips, v_slipMany, v_made, .ref a_queue, .ref a_depth, .ref a_by, .ref a_from, .int (nI cm1_29), v_offOf, v_parent, v_best, v_trees, v_least, v_sums, v_toward, v_kept, v_isKept, v_keptAt, v_isWriting])), (a_maps, .inl (gI G, 6, .inl fm)), (a_kinds, .inl (gI G, 4, .inl fk)), (a_part, .inl (gI G, 6, .inl fp)), (a_pad, .inl (gI G, 40, .inl fpd)), (a_queue, .inl (gI G, 15625, .inl gq_30)), (a_depth, .inl (gI G, 15625, .inl gd_31)), (a_by, .inl (gI G, 15625, .inl gb_32)), (a_from, .inl (gI G, 15625, .inl gr_33))]) [0, 1, 2, 3, 4, 5, 6, 7, 8] (by decide) rfl)
              exact W.iret (v := (-6)) hx hb hr (fun t9_ ht9_ hW9_ => ⟨⟨(-6), (nI cm1_29, gq_30, gd_31, gb_32, gr_33), rfl, wsP_5 hj_p0 ej_p0 hj_p1 ej_p1 hrd (by rw [ej_p0]; exact b19) hf6 (fun x9 h9 => Iff.rfl) (go_nil hmf.1 hgo9 (fun j9 h9 => hno j9 (by omega))), by rw [ht9_]; exact hP9, hD9⟩, hS.F ht9_⟩) hS.2.2 dX10_wished_151
            · have c34 : ¬ cm1_29 ≤ x := fun h9_ => c34 ((nI_leI (a := cm1_29) (b := x) (by omega) (by omega)).mpr h9_)
              obtain ⟨eqx, hqx, hnx⟩ := hgo9.1 x (by omega)
              refine lv_aload_n hx hb dX10_wished_87 rfl (lv_at hl 1 rfl) ?_
              refine lv_aload_n hx hb dX10_wished_88 rfl (lv_at hl 1 rfl) ?_
              refine va_get (D := G.1) (ci := 6) (v := .ref a_queue) (C := RX10) (T := TX10) (N := 28) hx hb hts (fun _ h => List.mem_cons_of_mem _ (List.mem_append_right _ h)) hown E.K hP 0 rfl rfl 12 (by decide) (hts (.fieldLink RX10 25 "LastMapModel" "queue" "[I") (by decide +kernel)) (fun _ h9 => h9) rfl dX10_wished_89 ?_
              refine lv_iload hx hb dX10_wished_92 (lv_at hl 0 rfl) ?_
              refine va_iald hx hb E.K hP 5 1 rfl rfl (i := nI x) (vp_in_nI (by omega) (by decide)) dX10_wished_94 ?_
              refine lv_topi (fun x35 ex35 => ?_)
              obtain rfl : x35 = nI (tN gq_30 x) := by rw [ex35, nI_clamp (by omega)]; exact eqx
              refine lv_aload_n hx hb dX10_wished_95 rfl (lv_at hl 1 rfl) ?_
              refine va_get (D := G.1) (ci := 6) (v := .ref a_maps) (C := RX10) (T := TX10) (N := 28) hx hb hts (fun _ h => List.mem_cons_of_mem _ (List.mem_append_right _ h)) hown E.K hP 0 rfl rfl 1 (by decide) (hts (.fieldLink RX10 7 "LastMapModel" "maps" "[I") (by decide +kernel)) (fun _ h9 => h9) rfl dX10_wished_96 ?_
              refine lv_iload_n hx hb dX10_wished_99 rfl (lv_at hl 2 rfl) ?_
              refine va_iald hx hb E.K hP 1 1 rfl rfl (i := nI j_p0) (vp_in_nI (by omega) (by decide)) dX10_wished_100 ?_
              refine lv_topi (fun x36 ex36 => ?_)
              obtain rfl : x36 = nI (maN fm j_p0) := by rw [ex36, nI_clamp (by omega)]; exact hmf.2
              refine lv_iload_n hx hb dX10_wished_101 rfl (lv_at hl 4 rfl) ?_
              refine ca_iR (va_runV (As := [.int (nI (tN gq_30 x)), .int (nI (maN fm j_p0)), .int p2]) (rest := []) ⟨hx, hb, hml, hown, hts⟩ (m3_isWished l G H.size h1 (.ref a_maps) (.int told) (.ref a_kinds) v_land v_spades (.int (nI pm)) v_slips v_slipMany v_made (.ref a_queue) (.ref a_depth) (.ref a_by) (.ref a_from) (.int (nI cm1_29)) v_offOf v_parent v_best v_trees v_least v_sums v_toward v_kept v_isKept v_keptAt v_isWriting a_part fp a_pad fpd k (tN gq_30 x) (maN fm j_p0) p2 hk2 hk6 hp hqx hmf.1) (cwV 3 hts gX10_wished_X10_isWished rfl rfl rfl (by decide +kernel) ⟨by decide +kernel, by decide +kernel⟩) (pre_V E hP hD hS hA [0, 3, 4] (by decide) rfl 0 6 rfl rfl) rfl rfl hl.1 rfl (lv_room (Nat.le_of_ble_eq_true rfl)) dX10_wished_102 ⟨by decide +kernel, by decide +kernel⟩) hS hP hD hA [0, 3, 4] rfl (fun r38 _ H locs w37 hP hS => ?_)
              rcases w37 with ⟨rfl, b39⟩ | ⟨rfl, b39⟩
              · refine lv_if_eq (tgt := 143) hx hb dX10_wished_105 (by decide) (fun c40 => False.elim (by revert c40; decide)) (fun _ => ?_)
                refine lv_iload hx hb dX10_wished_108 (lv_at hl 5 rfl) ?_
                refine lv_iconst (v := (-1)) hx hb dX10_wished_110 (by decide) ?_
                refine lv_icmp_ne (tgt := 129) hx hb dX10_wished_111 (by decide) (fun c41 => ?_) (fun c41 => ?_)
                · refine lv_aload_n hx hb dX10_wished_129 rfl (lv_at hl 1 rfl) ?_
                  refine lv_aload_n hx hb dX10_wished_130 rfl (lv_at hl 1 rfl) ?_
                  refine va_get (D := G.1) (ci := 6) (v := .ref a_queue) (C := RX10) (T := TX10) (N := 28) hx hb hts (fun _ h => List.mem_cons_of_mem _ (List.mem_append_right _ h)) hown E.K hP 0 rfl rfl 12 (by decide) (hts (.fieldLink RX10 25 "LastMapModel" "queue" "[I") (by decide +kernel)) (fun _ h9 => h9) rfl dX10_wished_131 ?_
                  refine lv_iload hx hb dX10_wished_134 (lv_at hl 0 rfl) ?_
                  refine va_iald hx hb E.K hP 5 1 rfl rfl (i := nI x) (vp_in_nI (by omega) (by decide)) dX10_wished_136 ?_
                  refine lv_topi (fun x42 ex42 => ?_)
                  obtain rfl : x42 = nI (tN gq_30 x) := by rw [ex42, nI_clamp (by omega)]; exact eqx
                  refine lv_iload hx hb dX10_wished_137 (lv_at hl 5 rfl) ?_
                  refine ca_iR (va_runV (As := [.int (nI (tN gq_30 x)), .int p3]) (rest := []) ⟨hx, hb, hml, hown, hts⟩ (m3_slipTo l G H.size h1 (.int (nI k)) (.ref a_maps) (.int told) (.ref a_kinds) v_land v_spades (.ref a_part) (.ref a_pad) (.int (nI pm)) v_slips v_slipMany v_made (.ref a_queue) (.int (nI cm1_29)) v_offOf v_parent v_best v_trees v_least v_sums v_toward v_kept v_isKept v_keptAt v_isWriting a_depth a_by a_from gd_31 gb_32 gr_33 gq_30 k (tN gq_30 x) cm1_29 p3 (maN fm j_p0) (bK (fk j_p1)) gc9 hk6 hqx hdo9 hgo9 hnx) (cwV 2 hts gX10_wished_X10_slipTo rfl rfl rfl (by decide +kernel) ⟨by decide +kernel, by decide +kernel⟩) (pre_V E hP hD hS hA [0, 6, 7, 8] (by decide) rfl 0 6 rfl rfl) rfl rfl hl.1 rfl (lv_room (Nat.le_of_ble_eq_true rfl)) dX10_wished_139 ⟨by decide +kernel, by decide +kernel⟩) hS hP hD hA [0, 6, 7, 8] rfl (fun r44 _ H locs w43 hP hS => ?_)
                  have hP9 := (hP.sub (ws' := [(h1, .inr (6, [.int (nI k), .ref a_maps, .int told, .ref a_kinds, v_land, v_spades, .ref a_part, .ref a_pad, .int (nI pm), v_slips, v_slipMany, v_made, .ref a_queue, .ref a_depth, .ref a_by, .ref a_from, .int (nI cm1_29), v_offOf, v_parent, v_best, v_trees, v_least, v_sums, v_toward, v_kept, v_isKept, v_keptAt, v_isWriting])), (a_maps, .inl (gI G, 6, .inl fm)), (a_kinds, .inl (gI G, 4, .inl fk)), (a_part, .inl (gI G, 6, .inl fp)), (a_pad, .inl (gI G, 40, .inl fpd)), (a_queue, .inl (gI G, 15625, .inl gq_30)), (a_depth, .inl (gI G, 15625, .inl gd_31)), (a_by, .inl (gI G, 15625, .inl gb_32)), (a_from, .inl (gI G, 15625, .inl gr_33))]) [0, 1, 2, 3, 4, 5, 6, 7, 8] rfl)
                  have hD9 := (hD.sub (ws' := [(h1, .inr (6, [.int (nI k), .ref a_maps, .int told, .ref a_kinds, v_land, v_spades, .ref a_part, .ref a_pad, .int (nI pm), v_slips, v_slipMany, v_made, .ref a_queue, .ref a_depth, .ref a_by, .ref a_from, .int (nI cm1_29), v_offOf, v_parent, v_best, v_trees, v_least, v_sums, v_toward, v_kept, v_isKept, v_keptAt, v_isWriting])), (a_maps, .inl (gI G, 6, .inl fm)), (a_kinds, .inl (gI G, 4, .inl fk)), (a_part, .inl (gI G, 6, .inl fp)), (a_pad, .inl (gI G, 40, .inl fpd)), (a_queue, .inl (gI G, 15625, .inl gq_30)), (a_depth, .inl (gI G, 15625, .inl gd_31)), (a_by, .inl (gI G, 15625, .inl gb_32)), (a_from, .inl (gI G, 15625, .inl gr_33))]) [0, 1, 2, 3, 4, 5, 6, 7, 8] (by decide) rfl)
                  exact W.iret (v := r44) hx hb hr (fun t9_ ht9_ hW9_ => ⟨⟨r44, (nI cm1_29, gq_30, gd_31, gb_32, gr_33), rfl, wsP_5 hj_p0 ej_p0 hj_p1 ej_p1 hrd (by rw [ej_p0]; exact b19) hf6 (fun x9 h9 => Iff.rfl) (go_first hk6 hmf.1 hgo9 (i := x) (by omega) b39 hno (Or.inr ⟨c41, w43⟩)), by rw [ht9_]; exact hP9, hD9⟩, hS.F ht9_⟩) hS.2.2 dX10_wished_142
                · refine lv_aload_n hx hb dX10_wished_114 rfl (lv_at hl 1 rfl) ?_
                  refine va_get (D := G.1) (ci := 6) (v := .ref a_depth) (C := RX10) (T := TX10) (N := 28) hx hb hts (fun _ h => List.mem_cons_of_mem _ (List.mem_append_right _ h)) hown E.K hP 0 rfl rfl 13 (by decide) (hts (.fieldLink RX10 28 "LastMapModel" "depth" "[I") (by decide +kernel)) (fun _ h9 => h9) rfl dX10_wished_115 ?_
                  refine lv_aload_n hx hb dX10_wished_118 rfl (lv_at hl 1 rfl) ?_
                  refine va_get (D := G.1) (ci := 6) (v := .ref a_queue) (C := RX10) (T := TX10) (N := 28) hx hb hts (fun _ h => List.mem_cons_of_mem _ (List.mem_append_right _ h)) hown E.K hP 0 rfl rfl 12 (by decide) (hts (.fieldLink RX10 25 "LastMapModel" "queue" "[I") (by decide +kernel)) (fun _ h9 => h9) rfl dX10_wished_119 ?_
                  refine lv_iload hx hb dX10_wished_122 (lv_at hl 0 rfl) ?_
                  refine va_iald hx hb E.K hP 5 1 rfl rfl (i := nI x) (vp_in_nI (by omega) (by decide)) dX10_wished_124 ?_
                  refine lv_topi (fun x45 ex45 => ?_)
                  obtain rfl : x45 = nI (tN gq_30 x) := by rw [ex45, nI_clamp (by omega)]; exact eqx
                  refine va_iald hx hb E.K hP 6 1 rfl rfl (i := nI (tN gq_30 x)) (vp_in_nI (by omega) (by decide)) dX10_wished_125 ?_
                  refine lv_topi (fun x46 ex46 => ?_)
                  refine lv_goto (tgt := 142) hx hb dX10_wished_126 (by decide) ?_
                  have hP9 := (hP.sub (ws' := [(h1, .inr (6, [.int (nI k), .ref a_maps, .int told, .ref a_kinds, v_land, v_spades, .ref a_part, .ref a_pad, .int (nI pm), v_slips, v_slipMany, v_made, .ref a_queue, .ref a_depth, .ref a_by, .ref a_from, .int (nI cm1_29), v_offOf, v_parent, v_best, v_trees, v_least, v_sums, v_toward, v_kept, v_isKept, v_keptAt, v_isWriting])), (a_maps, .inl (gI G, 6, .inl fm)), (a_kinds, .inl (gI G, 4, .inl fk)), (a_part, .inl (gI G, 6, .inl fp)), (a_pad, .inl (gI G, 40, .inl fpd)), (a_queue, .inl (gI G, 15625, .inl gq_30)), (a_depth, .inl (gI G, 15625, .inl gd_31)), (a_by, .inl (gI G, 15625, .inl gb_32)), (a_from, .inl (gI G, 15625, .inl gr_33))]) [0, 1, 2, 3, 4, 5, 6, 7, 8] rfl)
                  have hD9 := (hD.sub (ws' := [(h1, .inr (6, [.int (nI k), .ref a_maps, .int told, .ref a_kinds, v_land, v_spades, .ref a_part, .ref a_pad, .int (nI pm), v_slips, v_slipMany, v_made, .ref a_queue, .ref a_depth, .ref a_by, .ref a_from, .int (nI cm1_29), v_offOf, v_parent, v_best, v_trees, v_least, v_sums, v_toward, v_kept, v_isKept, v_keptAt, v_isWriting])), (a_maps, .inl (gI G, 6, .inl fm)), (a_kinds, .inl (gI G, 4, .inl fk)), (a_part, .inl (gI G, 6, .inl fp)), (a_pad, .inl (gI G, 40, .inl fpd)), (a_queue, .inl (gI G, 15625, .inl gq_30)), (a_depth, .inl (gI G, 15625, .inl gd_31)), (a_by, .inl (gI G, 15625, .inl gb_32)), (a_from, .inl (gI G, 15625, .inl gr_33))]) [0, 1, 2, 3, 4, 5, 6, 7, 8] (by decide) rfl)
                  exact W.iret (v := x46) hx hb hr (fun t9_ ht9_ hW9_ => ⟨⟨x46, (nI cm1_29, gq_30, gd_31, gb_32, gr_33), rfl, wsP_5 hj_p0 ej_p0 hj_p1 ej_p1 hrd (by rw [ej_p0]; exact b19) hf6 (fun x9 h9 => Iff.rfl) (go_first hk6 hmf.1 hgo9 (i := x) (by omega) b39 hno (Or.inl ⟨c41, by rw [ex46, nI_clamp (by omega)]⟩)), by rw [ht9_]; exact hP9, hD9⟩, hS.F ht9_⟩) hS.2.2 dX10_wished_142
              · refine lv_if_eq (tgt := 143) hx hb dX10_wished_105 (by decide) (fun _ => ?_) (fun c47 => False.elim (by revert c47; decide))
                obtain ⟨x48, ex48⟩ : ∃ yy_ : Int32, yy_ = (nI x) + 1 := ⟨_, rfl⟩
                refine lv_iinc (v := x48) (lv' := [(5, .int x48), (0, .ref h1), (1, .int (nI j_p0)), (2, .int (nI j_p1)), (3, .int p2), (4, .int p3)]) hx hb dX10_wished_143 hl (k := 0) rfl (by rw [ex48]; rfl) (by decide) rfl (fun ls hl => ?_)
                obtain rfl : x48 = nI (x + 1) := by rw [ex48]; exact nI_add x 1
                refine lv_goto (tgt := 78) hx hb dX10_wished_146 (by decide) ?_
                refine ih78 (x + 1) ⟨?_, ?_⟩ (by first | omega | (dsimp only; omega)) H locs ls (hP.sub [0, 1, 2, 3, 4, 5, 6, 7, 8] rfl) (hD.sub [0, 1, 2, 3, 4, 5, 6, 7, 8] (by decide) rfl) hS (lv_sub hl [0, 1, 2, 3, 4, 5] rfl)
                · try dsimp only
                  omega
                · try dsimp only
                  intro j9 h9; by_cases e9 : j9 = x
                  · rw [e9]; exact b39
                  · exact hno j9 (by omega)
          · refine lv_bipush (v := (-5)) hx hb dX10_wished_56 (by decide) ?_
            have hP9 := (hP.sub (ws' := [(h1, .inr (6, [.int (nI k), .ref a_maps, .int told, .ref a_kinds, v_land, v_spades, .ref a_part, .ref a_pad, .int (nI pm), v_slips, v_slipMany, v_made, .ref a_queue, .ref a_depth, .ref a_by, .ref a_from, .int cm0, v_offOf, v_parent, v_best, v_trees, v_least, v_sums, v_toward, v_kept, v_isKept, v_keptAt, v_isWriting])), (a_maps, .inl (gI G, 6, .inl fm)), (a_kinds, .inl (gI G, 4, .inl fk)), (a_part, .inl (gI G, 6, .inl fp)), (a_pad, .inl (gI G, 40, .inl fpd)), (a_queue, .inl (gI G, 15625, .inl fq)), (a_depth, .inl (gI G, 15625, .inl fd)), (a_by, .inl (gI G, 15625, .inl fb)), (a_from, .inl (gI G, 15625, .inl fr))]) [0, 1, 2, 3, 4, 5, 6, 7, 8] rfl)
            have hD9 := (hD.sub (ws' := [(h1, .inr (6, [.int (nI k), .ref a_maps, .int told, .ref a_kinds, v_land, v_spades, .ref a_part, .ref a_pad, .int (nI pm), v_slips, v_slipMany, v_made, .ref a_queue, .ref a_depth, .ref a_by, .ref a_from, .int cm0, v_offOf, v_parent, v_best, v_trees, v_least, v_sums, v_toward, v_kept, v_isKept, v_keptAt, v_isWriting])), (a_maps, .inl (gI G, 6, .inl fm)), (a_kinds, .inl (gI G, 4, .inl fk)), (a_part, .inl (gI G, 6, .inl fp)), (a_pad, .inl (gI G, 40, .inl fpd)), (a_queue, .inl (gI G, 15625, .inl fq)), (a_depth, .inl (gI G, 15625, .inl fd)), (a_by, .inl (gI G, 15625, .inl fb)), (a_from, .inl (gI G, 15625, .inl fr))]) [0, 1, 2, 3, 4, 5, 6, 7, 8] (by decide) rfl)
            exact W.iret (v := (-5)) hx hb hr (fun t9_ ht9_ hW9_ => ⟨⟨(-5), (cm0, fq, fd, fb, fr), rfl, Or.inr ⟨⟨b3, b7⟩, Or.inr ⟨hrd, Or.inr ⟨(by rw [ej_p0]; exact b19), Or.inl ⟨fun q9 => c23 (by rw [hfw, q9]; decide), rfl⟩⟩⟩⟩, by rw [ht9_]; exact hP9, hD9⟩, hS.F ht9_⟩) hS.2.2 dX10_wished_58
        · refine lv_if_ne (tgt := 48) hx hb dX10_wished_42 (by decide) (fun c49 => False.elim (by revert c49; decide)) (fun _ => ?_)
          refine lv_bipush (v := (-3)) hx hb dX10_wished_45 (by decide) ?_
          have hP9 := (hP.sub (ws' := [(h1, .inr (6, [.int (nI k), .ref a_maps, .int told, .ref a_kinds, v_land, v_spades, .ref a_part, .ref a_pad, .int (nI pm), v_slips, v_slipMany, v_made, .ref a_queue, .ref a_depth, .ref a_by, .ref a_from, .int cm0, v_offOf, v_parent, v_best, v_trees, v_least, v_sums, v_toward, v_kept, v_isKept, v_keptAt, v_isWriting])), (a_maps, .inl (gI G, 6, .inl fm)), (a_kinds, .inl (gI G, 4, .inl fk)), (a_part, .inl (gI G, 6, .inl fp)), (a_pad, .inl (gI G, 40, .inl fpd)), (a_queue, .inl (gI G, 15625, .inl fq)), (a_depth, .inl (gI G, 15625, .inl fd)), (a_by, .inl (gI G, 15625, .inl fb)), (a_from, .inl (gI G, 15625, .inl fr))]) [0, 1, 2, 3, 4, 5, 6, 7, 8] rfl)
          have hD9 := (hD.sub (ws' := [(h1, .inr (6, [.int (nI k), .ref a_maps, .int told, .ref a_kinds, v_land, v_spades, .ref a_part, .ref a_pad, .int (nI pm), v_slips, v_slipMany, v_made, .ref a_queue, .ref a_depth, .ref a_by, .ref a_from, .int cm0, v_offOf, v_parent, v_best, v_trees, v_least, v_sums, v_toward, v_kept, v_isKept, v_keptAt, v_isWriting])), (a_maps, .inl (gI G, 6, .inl fm)), (a_kinds, .inl (gI G, 4, .inl fk)), (a_part, .inl (gI G, 6, .inl fp)), (a_pad, .inl (gI G, 40, .inl fpd)), (a_queue, .inl (gI G, 15625, .inl fq)), (a_depth, .inl (gI G, 15625, .inl fd)), (a_by, .inl (gI G, 15625, .inl fb)), (a_from, .inl (gI G, 15625, .inl fr))]) [0, 1, 2, 3, 4, 5, 6, 7, 8] (by decide) rfl)
          exact W.iret (v := (-3)) hx hb hr (fun t9_ ht9_ hW9_ => ⟨⟨(-3), (cm0, fq, fd, fb, fr), rfl, Or.inr ⟨⟨b3, b7⟩, Or.inr ⟨hrd, Or.inl ⟨fun q9 => b19 (by rw [← ej_p0]; exact q9), rfl⟩⟩⟩, by rw [ht9_]; exact hP9, hD9⟩, hS.F ht9_⟩) hS.2.2 dX10_wished_47
      · refine lv_if_ne (tgt := 37) hx hb dX10_wished_31 (by decide) (fun c50 => False.elim (by revert c50; decide)) (fun _ => ?_)
        refine lv_bipush (v := (-2)) hx hb dX10_wished_34 (by decide) ?_
        have hP9 := (hP.sub (ws' := [(h1, .inr (6, [.int (nI k), .ref a_maps, .int told, .ref a_kinds, v_land, v_spades, .ref a_part, .ref a_pad, .int (nI pm), v_slips, v_slipMany, v_made, .ref a_queue, .ref a_depth, .ref a_by, .ref a_from, .int cm0, v_offOf, v_parent, v_best, v_trees, v_least, v_sums, v_toward, v_kept, v_isKept, v_keptAt, v_isWriting])), (a_maps, .inl (gI G, 6, .inl fm)), (a_kinds, .inl (gI G, 4, .inl fk)), (a_part, .inl (gI G, 6, .inl fp)), (a_pad, .inl (gI G, 40, .inl fpd)), (a_queue, .inl (gI G, 15625, .inl fq)), (a_depth, .inl (gI G, 15625, .inl fd)), (a_by, .inl (gI G, 15625, .inl fb)), (a_from, .inl (gI G, 15625, .inl fr))]) [0, 1, 2, 3, 4, 5, 6, 7, 8] rfl)
        have hD9 := (hD.sub (ws' := [(h1, .inr (6, [.int (nI k), .ref a_maps, .int told, .ref a_kinds, v_land, v_spades, .ref a_part, .ref a_pad, .int (nI pm), v_slips, v_slipMany, v_made, .ref a_queue, .ref a_depth, .ref a_by, .ref a_from, .int cm0, v_offOf, v_parent, v_best, v_trees, v_least, v_sums, v_toward, v_kept, v_isKept, v_keptAt, v_isWriting])), (a_maps, .inl (gI G, 6, .inl fm)), (a_kinds, .inl (gI G, 4, .inl fk)), (a_part, .inl (gI G, 6, .inl fp)), (a_pad, .inl (gI G, 40, .inl fpd)), (a_queue, .inl (gI G, 15625, .inl fq)), (a_depth, .inl (gI G, 15625, .inl fd)), (a_by, .inl (gI G, 15625, .inl fb)), (a_from, .inl (gI G, 15625, .inl fr))]) [0, 1, 2, 3, 4, 5, 6, 7, 8] (by decide) rfl)
        exact W.iret (v := (-2)) hx hb hr (fun t9_ ht9_ hW9_ => ⟨⟨(-2), (cm0, fq, fd, fb, fr), rfl, Or.inr ⟨⟨b3, b7⟩, Or.inl ⟨fun q9 => b15 ((inR_pre (n := 2 ^ k) (by have q9 := p2_64 hk6; omega) (by rw [ex11, ex10, shl_k k (by omega)])).mpr q9), rfl⟩⟩, by rw [ht9_]; exact hP9, hD9⟩, hS.F ht9_⟩) hS.2.2 dX10_wished_36
    · refine lv_if_ne (tgt := 16) hx hb dX10_wished_11 (by decide) (fun c51 => False.elim (by revert c51; decide)) (fun _ => ?_)
      refine lv_iconst (v := (-1)) hx hb dX10_wished_14 (by decide) ?_
      have hP9 := (hP.sub (ws' := [(h1, .inr (6, [.int (nI k), .ref a_maps, .int told, .ref a_kinds, v_land, v_spades, .ref a_part, .ref a_pad, .int (nI pm), v_slips, v_slipMany, v_made, .ref a_queue, .ref a_depth, .ref a_by, .ref a_from, .int cm0, v_offOf, v_parent, v_best, v_trees, v_least, v_sums, v_toward, v_kept, v_isKept, v_keptAt, v_isWriting])), (a_maps, .inl (gI G, 6, .inl fm)), (a_kinds, .inl (gI G, 4, .inl fk)), (a_part, .inl (gI G, 6, .inl fp)), (a_pad, .inl (gI G, 40, .inl fpd)), (a_queue, .inl (gI G, 15625, .inl fq)), (a_depth, .inl (gI G, 15625, .inl fd)), (a_by, .inl (gI G, 15625, .inl fb)), (a_from, .inl (gI G, 15625, .inl fr))]) [0, 1, 2, 3, 4, 5, 6, 7, 8] rfl)
      have hD9 := (hD.sub (ws' := [(h1, .inr (6, [.int (nI k), .ref a_maps, .int told, .ref a_kinds, v_land, v_spades, .ref a_part, .ref a_pad, .int (nI pm), v_slips, v_slipMany, v_made, .ref a_queue, .ref a_depth, .ref a_by, .ref a_from, .int cm0, v_offOf, v_parent, v_best, v_trees, v_least, v_sums, v_toward, v_kept, v_isKept, v_keptAt, v_isWriting])), (a_maps, .inl (gI G, 6, .inl fm)), (a_kinds, .inl (gI G, 4, .inl fk)), (a_part, .inl (gI G, 6, .inl fp)), (a_pad, .inl (gI G, 40, .inl fpd)), (a_queue, .inl (gI G, 15625, .inl fq)), (a_depth, .inl (gI G, 15625, .inl fd)), (a_by, .inl (gI G, 15625, .inl fb)), (a_from, .inl (gI G, 15625, .inl fr))]) [0, 1, 2, 3, 4, 5, 6, 7, 8] (by decide) rfl)
      exact W.iret (v := (-1)) hx hb hr (fun t9_ ht9_ hW9_ => ⟨⟨(-1), (cm0, fq, fd, fb, fr), rfl, Or.inl ⟨fun q9 => b7 q9.2, rfl⟩, by rw [ht9_]; exact hP9, hD9⟩, hS.F ht9_⟩) hS.2.2 dX10_wished_15
  · refine lv_if_eq (tgt := 14) hx hb dX10_wished_4 (by decide) (fun _ => ?_) (fun c52 => False.elim (by revert c52; decide))
    refine lv_iconst (v := (-1)) hx hb dX10_wished_14 (by decide) ?_
    have hP9 := (hP.sub (ws' := [(h1, .inr (6, [.int (nI k), .ref a_maps, .int told, .ref a_kinds, v_land, v_spades, .ref a_part, .ref a_pad, .int (nI pm), v_slips, v_slipMany, v_made, .ref a_queue, .ref a_depth, .ref a_by, .ref a_from, .int cm0, v_offOf, v_parent, v_best, v_trees, v_least, v_sums, v_toward, v_kept, v_isKept, v_keptAt, v_isWriting])), (a_maps, .inl (gI G, 6, .inl fm)), (a_kinds, .inl (gI G, 4, .inl fk)), (a_part, .inl (gI G, 6, .inl fp)), (a_pad, .inl (gI G, 40, .inl fpd)), (a_queue, .inl (gI G, 15625, .inl fq)), (a_depth, .inl (gI G, 15625, .inl fd)), (a_by, .inl (gI G, 15625, .inl fb)), (a_from, .inl (gI G, 15625, .inl fr))]) [0, 1, 2, 3, 4, 5, 6, 7, 8] rfl)
    have hD9 := (hD.sub (ws' := [(h1, .inr (6, [.int (nI k), .ref a_maps, .int told, .ref a_kinds, v_land, v_spades, .ref a_part, .ref a_pad, .int (nI pm), v_slips, v_slipMany, v_made, .ref a_queue, .ref a_depth, .ref a_by, .ref a_from, .int cm0, v_offOf, v_parent, v_best, v_trees, v_least, v_sums, v_toward, v_kept, v_isKept, v_keptAt, v_isWriting])), (a_maps, .inl (gI G, 6, .inl fm)), (a_kinds, .inl (gI G, 4, .inl fk)), (a_part, .inl (gI G, 6, .inl fp)), (a_pad, .inl (gI G, 40, .inl fpd)), (a_queue, .inl (gI G, 15625, .inl fq)), (a_depth, .inl (gI G, 15625, .inl fd)), (a_by, .inl (gI G, 15625, .inl fb)), (a_from, .inl (gI G, 15625, .inl fr))]) [0, 1, 2, 3, 4, 5, 6, 7, 8] (by decide) rfl)
    exact W.iret (v := (-1)) hx hb hr (fun t9_ ht9_ hW9_ => ⟨⟨(-1), (cm0, fq, fd, fb, fr), rfl, Or.inl ⟨fun q9 => b3 q9.1, rfl⟩, by rw [ht9_]; exact hP9, hD9⟩, hS.F ht9_⟩) hS.2.2 dX10_wished_15
