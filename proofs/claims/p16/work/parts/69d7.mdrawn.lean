set_option maxHeartbeats 1000000 in
set_option maxRecDepth 100000 in
theorem m2_slipsFrom (l : Launch) (G : Gy) (sz : Nat) (h1 : Nat) (v_maps : Value) (v_told : Value) (v_kinds : Value) (v_land : Value) (v_spades : Value) (v_pad : Value) (v_padMany : Value) (v_slips : Value) (v_slipMany : Value) (v_queue : Value) (v_depth : Value) (v_by : Value) (v_from : Value) (v_come : Value) (v_offOf : Value) (v_parent : Value) (v_best : Value) (v_trees : Value) (v_least : Value) (v_sums : Value) (v_toward : Value) (v_kept : Value) (v_isKept : Value) (v_keptAt : Value) (v_isWriting : Value) (a_part : Nat) (fp : Nat → Int32) (k : Nat) (a : Nat) (md0 : Int32) (p1 : Int32) (p2 : Int32) (hk2 : 2 ≤ k) (hk6 : k ≤ 6) (hp : pOK k fp) (ha : a < 5 ^ k) : Ci l G yX10_slipsFrom wsX10_slipsFrom ({ frames := 3, cells := 0, slots := 0, locals := 69 }) [.ref h1, .int (nI a), .int p1, .int p2] ([(h1, .inr (6, [.int (nI k), v_maps, v_told, v_kinds, v_land, v_spades, .ref a_part, v_pad, v_padMany, v_slips, v_slipMany, .int md0, v_queue, v_depth, v_by, v_from, v_come, v_offOf, v_parent, v_best, v_trees, v_least, v_sums, v_toward, v_kept, v_isKept, v_keptAt, v_isWriting])), (a_part, .inl (gI G, 6, .inl fp))]) sz (fun (r : Int32) (md1 : Int32) => r = nI (cSl k (bK p1) a (manyS k)) ∧ ∀ q : Nat, p2 = nI q → q < cSl k (bK p1) a (manyS k) → md1 = nI (dnS k (bK p1) a q (manyS k))) (fun (md1 : Int32) => [(h1, .inr (6, [.int (nI k), v_maps, v_told, v_kinds, v_land, v_spades, .ref a_part, v_pad, v_padMany, v_slips, v_slipMany, .int md1, v_queue, v_depth, v_by, v_from, v_come, v_offOf, v_parent, v_best, v_trees, v_least, v_sums, v_toward, v_kept, v_isKept, v_keptAt, v_isWriting])), (a_part, .inl (gI G, 6, .inl fp))]) 0 0 := by
  refine Met.ofW (cc := cX10_slipsFrom) (maxL := 8) (ret := (some .int)) (by decide) rfl ?_
  intro p e s m args below meth c s₁ B hml hv
  obtain ⟨rfl, hsz, hP, hD0, E0⟩ := hv
  have hx := B.exec
  have hb := B.bytes
  have hr := B.returns
  have hts := atoms_spec (ws := wsX10_slipsFrom) B.pre
  have hown : s.vm.findClass RX10 = some m.cls := findClass_of_methodNamed B.named
  have hlocks := B.notSynchronized
  subst hsz
  have hD := hD0.self (sz := s.heap.size)
  generalize hAe : va_A ([(h1, .inr (6, [.int (nI k), v_maps, v_told, v_kinds, v_land, v_spades, .ref a_part, v_pad, v_padMany, v_slips, v_slipMany, .int md0, v_queue, v_depth, v_by, v_from, v_come, v_offOf, v_parent, v_best, v_trees, v_least, v_sums, v_toward, v_kept, v_isKept, v_keptAt, v_isWriting])), (a_part, .inl (gI G, 6, .inl fp))]) s.heap.size = A at hD E0 ⊢
  have E : EV G A s s.heap := E0
  have hA : ∀ q : Nat, s.heap.size ≤ q → A q := fun q h => by rw [← hAe]; exact Or.inr h
  have hS : va_S A s.heap s.heap [] := va_S.rf
  have hl := lv_entry ([.ref h1, .int (nI a), .int p1, .int p2]) (n := 8) (Nat.le_of_ble_eq_true rfl)
  rw [lg_entry_eq]
  generalize (lg_sl ([.ref h1, .int (nI a), .int p1, .int p2]) ++ List.replicate (8 - (lg_sl ([.ref h1, .int (nI a), .int p1, .int p2])).length) Slot.unset).toArray = ls at hl ⊢
  have hl : lv_has ls 8 [(0, .ref h1), (1, .int (nI a)), (2, .int p1), (3, .int p2)] := hl
  have hP : va_P G.1 vwCl ([(h1, .inr (6, [.int (nI k), v_maps, v_told, v_kinds, v_land, v_spades, .ref a_part, v_pad, v_padMany, v_slips, v_slipMany, .int md0, v_queue, v_depth, v_by, v_from, v_come, v_offOf, v_parent, v_best, v_trees, v_least, v_sums, v_toward, v_kept, v_isKept, v_keptAt, v_isWriting])), (a_part, .inl (gI G, 6, .inl fp))]) s.heap := hP
  have hal := p5le hk6
  have hmk := many40 hk6
  refine lv_iconst (v := 0) hx hb dX10_slipsFrom_0 (by decide) ?_
  refine lv_istore (lv' := [(4, .int 0), (0, .ref h1), (1, .int (nI a)), (2, .int p1), (3, .int p2)]) hx hb dX10_slipsFrom_1 hl (by decide) rfl (fun ls hl => ?_)
  refine lv_aload_n hx hb dX10_slipsFrom_3 rfl (lv_at hl 1 rfl) ?_
  refine ca_iR (va_runV (As := []) (rest := []) ⟨hx, hb, hml, hown, hts⟩ (m_slipsThere l G s.heap.size h1 v_maps v_told v_kinds v_land v_spades (.ref a_part) v_pad v_padMany v_slips v_slipMany (.int md0) v_queue v_depth v_by v_from v_come v_offOf v_parent v_best v_trees v_least v_sums v_toward v_kept v_isKept v_keptAt v_isWriting k hk2 hk6) (cwV 0 hts gX10_slipsFrom_X10_slipsThere rfl rfl rfl (by decide +kernel) ⟨by decide +kernel, by decide +kernel⟩) (pre_V E hP hD hS hA [0] (by decide) rfl 0 6 rfl rfl) rfl rfl hl.1 rfl (lv_room (Nat.le_of_ble_eq_true rfl)) dX10_slipsFrom_4 ⟨by decide +kernel, by decide +kernel⟩) hS hP hD hA [0] rfl (fun r2 _ H locs w1 hP hS => ?_)
  rw [w1]
  refine lv_istore (lv' := [(5, .int (nI (manyS k))), (4, .int 0), (0, .ref h1), (1, .int (nI a)), (2, .int p1), (3, .int p2)]) hx hb dX10_slipsFrom_7 hl (by decide) rfl (fun ls hl => ?_)
  refine lv_iconst (v := 0) hx hb dX10_slipsFrom_9 (by decide) ?_
  refine lv_istore (lv' := [(6, .int 0), (5, .int (nI (manyS k))), (4, .int 0), (0, .ref h1), (1, .int (nI a)), (2, .int p1), (3, .int p2)]) hx hb dX10_slipsFrom_10 hl (by decide) rfl (fun ls hl => ?_)
  refine lp_run (x0 := (0, 0, md0)) (fun xx_ : Nat × Nat × Int32 => match xx_ with | (z, ma, md) => [(h1, .inr (6, [.int (nI k), v_maps, v_told, v_kinds, v_land, v_spades, .ref a_part, v_pad, v_padMany, v_slips, v_slipMany, .int md, v_queue, v_depth, v_by, v_from, v_come, v_offOf, v_parent, v_best, v_trees, v_least, v_sums, v_toward, v_kept, v_isKept, v_keptAt, v_isWriting])), (a_part, .inl (gI G, 6, .inl fp))]) (fun xx_ : Nat × Nat × Int32 => match xx_ with | (z, ma, md) => [(6, .int (nI z)), (5, .int (nI (manyS k))), (4, .int (nI ma)), (0, .ref h1), (1, .int (nI a)), (2, .int p1), (3, .int p2)]) (fun xx_ : Nat × Nat × Int32 => match xx_ with | (z, ma, md) => (z ≤ manyS k) ∧ (ma = cSl k (bK p1) a z) ∧ (∀ q : Nat, p2 = nI q → q < ma → md = nI (dnS k (bK p1) a q z))) (fun xx_ : Nat × Nat × Int32 => match xx_ with | (z, ma, md) => (manyS k) - z) (hP.sub [0, 1] rfl) (hD.sub [0, 1] (by decide) rfl) hS (lv_sub hl [0, 1, 2, 3, 4, 5, 6] rfl) ⟨(by omega), rfl, by intro q9 e9 h9; omega⟩ ?_
  intro xx_ hI ih12 H locs ls hP hD hS hl
  obtain ⟨z, ma, md⟩ := xx_
  dsimp only at hI ih12 hP hD hl
  obtain ⟨hz0, hma, hmd⟩ := hI
  have hl : lv_has ls 8 [(6, .int (nI z)), (5, .int (nI (manyS k))), (4, .int (nI ma)), (0, .ref h1), (1, .int (nI a)), (2, .int p1), (3, .int p2)] := hl
  have hP : va_P G.1 vwCl ([(h1, .inr (6, [.int (nI k), v_maps, v_told, v_kinds, v_land, v_spades, .ref a_part, v_pad, v_padMany, v_slips, v_slipMany, .int md, v_queue, v_depth, v_by, v_from, v_come, v_offOf, v_parent, v_best, v_trees, v_least, v_sums, v_toward, v_kept, v_isKept, v_keptAt, v_isWriting])), (a_part, .inl (gI G, 6, .inl fp))]) H := hP
  have hD : va_D A ([(h1, .inr (6, [.int (nI k), v_maps, v_told, v_kinds, v_land, v_spades, .ref a_part, v_pad, v_padMany, v_slips, v_slipMany, .int md, v_queue, v_depth, v_by, v_from, v_come, v_offOf, v_parent, v_best, v_trees, v_least, v_sums, v_toward, v_kept, v_isKept, v_keptAt, v_isWriting])), (a_part, .inl (gI G, 6, .inl fp))]) := hD
  refine lv_iload hx hb dX10_slipsFrom_12 (lv_at hl 0 rfl) ?_
  refine lv_iload hx hb dX10_slipsFrom_14 (lv_at hl 1 rfl) ?_
  refine lv_icmp_ge (tgt := 80) hx hb dX10_slipsFrom_16 (by decide) (fun c3 => ?_) (fun c3 => ?_)
  · have c3 : (manyS k) ≤ z := (nI_leI (a := (manyS k)) (b := z) (by omega) (by omega)).mp c3
    refine lv_iload hx hb dX10_slipsFrom_80 (lv_at hl 2 rfl) ?_
    have hP9 := (hP.sub (ws' := [(h1, .inr (6, [.int (nI k), v_maps, v_told, v_kinds, v_land, v_spades, .ref a_part, v_pad, v_padMany, v_slips, v_slipMany, .int md, v_queue, v_depth, v_by, v_from, v_come, v_offOf, v_parent, v_best, v_trees, v_least, v_sums, v_toward, v_kept, v_isKept, v_keptAt, v_isWriting])), (a_part, .inl (gI G, 6, .inl fp))]) [0, 1] rfl)
    have hD9 := (hD.sub (ws' := [(h1, .inr (6, [.int (nI k), v_maps, v_told, v_kinds, v_land, v_spades, .ref a_part, v_pad, v_padMany, v_slips, v_slipMany, .int md, v_queue, v_depth, v_by, v_from, v_come, v_offOf, v_parent, v_best, v_trees, v_least, v_sums, v_toward, v_kept, v_isKept, v_keptAt, v_isWriting])), (a_part, .inl (gI G, 6, .inl fp))]) [0, 1] (by decide) rfl)
    exact W.iret (v := (nI ma)) hx hb hr (fun t9_ ht9_ hW9_ => ⟨⟨nI ma, md, rfl, ⟨by rw [hma, show z = manyS k by omega], fun q9 e9 h9 => by rw [show manyS k = z by omega]; exact hmd q9 e9 (by rw [hma, show z = manyS k by omega]; exact h9)⟩, by rw [ht9_]; exact hP9, hD9⟩, hS.F ht9_⟩) hS.2.2 dX10_slipsFrom_82
  · have c3 : ¬ (manyS k) ≤ z := fun h9_ => c3 ((nI_leI (a := (manyS k)) (b := z) (by omega) (by omega)).mpr h9_)
    have hz9 : z < manyS k := by omega
    have hv9 := mvAt_ok hz9
    have hs9 := slv_facts hk6 hz9
    have hT9 := slN_lt ha hv9
    have hc9 := cSl_le k (bK p1) a z
    refine lv_aload_n hx hb dX10_slipsFrom_19 rfl (lv_at hl 3 rfl) ?_
    refine lv_iload hx hb dX10_slipsFrom_20 (lv_at hl 0 rfl) ?_
    refine ca_iR (va_runV (As := [.int (nI z)]) (rest := []) ⟨hx, hb, hml, hown, hts⟩ (m_slipAt l G H.size h1 v_maps v_told v_kinds v_land v_spades (.ref a_part) v_pad v_padMany v_slips v_slipMany (.int md) v_queue v_depth v_by v_from v_come v_offOf v_parent v_best v_trees v_least v_sums v_toward v_kept v_isKept v_keptAt v_isWriting k z hk2 hk6 (by omega)) (cwV 1 hts gX10_slipsFrom_X10_slipAt rfl rfl rfl (by decide +kernel) ⟨by decide +kernel, by decide +kernel⟩) (pre_V E hP hD hS hA [0] (by decide) rfl 0 6 rfl rfl) rfl rfl hl.1 rfl (lv_room (Nat.le_of_ble_eq_true rfl)) dX10_slipsFrom_22 ⟨by decide +kernel, by decide +kernel⟩) hS hP hD hA [0] rfl (fun r5 _ H locs w4 hP hS => ?_)
    rw [w4]
    refine lv_istore (lv' := [(7, .int (nI (slv k z))), (6, .int (nI z)), (5, .int (nI (manyS k))), (4, .int (nI ma)), (0, .ref h1), (1, .int (nI a)), (2, .int p1), (3, .int p2)]) hx hb dX10_slipsFrom_25 hl (by decide) rfl (fun ls hl => ?_)
    refine lv_iload_n hx hb dX10_slipsFrom_27 rfl (lv_at hl 6 rfl) ?_
    refine lv_iload hx hb dX10_slipsFrom_28 (lv_at hl 0 rfl) ?_
    refine ca_iR (va_runS (As := [.int p1, .int (nI (slv k z))]) (rest := []) ⟨hx, hb, hml, hown, hts⟩ (m_makes l G H.size p1 (slv k z) ((mvAt k z).1) (by omega) hs9.2) (va_cwS 2 hts gX10_slipsFrom_X10_makes rfl rfl rfl (by decide +kernel) ⟨by decide +kernel, by decide +kernel⟩) (pre_S E hP hD hS hA [] (by decide) rfl) rfl rfl hl.1 rfl (lv_room (Nat.le_of_ble_eq_true rfl)) dX10_slipsFrom_30 ⟨by decide +kernel, by decide +kernel⟩) hS hP hD hA [] rfl (fun r7 _ H locs w6 hP hS => ?_)
    rcases w6 with ⟨rfl, b8⟩ | ⟨rfl, b8⟩
    · refine lv_if_eq (tgt := 74) hx hb dX10_slipsFrom_33 (by decide) (fun c9 => False.elim (by revert c9; decide)) (fun _ => ?_)
      refine lv_aload_n hx hb dX10_slipsFrom_36 rfl (lv_at hl 4 rfl) ?_
      refine lv_iload_n hx hb dX10_slipsFrom_37 rfl (lv_at hl 5 rfl) ?_
      refine lv_iload hx hb dX10_slipsFrom_38 (lv_at hl 0 rfl) ?_
      refine ca_iR (va_runV (As := [.int (nI a), .int (nI (slv k z))]) (rest := []) ⟨hx, hb, hml, hown, hts⟩ (m_slipped l G H.size h1 (.int (nI k)) v_maps v_told v_kinds v_land v_spades v_pad v_padMany v_slips v_slipMany (.int md) v_queue v_depth v_by v_from v_come v_offOf v_parent v_best v_trees v_least v_sums v_toward v_kept v_isKept v_keptAt v_isWriting a_part fp k a (slv k z) ((mvAt k z).1) ((mvAt k z).2.1) ((mvAt k z).2.2) hk6 hp (by omega) rfl hv9) (cwV 2 hts gX10_slipsFrom_X10_slipped rfl rfl rfl (by decide +kernel) ⟨by decide +kernel, by decide +kernel⟩) (pre_V E hP hD hS hA [0, 1] (by decide) rfl 0 6 rfl rfl) rfl rfl hl.1 rfl (lv_room (Nat.le_of_ble_eq_true rfl)) dX10_slipsFrom_40 ⟨by decide +kernel, by decide +kernel⟩) hS hP hD hA [0, 1] rfl (fun r11 _ H locs w10 hP hS => ?_)
      rw [w10]
      refine lv_iload_n hx hb dX10_slipsFrom_43 rfl (lv_at hl 5 rfl) ?_
      refine lv_icmp_eq (tgt := 74) hx hb dX10_slipsFrom_44 (by decide) (fun c12 => ?_) (fun c12 => ?_)
      · have c12 : (slN k a (((mvAt k z).1), ((mvAt k z).2.1), ((mvAt k z).2.2))) = a := (nI_eq (a := (slN k a (((mvAt k z).1), ((mvAt k z).2.1), ((mvAt k z).2.2)))) (b := a) (by omega) (by omega)).mp c12
        obtain ⟨x13, ex13⟩ : ∃ yy_ : Int32, yy_ = (nI z) + 1 := ⟨_, rfl⟩
        refine lv_iinc (v := x13) (lv' := [(6, .int x13), (7, .int (nI (slv k z))), (5, .int (nI (manyS k))), (4, .int (nI ma)), (0, .ref h1), (1, .int (nI a)), (2, .int p1), (3, .int p2)]) hx hb dX10_slipsFrom_74 hl (k := 1) rfl (by rw [ex13]; rfl) (by decide) rfl (fun ls hl => ?_)
        obtain rfl : x13 = nI (z + 1) := by rw [ex13]; exact nI_add z 1
        refine lv_goto (tgt := 12) hx hb dX10_slipsFrom_77 (by decide) ?_
        refine ih12 ((z + 1), ma, md) ⟨?_, ?_, ?_⟩ (by first | omega | (dsimp only; omega)) H locs ls (hP.sub [0, 1] rfl) (hD.sub [0, 1] (by decide) rfl) hS (lv_sub hl [0, 2, 3, 4, 5, 6, 7] rfl)
        · try dsimp only
          omega
        · try dsimp only
          rw [cSl_f (fun q9 => q9.2 c12)]; exact hma
        · try dsimp only
          intro q9 e9 h9; rw [dnS_f (fun g9 => g9.1.2 c12)]; exact hmd q9 e9 h9
      · have c12 : ¬ (slN k a (((mvAt k z).1), ((mvAt k z).2.1), ((mvAt k z).2.2))) = a := fun h9_ => c12 ((nI_eq (a := (slN k a (((mvAt k z).1), ((mvAt k z).2.1), ((mvAt k z).2.2)))) (b := a) (by omega) (by omega)).mpr h9_)
        refine lv_aload_n hx hb dX10_slipsFrom_47 rfl (lv_at hl 4 rfl) ?_
        refine lv_iload hx hb dX10_slipsFrom_48 (lv_at hl 3 rfl) ?_
        refine lv_iload_n hx hb dX10_slipsFrom_50 rfl (lv_at hl 7 rfl) ?_
        refine lv_icmp_ne (tgt := 64) hx hb dX10_slipsFrom_51 (by decide) (fun c14 => ?_) (fun c14 => ?_)
        · refine lv_aload_n hx hb dX10_slipsFrom_64 rfl (lv_at hl 4 rfl) ?_
          refine va_get (D := G.1) (ci := 6) (v := .int md) (C := RX10) (T := TX10) (N := 28) hx hb hts (fun _ h => List.mem_cons_of_mem _ (List.mem_append_right _ h)) hown E.K hP 0 rfl rfl 11 (by decide) (hts (.fieldLink RX10 149 "LastMapModel" "made" "I") (by decide +kernel)) (fun _ h9 => h9) rfl dX10_slipsFrom_65 ?_
          refine va_put (D := G.1) (ci := 6) (v := .int md) (ty := .int) (C := RX10) (T := TX10) (N := 28) hx hb hts (fun _ h => List.mem_cons_of_mem _ (List.mem_append_right _ h)) tyX10 tyX10_ok nmX10 hown E.K hP hD hS 0 rfl rfl 11 (by decide) (hts (.fieldLink RX10 149 "LastMapModel" "made" "I") (by decide +kernel)) (fun _ h9 => h9) rfl (by decide +kernel) rfl rfl (Nat.le_of_ble_eq_true rfl) dX10_slipsFrom_68 (fun H locs hP hD hS => ?_)
          have hP : va_P G.1 vwCl ([(h1, .inr (6, [.int (nI k), v_maps, v_told, v_kinds, v_land, v_spades, .ref a_part, v_pad, v_padMany, v_slips, v_slipMany, .int md, v_queue, v_depth, v_by, v_from, v_come, v_offOf, v_parent, v_best, v_trees, v_least, v_sums, v_toward, v_kept, v_isKept, v_keptAt, v_isWriting])), (a_part, .inl (gI G, 6, .inl fp))]) H := hP
          have hD : va_D A ([(h1, .inr (6, [.int (nI k), v_maps, v_told, v_kinds, v_land, v_spades, .ref a_part, v_pad, v_padMany, v_slips, v_slipMany, .int md, v_queue, v_depth, v_by, v_from, v_come, v_offOf, v_parent, v_best, v_trees, v_least, v_sums, v_toward, v_kept, v_isKept, v_keptAt, v_isWriting])), (a_part, .inl (gI G, 6, .inl fp))]) := hD
          obtain ⟨x15, ex15⟩ : ∃ yy_ : Int32, yy_ = (nI ma) + 1 := ⟨_, rfl⟩
          refine lv_iinc (v := x15) (lv' := [(4, .int x15), (7, .int (nI (slv k z))), (6, .int (nI z)), (5, .int (nI (manyS k))), (0, .ref h1), (1, .int (nI a)), (2, .int p1), (3, .int p2)]) hx hb dX10_slipsFrom_71 hl (k := 3) rfl (by rw [ex15]; rfl) (by decide) rfl (fun ls hl => ?_)
          obtain rfl : x15 = nI (ma + 1) := by rw [ex15]; exact nI_add ma 1
          obtain ⟨x16, ex16⟩ : ∃ yy_ : Int32, yy_ = (nI z) + 1 := ⟨_, rfl⟩
          refine lv_iinc (v := x16) (lv' := [(6, .int x16), (4, .int (nI (ma + 1))), (7, .int (nI (slv k z))), (5, .int (nI (manyS k))), (0, .ref h1), (1, .int (nI a)), (2, .int p1), (3, .int p2)]) hx hb dX10_slipsFrom_74 hl (k := 2) rfl (by rw [ex16]; rfl) (by decide) rfl (fun ls hl => ?_)
          obtain rfl : x16 = nI (z + 1) := by rw [ex16]; exact nI_add z 1
          refine lv_goto (tgt := 12) hx hb dX10_slipsFrom_77 (by decide) ?_
          refine ih12 ((z + 1), (ma + 1), md) ⟨?_, ?_, ?_⟩ (by first | omega | (dsimp only; omega)) H locs ls (hP.sub [0, 1] rfl) (hD.sub [0, 1] (by decide) rfl) hS (lv_sub hl [0, 3, 1, 4, 5, 6, 7] rfl)
          · try dsimp only
            omega
          · try dsimp only
            rw [cSl_t b8 c12]; omega
          · try dsimp only
            intro q9 e9 h9
            have e8 : ¬ ma = q9 := fun e7 => c14 (by rw [e9, e7])
            rw [dnS_f (fun g9 => e8 (by rw [hma]; exact g9.2))]
            exact hmd q9 e9 (by omega)
        · refine lv_aload_n hx hb dX10_slipsFrom_54 rfl (lv_at hl 4 rfl) ?_
          refine lv_iload_n hx hb dX10_slipsFrom_55 rfl (lv_at hl 5 rfl) ?_
          refine lv_iload hx hb dX10_slipsFrom_56 (lv_at hl 0 rfl) ?_
          refine ca_iR (va_runV (As := [.int (nI a), .int (nI (slv k z))]) (rest := [.ref h1]) ⟨hx, hb, hml, hown, hts⟩ (m_slipped l G H.size h1 (.int (nI k)) v_maps v_told v_kinds v_land v_spades v_pad v_padMany v_slips v_slipMany (.int md) v_queue v_depth v_by v_from v_come v_offOf v_parent v_best v_trees v_least v_sums v_toward v_kept v_isKept v_keptAt v_isWriting a_part fp k a (slv k z) ((mvAt k z).1) ((mvAt k z).2.1) ((mvAt k z).2.2) hk6 hp (by omega) rfl hv9) (cwV 2 hts gX10_slipsFrom_X10_slipped rfl rfl rfl (by decide +kernel) ⟨by decide +kernel, by decide +kernel⟩) (pre_V E hP hD hS hA [0, 1] (by decide) rfl 0 6 rfl rfl) rfl rfl hl.1 rfl (lv_room (Nat.le_of_ble_eq_true rfl)) dX10_slipsFrom_58 ⟨by decide +kernel, by decide +kernel⟩) hS hP hD hA [0, 1] rfl (fun r18 _ H locs w17 hP hS => ?_)
          rw [w17]
          refine lv_goto (tgt := 68) hx hb dX10_slipsFrom_61 (by decide) ?_
          refine va_put (D := G.1) (ci := 6) (v := .int (nI (slN k a (((mvAt k z).1), ((mvAt k z).2.1), ((mvAt k z).2.2))))) (ty := .int) (C := RX10) (T := TX10) (N := 28) hx hb hts (fun _ h => List.mem_cons_of_mem _ (List.mem_append_right _ h)) tyX10 tyX10_ok nmX10 hown E.K hP hD hS 0 rfl rfl 11 (by decide) (hts (.fieldLink RX10 149 "LastMapModel" "made" "I") (by decide +kernel)) (fun _ h9 => h9) rfl (by decide +kernel) rfl rfl (Nat.le_of_ble_eq_true rfl) dX10_slipsFrom_68 (fun H locs hP hD hS => ?_)
          have hP : va_P G.1 vwCl ([(h1, .inr (6, [.int (nI k), v_maps, v_told, v_kinds, v_land, v_spades, .ref a_part, v_pad, v_padMany, v_slips, v_slipMany, .int (nI (slN k a (((mvAt k z).1), ((mvAt k z).2.1), ((mvAt k z).2.2)))), v_queue, v_depth, v_by, v_from, v_come, v_offOf, v_parent, v_best, v_trees, v_least, v_sums, v_toward, v_kept, v_isKept, v_keptAt, v_isWriting])), (a_part, .inl (gI G, 6, .inl fp))]) H := hP
          have hD : va_D A ([(h1, .inr (6, [.int (nI k), v_maps, v_told, v_kinds, v_land, v_spades, .ref a_part, v_pad, v_padMany, v_slips, v_slipMany, .int (nI (slN k a (((mvAt k z).1), ((mvAt k z).2.1), ((mvAt k z).2.2)))), v_queue, v_depth, v_by, v_from, v_come, v_offOf, v_parent, v_best, v_trees, v_least, v_sums, v_toward, v_kept, v_isKept, v_keptAt, v_isWriting])), (a_part, .inl (gI G, 6, .inl fp))]) := hD
          obtain ⟨x19, ex19⟩ : ∃ yy_ : Int32, yy_ = (nI ma) + 1 := ⟨_, rfl⟩
          refine lv_iinc (v := x19) (lv' := [(4, .int x19), (7, .int (nI (slv k z))), (6, .int (nI z)), (5, .int (nI (manyS k))), (0, .ref h1), (1, .int (nI a)), (2, .int p1), (3, .int p2)]) hx hb dX10_slipsFrom_71 hl (k := 3) rfl (by rw [ex19]; rfl) (by decide) rfl (fun ls hl => ?_)
          obtain rfl : x19 = nI (ma + 1) := by rw [ex19]; exact nI_add ma 1
          obtain ⟨x20, ex20⟩ : ∃ yy_ : Int32, yy_ = (nI z) + 1 := ⟨_, rfl⟩
          refine lv_iinc (v := x20) (lv' := [(6, .int x20), (4, .int (nI (ma + 1))), (7, .int (nI (slv k z))), (5, .int (nI (manyS k))), (0, .ref h1), (1, .int (nI a)), (2, .int p1), (3, .int p2)]) hx hb dX10_slipsFrom_74 hl (k := 2) rfl (by rw [ex20]; rfl) (by decide) rfl (fun ls hl => ?_)
          obtain rfl : x20 = nI (z + 1) := by rw [ex20]; exact nI_add z 1
          refine lv_goto (tgt := 12) hx hb dX10_slipsFrom_77 (by decide) ?_
          refine ih12 ((z + 1), (ma + 1), nI (slN k a (((mvAt k z).1), ((mvAt k z).2.1), ((mvAt k z).2.2)))) ⟨?_, ?_, ?_⟩ (by first | omega | (dsimp only; omega)) H locs ls (hP.sub [0, 1] rfl) (hD.sub [0, 1] (by decide) rfl) hS (lv_sub hl [0, 3, 1, 4, 5, 6, 7] rfl)
          · try dsimp only
            omega
          · try dsimp only
            rw [cSl_t b8 c12]; omega
          · try dsimp only
            intro q9 e9 h9
            have e8 : ma = q9 := (nI_eq (by omega) (by omega)).mp (c14.trans e9)
            exact congrArg nI (dnS_t ⟨⟨b8, c12⟩, by rw [← hma]; exact e8⟩).symm
    · refine lv_if_eq (tgt := 74) hx hb dX10_slipsFrom_33 (by decide) (fun _ => ?_) (fun c21 => False.elim (by revert c21; decide))
      obtain ⟨x22, ex22⟩ : ∃ yy_ : Int32, yy_ = (nI z) + 1 := ⟨_, rfl⟩
      refine lv_iinc (v := x22) (lv' := [(6, .int x22), (7, .int (nI (slv k z))), (5, .int (nI (manyS k))), (4, .int (nI ma)), (0, .ref h1), (1, .int (nI a)), (2, .int p1), (3, .int p2)]) hx hb dX10_slipsFrom_74 hl (k := 1) rfl (by rw [ex22]; rfl) (by decide) rfl (fun ls hl => ?_)
      obtain rfl : x22 = nI (z + 1) := by rw [ex22]; exact nI_add z 1
      refine lv_goto (tgt := 12) hx hb dX10_slipsFrom_77 (by decide) ?_
      refine ih12 ((z + 1), ma, md) ⟨?_, ?_, ?_⟩ (by first | omega | (dsimp only; omega)) H locs ls (hP.sub [0, 1] rfl) (hD.sub [0, 1] (by decide) rfl) hS (lv_sub hl [0, 2, 3, 4, 5, 6, 7] rfl)
      · try dsimp only
        omega
      · try dsimp only
        rw [cSl_f (fun q9 => b8 q9.1)]; exact hma
      · try dsimp only
        intro q9 e9 h9; rw [dnS_f (fun g9 => b8 g9.1.1)]; exact hmd q9 e9 h9

set_option maxHeartbeats 1000000 in
set_option maxRecDepth 100000 in
theorem m2_drawn (l : Launch) (G : Gy) (sz : Nat) (h1 : Nat) (v_land : Value) (v_spades : Value) (v_pad : Value) (v_padMany : Value) (v_slips : Value) (v_slipMany : Value) (v_queue : Value) (v_depth : Value) (v_by : Value) (v_from : Value) (v_come : Value) (v_offOf : Value) (v_parent : Value) (v_best : Value) (v_trees : Value) (v_least : Value) (v_sums : Value) (v_toward : Value) (v_kept : Value) (v_isKept : Value) (v_keptAt : Value) (v_isWriting : Value) (a_maps : Nat) (fm : Nat → Int32) (a_kinds : Nat) (fk : Nat → Int32) (a_part : Nat) (fp : Nat → Int32) (k : Nat) (told : Int32) (md0 : Int32) (p0 : Int32) (p1 : Int32) (p2 : Int32) (p3 : Int32) (p4 : Int32) (hk2 : 2 ≤ k) (hk6 : k ≤ 6) (hp : pOK k fp) (hfm : mapsOK k fm) : Ci l G yX10_drawn wsX10_drawn ({ frames := 4, cells := 0, slots := 0, locals := 96 }) [.ref h1, .int p0, .int p1, .int p2, .int p3, .int p4] ([(h1, .inr (6, [.int (nI k), .ref a_maps, .int told, .ref a_kinds, v_land, v_spades, .ref a_part, v_pad, v_padMany, v_slips, v_slipMany, .int md0, v_queue, v_depth, v_by, v_from, v_come, v_offOf, v_parent, v_best, v_trees, v_least, v_sums, v_toward, v_kept, v_isKept, v_keptAt, v_isWriting])), (a_maps, .inl (gI G, 6, .inl fm)), (a_kinds, .inl (gI G, 4, .inl fk)), (a_part, .inl (gI G, 6, .inl fp))]) sz (fun (r : Int32) (md1 : Int32) => r = dwA k told (maN fm) fk p0 p1 p2 p3 p4) (fun (md1 : Int32) => [(h1, .inr (6, [.int (nI k), .ref a_maps, .int told, .ref a_kinds, v_land, v_spades, .ref a_part, v_pad, v_padMany, v_slips, v_slipMany, .int md1, v_queue, v_depth, v_by, v_from, v_come, v_offOf, v_parent, v_best, v_trees, v_least, v_sums, v_toward, v_kept, v_isKept, v_keptAt, v_isWriting])), (a_maps, .inl (gI G, 6, .inl fm)), (a_kinds, .inl (gI G, 4, .inl fk)), (a_part, .inl (gI G, 6, .inl fp))]) 0 0 := by
  refine Met.ofW (cc := cX10_drawn) (maxL := 10) (ret := (some .int)) (by decide) rfl ?_
  intro p e s m args below meth c s₁ B hml hv
  obtain ⟨rfl, hsz, hP, hD0, E0⟩ := hv
  have hx := B.exec
  have hb := B.bytes
  have hr := B.returns
  have hts := atoms_spec (ws := wsX10_drawn) B.pre
  have hown : s.vm.findClass RX10 = some m.cls := findClass_of_methodNamed B.named
  have hlocks := B.notSynchronized
  subst hsz
  have hD := hD0.self (sz := s.heap.size)
  generalize hAe : va_A ([(h1, .inr (6, [.int (nI k), .ref a_maps, .int told, .ref a_kinds, v_land, v_spades, .ref a_part, v_pad, v_padMany, v_slips, v_slipMany, .int md0, v_queue, v_depth, v_by, v_from, v_come, v_offOf, v_parent, v_best, v_trees, v_least, v_sums, v_toward, v_kept, v_isKept, v_keptAt, v_isWriting])), (a_maps, .inl (gI G, 6, .inl fm)), (a_kinds, .inl (gI G, 4, .inl fk)), (a_part, .inl (gI G, 6, .inl fp))]) s.heap.size = A at hD E0 ⊢
  have E : EV G A s s.heap := E0
  have hA : ∀ q : Nat, s.heap.size ≤ q → A q := fun q h => by rw [← hAe]; exact Or.inr h
  have hS : va_S A s.heap s.heap [] := va_S.rf
  have hl := lv_entry ([.ref h1, .int p0, .int p1, .int p2, .int p3, .int p4]) (n := 10) (Nat.le_of_ble_eq_true rfl)
  rw [lg_entry_eq]
  generalize (lg_sl ([.ref h1, .int p0, .int p1, .int p2, .int p3, .int p4]) ++ List.replicate (10 - (lg_sl ([.ref h1, .int p0, .int p1, .int p2, .int p3, .int p4])).length) Slot.unset).toArray = ls at hl ⊢
  have hl : lv_has ls 10 [(0, .ref h1), (1, .int p0), (2, .int p1), (3, .int p2), (4, .int p3), (5, .int p4)] := hl
  have hP : va_P G.1 vwCl ([(h1, .inr (6, [.int (nI k), .ref a_maps, .int told, .ref a_kinds, v_land, v_spades, .ref a_part, v_pad, v_padMany, v_slips, v_slipMany, .int md0, v_queue, v_depth, v_by, v_from, v_come, v_offOf, v_parent, v_best, v_trees, v_least, v_sums, v_toward, v_kept, v_isKept, v_keptAt, v_isWriting])), (a_maps, .inl (gI G, 6, .inl fm)), (a_kinds, .inl (gI G, 4, .inl fk)), (a_part, .inl (gI G, 6, .inl fp))]) s.heap := hP
  have hal := p5le hk6
  have hmk := many40 hk6
  refine lv_iload_n hx hb dX10_drawn_0 rfl (lv_at hl 2 rfl) ?_
  refine ca_iR (va_runS (As := [.int p1]) (rest := []) ⟨hx, hb, hml, hown, hts⟩ (m_isMap l G s.heap.size p1) (va_cwS 1 hts gX10_drawn_X10_isMap rfl rfl rfl (by decide +kernel) ⟨by decide +kernel, by decide +kernel⟩) (pre_S E hP hD hS hA [] (by decide) rfl) rfl rfl hl.1 rfl (lv_room (Nat.le_of_ble_eq_true rfl)) dX10_drawn_1 ⟨by decide +kernel, by decide +kernel⟩) hS hP hD hA [] rfl (fun r2 _ H locs w1 hP hS => ?_)
  rcases w1 with ⟨rfl, b3⟩ | ⟨rfl, b3⟩
  · refine lv_if_eq (tgt := 29) hx hb dX10_drawn_4 (by decide) (fun c4 => False.elim (by revert c4; decide)) (fun _ => ?_)
    refine lv_iload_n hx hb dX10_drawn_7 rfl (lv_at hl 3 rfl) ?_
    refine ca_iR (va_runS (As := [.int p2]) (rest := []) ⟨hx, hb, hml, hown, hts⟩ (m_isHand l G H.size p2) (va_cwS 1 hts gX10_drawn_X10_isHand rfl rfl rfl (by decide +kernel) ⟨by decide +kernel, by decide +kernel⟩) (pre_S E hP hD hS hA [] (by decide) rfl) rfl rfl hl.1 rfl (lv_room (Nat.le_of_ble_eq_true rfl)) dX10_drawn_8 ⟨by decide +kernel, by decide +kernel⟩) hS hP hD hA [] rfl (fun r6 _ H locs w5 hP hS => ?_)
    rcases w5 with ⟨rfl, b7⟩ | ⟨rfl, b7⟩
    · refine lv_if_eq (tgt := 29) hx hb dX10_drawn_11 (by decide) (fun c8 => False.elim (by revert c8; decide)) (fun _ => ?_)
      refine lv_iload hx hb dX10_drawn_14 (lv_at hl 5 rfl) ?_
      refine lv_iconst (v := (-1)) hx hb dX10_drawn_16 (by decide) ?_
      refine lv_icmp_eq (tgt := 31) hx hb dX10_drawn_17 (by decide) (fun c9 => ?_) (fun c9 => ?_)
      · obtain ⟨j_p1, hj_p1, ej_p1⟩ := inR6 b3
        have hl : lv_has ls 10 [(0, .ref h1), (1, .int p0), (2, .int (nI j_p1)), (3, .int p2), (4, .int p3), (5, .int p4)] := by have q := hl; rw [ej_p1] at q; exact q
        obtain ⟨j_p2, hj_p2, ej_p2⟩ := inR4 b7
        have hl : lv_has ls 10 [(0, .ref h1), (1, .int p0), (2, .int (nI j_p1)), (3, .int (nI j_p2)), (4, .int p3), (5, .int p4)] := by have q := hl; rw [ej_p2] at q; exact q
        refine lv_iload_n hx hb dX10_drawn_31 rfl (lv_at hl 1 rfl) ?_
        refine lv_i2l hx hb dX10_drawn_32 rfl ?_
        refine lv_topl (fun x10 ex10 => ?_)
        refine lv_lconst (v := 0) hx hb dX10_drawn_33 (by decide) ?_
        refine lv_ldc2 (v := 9999) hx hb hown (hts (.constantLong RX10 230 (9999)) (by decide +kernel)) dX10_drawn_34 ?_
        refine ca_iR (va_runS (As := [.long x10, .long 0, .long 9999]) (rest := []) ⟨hx, hb, hml, hown, hts⟩ (m_in l G H.size x10 0 9999 p0 0 9999 ex10 (by decide) (by decide)) (va_cwS 3 hts gX10_drawn_X10_in rfl rfl rfl (by decide +kernel) ⟨by decide +kernel, by decide +kernel⟩) (pre_S E hP hD hS hA [] (by decide) rfl) rfl rfl hl.1 rfl (lv_room (Nat.le_of_ble_eq_true rfl)) dX10_drawn_37 ⟨by decide +kernel, by decide +kernel⟩) hS hP hD hA [] rfl (fun r12 _ H locs w11 hP hS => ?_)
        rcases w11 with ⟨rfl, b13⟩ | ⟨rfl, b13⟩
        · refine lv_if_eq (tgt := 56) hx hb dX10_drawn_40 (by decide) (fun c14 => False.elim (by revert c14; decide)) (fun _ => ?_)
          refine lv_iload hx hb dX10_drawn_43 (lv_at hl 4 rfl) ?_
          refine lv_i2l hx hb dX10_drawn_45 rfl ?_
          refine lv_topl (fun x15 ex15 => ?_)
          refine lv_lconst (v := 0) hx hb dX10_drawn_46 (by decide) ?_
          refine lv_ldc2 (v := 60) hx hb hown (hts (.constantLong RX10 232 (60)) (by decide +kernel)) dX10_drawn_47 ?_
          refine ca_iR (va_runS (As := [.long x15, .long 0, .long 60]) (rest := []) ⟨hx, hb, hml, hown, hts⟩ (m_in l G H.size x15 0 60 p3 0 60 ex15 (by decide) (by decide)) (va_cwS 3 hts gX10_drawn_X10_in rfl rfl rfl (by decide +kernel) ⟨by decide +kernel, by decide +kernel⟩) (pre_S E hP hD hS hA [] (by decide) rfl) rfl rfl hl.1 rfl (lv_room (Nat.le_of_ble_eq_true rfl)) dX10_drawn_50 ⟨by decide +kernel, by decide +kernel⟩) hS hP hD hA [] rfl (fun r17 _ H locs w16 hP hS => ?_)
          rcases w16 with ⟨rfl, b18⟩ | ⟨rfl, b18⟩
          · refine lv_if_ne (tgt := 59) hx hb dX10_drawn_53 (by decide) (fun _ => ?_) (fun c19 => False.elim (by revert c19; decide))
            obtain ⟨j_p0, hj_p0, ej_p0⟩ := inRn (n := 9999) (by decide) b13
            have hl : lv_has ls 10 [(0, .ref h1), (1, .int (nI j_p0)), (2, .int (nI j_p1)), (3, .int (nI j_p2)), (4, .int p3), (5, .int p4)] := by have q := hl; rw [ej_p0] at q; exact q
            obtain ⟨j_p3, hj_p3, ej_p3⟩ := inRn (n := 60) (by decide) b18
            have hl : lv_has ls 10 [(0, .ref h1), (1, .int (nI j_p0)), (2, .int (nI j_p1)), (3, .int (nI j_p2)), (4, .int (nI j_p3)), (5, .int p4)] := by have q := hl; rw [ej_p3] at q; exact q
            refine lv_aload_n hx hb dX10_drawn_59 rfl (lv_at hl 0 rfl) ?_
            refine lv_iload_n hx hb dX10_drawn_60 rfl (lv_at hl 2 rfl) ?_
            refine ca_iR (va_runV (As := [.int (nI j_p1)]) (rest := []) ⟨hx, hb, hml, hown, hts⟩ (m_isTold l G H.size h1 (.int (nI k)) (.ref a_maps) (.ref a_kinds) v_land v_spades (.ref a_part) v_pad v_padMany v_slips v_slipMany (.int md0) v_queue v_depth v_by v_from v_come v_offOf v_parent v_best v_trees v_least v_sums v_toward v_kept v_isKept v_keptAt v_isWriting told (nI j_p1)) (cwV 1 hts gX10_drawn_X10_isTold rfl rfl rfl (by decide +kernel) ⟨by decide +kernel, by decide +kernel⟩) (pre_V E hP hD hS hA [0] (by decide) rfl 0 6 rfl rfl) rfl rfl hl.1 rfl (lv_room (Nat.le_of_ble_eq_true rfl)) dX10_drawn_61 ⟨by decide +kernel, by decide +kernel⟩) hS hP hD hA [0] rfl (fun r21 _ H locs w20 hP hS => ?_)
            rcases w20 with ⟨rfl, b22⟩ | ⟨rfl, b22⟩
            · refine lv_if_ne (tgt := 70) hx hb dX10_drawn_64 (by decide) (fun _ => ?_) (fun c23 => False.elim (by revert c23; decide))
              refine lv_aload_n hx hb dX10_drawn_70 rfl (lv_at hl 0 rfl) ?_
              refine va_get (D := G.1) (ci := 6) (v := .ref a_maps) (C := RX10) (T := TX10) (N := 28) hx hb hts (fun _ h => List.mem_cons_of_mem _ (List.mem_append_right _ h)) hown E.K hP 0 rfl rfl 1 (by decide) (hts (.fieldLink RX10 7 "LastMapModel" "maps" "[I") (by decide +kernel)) (fun _ h9 => h9) rfl dX10_drawn_71 ?_
              refine lv_iload_n hx hb dX10_drawn_74 rfl (lv_at hl 2 rfl) ?_
              refine va_iald hx hb E.K hP 1 1 rfl rfl (i := nI j_p1) (vp_in_nI (by omega) (by decide)) dX10_drawn_75 ?_
              refine lv_topi (fun x24 ex24 => ?_)
              have hmj := maN_ok hk6 hfm hj_p1
              obtain rfl : x24 = nI (maN fm j_p1) := by rw [ex24, nI_clamp (by omega)]; exact hmj.2
              refine lv_istore (lv' := [(6, .int (nI (maN fm j_p1))), (0, .ref h1), (1, .int (nI j_p0)), (2, .int (nI j_p1)), (3, .int (nI j_p2)), (4, .int (nI j_p3)), (5, .int p4)]) hx hb dX10_drawn_76 hl (by decide) rfl (fun ls hl => ?_)
              refine lv_iload_n hx hb dX10_drawn_78 rfl (lv_at hl 2 rfl) ?_
              refine lv_istore (lv' := [(7, .int (nI j_p0)), (6, .int (nI (maN fm j_p1))), (0, .ref h1), (1, .int (nI j_p0)), (2, .int (nI j_p1)), (3, .int (nI j_p2)), (4, .int (nI j_p3)), (5, .int p4)]) hx hb dX10_drawn_79 hl (by decide) rfl (fun ls hl => ?_)
              refine lv_iconst (v := 0) hx hb dX10_drawn_81 (by decide) ?_
              refine lv_istore (lv' := [(8, .int 0), (7, .int (nI j_p0)), (6, .int (nI (maN fm j_p1))), (0, .ref h1), (1, .int (nI j_p0)), (2, .int (nI j_p1)), (3, .int (nI j_p2)), (4, .int (nI j_p3)), (5, .int p4)]) hx hb dX10_drawn_82 hl (by decide) rfl (fun ls hl => ?_)
              refine lp_run (x0 := (0, (maN fm j_p1), j_p0, md0)) (fun xx_ : Nat × Nat × Nat × Int32 => match xx_ with | (x, nw, xx, md) => [(h1, .inr (6, [.int (nI k), .ref a_maps, .int told, .ref a_kinds, v_land, v_spades, .ref a_part, v_pad, v_padMany, v_slips, v_slipMany, .int md, v_queue, v_depth, v_by, v_from, v_come, v_offOf, v_parent, v_best, v_trees, v_least, v_sums, v_toward, v_kept, v_isKept, v_keptAt, v_isWriting])), (a_maps, .inl (gI G, 6, .inl fm)), (a_kinds, .inl (gI G, 4, .inl fk)), (a_part, .inl (gI G, 6, .inl fp))]) (fun xx_ : Nat × Nat × Nat × Int32 => match xx_ with | (x, nw, xx, md) => [(8, .int (nI x)), (7, .int (nI xx)), (6, .int (nI nw)), (0, .ref h1), (1, .int (nI j_p0)), (2, .int (nI j_p1)), (3, .int (nI j_p2)), (4, .int (nI j_p3)), (5, .int p4)]) (fun xx_ : Nat × Nat × Nat × Int32 => match xx_ with | (x, nw, xx, md) => (x ≤ j_p3) ∧ (nw < 5 ^ k ∧ xx ≤ 65536 ∧ drN k (bK (fk j_p2)) j_p3 j_p0 (maN fm j_p1) = drN k (bK (fk j_p2)) (j_p3 - x) xx nw)) (fun xx_ : Nat × Nat × Nat × Int32 => match xx_ with | (x, nw, xx, md) => j_p3 - x) (hP.sub [0, 1, 2, 3] rfl) (hD.sub [0, 1, 2, 3] (by decide) rfl) hS (lv_sub hl [0, 1, 2, 3, 4, 5, 6, 7, 8] rfl) ⟨(by omega), ⟨hmj.1, by omega, by rw [Nat.sub_zero]⟩⟩ ?_
              intro xx_ hI ih84 H locs ls hP hD hS hl
              obtain ⟨x, nw, xx, md⟩ := xx_
              dsimp only at hI ih84 hP hD hl
              obtain ⟨hx0, haa⟩ := hI
              have hl : lv_has ls 10 [(8, .int (nI x)), (7, .int (nI xx)), (6, .int (nI nw)), (0, .ref h1), (1, .int (nI j_p0)), (2, .int (nI j_p1)), (3, .int (nI j_p2)), (4, .int (nI j_p3)), (5, .int p4)] := hl
              have hP : va_P G.1 vwCl ([(h1, .inr (6, [.int (nI k), .ref a_maps, .int told, .ref a_kinds, v_land, v_spades, .ref a_part, v_pad, v_padMany, v_slips, v_slipMany, .int md, v_queue, v_depth, v_by, v_from, v_come, v_offOf, v_parent, v_best, v_trees, v_least, v_sums, v_toward, v_kept, v_isKept, v_keptAt, v_isWriting])), (a_maps, .inl (gI G, 6, .inl fm)), (a_kinds, .inl (gI G, 4, .inl fk)), (a_part, .inl (gI G, 6, .inl fp))]) H := hP
              have hD : va_D A ([(h1, .inr (6, [.int (nI k), .ref a_maps, .int told, .ref a_kinds, v_land, v_spades, .ref a_part, v_pad, v_padMany, v_slips, v_slipMany, .int md, v_queue, v_depth, v_by, v_from, v_come, v_offOf, v_parent, v_best, v_trees, v_least, v_sums, v_toward, v_kept, v_isKept, v_keptAt, v_isWriting])), (a_maps, .inl (gI G, 6, .inl fm)), (a_kinds, .inl (gI G, 4, .inl fk)), (a_part, .inl (gI G, 6, .inl fp))]) := hD
              refine lv_iload hx hb dX10_drawn_84 (lv_at hl 0 rfl) ?_
              refine lv_iload hx hb dX10_drawn_86 (lv_at hl 7 rfl) ?_
              refine lv_icmp_ge (tgt := 160) hx hb dX10_drawn_88 (by decide) (fun c25 => ?_) (fun c25 => ?_)
              · have c25 : j_p3 ≤ x := (nI_leI (a := j_p3) (b := x) (by omega) (by omega)).mp c25
                have hfin : nw = drN k (bK (fk j_p2)) j_p3 j_p0 (maN fm j_p1) := by rw [haa.2.2, show j_p3 - x = 0 by omega]; rfl
                refine lv_iload hx hb dX10_drawn_160 (lv_at hl 8 rfl) ?_
                refine lv_iconst (v := (-1)) hx hb dX10_drawn_162 (by decide) ?_
                refine lv_icmp_ne (tgt := 181) hx hb dX10_drawn_163 (by decide) (fun c26 => absurd c9 c26) (fun c26 => ?_)
                refine lv_aload_n hx hb dX10_drawn_166 rfl (lv_at hl 3 rfl) ?_
                refine lv_iload hx hb dX10_drawn_167 (lv_at hl 2 rfl) ?_
                refine lv_aload_n hx hb dX10_drawn_169 rfl (lv_at hl 3 rfl) ?_
                refine va_get (D := G.1) (ci := 6) (v := .ref a_maps) (C := RX10) (T := TX10) (N := 28) hx hb hts (fun _ h => List.mem_cons_of_mem _ (List.mem_append_right _ h)) hown E.K hP 0 rfl rfl 1 (by decide) (hts (.fieldLink RX10 7 "LastMapModel" "maps" "[I") (by decide +kernel)) (fun _ h9 => h9) rfl dX10_drawn_170 ?_
                refine lv_iload_n hx hb dX10_drawn_173 rfl (lv_at hl 5 rfl) ?_
                refine va_iald hx hb E.K hP 1 1 rfl rfl (i := nI j_p1) (vp_in_nI (by omega) (by decide)) dX10_drawn_174 ?_
                refine lv_topi (fun x27 ex27 => ?_)
                obtain rfl : x27 = nI (maN fm j_p1) := by rw [ex27, nI_clamp (by omega)]; exact hmj.2
                refine ca_iR (va_runV (As := [.int (nI nw), .int (nI (maN fm j_p1))]) (rest := []) ⟨hx, hb, hml, hown, hts⟩ (m2_otherThan l G H.size h1 (.ref a_maps) (.int told) (.ref a_kinds) v_land v_spades v_pad v_padMany v_slips v_slipMany (.int md) v_queue v_depth v_by v_from v_come v_offOf v_parent v_best v_trees v_least v_sums v_toward v_kept v_isKept v_keptAt v_isWriting a_part fp k nw (maN fm j_p1) hk2 hk6 hp haa.1 hmj.1) (cwV 2 hts gX10_drawn_X10_otherThan rfl rfl rfl (by decide +kernel) ⟨by decide +kernel, by decide +kernel⟩) (pre_V E hP hD hS hA [0, 3] (by decide) rfl 0 6 rfl rfl) rfl rfl hl.1 rfl (lv_room (Nat.le_of_ble_eq_true rfl)) dX10_drawn_175 ⟨by decide +kernel, by decide +kernel⟩) hS hP hD hA [0, 3] rfl (fun r29 _ H locs w28 hP hS => ?_)
                rw [w28]
                refine lv_goto (tgt := 192) hx hb dX10_drawn_178 (by decide) ?_
                have hP9 := (hP.sub (ws' := [(h1, .inr (6, [.int (nI k), .ref a_maps, .int told, .ref a_kinds, v_land, v_spades, .ref a_part, v_pad, v_padMany, v_slips, v_slipMany, .int md, v_queue, v_depth, v_by, v_from, v_come, v_offOf, v_parent, v_best, v_trees, v_least, v_sums, v_toward, v_kept, v_isKept, v_keptAt, v_isWriting])), (a_maps, .inl (gI G, 6, .inl fm)), (a_kinds, .inl (gI G, 4, .inl fk)), (a_part, .inl (gI G, 6, .inl fp))]) [0, 1, 2, 3] rfl)
                have hD9 := (hD.sub (ws' := [(h1, .inr (6, [.int (nI k), .ref a_maps, .int told, .ref a_kinds, v_land, v_spades, .ref a_part, v_pad, v_padMany, v_slips, v_slipMany, .int md, v_queue, v_depth, v_by, v_from, v_come, v_offOf, v_parent, v_best, v_trees, v_least, v_sums, v_toward, v_kept, v_isKept, v_keptAt, v_isWriting])), (a_maps, .inl (gI G, 6, .inl fm)), (a_kinds, .inl (gI G, 4, .inl fk)), (a_part, .inl (gI G, 6, .inl fp))]) [0, 1, 2, 3] (by decide) rfl)
                exact W.iret (v := (nI (unl k nw (maN fm j_p1) k))) hx hb hr (fun t9_ ht9_ hW9_ => ⟨⟨nI (unl k nw (maN fm j_p1) k), md, rfl, by rw [hfin]; exact dwA_4 hj_p1 ej_p1 hj_p2 ej_p2 hj_p0 ej_p0 hj_p3 ej_p3 c9 (by rw [ej_p1]; exact b22), by rw [ht9_]; exact hP9, hD9⟩, hS.F ht9_⟩) hS.2.2 dX10_drawn_192
              · have c25 : ¬ j_p3 ≤ x := fun h9_ => c25 ((nI_leI (a := j_p3) (b := x) (by omega) (by omega)).mpr h9_)
                have hxx := haa.2.1
                refine lv_ldc2 (v := 75) hx hb hown (hts (.constantLong RX10 234 (75)) (by decide +kernel)) dX10_drawn_91 ?_
                refine lv_iload hx hb dX10_drawn_94 (lv_at hl 1 rfl) ?_
                refine lv_i2l hx hb dX10_drawn_96 rfl ?_
                refine lv_topl (fun x30 ex30 => ?_)
                refine lv_lmul hx hb dX10_drawn_97 ?_
                refine lv_topl (fun x31 ex31 => ?_)
                refine lv_ldc2 (v := 74) hx hb hown (hts (.constantLong RX10 236 (74)) (by decide +kernel)) dX10_drawn_98 ?_
                refine lv_ladd hx hb dX10_drawn_101 ?_
                refine lv_topl (fun x32 ex32 => ?_)
                refine lv_ldc2 (v := 65537) hx hb hown (hts (.constantLong RX10 238 (65537)) (by decide +kernel)) dX10_drawn_102 ?_
                refine lv_lrem hx hb dX10_drawn_105 (by decide) ?_
                refine lv_topl (fun x33 ex33 => ?_)
                refine lv_l2i hx hb dX10_drawn_106 rfl ?_
                refine lv_topi (fun x34 ex34 => ?_)
                have hr9 := drw hxx ex30 ex31 ex32 ex33 ex34
                obtain rfl : x34 = nI ((75 * xx + 74) % 65537) := hr9
                refine lv_istore (lv' := [(7, .int (nI ((75 * xx + 74) % 65537))), (8, .int (nI x)), (6, .int (nI nw)), (0, .ref h1), (1, .int (nI j_p0)), (2, .int (nI j_p1)), (3, .int (nI j_p2)), (4, .int (nI j_p3)), (5, .int p4)]) hx hb dX10_drawn_107 hl (by decide) rfl (fun ls hl => ?_)
                refine lv_aload_n hx hb dX10_drawn_109 rfl (lv_at hl 3 rfl) ?_
                refine lv_iload hx hb dX10_drawn_110 (lv_at hl 2 rfl) ?_
                refine lv_aload_n hx hb dX10_drawn_112 rfl (lv_at hl 3 rfl) ?_
                refine va_get (D := G.1) (ci := 6) (v := .ref a_kinds) (C := RX10) (T := TX10) (N := 28) hx hb hts (fun _ h => List.mem_cons_of_mem _ (List.mem_append_right _ h)) hown E.K hP 0 rfl rfl 3 (by decide) (hts (.fieldLink RX10 13 "LastMapModel" "kinds" "[I") (by decide +kernel)) (fun _ h9 => h9) rfl dX10_drawn_113 ?_
                refine lv_iload_n hx hb dX10_drawn_116 rfl (lv_at hl 6 rfl) ?_
                refine va_iald hx hb E.K hP 2 1 rfl rfl (i := nI j_p2) (vp_in_nI (by omega) (by decide)) dX10_drawn_117 ?_
                refine lv_topi (fun x35 ex35 => ?_)
                obtain rfl : x35 = fk j_p2 := by rw [ex35, nI_clamp (by omega)]
                refine lv_bipush (v := (-6)) hx hb dX10_drawn_118 (by decide) ?_
                refine ca_i (wr := [(a_maps, .inl (gI G, 6, .inl fm)), (a_kinds, .inl (gI G, 4, .inl fk))]) (va_runV (As := [.int (nI nw), .int (fk j_p2), .int (-6)]) (rest := []) ⟨hx, hb, hml, hown, hts⟩ (m2_slipsFrom l G H.size h1 (.ref a_maps) (.int told) (.ref a_kinds) v_land v_spades v_pad v_padMany v_slips v_slipMany v_queue v_depth v_by v_from v_come v_offOf v_parent v_best v_trees v_least v_sums v_toward v_kept v_isKept v_keptAt v_isWriting a_part fp k nw md (fk j_p2) (-6) hk2 hk6 hp haa.1) (cwV 3 hts gX10_drawn_X10_slipsFrom rfl rfl rfl (by decide +kernel) ⟨by decide +kernel, by decide +kernel⟩) (pre_V E hP hD hS hA [0, 3] (by decide) rfl 0 6 rfl rfl) rfl rfl hl.1 rfl (lv_room (Nat.le_of_ble_eq_true rfl)) dX10_drawn_120 ⟨by decide +kernel, by decide +kernel⟩) hS hP hD hA [0, 3] [1, 2] rfl rfl (by decide) (by decide) (fun r37 u38 H locs w36 hP hD hS => ?_)
                obtain ⟨md1_39, rfl⟩ : ∃ z, z = u38 := ⟨_, rfl⟩
                try dsimp only at w36 hP hD
                have hP := (hP.sub (ws' := [(h1, .inr (6, [.int (nI k), .ref a_maps, .int told, .ref a_kinds, v_land, v_spades, .ref a_part, v_pad, v_padMany, v_slips, v_slipMany, .int md1_39, v_queue, v_depth, v_by, v_from, v_come, v_offOf, v_parent, v_best, v_trees, v_least, v_sums, v_toward, v_kept, v_isKept, v_keptAt, v_isWriting])), (a_maps, .inl (gI G, 6, .inl fm)), (a_kinds, .inl (gI G, 4, .inl fk)), (a_part, .inl (gI G, 6, .inl fp))]) [2, 0, 1, 3] rfl)
                have hD := (hD.sub (ws' := [(h1, .inr (6, [.int (nI k), .ref a_maps, .int told, .ref a_kinds, v_land, v_spades, .ref a_part, v_pad, v_padMany, v_slips, v_slipMany, .int md1_39, v_queue, v_depth, v_by, v_from, v_come, v_offOf, v_parent, v_best, v_trees, v_least, v_sums, v_toward, v_kept, v_isKept, v_keptAt, v_isWriting])), (a_maps, .inl (gI G, 6, .inl fm)), (a_kinds, .inl (gI G, 4, .inl fk)), (a_part, .inl (gI G, 6, .inl fp))]) [2, 0, 1, 3] (by decide) rfl)
                have hc9 := cSl_le k (bK (fk j_p2)) nw (manyS k)
                obtain rfl : r37 = nI (cSl k (bK (fk j_p2)) nw (manyS k)) := w36.1
                refine lv_istore (lv' := [(9, .int (nI (cSl k (bK (fk j_p2)) nw (manyS k)))), (7, .int (nI ((75 * xx + 74) % 65537))), (8, .int (nI x)), (6, .int (nI nw)), (0, .ref h1), (1, .int (nI j_p0)), (2, .int (nI j_p1)), (3, .int (nI j_p2)), (4, .int (nI j_p3)), (5, .int p4)]) hx hb dX10_drawn_123 hl (by decide) rfl (fun ls hl => ?_)
                refine lv_iload hx hb dX10_drawn_125 (lv_at hl 0 rfl) ?_
                refine lv_if_le (tgt := 154) hx hb dX10_drawn_127 (by decide) (fun c40 => ?_) (fun c40 => ?_)
                · have c40 : (cSl k (bK (fk j_p2)) nw (manyS k)) ≤ 0 := (nI_leI (a := (cSl k (bK (fk j_p2)) nw (manyS k))) (b := 0) (by omega) (by omega)).mp c40
                  have hdw : dwN k (bK (fk j_p2)) nw ((75 * xx + 74) % 65537) = nw := dwN_0 (by omega)
                  have hnew : nw < 5 ^ k ∧ (75 * xx + 74) % 65537 ≤ 65536 ∧ drN k (bK (fk j_p2)) j_p3 j_p0 (maN fm j_p1) = drN k (bK (fk j_p2)) (j_p3 - (x + 1)) ((75 * xx + 74) % 65537) nw := ⟨by rw [← hdw]; exact dwN_lt haa.1, by omega, by rw [haa.2.2, show j_p3 - x = (j_p3 - (x + 1)) + 1 by omega]; show drN k (bK (fk j_p2)) (j_p3 - (x + 1)) ((75 * xx + 74) % 65537) (dwN k (bK (fk j_p2)) nw ((75 * xx + 74) % 65537)) = _; rw [hdw]⟩
                  obtain ⟨x41, ex41⟩ : ∃ yy_ : Int32, yy_ = (nI x) + 1 := ⟨_, rfl⟩
                  refine lv_iinc (v := x41) (lv' := [(8, .int x41), (9, .int (nI (cSl k (bK (fk j_p2)) nw (manyS k)))), (7, .int (nI ((75 * xx + 74) % 65537))), (6, .int (nI nw)), (0, .ref h1), (1, .int (nI j_p0)), (2, .int (nI j_p1)), (3, .int (nI j_p2)), (4, .int (nI j_p3)), (5, .int p4)]) hx hb dX10_drawn_154 hl (k := 2) rfl (by rw [ex41]; rfl) (by decide) rfl (fun ls hl => ?_)
                  obtain rfl : x41 = nI (x + 1) := by rw [ex41]; exact nI_add x 1
                  refine lv_goto (tgt := 84) hx hb dX10_drawn_157 (by decide) ?_
                  refine ih84 ((x + 1), nw, ((75 * xx + 74) % 65537), md1_39) ⟨?_, ?_⟩ (by first | omega | (dsimp only; omega)) H locs ls (hP.sub [0, 1, 2, 3] rfl) (hD.sub [0, 1, 2, 3] (by decide) rfl) hS (lv_sub hl [0, 2, 3, 4, 5, 6, 7, 8, 9] rfl)
                  · try dsimp only
                    omega
                  · try dsimp only
                    exact hnew
                · have c40 : ¬ (cSl k (bK (fk j_p2)) nw (manyS k)) ≤ 0 := fun h9_ => c40 ((nI_leI (a := (cSl k (bK (fk j_p2)) nw (manyS k))) (b := 0) (by omega) (by omega)).mpr h9_)
                  refine lv_aload_n hx hb dX10_drawn_130 rfl (lv_at hl 4 rfl) ?_
                  refine lv_iload hx hb dX10_drawn_131 (lv_at hl 3 rfl) ?_
                  refine lv_aload_n hx hb dX10_drawn_133 rfl (lv_at hl 4 rfl) ?_
                  refine va_get (D := G.1) (ci := 6) (v := .ref a_kinds) (C := RX10) (T := TX10) (N := 28) hx hb hts (fun _ h => List.mem_cons_of_mem _ (List.mem_append_right _ h)) hown E.K hP 0 rfl rfl 3 (by decide) (hts (.fieldLink RX10 13 "LastMapModel" "kinds" "[I") (by decide +kernel)) (fun _ h9 => h9) rfl dX10_drawn_134 ?_
                  refine lv_iload_n hx hb dX10_drawn_137 rfl (lv_at hl 7 rfl) ?_
                  refine va_iald hx hb E.K hP 2 1 rfl rfl (i := nI j_p2) (vp_in_nI (by omega) (by decide)) dX10_drawn_138 ?_
                  refine lv_topi (fun x42 ex42 => ?_)
                  obtain rfl : x42 = fk j_p2 := by rw [ex42, nI_clamp (by omega)]
                  refine lv_iload hx hb dX10_drawn_139 (lv_at hl 1 rfl) ?_
                  refine lv_iload hx hb dX10_drawn_141 (lv_at hl 0 rfl) ?_
                  refine lv_irem hx hb dX10_drawn_143 (nI_ne0 (by omega) (by omega)) ?_
                  refine lv_topi (fun x43 ex43 => ?_)
                  obtain rfl : x43 = nI ((75 * xx + 74) % 65537 % cSl k (bK (fk j_p2)) nw (manyS k)) := by rw [ex43]; exact pk_rem (by omega) (by omega) (by omega)
                  refine ca_i (wr := [(a_maps, .inl (gI G, 6, .inl fm)), (a_kinds, .inl (gI G, 4, .inl fk))]) (va_runV (As := [.int (nI nw), .int (fk j_p2), .int (nI ((75 * xx + 74) % 65537 % cSl k (bK (fk j_p2)) nw (manyS k)))]) (rest := []) ⟨hx, hb, hml, hown, hts⟩ (m2_slipsFrom l G H.size h1 (.ref a_maps) (.int told) (.ref a_kinds) v_land v_spades v_pad v_padMany v_slips v_slipMany v_queue v_depth v_by v_from v_come v_offOf v_parent v_best v_trees v_least v_sums v_toward v_kept v_isKept v_keptAt v_isWriting a_part fp k nw md1_39 (fk j_p2) (nI ((75 * xx + 74) % 65537 % cSl k (bK (fk j_p2)) nw (manyS k))) hk2 hk6 hp haa.1) (cwV 3 hts gX10_drawn_X10_slipsFrom rfl rfl rfl (by decide +kernel) ⟨by decide +kernel, by decide +kernel⟩) (pre_V E hP hD hS hA [0, 3] (by decide) rfl 0 6 rfl rfl) rfl rfl hl.1 rfl (lv_room (Nat.le_of_ble_eq_true rfl)) dX10_drawn_144 ⟨by decide +kernel, by decide +kernel⟩) hS hP hD hA [0, 3] [1, 2] rfl rfl (by decide) (by decide) (fun r45 u46 H locs w44 hP hD hS => ?_)
                  obtain ⟨md1_47, rfl⟩ : ∃ z, z = u46 := ⟨_, rfl⟩
                  try dsimp only at w44 hP hD
                  have hP := (hP.sub (ws' := [(h1, .inr (6, [.int (nI k), .ref a_maps, .int told, .ref a_kinds, v_land, v_spades, .ref a_part, v_pad, v_padMany, v_slips, v_slipMany, .int md1_47, v_queue, v_depth, v_by, v_from, v_come, v_offOf, v_parent, v_best, v_trees, v_least, v_sums, v_toward, v_kept, v_isKept, v_keptAt, v_isWriting])), (a_maps, .inl (gI G, 6, .inl fm)), (a_kinds, .inl (gI G, 4, .inl fk)), (a_part, .inl (gI G, 6, .inl fp))]) [2, 0, 1, 3] rfl)
                  have hD := (hD.sub (ws' := [(h1, .inr (6, [.int (nI k), .ref a_maps, .int told, .ref a_kinds, v_land, v_spades, .ref a_part, v_pad, v_padMany, v_slips, v_slipMany, .int md1_47, v_queue, v_depth, v_by, v_from, v_come, v_offOf, v_parent, v_best, v_trees, v_least, v_sums, v_toward, v_kept, v_isKept, v_keptAt, v_isWriting])), (a_maps, .inl (gI G, 6, .inl fm)), (a_kinds, .inl (gI G, 4, .inl fk)), (a_part, .inl (gI G, 6, .inl fp))]) [2, 0, 1, 3] (by decide) rfl)
                  refine lv_pop hx hb dX10_drawn_147 rfl ?_
                  refine lv_aload_n hx hb dX10_drawn_148 rfl (lv_at hl 4 rfl) ?_
                  refine va_get (D := G.1) (ci := 6) (v := .int md1_47) (C := RX10) (T := TX10) (N := 28) hx hb hts (fun _ h => List.mem_cons_of_mem _ (List.mem_append_right _ h)) hown E.K hP 0 rfl rfl 11 (by decide) (hts (.fieldLink RX10 149 "LastMapModel" "made" "I") (by decide +kernel)) (fun _ h9 => h9) rfl dX10_drawn_149 ?_
                  refine W.eq (g2 := F0 m 152 ls [.int (nI (dnS k (bK (fk j_p2)) nw ((75 * xx + 74) % 65537 % cSl k (bK (fk j_p2)) nw (manyS k)) (manyS k)))]) (by rw [w44.2 ((75 * xx + 74) % 65537 % cSl k (bK (fk j_p2)) nw (manyS k)) rfl (Nat.mod_lt _ (by omega))]) ?_
                  refine lv_istore (lv' := [(6, .int (nI (dnS k (bK (fk j_p2)) nw ((75 * xx + 74) % 65537 % cSl k (bK (fk j_p2)) nw (manyS k)) (manyS k)))), (9, .int (nI (cSl k (bK (fk j_p2)) nw (manyS k)))), (7, .int (nI ((75 * xx + 74) % 65537))), (8, .int (nI x)), (0, .ref h1), (1, .int (nI j_p0)), (2, .int (nI j_p1)), (3, .int (nI j_p2)), (4, .int (nI j_p3)), (5, .int p4)]) hx hb dX10_drawn_152 hl (by decide) rfl (fun ls hl => ?_)
                  have hdw : dwN k (bK (fk j_p2)) nw ((75 * xx + 74) % 65537) = (dnS k (bK (fk j_p2)) nw ((75 * xx + 74) % 65537 % cSl k (bK (fk j_p2)) nw (manyS k)) (manyS k)) := dwN_s (by omega)
                  have hnew : (dnS k (bK (fk j_p2)) nw ((75 * xx + 74) % 65537 % cSl k (bK (fk j_p2)) nw (manyS k)) (manyS k)) < 5 ^ k ∧ (75 * xx + 74) % 65537 ≤ 65536 ∧ drN k (bK (fk j_p2)) j_p3 j_p0 (maN fm j_p1) = drN k (bK (fk j_p2)) (j_p3 - (x + 1)) ((75 * xx + 74) % 65537) (dnS k (bK (fk j_p2)) nw ((75 * xx + 74) % 65537 % cSl k (bK (fk j_p2)) nw (manyS k)) (manyS k)) := ⟨by rw [← hdw]; exact dwN_lt haa.1, by omega, by rw [haa.2.2, show j_p3 - x = (j_p3 - (x + 1)) + 1 by omega]; show drN k (bK (fk j_p2)) (j_p3 - (x + 1)) ((75 * xx + 74) % 65537) (dwN k (bK (fk j_p2)) nw ((75 * xx + 74) % 65537)) = _; rw [hdw]⟩
                  obtain ⟨x48, ex48⟩ : ∃ yy_ : Int32, yy_ = (nI x) + 1 := ⟨_, rfl⟩
                  refine lv_iinc (v := x48) (lv' := [(8, .int x48), (6, .int (nI (dnS k (bK (fk j_p2)) nw ((75 * xx + 74) % 65537 % cSl k (bK (fk j_p2)) nw (manyS k)) (manyS k)))), (9, .int (nI (cSl k (bK (fk j_p2)) nw (manyS k)))), (7, .int (nI ((75 * xx + 74) % 65537))), (0, .ref h1), (1, .int (nI j_p0)), (2, .int (nI j_p1)), (3, .int (nI j_p2)), (4, .int (nI j_p3)), (5, .int p4)]) hx hb dX10_drawn_154 hl (k := 3) rfl (by rw [ex48]; rfl) (by decide) rfl (fun ls hl => ?_)
                  obtain rfl : x48 = nI (x + 1) := by rw [ex48]; exact nI_add x 1
                  refine lv_goto (tgt := 84) hx hb dX10_drawn_157 (by decide) ?_
                  refine ih84 ((x + 1), (dnS k (bK (fk j_p2)) nw ((75 * xx + 74) % 65537 % cSl k (bK (fk j_p2)) nw (manyS k)) (manyS k)), ((75 * xx + 74) % 65537), md1_47) ⟨?_, ?_⟩ (by first | omega | (dsimp only; omega)) H locs ls (hP.sub [0, 1, 2, 3] rfl) (hD.sub [0, 1, 2, 3] (by decide) rfl) hS (lv_sub hl [0, 3, 1, 4, 5, 6, 7, 8, 9] rfl)
                  · try dsimp only
                    omega
                  · try dsimp only
                    exact hnew
            · refine lv_if_ne (tgt := 70) hx hb dX10_drawn_64 (by decide) (fun c49 => False.elim (by revert c49; decide)) (fun _ => ?_)
              refine lv_bipush (v := (-3)) hx hb dX10_drawn_67 (by decide) ?_
              have hP9 := (hP.sub (ws' := [(h1, .inr (6, [.int (nI k), .ref a_maps, .int told, .ref a_kinds, v_land, v_spades, .ref a_part, v_pad, v_padMany, v_slips, v_slipMany, .int md0, v_queue, v_depth, v_by, v_from, v_come, v_offOf, v_parent, v_best, v_trees, v_least, v_sums, v_toward, v_kept, v_isKept, v_keptAt, v_isWriting])), (a_maps, .inl (gI G, 6, .inl fm)), (a_kinds, .inl (gI G, 4, .inl fk)), (a_part, .inl (gI G, 6, .inl fp))]) [0, 1, 2, 3] rfl)
              have hD9 := (hD.sub (ws' := [(h1, .inr (6, [.int (nI k), .ref a_maps, .int told, .ref a_kinds, v_land, v_spades, .ref a_part, v_pad, v_padMany, v_slips, v_slipMany, .int md0, v_queue, v_depth, v_by, v_from, v_come, v_offOf, v_parent, v_best, v_trees, v_least, v_sums, v_toward, v_kept, v_isKept, v_keptAt, v_isWriting])), (a_maps, .inl (gI G, 6, .inl fm)), (a_kinds, .inl (gI G, 4, .inl fk)), (a_part, .inl (gI G, 6, .inl fp))]) [0, 1, 2, 3] (by decide) rfl)
              exact W.iret (v := (-3)) hx hb hr (fun t9_ ht9_ hW9_ => ⟨⟨(-3), md0, rfl, dwA_3 ⟨b3, b7, Or.inl c9⟩ ⟨b13, b18⟩ (fun q9 => b22 (by rw [← ej_p1]; exact q9)), by rw [ht9_]; exact hP9, hD9⟩, hS.F ht9_⟩) hS.2.2 dX10_drawn_69
          · refine lv_if_ne (tgt := 59) hx hb dX10_drawn_53 (by decide) (fun c50 => False.elim (by revert c50; decide)) (fun _ => ?_)
            refine lv_bipush (v := (-2)) hx hb dX10_drawn_56 (by decide) ?_
            have hP9 := (hP.sub (ws' := [(h1, .inr (6, [.int (nI k), .ref a_maps, .int told, .ref a_kinds, v_land, v_spades, .ref a_part, v_pad, v_padMany, v_slips, v_slipMany, .int md0, v_queue, v_depth, v_by, v_from, v_come, v_offOf, v_parent, v_best, v_trees, v_least, v_sums, v_toward, v_kept, v_isKept, v_keptAt, v_isWriting])), (a_maps, .inl (gI G, 6, .inl fm)), (a_kinds, .inl (gI G, 4, .inl fk)), (a_part, .inl (gI G, 6, .inl fp))]) [0, 1, 2, 3] rfl)
            have hD9 := (hD.sub (ws' := [(h1, .inr (6, [.int (nI k), .ref a_maps, .int told, .ref a_kinds, v_land, v_spades, .ref a_part, v_pad, v_padMany, v_slips, v_slipMany, .int md0, v_queue, v_depth, v_by, v_from, v_come, v_offOf, v_parent, v_best, v_trees, v_least, v_sums, v_toward, v_kept, v_isKept, v_keptAt, v_isWriting])), (a_maps, .inl (gI G, 6, .inl fm)), (a_kinds, .inl (gI G, 4, .inl fk)), (a_part, .inl (gI G, 6, .inl fp))]) [0, 1, 2, 3] (by decide) rfl)
            exact W.iret (v := (-2)) hx hb hr (fun t9_ ht9_ hW9_ => ⟨⟨(-2), md0, rfl, dwA_2 ⟨b3, b7, Or.inl c9⟩ (fun q9 => b18 q9.2), by rw [ht9_]; exact hP9, hD9⟩, hS.F ht9_⟩) hS.2.2 dX10_drawn_58
        · refine lv_if_eq (tgt := 56) hx hb dX10_drawn_40 (by decide) (fun _ => ?_) (fun c51 => False.elim (by revert c51; decide))
          refine lv_bipush (v := (-2)) hx hb dX10_drawn_56 (by decide) ?_
          have hP9 := (hP.sub (ws' := [(h1, .inr (6, [.int (nI k), .ref a_maps, .int told, .ref a_kinds, v_land, v_spades, .ref a_part, v_pad, v_padMany, v_slips, v_slipMany, .int md0, v_queue, v_depth, v_by, v_from, v_come, v_offOf, v_parent, v_best, v_trees, v_least, v_sums, v_toward, v_kept, v_isKept, v_keptAt, v_isWriting])), (a_maps, .inl (gI G, 6, .inl fm)), (a_kinds, .inl (gI G, 4, .inl fk)), (a_part, .inl (gI G, 6, .inl fp))]) [0, 1, 2, 3] rfl)
          have hD9 := (hD.sub (ws' := [(h1, .inr (6, [.int (nI k), .ref a_maps, .int told, .ref a_kinds, v_land, v_spades, .ref a_part, v_pad, v_padMany, v_slips, v_slipMany, .int md0, v_queue, v_depth, v_by, v_from, v_come, v_offOf, v_parent, v_best, v_trees, v_least, v_sums, v_toward, v_kept, v_isKept, v_keptAt, v_isWriting])), (a_maps, .inl (gI G, 6, .inl fm)), (a_kinds, .inl (gI G, 4, .inl fk)), (a_part, .inl (gI G, 6, .inl fp))]) [0, 1, 2, 3] (by decide) rfl)
          exact W.iret (v := (-2)) hx hb hr (fun t9_ ht9_ hW9_ => ⟨⟨(-2), md0, rfl, dwA_2 ⟨b3, b7, Or.inl c9⟩ (fun q9 => b13 q9.1), by rw [ht9_]; exact hP9, hD9⟩, hS.F ht9_⟩) hS.2.2 dX10_drawn_58
      · refine lv_aload_n hx hb dX10_drawn_20 rfl (lv_at hl 0 rfl) ?_
        refine lv_iload hx hb dX10_drawn_21 (lv_at hl 5 rfl) ?_
        refine ca_iR (va_runV (As := [.int p4]) (rest := []) ⟨hx, hb, hml, hown, hts⟩ (m_isSite l G H.size h1 (.ref a_maps) (.int told) (.ref a_kinds) v_land v_spades (.ref a_part) v_pad v_padMany v_slips v_slipMany (.int md0) v_queue v_depth v_by v_from v_come v_offOf v_parent v_best v_trees v_least v_sums v_toward v_kept v_isKept v_keptAt v_isWriting k p4 hk2 hk6) (cwV 1 hts gX10_drawn_X10_isSite rfl rfl rfl (by decide +kernel) ⟨by decide +kernel, by decide +kernel⟩) (pre_V E hP hD hS hA [0] (by decide) rfl 0 6 rfl rfl) rfl rfl hl.1 rfl (lv_room (Nat.le_of_ble_eq_true rfl)) dX10_drawn_23 ⟨by decide +kernel, by decide +kernel⟩) hS hP hD hA [0] rfl (fun r53 _ H locs w52 hP hS => ?_)
        rcases w52 with ⟨rfl, b54⟩ | ⟨rfl, b54⟩
        · refine lv_if_ne (tgt := 31) hx hb dX10_drawn_26 (by decide) (fun _ => ?_) (fun c55 => False.elim (by revert c55; decide))
          obtain ⟨j_p1, hj_p1, ej_p1⟩ := inR6 b3
          have hl : lv_has ls 10 [(0, .ref h1), (1, .int p0), (2, .int (nI j_p1)), (3, .int p2), (4, .int p3), (5, .int p4)] := by have q := hl; rw [ej_p1] at q; exact q
          obtain ⟨j_p2, hj_p2, ej_p2⟩ := inR4 b7
          have hl : lv_has ls 10 [(0, .ref h1), (1, .int p0), (2, .int (nI j_p1)), (3, .int (nI j_p2)), (4, .int p3), (5, .int p4)] := by have q := hl; rw [ej_p2] at q; exact q
          obtain ⟨j_p4, hj_p4, ej_p4⟩ := b54
          have hl : lv_has ls 10 [(0, .ref h1), (1, .int p0), (2, .int (nI j_p1)), (3, .int (nI j_p2)), (4, .int p3), (5, .int (nI j_p4))] := by have q := hl; rw [ej_p4] at q; exact q
          refine lv_iload_n hx hb dX10_drawn_31 rfl (lv_at hl 1 rfl) ?_
          refine lv_i2l hx hb dX10_drawn_32 rfl ?_
          refine lv_topl (fun x56 ex56 => ?_)
          refine lv_lconst (v := 0) hx hb dX10_drawn_33 (by decide) ?_
          refine lv_ldc2 (v := 9999) hx hb hown (hts (.constantLong RX10 230 (9999)) (by decide +kernel)) dX10_drawn_34 ?_
          refine ca_iR (va_runS (As := [.long x56, .long 0, .long 9999]) (rest := []) ⟨hx, hb, hml, hown, hts⟩ (m_in l G H.size x56 0 9999 p0 0 9999 ex56 (by decide) (by decide)) (va_cwS 3 hts gX10_drawn_X10_in rfl rfl rfl (by decide +kernel) ⟨by decide +kernel, by decide +kernel⟩) (pre_S E hP hD hS hA [] (by decide) rfl) rfl rfl hl.1 rfl (lv_room (Nat.le_of_ble_eq_true rfl)) dX10_drawn_37 ⟨by decide +kernel, by decide +kernel⟩) hS hP hD hA [] rfl (fun r58 _ H locs w57 hP hS => ?_)
          rcases w57 with ⟨rfl, b59⟩ | ⟨rfl, b59⟩
          · refine lv_if_eq (tgt := 56) hx hb dX10_drawn_40 (by decide) (fun c60 => False.elim (by revert c60; decide)) (fun _ => ?_)
            refine lv_iload hx hb dX10_drawn_43 (lv_at hl 4 rfl) ?_
            refine lv_i2l hx hb dX10_drawn_45 rfl ?_
            refine lv_topl (fun x61 ex61 => ?_)
            refine lv_lconst (v := 0) hx hb dX10_drawn_46 (by decide) ?_
            refine lv_ldc2 (v := 60) hx hb hown (hts (.constantLong RX10 232 (60)) (by decide +kernel)) dX10_drawn_47 ?_
            refine ca_iR (va_runS (As := [.long x61, .long 0, .long 60]) (rest := []) ⟨hx, hb, hml, hown, hts⟩ (m_in l G H.size x61 0 60 p3 0 60 ex61 (by decide) (by decide)) (va_cwS 3 hts gX10_drawn_X10_in rfl rfl rfl (by decide +kernel) ⟨by decide +kernel, by decide +kernel⟩) (pre_S E hP hD hS hA [] (by decide) rfl) rfl rfl hl.1 rfl (lv_room (Nat.le_of_ble_eq_true rfl)) dX10_drawn_50 ⟨by decide +kernel, by decide +kernel⟩) hS hP hD hA [] rfl (fun r63 _ H locs w62 hP hS => ?_)
            rcases w62 with ⟨rfl, b64⟩ | ⟨rfl, b64⟩
            · refine lv_if_ne (tgt := 59) hx hb dX10_drawn_53 (by decide) (fun _ => ?_) (fun c65 => False.elim (by revert c65; decide))
              obtain ⟨j_p0, hj_p0, ej_p0⟩ := inRn (n := 9999) (by decide) b59
              have hl : lv_has ls 10 [(0, .ref h1), (1, .int (nI j_p0)), (2, .int (nI j_p1)), (3, .int (nI j_p2)), (4, .int p3), (5, .int (nI j_p4))] := by have q := hl; rw [ej_p0] at q; exact q
              obtain ⟨j_p3, hj_p3, ej_p3⟩ := inRn (n := 60) (by decide) b64
              have hl : lv_has ls 10 [(0, .ref h1), (1, .int (nI j_p0)), (2, .int (nI j_p1)), (3, .int (nI j_p2)), (4, .int (nI j_p3)), (5, .int (nI j_p4))] := by have q := hl; rw [ej_p3] at q; exact q
              refine lv_aload_n hx hb dX10_drawn_59 rfl (lv_at hl 0 rfl) ?_
              refine lv_iload_n hx hb dX10_drawn_60 rfl (lv_at hl 2 rfl) ?_
              refine ca_iR (va_runV (As := [.int (nI j_p1)]) (rest := []) ⟨hx, hb, hml, hown, hts⟩ (m_isTold l G H.size h1 (.int (nI k)) (.ref a_maps) (.ref a_kinds) v_land v_spades (.ref a_part) v_pad v_padMany v_slips v_slipMany (.int md0) v_queue v_depth v_by v_from v_come v_offOf v_parent v_best v_trees v_least v_sums v_toward v_kept v_isKept v_keptAt v_isWriting told (nI j_p1)) (cwV 1 hts gX10_drawn_X10_isTold rfl rfl rfl (by decide +kernel) ⟨by decide +kernel, by decide +kernel⟩) (pre_V E hP hD hS hA [0] (by decide) rfl 0 6 rfl rfl) rfl rfl hl.1 rfl (lv_room (Nat.le_of_ble_eq_true rfl)) dX10_drawn_61 ⟨by decide +kernel, by decide +kernel⟩) hS hP hD hA [0] rfl (fun r67 _ H locs w66 hP hS => ?_)
              rcases w66 with ⟨rfl, b68⟩ | ⟨rfl, b68⟩
              · refine lv_if_ne (tgt := 70) hx hb dX10_drawn_64 (by decide) (fun _ => ?_) (fun c69 => False.elim (by revert c69; decide))
                refine lv_aload_n hx hb dX10_drawn_70 rfl (lv_at hl 0 rfl) ?_
                refine va_get (D := G.1) (ci := 6) (v := .ref a_maps) (C := RX10) (T := TX10) (N := 28) hx hb hts (fun _ h => List.mem_cons_of_mem _ (List.mem_append_right _ h)) hown E.K hP 0 rfl rfl 1 (by decide) (hts (.fieldLink RX10 7 "LastMapModel" "maps" "[I") (by decide +kernel)) (fun _ h9 => h9) rfl dX10_drawn_71 ?_
                refine lv_iload_n hx hb dX10_drawn_74 rfl (lv_at hl 2 rfl) ?_
                refine va_iald hx hb E.K hP 1 1 rfl rfl (i := nI j_p1) (vp_in_nI (by omega) (by decide)) dX10_drawn_75 ?_
                refine lv_topi (fun x70 ex70 => ?_)
                have hmj := maN_ok hk6 hfm hj_p1
                obtain rfl : x70 = nI (maN fm j_p1) := by rw [ex70, nI_clamp (by omega)]; exact hmj.2
                refine lv_istore (lv' := [(6, .int (nI (maN fm j_p1))), (0, .ref h1), (1, .int (nI j_p0)), (2, .int (nI j_p1)), (3, .int (nI j_p2)), (4, .int (nI j_p3)), (5, .int (nI j_p4))]) hx hb dX10_drawn_76 hl (by decide) rfl (fun ls hl => ?_)
                refine lv_iload_n hx hb dX10_drawn_78 rfl (lv_at hl 2 rfl) ?_
                refine lv_istore (lv' := [(7, .int (nI j_p0)), (6, .int (nI (maN fm j_p1))), (0, .ref h1), (1, .int (nI j_p0)), (2, .int (nI j_p1)), (3, .int (nI j_p2)), (4, .int (nI j_p3)), (5, .int (nI j_p4))]) hx hb dX10_drawn_79 hl (by decide) rfl (fun ls hl => ?_)
                refine lv_iconst (v := 0) hx hb dX10_drawn_81 (by decide) ?_
                refine lv_istore (lv' := [(8, .int 0), (7, .int (nI j_p0)), (6, .int (nI (maN fm j_p1))), (0, .ref h1), (1, .int (nI j_p0)), (2, .int (nI j_p1)), (3, .int (nI j_p2)), (4, .int (nI j_p3)), (5, .int (nI j_p4))]) hx hb dX10_drawn_82 hl (by decide) rfl (fun ls hl => ?_)
                refine lp_run (x0 := (0, (maN fm j_p1), j_p0, md0)) (fun xx_ : Nat × Nat × Nat × Int32 => match xx_ with | (x, nw, xx, md) => [(h1, .inr (6, [.int (nI k), .ref a_maps, .int told, .ref a_kinds, v_land, v_spades, .ref a_part, v_pad, v_padMany, v_slips, v_slipMany, .int md, v_queue, v_depth, v_by, v_from, v_come, v_offOf, v_parent, v_best, v_trees, v_least, v_sums, v_toward, v_kept, v_isKept, v_keptAt, v_isWriting])), (a_maps, .inl (gI G, 6, .inl fm)), (a_kinds, .inl (gI G, 4, .inl fk)), (a_part, .inl (gI G, 6, .inl fp))]) (fun xx_ : Nat × Nat × Nat × Int32 => match xx_ with | (x, nw, xx, md) => [(8, .int (nI x)), (7, .int (nI xx)), (6, .int (nI nw)), (0, .ref h1), (1, .int (nI j_p0)), (2, .int (nI j_p1)), (3, .int (nI j_p2)), (4, .int (nI j_p3)), (5, .int (nI j_p4))]) (fun xx_ : Nat × Nat × Nat × Int32 => match xx_ with | (x, nw, xx, md) => (x ≤ j_p3) ∧ (nw < 5 ^ k ∧ xx ≤ 65536 ∧ drN k (bK (fk j_p2)) j_p3 j_p0 (maN fm j_p1) = drN k (bK (fk j_p2)) (j_p3 - x) xx nw)) (fun xx_ : Nat × Nat × Nat × Int32 => match xx_ with | (x, nw, xx, md) => j_p3 - x) (hP.sub [0, 1, 2, 3] rfl) (hD.sub [0, 1, 2, 3] (by decide) rfl) hS (lv_sub hl [0, 1, 2, 3, 4, 5, 6, 7, 8] rfl) ⟨(by omega), ⟨hmj.1, by omega, by rw [Nat.sub_zero]⟩⟩ ?_
                intro xx_ hI ih84 H locs ls hP hD hS hl
                obtain ⟨x, nw, xx, md⟩ := xx_
                dsimp only at hI ih84 hP hD hl
                obtain ⟨hx0, haa⟩ := hI
                have hl : lv_has ls 10 [(8, .int (nI x)), (7, .int (nI xx)), (6, .int (nI nw)), (0, .ref h1), (1, .int (nI j_p0)), (2, .int (nI j_p1)), (3, .int (nI j_p2)), (4, .int (nI j_p3)), (5, .int (nI j_p4))] := hl
                have hP : va_P G.1 vwCl ([(h1, .inr (6, [.int (nI k), .ref a_maps, .int told, .ref a_kinds, v_land, v_spades, .ref a_part, v_pad, v_padMany, v_slips, v_slipMany, .int md, v_queue, v_depth, v_by, v_from, v_come, v_offOf, v_parent, v_best, v_trees, v_least, v_sums, v_toward, v_kept, v_isKept, v_keptAt, v_isWriting])), (a_maps, .inl (gI G, 6, .inl fm)), (a_kinds, .inl (gI G, 4, .inl fk)), (a_part, .inl (gI G, 6, .inl fp))]) H := hP
                have hD : va_D A ([(h1, .inr (6, [.int (nI k), .ref a_maps, .int told, .ref a_kinds, v_land, v_spades, .ref a_part, v_pad, v_padMany, v_slips, v_slipMany, .int md, v_queue, v_depth, v_by, v_from, v_come, v_offOf, v_parent, v_best, v_trees, v_least, v_sums, v_toward, v_kept, v_isKept, v_keptAt, v_isWriting])), (a_maps, .inl (gI G, 6, .inl fm)), (a_kinds, .inl (gI G, 4, .inl fk)), (a_part, .inl (gI G, 6, .inl fp))]) := hD
                refine lv_iload hx hb dX10_drawn_84 (lv_at hl 0 rfl) ?_
                refine lv_iload hx hb dX10_drawn_86 (lv_at hl 7 rfl) ?_
                refine lv_icmp_ge (tgt := 160) hx hb dX10_drawn_88 (by decide) (fun c71 => ?_) (fun c71 => ?_)
                · have c71 : j_p3 ≤ x := (nI_leI (a := j_p3) (b := x) (by omega) (by omega)).mp c71
                  have hfin : nw = drN k (bK (fk j_p2)) j_p3 j_p0 (maN fm j_p1) := by rw [haa.2.2, show j_p3 - x = 0 by omega]; rfl
                  refine lv_iload hx hb dX10_drawn_160 (lv_at hl 8 rfl) ?_
                  refine lv_iconst (v := (-1)) hx hb dX10_drawn_162 (by decide) ?_
                  refine lv_icmp_ne (tgt := 181) hx hb dX10_drawn_163 (by decide) (fun c72 => ?_) (fun c72 => absurd c72 (by intro q9; have q8 := congrArg Int32.toInt q9; rw [nI_toInt (by omega)] at q8; simp only [Int32.reduceToInt] at q8; omega))
                  refine lv_aload_n hx hb dX10_drawn_181 rfl (lv_at hl 3 rfl) ?_
                  refine lv_iload hx hb dX10_drawn_182 (lv_at hl 2 rfl) ?_
                  refine lv_iload hx hb dX10_drawn_184 (lv_at hl 8 rfl) ?_
                  refine ca_iR (va_runV (As := [.int (nI nw), .int (nI j_p4)]) (rest := []) ⟨hx, hb, hml, hown, hts⟩ (m_signAt l G H.size h1 (.int (nI k)) (.ref a_maps) (.int told) (.ref a_kinds) v_land v_spades v_pad v_padMany v_slips v_slipMany (.int md) v_queue v_depth v_by v_from v_come v_offOf v_parent v_best v_trees v_least v_sums v_toward v_kept v_isKept v_keptAt v_isWriting a_part fp k nw j_p4 hk6 hp haa.1 (by omega)) (cwV 2 hts gX10_drawn_X10_signAt rfl rfl rfl (by decide +kernel) ⟨by decide +kernel, by decide +kernel⟩) (pre_V E hP hD hS hA [0, 3] (by decide) rfl 0 6 rfl rfl) rfl rfl hl.1 rfl (lv_room (Nat.le_of_ble_eq_true rfl)) dX10_drawn_186 ⟨by decide +kernel, by decide +kernel⟩) hS hP hD hA [0, 3] rfl (fun r74 _ H locs w73 hP hS => ?_)
                  rw [w73]
                  refine ca_iR (va_runS (As := [.int (nI (dg k nw j_p4))]) (rest := []) ⟨hx, hb, hml, hown, hts⟩ (m_codeOf l G H.size (nI (dg k nw j_p4))) (va_cwS 1 hts gX10_drawn_X10_codeOf rfl rfl rfl (by decide +kernel) ⟨by decide +kernel, by decide +kernel⟩) (pre_S E hP hD hS hA [] (by decide) rfl) rfl rfl hl.1 rfl (lv_room (Nat.le_of_ble_eq_true rfl)) dX10_drawn_189 ⟨by decide +kernel, by decide +kernel⟩) hS hP hD hA [] rfl (fun r76 _ H locs w75 hP hS => ?_)
                  have hP9 := (hP.sub (ws' := [(h1, .inr (6, [.int (nI k), .ref a_maps, .int told, .ref a_kinds, v_land, v_spades, .ref a_part, v_pad, v_padMany, v_slips, v_slipMany, .int md, v_queue, v_depth, v_by, v_from, v_come, v_offOf, v_parent, v_best, v_trees, v_least, v_sums, v_toward, v_kept, v_isKept, v_keptAt, v_isWriting])), (a_maps, .inl (gI G, 6, .inl fm)), (a_kinds, .inl (gI G, 4, .inl fk)), (a_part, .inl (gI G, 6, .inl fp))]) [0, 1, 2, 3] rfl)
                  have hD9 := (hD.sub (ws' := [(h1, .inr (6, [.int (nI k), .ref a_maps, .int told, .ref a_kinds, v_land, v_spades, .ref a_part, v_pad, v_padMany, v_slips, v_slipMany, .int md, v_queue, v_depth, v_by, v_from, v_come, v_offOf, v_parent, v_best, v_trees, v_least, v_sums, v_toward, v_kept, v_isKept, v_keptAt, v_isWriting])), (a_maps, .inl (gI G, 6, .inl fm)), (a_kinds, .inl (gI G, 4, .inl fk)), (a_part, .inl (gI G, 6, .inl fp))]) [0, 1, 2, 3] (by decide) rfl)
                  exact W.iret (v := r76) hx hb hr (fun t9_ ht9_ hW9_ => ⟨⟨r76, md, rfl, by rw [w75, hfin]; exact dwA_5 hk6 hj_p1 ej_p1 hj_p2 ej_p2 hj_p0 ej_p0 hj_p3 ej_p3 hj_p4 ej_p4 (by rw [ej_p1]; exact b68), by rw [ht9_]; exact hP9, hD9⟩, hS.F ht9_⟩) hS.2.2 dX10_drawn_192
                · have c71 : ¬ j_p3 ≤ x := fun h9_ => c71 ((nI_leI (a := j_p3) (b := x) (by omega) (by omega)).mpr h9_)
                  have hxx := haa.2.1
                  refine lv_ldc2 (v := 75) hx hb hown (hts (.constantLong RX10 234 (75)) (by decide +kernel)) dX10_drawn_91 ?_
                  refine lv_iload hx hb dX10_drawn_94 (lv_at hl 1 rfl) ?_
                  refine lv_i2l hx hb dX10_drawn_96 rfl ?_
                  refine lv_topl (fun x77 ex77 => ?_)
                  refine lv_lmul hx hb dX10_drawn_97 ?_
                  refine lv_topl (fun x78 ex78 => ?_)
                  refine lv_ldc2 (v := 74) hx hb hown (hts (.constantLong RX10 236 (74)) (by decide +kernel)) dX10_drawn_98 ?_
                  refine lv_ladd hx hb dX10_drawn_101 ?_
                  refine lv_topl (fun x79 ex79 => ?_)
                  refine lv_ldc2 (v := 65537) hx hb hown (hts (.constantLong RX10 238 (65537)) (by decide +kernel)) dX10_drawn_102 ?_
                  refine lv_lrem hx hb dX10_drawn_105 (by decide) ?_
                  refine lv_topl (fun x80 ex80 => ?_)
                  refine lv_l2i hx hb dX10_drawn_106 rfl ?_
                  refine lv_topi (fun x81 ex81 => ?_)
                  have hr9 := drw hxx ex77 ex78 ex79 ex80 ex81
                  obtain rfl : x81 = nI ((75 * xx + 74) % 65537) := hr9
                  refine lv_istore (lv' := [(7, .int (nI ((75 * xx + 74) % 65537))), (8, .int (nI x)), (6, .int (nI nw)), (0, .ref h1), (1, .int (nI j_p0)), (2, .int (nI j_p1)), (3, .int (nI j_p2)), (4, .int (nI j_p3)), (5, .int (nI j_p4))]) hx hb dX10_drawn_107 hl (by decide) rfl (fun ls hl => ?_)
                  refine lv_aload_n hx hb dX10_drawn_109 rfl (lv_at hl 3 rfl) ?_
                  refine lv_iload hx hb dX10_drawn_110 (lv_at hl 2 rfl) ?_
                  refine lv_aload_n hx hb dX10_drawn_112 rfl (lv_at hl 3 rfl) ?_
                  refine va_get (D := G.1) (ci := 6) (v := .ref a_kinds) (C := RX10) (T := TX10) (N := 28) hx hb hts (fun _ h => List.mem_cons_of_mem _ (List.mem_append_right _ h)) hown E.K hP 0 rfl rfl 3 (by decide) (hts (.fieldLink RX10 13 "LastMapModel" "kinds" "[I") (by decide +kernel)) (fun _ h9 => h9) rfl dX10_drawn_113 ?_
                  refine lv_iload_n hx hb dX10_drawn_116 rfl (lv_at hl 6 rfl) ?_
                  refine va_iald hx hb E.K hP 2 1 rfl rfl (i := nI j_p2) (vp_in_nI (by omega) (by decide)) dX10_drawn_117 ?_
                  refine lv_topi (fun x82 ex82 => ?_)
                  obtain rfl : x82 = fk j_p2 := by rw [ex82, nI_clamp (by omega)]
                  refine lv_bipush (v := (-6)) hx hb dX10_drawn_118 (by decide) ?_
                  refine ca_i (wr := [(a_maps, .inl (gI G, 6, .inl fm)), (a_kinds, .inl (gI G, 4, .inl fk))]) (va_runV (As := [.int (nI nw), .int (fk j_p2), .int (-6)]) (rest := []) ⟨hx, hb, hml, hown, hts⟩ (m2_slipsFrom l G H.size h1 (.ref a_maps) (.int told) (.ref a_kinds) v_land v_spades v_pad v_padMany v_slips v_slipMany v_queue v_depth v_by v_from v_come v_offOf v_parent v_best v_trees v_least v_sums v_toward v_kept v_isKept v_keptAt v_isWriting a_part fp k nw md (fk j_p2) (-6) hk2 hk6 hp haa.1) (cwV 3 hts gX10_drawn_X10_slipsFrom rfl rfl rfl (by decide +kernel) ⟨by decide +kernel, by decide +kernel⟩) (pre_V E hP hD hS hA [0, 3] (by decide) rfl 0 6 rfl rfl) rfl rfl hl.1 rfl (lv_room (Nat.le_of_ble_eq_true rfl)) dX10_drawn_120 ⟨by decide +kernel, by decide +kernel⟩) hS hP hD hA [0, 3] [1, 2] rfl rfl (by decide) (by decide) (fun r84 u85 H locs w83 hP hD hS => ?_)
                  obtain ⟨md1_86, rfl⟩ : ∃ z, z = u85 := ⟨_, rfl⟩
                  try dsimp only at w83 hP hD
                  have hP := (hP.sub (ws' := [(h1, .inr (6, [.int (nI k), .ref a_maps, .int told, .ref a_kinds, v_land, v_spades, .ref a_part, v_pad, v_padMany, v_slips, v_slipMany, .int md1_86, v_queue, v_depth, v_by, v_from, v_come, v_offOf, v_parent, v_best, v_trees, v_least, v_sums, v_toward, v_kept, v_isKept, v_keptAt, v_isWriting])), (a_maps, .inl (gI G, 6, .inl fm)), (a_kinds, .inl (gI G, 4, .inl fk)), (a_part, .inl (gI G, 6, .inl fp))]) [2, 0, 1, 3] rfl)
                  have hD := (hD.sub (ws' := [(h1, .inr (6, [.int (nI k), .ref a_maps, .int told, .ref a_kinds, v_land, v_spades, .ref a_part, v_pad, v_padMany, v_slips, v_slipMany, .int md1_86, v_queue, v_depth, v_by, v_from, v_come, v_offOf, v_parent, v_best, v_trees, v_least, v_sums, v_toward, v_kept, v_isKept, v_keptAt, v_isWriting])), (a_maps, .inl (gI G, 6, .inl fm)), (a_kinds, .inl (gI G, 4, .inl fk)), (a_part, .inl (gI G, 6, .inl fp))]) [2, 0, 1, 3] (by decide) rfl)
                  have hc9 := cSl_le k (bK (fk j_p2)) nw (manyS k)
                  obtain rfl : r84 = nI (cSl k (bK (fk j_p2)) nw (manyS k)) := w83.1
                  refine lv_istore (lv' := [(9, .int (nI (cSl k (bK (fk j_p2)) nw (manyS k)))), (7, .int (nI ((75 * xx + 74) % 65537))), (8, .int (nI x)), (6, .int (nI nw)), (0, .ref h1), (1, .int (nI j_p0)), (2, .int (nI j_p1)), (3, .int (nI j_p2)), (4, .int (nI j_p3)), (5, .int (nI j_p4))]) hx hb dX10_drawn_123 hl (by decide) rfl (fun ls hl => ?_)
                  refine lv_iload hx hb dX10_drawn_125 (lv_at hl 0 rfl) ?_
                  refine lv_if_le (tgt := 154) hx hb dX10_drawn_127 (by decide) (fun c87 => ?_) (fun c87 => ?_)
                  · have c87 : (cSl k (bK (fk j_p2)) nw (manyS k)) ≤ 0 := (nI_leI (a := (cSl k (bK (fk j_p2)) nw (manyS k))) (b := 0) (by omega) (by omega)).mp c87
                    have hdw : dwN k (bK (fk j_p2)) nw ((75 * xx + 74) % 65537) = nw := dwN_0 (by omega)
                    have hnew : nw < 5 ^ k ∧ (75 * xx + 74) % 65537 ≤ 65536 ∧ drN k (bK (fk j_p2)) j_p3 j_p0 (maN fm j_p1) = drN k (bK (fk j_p2)) (j_p3 - (x + 1)) ((75 * xx + 74) % 65537) nw := ⟨by rw [← hdw]; exact dwN_lt haa.1, by omega, by rw [haa.2.2, show j_p3 - x = (j_p3 - (x + 1)) + 1 by omega]; show drN k (bK (fk j_p2)) (j_p3 - (x + 1)) ((75 * xx + 74) % 65537) (dwN k (bK (fk j_p2)) nw ((75 * xx + 74) % 65537)) = _; rw [hdw]⟩
                    obtain ⟨x88, ex88⟩ : ∃ yy_ : Int32, yy_ = (nI x) + 1 := ⟨_, rfl⟩
                    refine lv_iinc (v := x88) (lv' := [(8, .int x88), (9, .int (nI (cSl k (bK (fk j_p2)) nw (manyS k)))), (7, .int (nI ((75 * xx + 74) % 65537))), (6, .int (nI nw)), (0, .ref h1), (1, .int (nI j_p0)), (2, .int (nI j_p1)), (3, .int (nI j_p2)), (4, .int (nI j_p3)), (5, .int (nI j_p4))]) hx hb dX10_drawn_154 hl (k := 2) rfl (by rw [ex88]; rfl) (by decide) rfl (fun ls hl => ?_)
                    obtain rfl : x88 = nI (x + 1) := by rw [ex88]; exact nI_add x 1
                    refine lv_goto (tgt := 84) hx hb dX10_drawn_157 (by decide) ?_
                    refine ih84 ((x + 1), nw, ((75 * xx + 74) % 65537), md1_86) ⟨?_, ?_⟩ (by first | omega | (dsimp only; omega)) H locs ls (hP.sub [0, 1, 2, 3] rfl) (hD.sub [0, 1, 2, 3] (by decide) rfl) hS (lv_sub hl [0, 2, 3, 4, 5, 6, 7, 8, 9] rfl)
                    · try dsimp only
                      omega
                    · try dsimp only
                      exact hnew
                  · have c87 : ¬ (cSl k (bK (fk j_p2)) nw (manyS k)) ≤ 0 := fun h9_ => c87 ((nI_leI (a := (cSl k (bK (fk j_p2)) nw (manyS k))) (b := 0) (by omega) (by omega)).mpr h9_)
                    refine lv_aload_n hx hb dX10_drawn_130 rfl (lv_at hl 4 rfl) ?_
                    refine lv_iload hx hb dX10_drawn_131 (lv_at hl 3 rfl) ?_
                    refine lv_aload_n hx hb dX10_drawn_133 rfl (lv_at hl 4 rfl) ?_
                    refine va_get (D := G.1) (ci := 6) (v := .ref a_kinds) (C := RX10) (T := TX10) (N := 28) hx hb hts (fun _ h => List.mem_cons_of_mem _ (List.mem_append_right _ h)) hown E.K hP 0 rfl rfl 3 (by decide) (hts (.fieldLink RX10 13 "LastMapModel" "kinds" "[I") (by decide +kernel)) (fun _ h9 => h9) rfl dX10_drawn_134 ?_
                    refine lv_iload_n hx hb dX10_drawn_137 rfl (lv_at hl 7 rfl) ?_
                    refine va_iald hx hb E.K hP 2 1 rfl rfl (i := nI j_p2) (vp_in_nI (by omega) (by decide)) dX10_drawn_138 ?_
                    refine lv_topi (fun x89 ex89 => ?_)
                    obtain rfl : x89 = fk j_p2 := by rw [ex89, nI_clamp (by omega)]
                    refine lv_iload hx hb dX10_drawn_139 (lv_at hl 1 rfl) ?_
                    refine lv_iload hx hb dX10_drawn_141 (lv_at hl 0 rfl) ?_
                    refine lv_irem hx hb dX10_drawn_143 (nI_ne0 (by omega) (by omega)) ?_
                    refine lv_topi (fun x90 ex90 => ?_)
                    obtain rfl : x90 = nI ((75 * xx + 74) % 65537 % cSl k (bK (fk j_p2)) nw (manyS k)) := by rw [ex90]; exact pk_rem (by omega) (by omega) (by omega)
                    refine ca_i (wr := [(a_maps, .inl (gI G, 6, .inl fm)), (a_kinds, .inl (gI G, 4, .inl fk))]) (va_runV (As := [.int (nI nw), .int (fk j_p2), .int (nI ((75 * xx + 74) % 65537 % cSl k (bK (fk j_p2)) nw (manyS k)))]) (rest := []) ⟨hx, hb, hml, hown, hts⟩ (m2_slipsFrom l G H.size h1 (.ref a_maps) (.int told) (.ref a_kinds) v_land v_spades v_pad v_padMany v_slips v_slipMany v_queue v_depth v_by v_from v_come v_offOf v_parent v_best v_trees v_least v_sums v_toward v_kept v_isKept v_keptAt v_isWriting a_part fp k nw md1_86 (fk j_p2) (nI ((75 * xx + 74) % 65537 % cSl k (bK (fk j_p2)) nw (manyS k))) hk2 hk6 hp haa.1) (cwV 3 hts gX10_drawn_X10_slipsFrom rfl rfl rfl (by decide +kernel) ⟨by decide +kernel, by decide +kernel⟩) (pre_V E hP hD hS hA [0, 3] (by decide) rfl 0 6 rfl rfl) rfl rfl hl.1 rfl (lv_room (Nat.le_of_ble_eq_true rfl)) dX10_drawn_144 ⟨by decide +kernel, by decide +kernel⟩) hS hP hD hA [0, 3] [1, 2] rfl rfl (by decide) (by decide) (fun r92 u93 H locs w91 hP hD hS => ?_)
                    obtain ⟨md1_94, rfl⟩ : ∃ z, z = u93 := ⟨_, rfl⟩
                    try dsimp only at w91 hP hD
                    have hP := (hP.sub (ws' := [(h1, .inr (6, [.int (nI k), .ref a_maps, .int told, .ref a_kinds, v_land, v_spades, .ref a_part, v_pad, v_padMany, v_slips, v_slipMany, .int md1_94, v_queue, v_depth, v_by, v_from, v_come, v_offOf, v_parent, v_best, v_trees, v_least, v_sums, v_toward, v_kept, v_isKept, v_keptAt, v_isWriting])), (a_maps, .inl (gI G, 6, .inl fm)), (a_kinds, .inl (gI G, 4, .inl fk)), (a_part, .inl (gI G, 6, .inl fp))]) [2, 0, 1, 3] rfl)
                    have hD := (hD.sub (ws' := [(h1, .inr (6, [.int (nI k), .ref a_maps, .int told, .ref a_kinds, v_land, v_spades, .ref a_part, v_pad, v_padMany, v_slips, v_slipMany, .int md1_94, v_queue, v_depth, v_by, v_from, v_come, v_offOf, v_parent, v_best, v_trees, v_least, v_sums, v_toward, v_kept, v_isKept, v_keptAt, v_isWriting])), (a_maps, .inl (gI G, 6, .inl fm)), (a_kinds, .inl (gI G, 4, .inl fk)), (a_part, .inl (gI G, 6, .inl fp))]) [2, 0, 1, 3] (by decide) rfl)
                    refine lv_pop hx hb dX10_drawn_147 rfl ?_
                    refine lv_aload_n hx hb dX10_drawn_148 rfl (lv_at hl 4 rfl) ?_
                    refine va_get (D := G.1) (ci := 6) (v := .int md1_94) (C := RX10) (T := TX10) (N := 28) hx hb hts (fun _ h => List.mem_cons_of_mem _ (List.mem_append_right _ h)) hown E.K hP 0 rfl rfl 11 (by decide) (hts (.fieldLink RX10 149 "LastMapModel" "made" "I") (by decide +kernel)) (fun _ h9 => h9) rfl dX10_drawn_149 ?_
                    refine W.eq (g2 := F0 m 152 ls [.int (nI (dnS k (bK (fk j_p2)) nw ((75 * xx + 74) % 65537 % cSl k (bK (fk j_p2)) nw (manyS k)) (manyS k)))]) (by rw [w91.2 ((75 * xx + 74) % 65537 % cSl k (bK (fk j_p2)) nw (manyS k)) rfl (Nat.mod_lt _ (by omega))]) ?_
                    refine lv_istore (lv' := [(6, .int (nI (dnS k (bK (fk j_p2)) nw ((75 * xx + 74) % 65537 % cSl k (bK (fk j_p2)) nw (manyS k)) (manyS k)))), (9, .int (nI (cSl k (bK (fk j_p2)) nw (manyS k)))), (7, .int (nI ((75 * xx + 74) % 65537))), (8, .int (nI x)), (0, .ref h1), (1, .int (nI j_p0)), (2, .int (nI j_p1)), (3, .int (nI j_p2)), (4, .int (nI j_p3)), (5, .int (nI j_p4))]) hx hb dX10_drawn_152 hl (by decide) rfl (fun ls hl => ?_)
                    have hdw : dwN k (bK (fk j_p2)) nw ((75 * xx + 74) % 65537) = (dnS k (bK (fk j_p2)) nw ((75 * xx + 74) % 65537 % cSl k (bK (fk j_p2)) nw (manyS k)) (manyS k)) := dwN_s (by omega)
                    have hnew : (dnS k (bK (fk j_p2)) nw ((75 * xx + 74) % 65537 % cSl k (bK (fk j_p2)) nw (manyS k)) (manyS k)) < 5 ^ k ∧ (75 * xx + 74) % 65537 ≤ 65536 ∧ drN k (bK (fk j_p2)) j_p3 j_p0 (maN fm j_p1) = drN k (bK (fk j_p2)) (j_p3 - (x + 1)) ((75 * xx + 74) % 65537) (dnS k (bK (fk j_p2)) nw ((75 * xx + 74) % 65537 % cSl k (bK (fk j_p2)) nw (manyS k)) (manyS k)) := ⟨by rw [← hdw]; exact dwN_lt haa.1, by omega, by rw [haa.2.2, show j_p3 - x = (j_p3 - (x + 1)) + 1 by omega]; show drN k (bK (fk j_p2)) (j_p3 - (x + 1)) ((75 * xx + 74) % 65537) (dwN k (bK (fk j_p2)) nw ((75 * xx + 74) % 65537)) = _; rw [hdw]⟩
                    obtain ⟨x95, ex95⟩ : ∃ yy_ : Int32, yy_ = (nI x) + 1 := ⟨_, rfl⟩
                    refine lv_iinc (v := x95) (lv' := [(8, .int x95), (6, .int (nI (dnS k (bK (fk j_p2)) nw ((75 * xx + 74) % 65537 % cSl k (bK (fk j_p2)) nw (manyS k)) (manyS k)))), (9, .int (nI (cSl k (bK (fk j_p2)) nw (manyS k)))), (7, .int (nI ((75 * xx + 74) % 65537))), (0, .ref h1), (1, .int (nI j_p0)), (2, .int (nI j_p1)), (3, .int (nI j_p2)), (4, .int (nI j_p3)), (5, .int (nI j_p4))]) hx hb dX10_drawn_154 hl (k := 3) rfl (by rw [ex95]; rfl) (by decide) rfl (fun ls hl => ?_)
                    obtain rfl : x95 = nI (x + 1) := by rw [ex95]; exact nI_add x 1
                    refine lv_goto (tgt := 84) hx hb dX10_drawn_157 (by decide) ?_
                    refine ih84 ((x + 1), (dnS k (bK (fk j_p2)) nw ((75 * xx + 74) % 65537 % cSl k (bK (fk j_p2)) nw (manyS k)) (manyS k)), ((75 * xx + 74) % 65537), md1_94) ⟨?_, ?_⟩ (by first | omega | (dsimp only; omega)) H locs ls (hP.sub [0, 1, 2, 3] rfl) (hD.sub [0, 1, 2, 3] (by decide) rfl) hS (lv_sub hl [0, 3, 1, 4, 5, 6, 7, 8, 9] rfl)
                    · try dsimp only
                      omega
                    · try dsimp only
                      exact hnew
              · refine lv_if_ne (tgt := 70) hx hb dX10_drawn_64 (by decide) (fun c96 => False.elim (by revert c96; decide)) (fun _ => ?_)
                refine lv_bipush (v := (-3)) hx hb dX10_drawn_67 (by decide) ?_
                have hP9 := (hP.sub (ws' := [(h1, .inr (6, [.int (nI k), .ref a_maps, .int told, .ref a_kinds, v_land, v_spades, .ref a_part, v_pad, v_padMany, v_slips, v_slipMany, .int md0, v_queue, v_depth, v_by, v_from, v_come, v_offOf, v_parent, v_best, v_trees, v_least, v_sums, v_toward, v_kept, v_isKept, v_keptAt, v_isWriting])), (a_maps, .inl (gI G, 6, .inl fm)), (a_kinds, .inl (gI G, 4, .inl fk)), (a_part, .inl (gI G, 6, .inl fp))]) [0, 1, 2, 3] rfl)
                have hD9 := (hD.sub (ws' := [(h1, .inr (6, [.int (nI k), .ref a_maps, .int told, .ref a_kinds, v_land, v_spades, .ref a_part, v_pad, v_padMany, v_slips, v_slipMany, .int md0, v_queue, v_depth, v_by, v_from, v_come, v_offOf, v_parent, v_best, v_trees, v_least, v_sums, v_toward, v_kept, v_isKept, v_keptAt, v_isWriting])), (a_maps, .inl (gI G, 6, .inl fm)), (a_kinds, .inl (gI G, 4, .inl fk)), (a_part, .inl (gI G, 6, .inl fp))]) [0, 1, 2, 3] (by decide) rfl)
                exact W.iret (v := (-3)) hx hb hr (fun t9_ ht9_ hW9_ => ⟨⟨(-3), md0, rfl, dwA_3 ⟨b3, b7, Or.inr ⟨j_p4, hj_p4, ej_p4⟩⟩ ⟨b59, b64⟩ (fun q9 => b68 (by rw [← ej_p1]; exact q9)), by rw [ht9_]; exact hP9, hD9⟩, hS.F ht9_⟩) hS.2.2 dX10_drawn_69
            · refine lv_if_ne (tgt := 59) hx hb dX10_drawn_53 (by decide) (fun c97 => False.elim (by revert c97; decide)) (fun _ => ?_)
              refine lv_bipush (v := (-2)) hx hb dX10_drawn_56 (by decide) ?_
              have hP9 := (hP.sub (ws' := [(h1, .inr (6, [.int (nI k), .ref a_maps, .int told, .ref a_kinds, v_land, v_spades, .ref a_part, v_pad, v_padMany, v_slips, v_slipMany, .int md0, v_queue, v_depth, v_by, v_from, v_come, v_offOf, v_parent, v_best, v_trees, v_least, v_sums, v_toward, v_kept, v_isKept, v_keptAt, v_isWriting])), (a_maps, .inl (gI G, 6, .inl fm)), (a_kinds, .inl (gI G, 4, .inl fk)), (a_part, .inl (gI G, 6, .inl fp))]) [0, 1, 2, 3] rfl)
              have hD9 := (hD.sub (ws' := [(h1, .inr (6, [.int (nI k), .ref a_maps, .int told, .ref a_kinds, v_land, v_spades, .ref a_part, v_pad, v_padMany, v_slips, v_slipMany, .int md0, v_queue, v_depth, v_by, v_from, v_come, v_offOf, v_parent, v_best, v_trees, v_least, v_sums, v_toward, v_kept, v_isKept, v_keptAt, v_isWriting])), (a_maps, .inl (gI G, 6, .inl fm)), (a_kinds, .inl (gI G, 4, .inl fk)), (a_part, .inl (gI G, 6, .inl fp))]) [0, 1, 2, 3] (by decide) rfl)
              exact W.iret (v := (-2)) hx hb hr (fun t9_ ht9_ hW9_ => ⟨⟨(-2), md0, rfl, dwA_2 ⟨b3, b7, Or.inr ⟨j_p4, hj_p4, ej_p4⟩⟩ (fun q9 => b64 q9.2), by rw [ht9_]; exact hP9, hD9⟩, hS.F ht9_⟩) hS.2.2 dX10_drawn_58
          · refine lv_if_eq (tgt := 56) hx hb dX10_drawn_40 (by decide) (fun _ => ?_) (fun c98 => False.elim (by revert c98; decide))
            refine lv_bipush (v := (-2)) hx hb dX10_drawn_56 (by decide) ?_
            have hP9 := (hP.sub (ws' := [(h1, .inr (6, [.int (nI k), .ref a_maps, .int told, .ref a_kinds, v_land, v_spades, .ref a_part, v_pad, v_padMany, v_slips, v_slipMany, .int md0, v_queue, v_depth, v_by, v_from, v_come, v_offOf, v_parent, v_best, v_trees, v_least, v_sums, v_toward, v_kept, v_isKept, v_keptAt, v_isWriting])), (a_maps, .inl (gI G, 6, .inl fm)), (a_kinds, .inl (gI G, 4, .inl fk)), (a_part, .inl (gI G, 6, .inl fp))]) [0, 1, 2, 3] rfl)
            have hD9 := (hD.sub (ws' := [(h1, .inr (6, [.int (nI k), .ref a_maps, .int told, .ref a_kinds, v_land, v_spades, .ref a_part, v_pad, v_padMany, v_slips, v_slipMany, .int md0, v_queue, v_depth, v_by, v_from, v_come, v_offOf, v_parent, v_best, v_trees, v_least, v_sums, v_toward, v_kept, v_isKept, v_keptAt, v_isWriting])), (a_maps, .inl (gI G, 6, .inl fm)), (a_kinds, .inl (gI G, 4, .inl fk)), (a_part, .inl (gI G, 6, .inl fp))]) [0, 1, 2, 3] (by decide) rfl)
            exact W.iret (v := (-2)) hx hb hr (fun t9_ ht9_ hW9_ => ⟨⟨(-2), md0, rfl, dwA_2 ⟨b3, b7, Or.inr ⟨j_p4, hj_p4, ej_p4⟩⟩ (fun q9 => b59 q9.1), by rw [ht9_]; exact hP9, hD9⟩, hS.F ht9_⟩) hS.2.2 dX10_drawn_58
        · refine lv_if_ne (tgt := 31) hx hb dX10_drawn_26 (by decide) (fun c99 => False.elim (by revert c99; decide)) (fun _ => ?_)
          refine lv_iconst (v := (-1)) hx hb dX10_drawn_29 (by decide) ?_
          have hP9 := (hP.sub (ws' := [(h1, .inr (6, [.int (nI k), .ref a_maps, .int told, .ref a_kinds, v_land, v_spades, .ref a_part, v_pad, v_padMany, v_slips, v_slipMany, .int md0, v_queue, v_depth, v_by, v_from, v_come, v_offOf, v_parent, v_best, v_trees, v_least, v_sums, v_toward, v_kept, v_isKept, v_keptAt, v_isWriting])), (a_maps, .inl (gI G, 6, .inl fm)), (a_kinds, .inl (gI G, 4, .inl fk)), (a_part, .inl (gI G, 6, .inl fp))]) [0, 1, 2, 3] rfl)
          have hD9 := (hD.sub (ws' := [(h1, .inr (6, [.int (nI k), .ref a_maps, .int told, .ref a_kinds, v_land, v_spades, .ref a_part, v_pad, v_padMany, v_slips, v_slipMany, .int md0, v_queue, v_depth, v_by, v_from, v_come, v_offOf, v_parent, v_best, v_trees, v_least, v_sums, v_toward, v_kept, v_isKept, v_keptAt, v_isWriting])), (a_maps, .inl (gI G, 6, .inl fm)), (a_kinds, .inl (gI G, 4, .inl fk)), (a_part, .inl (gI G, 6, .inl fp))]) [0, 1, 2, 3] (by decide) rfl)
          exact W.iret (v := (-1)) hx hb hr (fun t9_ ht9_ hW9_ => ⟨⟨(-1), md0, rfl, dwA_1 (fun q9 => q9.2.2.elim c9 b54), by rw [ht9_]; exact hP9, hD9⟩, hS.F ht9_⟩) hS.2.2 dX10_drawn_30
    · refine lv_if_eq (tgt := 29) hx hb dX10_drawn_11 (by decide) (fun _ => ?_) (fun c100 => False.elim (by revert c100; decide))
      refine lv_iconst (v := (-1)) hx hb dX10_drawn_29 (by decide) ?_
      have hP9 := (hP.sub (ws' := [(h1, .inr (6, [.int (nI k), .ref a_maps, .int told, .ref a_kinds, v_land, v_spades, .ref a_part, v_pad, v_padMany, v_slips, v_slipMany, .int md0, v_queue, v_depth, v_by, v_from, v_come, v_offOf, v_parent, v_best, v_trees, v_least, v_sums, v_toward, v_kept, v_isKept, v_keptAt, v_isWriting])), (a_maps, .inl (gI G, 6, .inl fm)), (a_kinds, .inl (gI G, 4, .inl fk)), (a_part, .inl (gI G, 6, .inl fp))]) [0, 1, 2, 3] rfl)
      have hD9 := (hD.sub (ws' := [(h1, .inr (6, [.int (nI k), .ref a_maps, .int told, .ref a_kinds, v_land, v_spades, .ref a_part, v_pad, v_padMany, v_slips, v_slipMany, .int md0, v_queue, v_depth, v_by, v_from, v_come, v_offOf, v_parent, v_best, v_trees, v_least, v_sums, v_toward, v_kept, v_isKept, v_keptAt, v_isWriting])), (a_maps, .inl (gI G, 6, .inl fm)), (a_kinds, .inl (gI G, 4, .inl fk)), (a_part, .inl (gI G, 6, .inl fp))]) [0, 1, 2, 3] (by decide) rfl)
      exact W.iret (v := (-1)) hx hb hr (fun t9_ ht9_ hW9_ => ⟨⟨(-1), md0, rfl, dwA_1 (fun q9 => b7 q9.2.1), by rw [ht9_]; exact hP9, hD9⟩, hS.F ht9_⟩) hS.2.2 dX10_drawn_30
  · refine lv_if_eq (tgt := 29) hx hb dX10_drawn_4 (by decide) (fun _ => ?_) (fun c101 => False.elim (by revert c101; decide))
    refine lv_iconst (v := (-1)) hx hb dX10_drawn_29 (by decide) ?_
    have hP9 := (hP.sub (ws' := [(h1, .inr (6, [.int (nI k), .ref a_maps, .int told, .ref a_kinds, v_land, v_spades, .ref a_part, v_pad, v_padMany, v_slips, v_slipMany, .int md0, v_queue, v_depth, v_by, v_from, v_come, v_offOf, v_parent, v_best, v_trees, v_least, v_sums, v_toward, v_kept, v_isKept, v_keptAt, v_isWriting])), (a_maps, .inl (gI G, 6, .inl fm)), (a_kinds, .inl (gI G, 4, .inl fk)), (a_part, .inl (gI G, 6, .inl fp))]) [0, 1, 2, 3] rfl)
    have hD9 := (hD.sub (ws' := [(h1, .inr (6, [.int (nI k), .ref a_maps, .int told, .ref a_kinds, v_land, v_spades, .ref a_part, v_pad, v_padMany, v_slips, v_slipMany, .int md0, v_queue, v_depth, v_by, v_from, v_come, v_offOf, v_parent, v_best, v_trees, v_least, v_sums, v_toward, v_kept, v_isKept, v_keptAt, v_isWriting])), (a_maps, .inl (gI G, 6, .inl fm)), (a_kinds, .inl (gI G, 4, .inl fk)), (a_part, .inl (gI G, 6, .inl fp))]) [0, 1, 2, 3] (by decide) rfl)
    exact W.iret (v := (-1)) hx hb hr (fun t9_ ht9_ hW9_ => ⟨⟨(-1), md0, rfl, dwA_1 (fun q9 => b3 q9.1), by rw [ht9_]; exact hP9, hD9⟩, hS.F ht9_⟩) hS.2.2 dX10_drawn_30
