theorem drw {n : Nat} (h : n ≤ 65536) {x y z : Int64} {r : Int32} (e1 : x = (nI n).toInt64) (e2 : y = 75 * x) (e3 : z = y + 74) {q : Int64} (e4 : q = z - z / 65537 * 65537) (e5 : r = q.toInt32) : r = nI ((75 * n + 74) % 65537) := by
  have h1 : z = lN (75 * n + 74) := by
    rw [e3, e2, e1, nI_l (by omega)]
    show lN 75 * lN n + lN 74 = _
    rw [lN_mul, lN_add]
  have hz : z.toInt = ((75 * n + 74 : Nat) : Int) := by rw [h1]; exact lN_toInt (by omega)
  have hq : q.toInt = (((75 * n + 74) % 65537 : Nat) : Int) := by
    have hd : (z / 65537).toInt = (((75 * n + 74) / 65537 : Nat) : Int) := by
      rw [Int64.toInt_div, hz, show (65537 : Int64).toInt = ((65537 : Nat) : Int) from rfl, ← Int.ofNat_tdiv]
      apply Int.bmod_eq_of_le <;> omega
    have hm : (z / 65537 * 65537).toInt = (((75 * n + 74) / 65537 * 65537 : Nat) : Int) := by
      rw [Int64.toInt_mul, hd, show (65537 : Int64).toInt = ((65537 : Nat) : Int) from rfl, ← Int.natCast_mul]
      apply Int.bmod_eq_of_le <;> omega
    rw [e4, Int64.toInt_sub, hz, hm]
    have h5 := Nat.div_add_mod (75 * n + 74) 65537
    have h6 : ((75 * n + 74 : Nat) : Int) - (((75 * n + 74) / 65537 * 65537 : Nat) : Int) = (((75 * n + 74) % 65537 : Nat) : Int) := by omega
    rw [h6]
    apply Int.bmod_eq_of_le <;> omega
  have h7 : q = lN ((75 * n + 74) % 65537) := Int64.toInt_inj.mp (by rw [hq, lN_toInt (by omega)])
  rw [e5, h7, lN_i]

set_option maxHeartbeats 1000000 in
set_option maxRecDepth 100000 in
theorem m_spades (l : Launch) (G : Gy) (sz : Nat) (h1 : Nat) (v_sites : Value) (v_maps : Value) (v_told : Value) (v_kinds : Value) (v_land : Value) (v_part : Value) (v_pad : Value) (v_padMany : Value) (v_slips : Value) (v_slipMany : Value) (v_made : Value) (v_queue : Value) (v_depth : Value) (v_by : Value) (v_from : Value) (v_come : Value) (v_offOf : Value) (v_parent : Value) (v_best : Value) (v_trees : Value) (v_least : Value) (v_sums : Value) (v_toward : Value) (v_kept : Value) (v_isKept : Value) (v_keptAt : Value) (v_isWriting : Value) (sp : Int32) (p0 : Int32)  : Ci l G yX10_spades wsX10_spades ({ frames := 1, cells := 0, slots := 0, locals := 25 }) [.ref h1, .int p0] ([(h1, .inr (6, [v_sites, v_maps, v_told, v_kinds, v_land, .int sp, v_part, v_pad, v_padMany, v_slips, v_slipMany, v_made, v_queue, v_depth, v_by, v_from, v_come, v_offOf, v_parent, v_best, v_trees, v_least, v_sums, v_toward, v_kept, v_isKept, v_keptAt, v_isWriting]))]) sz (fun (r : Int32) (sp1 : Int32) => (inR p0 1 6 ∧ r = sp ∧ sp1 = p0) ∨ (¬ inR p0 1 6 ∧ r = (-2) ∧ sp1 = sp)) (fun (sp1 : Int32) => [(h1, .inr (6, [v_sites, v_maps, v_told, v_kinds, v_land, .int sp1, v_part, v_pad, v_padMany, v_slips, v_slipMany, v_made, v_queue, v_depth, v_by, v_from, v_come, v_offOf, v_parent, v_best, v_trees, v_least, v_sums, v_toward, v_kept, v_isKept, v_keptAt, v_isWriting]))]) 0 0 := by
  refine Met.ofW (cc := cX10_spades) (maxL := 3) (ret := (some .int)) (by decide) rfl ?_
  intro p e s m args below meth c s₁ B hml hv
  obtain ⟨rfl, hsz, hP, hD0, E0⟩ := hv
  have hx := B.exec
  have hb := B.bytes
  have hr := B.returns
  have hts := atoms_spec (ws := wsX10_spades) B.pre
  have hown : s.vm.findClass RX10 = some m.cls := findClass_of_methodNamed B.named
  have hlocks := B.notSynchronized
  subst hsz
  have hD := hD0.self (sz := s.heap.size)
  generalize hAe : va_A ([(h1, .inr (6, [v_sites, v_maps, v_told, v_kinds, v_land, .int sp, v_part, v_pad, v_padMany, v_slips, v_slipMany, v_made, v_queue, v_depth, v_by, v_from, v_come, v_offOf, v_parent, v_best, v_trees, v_least, v_sums, v_toward, v_kept, v_isKept, v_keptAt, v_isWriting]))]) s.heap.size = A at hD E0 ⊢
  have E : EV G A s s.heap := E0
  have hA : ∀ q : Nat, s.heap.size ≤ q → A q := fun q h => by rw [← hAe]; exact Or.inr h
  have hS : va_S A s.heap s.heap [] := va_S.rf
  have hl := lv_entry ([.ref h1, .int p0]) (n := 3) (Nat.le_of_ble_eq_true rfl)
  rw [lg_entry_eq]
  generalize (lg_sl ([.ref h1, .int p0]) ++ List.replicate (3 - (lg_sl ([.ref h1, .int p0])).length) Slot.unset).toArray = ls at hl ⊢
  have hl : lv_has ls 3 [(0, .ref h1), (1, .int p0)] := hl
  have hP : va_P G.1 vwCl ([(h1, .inr (6, [v_sites, v_maps, v_told, v_kinds, v_land, .int sp, v_part, v_pad, v_padMany, v_slips, v_slipMany, v_made, v_queue, v_depth, v_by, v_from, v_come, v_offOf, v_parent, v_best, v_trees, v_least, v_sums, v_toward, v_kept, v_isKept, v_keptAt, v_isWriting]))]) s.heap := hP
  refine lv_iload_n hx hb dX10_spades_0 rfl (lv_at hl 1 rfl) ?_
  refine lv_i2l hx hb dX10_spades_1 rfl ?_
  refine lv_topl (fun x1 ex1 => ?_)
  refine lv_lconst (v := 1) hx hb dX10_spades_2 (by decide) ?_
  refine lv_ldc2 (v := 6) hx hb hown (hts (.constantLong RX10 89 (6)) (by decide +kernel)) dX10_spades_3 ?_
  refine ca_iR (va_runS (As := [.long x1, .long 1, .long 6]) (rest := []) ⟨hx, hb, hml, hown, hts⟩ (m_in l G s.heap.size x1 1 6 p0 1 6 ex1 (by decide) (by decide)) (va_cwS 3 hts gX10_spades_X10_in rfl rfl rfl (by decide +kernel) ⟨by decide +kernel, by decide +kernel⟩) (pre_S E hP hD hS hA [] (by decide) rfl) rfl rfl hl.1 rfl (lv_room (Nat.le_of_ble_eq_true rfl)) dX10_spades_6 ⟨by decide +kernel, by decide +kernel⟩) hS hP hD hA [] rfl (fun r3 _ H locs w2 hP hS => ?_)
  rcases w2 with ⟨rfl, b4⟩ | ⟨rfl, b4⟩
  · refine lv_if_ne (tgt := 15) hx hb dX10_spades_9 (by decide) (fun _ => ?_) (fun c5 => False.elim (by revert c5; decide))
    refine lv_aload_n hx hb dX10_spades_15 rfl (lv_at hl 0 rfl) ?_
    refine va_get (D := G.1) (ci := 6) (v := .int sp) (C := RX10) (T := TX10) (N := 28) hx hb hts (fun _ h => List.mem_cons_of_mem _ (List.mem_append_right _ h)) hown E.K hP 0 rfl rfl 5 (by decide) (hts (.fieldLink RX10 59 "LastMapModel" "spades" "I") (by decide +kernel)) (fun _ h9 => h9) rfl dX10_spades_16 ?_
    refine lv_istore_n (lv' := [(2, .int sp), (0, .ref h1), (1, .int p0)]) hx hb dX10_spades_19 rfl hl (by decide) rfl (fun ls hl => ?_)
    refine lv_aload_n hx hb dX10_spades_20 rfl (lv_at hl 1 rfl) ?_
    refine lv_iload_n hx hb dX10_spades_21 rfl (lv_at hl 2 rfl) ?_
    refine va_put (D := G.1) (ci := 6) (v := .int p0) (ty := .int) (C := RX10) (T := TX10) (N := 28) hx hb hts (fun _ h => List.mem_cons_of_mem _ (List.mem_append_right _ h)) tyX10 tyX10_ok nmX10 hown E.K hP hD hS 0 rfl rfl 5 (by decide) (hts (.fieldLink RX10 59 "LastMapModel" "spades" "I") (by decide +kernel)) (fun _ h9 => h9) rfl (by decide +kernel) rfl rfl (Nat.le_of_ble_eq_true rfl) dX10_spades_22 (fun H locs hP hD hS => ?_)
    have hP : va_P G.1 vwCl ([(h1, .inr (6, [v_sites, v_maps, v_told, v_kinds, v_land, .int p0, v_part, v_pad, v_padMany, v_slips, v_slipMany, v_made, v_queue, v_depth, v_by, v_from, v_come, v_offOf, v_parent, v_best, v_trees, v_least, v_sums, v_toward, v_kept, v_isKept, v_keptAt, v_isWriting]))]) H := hP
    have hD : va_D A ([(h1, .inr (6, [v_sites, v_maps, v_told, v_kinds, v_land, .int p0, v_part, v_pad, v_padMany, v_slips, v_slipMany, v_made, v_queue, v_depth, v_by, v_from, v_come, v_offOf, v_parent, v_best, v_trees, v_least, v_sums, v_toward, v_kept, v_isKept, v_keptAt, v_isWriting]))]) := hD
    refine lv_iload_n hx hb dX10_spades_25 rfl (lv_at hl 0 rfl) ?_
    have hP9 := (hP.sub (ws' := [(h1, .inr (6, [v_sites, v_maps, v_told, v_kinds, v_land, .int p0, v_part, v_pad, v_padMany, v_slips, v_slipMany, v_made, v_queue, v_depth, v_by, v_from, v_come, v_offOf, v_parent, v_best, v_trees, v_least, v_sums, v_toward, v_kept, v_isKept, v_keptAt, v_isWriting]))]) [0] rfl)
    have hD9 := (hD.sub (ws' := [(h1, .inr (6, [v_sites, v_maps, v_told, v_kinds, v_land, .int p0, v_part, v_pad, v_padMany, v_slips, v_slipMany, v_made, v_queue, v_depth, v_by, v_from, v_come, v_offOf, v_parent, v_best, v_trees, v_least, v_sums, v_toward, v_kept, v_isKept, v_keptAt, v_isWriting]))]) [0] (by decide) rfl)
    exact W.iret (v := sp) hx hb hr (fun t9_ ht9_ hW9_ => ⟨⟨sp, p0, rfl, Or.inl ⟨b4, rfl, rfl⟩, by rw [ht9_]; exact hP9, hD9⟩, hS.F ht9_⟩) hS.2.2 dX10_spades_26
  · refine lv_if_ne (tgt := 15) hx hb dX10_spades_9 (by decide) (fun c6 => False.elim (by revert c6; decide)) (fun _ => ?_)
    refine lv_bipush (v := (-2)) hx hb dX10_spades_12 (by decide) ?_
    have hP9 := (hP.sub (ws' := [(h1, .inr (6, [v_sites, v_maps, v_told, v_kinds, v_land, .int sp, v_part, v_pad, v_padMany, v_slips, v_slipMany, v_made, v_queue, v_depth, v_by, v_from, v_come, v_offOf, v_parent, v_best, v_trees, v_least, v_sums, v_toward, v_kept, v_isKept, v_keptAt, v_isWriting]))]) [0] rfl)
    have hD9 := (hD.sub (ws' := [(h1, .inr (6, [v_sites, v_maps, v_told, v_kinds, v_land, .int sp, v_part, v_pad, v_padMany, v_slips, v_slipMany, v_made, v_queue, v_depth, v_by, v_from, v_come, v_offOf, v_parent, v_best, v_trees, v_least, v_sums, v_toward, v_kept, v_isKept, v_keptAt, v_isWriting]))]) [0] (by decide) rfl)
    exact W.iret (v := (-2)) hx hb hr (fun t9_ ht9_ hW9_ => ⟨⟨(-2), sp, rfl, Or.inr ⟨b4, rfl, rfl⟩, by rw [ht9_]; exact hP9, hD9⟩, hS.F ht9_⟩) hS.2.2 dX10_spades_14
