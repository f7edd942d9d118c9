theorem drw {n : Nat} (h : n ≤ 65536) {x y z : Int64} {r : Int32} (e1 : x = (nI n).toInt64) (e2 : y = 75 * x) (e3 : z = y + 74) {q : Int64} (e4 : q = z - z / 65537 * 65537) (e5 : r = q.toInt32) : r = nI ((75 * n + 74) % 65537) := by
  have h1 : z = lN (75 * n + 74) := by
    rw [e3, e2, e1, nI_l (by omega)]
    show lN 75 * lN n + lN 74 = _
    rw [lN_mul, lN_add]
  have hz : z.toInt = ((75 * n + 74 : Nat) : Int) := by rw [h1]; exact lN_toInt (by omega)
  have hq : q.toInt = (((75 * n + 74) % 65537 : Nat) : Int) := by
    have hd : (z / 65537).toInt = (((75 * n + 74) / 65537 : Nat) : Int) := by
      rw [Int64.toInt_div, hz, show (65537 : Int64).toInt = ((65537 : Nat) : Int) from rfl, ← Int.ofNat_tdiv]
      apply Int.bmod_eq_of_le <;> omega
    have hm : (z / 65537 * 65537).toInt = (((75 * n + 74) / 65537 * 65537 : Nat) : Int) := by
      rw [Int64.toInt_mul, hd, show (65537 : Int64).toInt = ((65537 : Nat) : Int) from rfl, ← Int.natCast_mul]
      apply Int.bmod_eq_of_le <;> omega
    rw [e4, Int64.toInt_sub, hz, hm]
    have h5 := Nat.div_add_mod (75 * n + 74) 65537
    have h6 : ((75 * n + 74 : Nat) : Int) - (((75 * n + 74) / 65537 * 65537 : Nat) : Int) = (((75 * n + 74) % 65537 : Nat) : Int) := by omega
    rw [h6]
    apply Int.bmod_eq_of_le <;> omega
  have h7 : q = lN ((75 * n + 74) % 65537) := Int64.toInt_inj.mp (by rw [hq, lN_toInt (by omega)])
  rw [e5, h7, lN_i]

set_option maxHeartbeats 1000000 in
set_option maxRecDepth 100000 in
theorem m_isWished (l : Launch) (G : Gy) (sz : Nat) (h1 : Nat) (v_maps : Value) (v_told : Value) (v_kinds : Value) (v_land : Value) (v_spades : Value) (v_padMany : Value) (v_slips : Value) (v_slipMany : Value) (v_made : Value) (v_queue : Value) (v_depth : Value) (v_by : Value) (v_from : Value) (v_come : Value) (v_offOf : Value) (v_parent : Value) (v_best : Value) (v_trees : Value) (v_least : Value) (v_sums : Value) (v_toward : Value) (v_kept : Value) (v_isKept : Value) (v_keptAt : Value) (v_isWriting : Value) (a_part : Nat) (fp : Nat → Int32) (a_pad : Nat) (fd : Nat → Int32) (k : Nat) (a : Nat) (a2 : Nat) (p2 : Int32) (hk2 : 2 ≤ k) (hk6 : k ≤ 6) (hp : pOK k fp) (ha : a < 5 ^ k) (ha2 : a2 < 5 ^ k) : Ci l G yX10_isWished wsX10_isWished ({ frames := 2, cells := 0, slots := 0, locals := 45 }) [.ref h1, .int (nI a), .int (nI a2), .int p2] ([(h1, .inr (6, [.int (nI k), v_maps, v_told, v_kinds, v_land, v_spades, .ref a_part, .ref a_pad, v_padMany, v_slips, v_slipMany, v_made, v_queue, v_depth, v_by, v_from, v_come, v_offOf, v_parent, v_best, v_trees, v_least, v_sums, v_toward, v_kept, v_isKept, v_keptAt, v_isWriting])), (a_part, .inl (gI G, 6, .inl fp)), (a_pad, .inl (gI G, 40, .inl fd))]) sz (fun (r : Int32) (_ : Unit) => (r = 1 ∧ True) ∨ (r = 0 ∧ True)) (fun (_ : Unit) => [(h1, .inr (6, [.int (nI k), v_maps, v_told, v_kinds, v_land, v_spades, .ref a_part, .ref a_pad, v_padMany, v_slips, v_slipMany, v_made, v_queue, v_depth, v_by, v_from, v_come, v_offOf, v_parent, v_best, v_trees, v_least, v_sums, v_toward, v_kept, v_isKept, v_keptAt, v_isWriting])), (a_part, .inl (gI G, 6, .inl fp)), (a_pad, .inl (gI G, 40, .inl fd))]) 0 0 := by
  refine Met.ofW (cc := cX10_isWished) (maxL := 7) (ret := (some .boolean)) (by decide) rfl ?_
  intro p e s m args below meth c s₁ B hml hv
  obtain ⟨rfl, hsz, hP, hD0, E0⟩ := hv
  have hx := B.exec
  have hb := B.bytes
  have hr := B.returns
  have hts := atoms_spec (ws := wsX10_isWished) B.pre
  have hown : s.vm.findClass RX10 = some m.cls := findClass_of_methodNamed B.named
  have hlocks := B.notSynchronized
  subst hsz
  have hD := hD0.self (sz := s.heap.size)
  generalize hAe : va_A ([(h1, .inr (6, [.int (nI k), v_maps, v_told, v_kinds, v_land, v_spades, .ref a_part, .ref a_pad, v_padMany, v_slips, v_slipMany, v_made, v_queue, v_depth, v_by, v_from, v_come, v_offOf, v_parent, v_best, v_trees, v_least, v_sums, v_toward, v_kept, v_isKept, v_keptAt, v_isWriting])), (a_part, .inl (gI G, 6, .inl fp)), (a_pad, .inl (gI G, 40, .inl fd))]) s.heap.size = A at hD E0 ⊢
  have E : EV G A s s.heap := E0
  have hA : ∀ q : Nat, s.heap.size ≤ q → A q := fun q h => by rw [← hAe]; exact Or.inr h
  have hS : va_S A s.heap s.heap [] := va_S.rf
  have hl := lv_entry ([.ref h1, .int (nI a), .int (nI a2), .int p2]) (n := 7) (Nat.le_of_ble_eq_true rfl)
  rw [lg_entry_eq]
  generalize (lg_sl ([.ref h1, .int (nI a), .int (nI a2), .int p2]) ++ List.replicate (7 - (lg_sl ([.ref h1, .int (nI a), .int (nI a2), .int p2])).length) Slot.unset).toArray = ls at hl ⊢
  have hl : lv_has ls 7 [(0, .ref h1), (1, .int (nI a)), (2, .int (nI a2)), (3, .int p2)] := hl
  have hP : va_P G.1 vwCl ([(h1, .inr (6, [.int (nI k), v_maps, v_told, v_kinds, v_land, v_spades, .ref a_part, .ref a_pad, v_padMany, v_slips, v_slipMany, v_made, v_queue, v_depth, v_by, v_from, v_come, v_offOf, v_parent, v_best, v_trees, v_least, v_sums, v_toward, v_kept, v_isKept, v_keptAt, v_isWriting])), (a_part, .inl (gI G, 6, .inl fp)), (a_pad, .inl (gI G, 40, .inl fd))]) s.heap := hP
  have hal := p5le hk6
  refine lv_iconst (v := 1) hx hb dX10_isWished_0 (by decide) ?_
  refine lv_istore (lv' := [(4, .int 1), (0, .ref h1), (1, .int (nI a)), (2, .int (nI a2)), (3, .int p2)]) hx hb dX10_isWished_1 hl (by decide) rfl (fun ls hl => ?_)
  refine lv_iconst (v := 0) hx hb dX10_isWished_3 (by decide) ?_
  refine lv_istore (lv' := [(5, .int 0), (4, .int 1), (0, .ref h1), (1, .int (nI a)), (2, .int (nI a2)), (3, .int p2)]) hx hb dX10_isWished_4 hl (by decide) rfl (fun ls hl => ?_)
  refine lp_run (x0 := (0, 1)) (fun xx_ : Nat × Int32 => match xx_ with | (x, is_) => [(h1, .inr (6, [.int (nI k), v_maps, v_told, v_kinds, v_land, v_spades, .ref a_part, .ref a_pad, v_padMany, v_slips, v_slipMany, v_made, v_queue, v_depth, v_by, v_from, v_come, v_offOf, v_parent, v_best, v_trees, v_least, v_sums, v_toward, v_kept, v_isKept, v_keptAt, v_isWriting])), (a_part, .inl (gI G, 6, .inl fp)), (a_pad, .inl (gI G, 40, .inl fd))]) (fun xx_ : Nat × Int32 => match xx_ with | (x, is_) => [(5, .int (nI x)), (4, .int is_), (0, .ref h1), (1, .int (nI a)), (2, .int (nI a2)), (3, .int p2)]) (fun xx_ : Nat × Int32 => match xx_ with | (x, is_) => (x ≤ k) ∧ (is_ = 0 ∨ is_ = 1)) (fun xx_ : Nat × Int32 => match xx_ with | (x, is_) => k - x) (hP.sub [0, 1, 2] rfl) (hD.sub [0, 1, 2] (by decide) rfl) hS (lv_sub hl [0, 1, 2, 3, 4, 5] rfl) ⟨(by omega), Or.inr rfl⟩ ?_
  intro xx_ hI ih6 H locs ls hP hD hS hl
  obtain ⟨x, is_⟩ := xx_
  dsimp only at hI ih6 hP hD hl
  obtain ⟨hx0, his⟩ := hI
  have hl : lv_has ls 7 [(5, .int (nI x)), (4, .int is_), (0, .ref h1), (1, .int (nI a)), (2, .int (nI a2)), (3, .int p2)] := hl
  have hP : va_P G.1 vwCl ([(h1, .inr (6, [.int (nI k), v_maps, v_told, v_kinds, v_land, v_spades, .ref a_part, .ref a_pad, v_padMany, v_slips, v_slipMany, v_made, v_queue, v_depth, v_by, v_from, v_come, v_offOf, v_parent, v_best, v_trees, v_least, v_sums, v_toward, v_kept, v_isKept, v_keptAt, v_isWriting])), (a_part, .inl (gI G, 6, .inl fp)), (a_pad, .inl (gI G, 40, .inl fd))]) H := hP
  have hD : va_D A ([(h1, .inr (6, [.int (nI k), v_maps, v_told, v_kinds, v_land, v_spades, .ref a_part, .ref a_pad, v_padMany, v_slips, v_slipMany, v_made, v_queue, v_depth, v_by, v_from, v_come, v_offOf, v_parent, v_best, v_trees, v_least, v_sums, v_toward, v_kept, v_isKept, v_keptAt, v_isWriting])), (a_part, .inl (gI G, 6, .inl fp)), (a_pad, .inl (gI G, 40, .inl fd))]) := hD
  refine lv_iload hx hb dX10_isWished_6 (lv_at hl 0 rfl) ?_
  refine lv_aload_n hx hb dX10_isWished_8 rfl (lv_at hl 2 rfl) ?_
  refine va_get (D := G.1) (ci := 6) (v := .int (nI k)) (C := RX10) (T := TX10) (N := 28) hx hb hts (fun _ h => List.mem_cons_of_mem _ (List.mem_append_right _ h)) hown E.K hP 0 rfl rfl 0 (by decide) (hts (.fieldLink RX10 67 "LastMapModel" "sites" "I") (by decide +kernel)) (fun _ h9 => h9) rfl dX10_isWished_9 ?_
  refine lv_icmp_ge (tgt := 90) hx hb dX10_isWished_12 (by decide) (fun c1 => ?_) (fun c1 => ?_)
  · have c1 : k ≤ x := (nI_leI (a := k) (b := x) (by omega) (by omega)).mp c1
    refine lv_iload hx hb dX10_isWished_90 (lv_at hl 1 rfl) ?_
    have hP9 := (hP.sub (ws' := [(h1, .inr (6, [.int (nI k), v_maps, v_told, v_kinds, v_land, v_spades, .ref a_part, .ref a_pad, v_padMany, v_slips, v_slipMany, v_made, v_queue, v_depth, v_by, v_from, v_come, v_offOf, v_parent, v_best, v_trees, v_least, v_sums, v_toward, v_kept, v_isKept, v_keptAt, v_isWriting])), (a_part, .inl (gI G, 6, .inl fp)), (a_pad, .inl (gI G, 40, .inl fd))]) [0, 1, 2] rfl)
    have hD9 := (hD.sub (ws' := [(h1, .inr (6, [.int (nI k), v_maps, v_told, v_kinds, v_land, v_spades, .ref a_part, .ref a_pad, v_padMany, v_slips, v_slipMany, v_made, v_queue, v_depth, v_by, v_from, v_come, v_offOf, v_parent, v_best, v_trees, v_least, v_sums, v_toward, v_kept, v_isKept, v_keptAt, v_isWriting])), (a_part, .inl (gI G, 6, .inl fp)), (a_pad, .inl (gI G, 40, .inl fd))]) [0, 1, 2] (by decide) rfl)
    exact W.zret (v := is_) hx hb hr (by rcases his with q | q <;> rw [q] <;> decide) (fun t9_ ht9_ hW9_ => ⟨⟨is_, (), rfl, his.elim (fun q => Or.inr ⟨q, trivial⟩) (fun q => Or.inl ⟨q, trivial⟩), by rw [ht9_]; exact hP9, hD9⟩, hS.F ht9_⟩) hS.2.2 dX10_isWished_92
  · have c1 : ¬ k ≤ x := fun h9_ => c1 ((nI_leI (a := k) (b := x) (by omega) (by omega)).mpr h9_)
    refine lv_aload_n hx hb dX10_isWished_15 rfl (lv_at hl 2 rfl) ?_
    refine lv_iload_n hx hb dX10_isWished_16 rfl (lv_at hl 3 rfl) ?_
    refine lv_iload hx hb dX10_isWished_17 (lv_at hl 0 rfl) ?_
    refine ca_iR (va_runV (As := [.int (nI a), .int (nI x)]) (rest := []) ⟨hx, hb, hml, hown, hts⟩ (m_signAt l G H.size h1 (.int (nI k)) v_maps v_told v_kinds v_land v_spades (.ref a_pad) v_padMany v_slips v_slipMany v_made v_queue v_depth v_by v_from v_come v_offOf v_parent v_best v_trees v_least v_sums v_toward v_kept v_isKept v_keptAt v_isWriting a_part fp k a x hk6 hp (by omega) (by omega)) (cwV 2 hts gX10_isWished_X10_signAt rfl rfl rfl (by decide +kernel) ⟨by decide +kernel, by decide +kernel⟩) (pre_V E hP hD hS hA [0, 1] (by decide) rfl 0 6 rfl rfl) rfl rfl hl.1 rfl (lv_room (Nat.le_of_ble_eq_true rfl)) dX10_isWished_19 ⟨by decide +kernel, by decide +kernel⟩) hS hP hD hA [0, 1] rfl (fun r3 _ H locs w2 hP hS => ?_)
    rw [w2]
    have hdg9 : (dg k a x) < 5 := dg_lt _ _ _
    refine lv_istore (lv' := [(6, .int (nI (dg k a x))), (5, .int (nI x)), (4, .int is_), (0, .ref h1), (1, .int (nI a)), (2, .int (nI a2)), (3, .int p2)]) hx hb dX10_isWished_22 hl (by decide) rfl (fun ls hl => ?_)
    refine lv_iload hx hb dX10_isWished_24 (lv_at hl 2 rfl) ?_
    refine lv_if_eq (tgt := 81) hx hb dX10_isWished_26 (by decide) (fun c4 => ?_) (fun c4 => ?_)
    · refine lv_iconst (v := 0) hx hb dX10_isWished_81 (by decide) ?_
      refine lv_istore (lv' := [(4, .int 0), (6, .int (nI (dg k a x))), (5, .int (nI x)), (0, .ref h1), (1, .int (nI a)), (2, .int (nI a2)), (3, .int p2)]) hx hb dX10_isWished_82 hl (by decide) rfl (fun ls hl => ?_)
      obtain ⟨x5, ex5⟩ : ∃ yy_ : Int32, yy_ = (nI x) + 1 := ⟨_, rfl⟩
      refine lv_iinc (v := x5) (lv' := [(5, .int x5), (4, .int 0), (6, .int (nI (dg k a x))), (0, .ref h1), (1, .int (nI a)), (2, .int (nI a2)), (3, .int p2)]) hx hb dX10_isWished_84 hl (k := 2) rfl (by rw [ex5]; rfl) (by decide) rfl (fun ls hl => ?_)
      obtain rfl : x5 = nI (x + 1) := by rw [ex5]; exact nI_add x 1
      refine lv_goto (tgt := 6) hx hb dX10_isWished_87 (by decide) ?_
      refine ih6 ((x + 1), 0) ⟨?_, ?_⟩ (by first | omega | (dsimp only; omega)) H locs ls (hP.sub [0, 1, 2] rfl) (hD.sub [0, 1, 2] (by decide) rfl) hS (lv_sub hl [0, 1, 3, 4, 5, 6] rfl)
      · try dsimp only
        omega
      · try dsimp only
        exact Or.inl rfl
    · refine lv_aload_n hx hb dX10_isWished_29 rfl (lv_at hl 3 rfl) ?_
      refine va_get (D := G.1) (ci := 6) (v := .ref a_pad) (C := RX10) (T := TX10) (N := 28) hx hb hts (fun _ h => List.mem_cons_of_mem _ (List.mem_append_right _ h)) hown E.K hP 0 rfl rfl 7 (by decide) (hts (.fieldLink RX10 19 "LastMapModel" "pad" "[I") (by decide +kernel)) (fun _ h9 => h9) rfl dX10_isWished_30 ?_
      refine lv_iload hx hb dX10_isWished_33 (lv_at hl 1 rfl) ?_
      refine va_iald hx hb E.K hP 2 1 rfl rfl (i := nI x) (vp_in_nI (by omega) (by decide)) dX10_isWished_35 ?_
      refine lv_topi (fun x6 ex6 => ?_)
      refine lv_bipush (v := 63) hx hb dX10_isWished_36 (by decide) ?_
      refine lv_icmp_eq (tgt := 56) hx hb dX10_isWished_38 (by decide) (fun c7 => ?_) (fun c7 => ?_)
      · refine lv_iload_n hx hb dX10_isWished_56 rfl (lv_at hl 6 rfl) ?_
        refine lv_iload hx hb dX10_isWished_57 (lv_at hl 1 rfl) ?_
        refine lv_ishr hx hb dX10_isWished_59 ?_
        refine lv_topi (fun x8 ex8 => ?_)
        refine lv_iconst (v := 1) hx hb dX10_isWished_60 (by decide) ?_
        refine lv_iand hx hb dX10_isWished_61 ?_
        refine lv_topi (fun x9 ex9 => ?_)
        refine lv_if_eq (tgt := 77) hx hb dX10_isWished_62 (by decide) (fun c10 => ?_) (fun c10 => ?_)
        · refine lv_iconst (v := 1) hx hb dX10_isWished_77 (by decide) ?_
          refine lv_goto (tgt := 82) hx hb dX10_isWished_78 (by decide) ?_
          refine lv_istore (lv' := [(4, .int 1), (6, .int (nI (dg k a x))), (5, .int (nI x)), (0, .ref h1), (1, .int (nI a)), (2, .int (nI a2)), (3, .int p2)]) hx hb dX10_isWished_82 hl (by decide) rfl (fun ls hl => ?_)
          obtain ⟨x11, ex11⟩ : ∃ yy_ : Int32, yy_ = (nI x) + 1 := ⟨_, rfl⟩
          refine lv_iinc (v := x11) (lv' := [(5, .int x11), (4, .int 1), (6, .int (nI (dg k a x))), (0, .ref h1), (1, .int (nI a)), (2, .int (nI a2)), (3, .int p2)]) hx hb dX10_isWished_84 hl (k := 2) rfl (by rw [ex11]; rfl) (by decide) rfl (fun ls hl => ?_)
          obtain rfl : x11 = nI (x + 1) := by rw [ex11]; exact nI_add x 1
          refine lv_goto (tgt := 6) hx hb dX10_isWished_87 (by decide) ?_
          refine ih6 ((x + 1), 1) ⟨?_, ?_⟩ (by first | omega | (dsimp only; omega)) H locs ls (hP.sub [0, 1, 2] rfl) (hD.sub [0, 1, 2] (by decide) rfl) hS (lv_sub hl [0, 1, 3, 4, 5, 6] rfl)
          · try dsimp only
            omega
          · try dsimp only
            exact Or.inr rfl
        · refine lv_iload hx hb dX10_isWished_65 (lv_at hl 0 rfl) ?_
          refine lv_aload_n hx hb dX10_isWished_67 rfl (lv_at hl 3 rfl) ?_
          refine lv_iload_n hx hb dX10_isWished_68 rfl (lv_at hl 5 rfl) ?_
          refine lv_iload hx hb dX10_isWished_69 (lv_at hl 1 rfl) ?_
          refine ca_iR (va_runV (As := [.int (nI a2), .int (nI x)]) (rest := [.int (nI (dg k a x))]) ⟨hx, hb, hml, hown, hts⟩ (m_signAt l G H.size h1 (.int (nI k)) v_maps v_told v_kinds v_land v_spades (.ref a_pad) v_padMany v_slips v_slipMany v_made v_queue v_depth v_by v_from v_come v_offOf v_parent v_best v_trees v_least v_sums v_toward v_kept v_isKept v_keptAt v_isWriting a_part fp k a2 x hk6 hp (by omega) (by omega)) (cwV 2 hts gX10_isWished_X10_signAt rfl rfl rfl (by decide +kernel) ⟨by decide +kernel, by decide +kernel⟩) (pre_V E hP hD hS hA [0, 1] (by decide) rfl 0 6 rfl rfl) rfl rfl hl.1 rfl (lv_room (Nat.le_of_ble_eq_true rfl)) dX10_isWished_71 ⟨by decide +kernel, by decide +kernel⟩) hS hP hD hA [0, 1] rfl (fun r13 _ H locs w12 hP hS => ?_)
          rw [w12]
          have hdg8 : (dg k a2 x) < 5 := dg_lt _ _ _
          refine lv_icmp_ne (tgt := 81) hx hb dX10_isWished_74 (by decide) (fun c14 => ?_) (fun c14 => ?_)
          · have c14 : ¬ (dg k a x) = (dg k a2 x) := fun h9_ => c14 ((nI_eq (a := (dg k a x)) (b := (dg k a2 x)) (by omega) (by omega)).mpr h9_)
            refine lv_iconst (v := 0) hx hb dX10_isWished_81 (by decide) ?_
            refine lv_istore (lv' := [(4, .int 0), (6, .int (nI (dg k a x))), (5, .int (nI x)), (0, .ref h1), (1, .int (nI a)), (2, .int (nI a2)), (3, .int p2)]) hx hb dX10_isWished_82 hl (by decide) rfl (fun ls hl => ?_)
            obtain ⟨x15, ex15⟩ : ∃ yy_ : Int32, yy_ = (nI x) + 1 := ⟨_, rfl⟩
            refine lv_iinc (v := x15) (lv' := [(5, .int x15), (4, .int 0), (6, .int (nI (dg k a x))), (0, .ref h1), (1, .int (nI a)), (2, .int (nI a2)), (3, .int p2)]) hx hb dX10_isWished_84 hl (k := 2) rfl (by rw [ex15]; rfl) (by decide) rfl (fun ls hl => ?_)
            obtain rfl : x15 = nI (x + 1) := by rw [ex15]; exact nI_add x 1
            refine lv_goto (tgt := 6) hx hb dX10_isWished_87 (by decide) ?_
            refine ih6 ((x + 1), 0) ⟨?_, ?_⟩ (by first | omega | (dsimp only; omega)) H locs ls (hP.sub [0, 1, 2] rfl) (hD.sub [0, 1, 2] (by decide) rfl) hS (lv_sub hl [0, 1, 3, 4, 5, 6] rfl)
            · try dsimp only
              omega
            · try dsimp only
              exact Or.inl rfl
          · have c14 : (dg k a x) = (dg k a2 x) := (nI_eq (a := (dg k a x)) (b := (dg k a2 x)) (by omega) (by omega)).mp c14
            refine lv_iconst (v := 1) hx hb dX10_isWished_77 (by decide) ?_
            refine lv_goto (tgt := 82) hx hb dX10_isWished_78 (by decide) ?_
            refine lv_istore (lv' := [(4, .int 1), (6, .int (nI (dg k a x))), (5, .int (nI x)), (0, .ref h1), (1, .int (nI a)), (2, .int (nI a2)), (3, .int p2)]) hx hb dX10_isWished_82 hl (by decide) rfl (fun ls hl => ?_)
            obtain ⟨x16, ex16⟩ : ∃ yy_ : Int32, yy_ = (nI x) + 1 := ⟨_, rfl⟩
            refine lv_iinc (v := x16) (lv' := [(5, .int x16), (4, .int 1), (6, .int (nI (dg k a x))), (0, .ref h1), (1, .int (nI a)), (2, .int (nI a2)), (3, .int p2)]) hx hb dX10_isWished_84 hl (k := 2) rfl (by rw [ex16]; rfl) (by decide) rfl (fun ls hl => ?_)
            obtain rfl : x16 = nI (x + 1) := by rw [ex16]; exact nI_add x 1
            refine lv_goto (tgt := 6) hx hb dX10_isWished_87 (by decide) ?_
            refine ih6 ((x + 1), 1) ⟨?_, ?_⟩ (by first | omega | (dsimp only; omega)) H locs ls (hP.sub [0, 1, 2] rfl) (hD.sub [0, 1, 2] (by decide) rfl) hS (lv_sub hl [0, 1, 3, 4, 5, 6] rfl)
            · try dsimp only
              omega
            · try dsimp only
              exact Or.inr rfl
      · refine lv_aload_n hx hb dX10_isWished_41 rfl (lv_at hl 3 rfl) ?_
        refine va_get (D := G.1) (ci := 6) (v := .ref a_pad) (C := RX10) (T := TX10) (N := 28) hx hb hts (fun _ h => List.mem_cons_of_mem _ (List.mem_append_right _ h)) hown E.K hP 0 rfl rfl 7 (by decide) (hts (.fieldLink RX10 19 "LastMapModel" "pad" "[I") (by decide +kernel)) (fun _ h9 => h9) rfl dX10_isWished_42 ?_
        refine lv_iload hx hb dX10_isWished_45 (lv_at hl 1 rfl) ?_
        refine va_iald hx hb E.K hP 2 1 rfl rfl (i := nI x) (vp_in_nI (by omega) (by decide)) dX10_isWished_47 ?_
        refine lv_topi (fun x17 ex17 => ?_)
        refine ca_iR (va_runS (As := [.int x17]) (rest := []) ⟨hx, hb, hml, hown, hts⟩ (m_signOf l G H.size x17) (va_cwS 1 hts gX10_isWished_X10_signOf rfl rfl rfl (by decide +kernel) ⟨by decide +kernel, by decide +kernel⟩) (pre_S E hP hD hS hA [] (by decide) rfl) rfl rfl hl.1 rfl (lv_room (Nat.le_of_ble_eq_true rfl)) dX10_isWished_48 ⟨by decide +kernel, by decide +kernel⟩) hS hP hD hA [] rfl (fun r19 _ H locs w18 hP hS => ?_)
        refine lv_iload hx hb dX10_isWished_51 (lv_at hl 0 rfl) ?_
        refine lv_icmp_ne (tgt := 81) hx hb dX10_isWished_53 (by decide) (fun c20 => ?_) (fun c20 => ?_)
        · refine lv_iconst (v := 0) hx hb dX10_isWished_81 (by decide) ?_
          refine lv_istore (lv' := [(4, .int 0), (6, .int (nI (dg k a x))), (5, .int (nI x)), (0, .ref h1), (1, .int (nI a)), (2, .int (nI a2)), (3, .int p2)]) hx hb dX10_isWished_82 hl (by decide) rfl (fun ls hl => ?_)
          obtain ⟨x21, ex21⟩ : ∃ yy_ : Int32, yy_ = (nI x) + 1 := ⟨_, rfl⟩
          refine lv_iinc (v := x21) (lv' := [(5, .int x21), (4, .int 0), (6, .int (nI (dg k a x))), (0, .ref h1), (1, .int (nI a)), (2, .int (nI a2)), (3, .int p2)]) hx hb dX10_isWished_84 hl (k := 2) rfl (by rw [ex21]; rfl) (by decide) rfl (fun ls hl => ?_)
          obtain rfl : x21 = nI (x + 1) := by rw [ex21]; exact nI_add x 1
          refine lv_goto (tgt := 6) hx hb dX10_isWished_87 (by decide) ?_
          refine ih6 ((x + 1), 0) ⟨?_, ?_⟩ (by first | omega | (dsimp only; omega)) H locs ls (hP.sub [0, 1, 2] rfl) (hD.sub [0, 1, 2] (by decide) rfl) hS (lv_sub hl [0, 1, 3, 4, 5, 6] rfl)
          · try dsimp only
            omega
          · try dsimp only
            exact Or.inl rfl
        · refine lv_iload_n hx hb dX10_isWished_56 rfl (lv_at hl 6 rfl) ?_
          refine lv_iload hx hb dX10_isWished_57 (lv_at hl 1 rfl) ?_
          refine lv_ishr hx hb dX10_isWished_59 ?_
          refine lv_topi (fun x22 ex22 => ?_)
          refine lv_iconst (v := 1) hx hb dX10_isWished_60 (by decide) ?_
          refine lv_iand hx hb dX10_isWished_61 ?_
          refine lv_topi (fun x23 ex23 => ?_)
          refine lv_if_eq (tgt := 77) hx hb dX10_isWished_62 (by decide) (fun c24 => ?_) (fun c24 => ?_)
          · refine lv_iconst (v := 1) hx hb dX10_isWished_77 (by decide) ?_
            refine lv_goto (tgt := 82) hx hb dX10_isWished_78 (by decide) ?_
            refine lv_istore (lv' := [(4, .int 1), (6, .int (nI (dg k a x))), (5, .int (nI x)), (0, .ref h1), (1, .int (nI a)), (2, .int (nI a2)), (3, .int p2)]) hx hb dX10_isWished_82 hl (by decide) rfl (fun ls hl => ?_)
            obtain ⟨x25, ex25⟩ : ∃ yy_ : Int32, yy_ = (nI x) + 1 := ⟨_, rfl⟩
            refine lv_iinc (v := x25) (lv' := [(5, .int x25), (4, .int 1), (6, .int (nI (dg k a x))), (0, .ref h1), (1, .int (nI a)), (2, .int (nI a2)), (3, .int p2)]) hx hb dX10_isWished_84 hl (k := 2) rfl (by rw [ex25]; rfl) (by decide) rfl (fun ls hl => ?_)
            obtain rfl : x25 = nI (x + 1) := by rw [ex25]; exact nI_add x 1
            refine lv_goto (tgt := 6) hx hb dX10_isWished_87 (by decide) ?_
            refine ih6 ((x + 1), 1) ⟨?_, ?_⟩ (by first | omega | (dsimp only; omega)) H locs ls (hP.sub [0, 1, 2] rfl) (hD.sub [0, 1, 2] (by decide) rfl) hS (lv_sub hl [0, 1, 3, 4, 5, 6] rfl)
            · try dsimp only
              omega
            · try dsimp only
              exact Or.inr rfl
          · refine lv_iload hx hb dX10_isWished_65 (lv_at hl 0 rfl) ?_
            refine lv_aload_n hx hb dX10_isWished_67 rfl (lv_at hl 3 rfl) ?_
            refine lv_iload_n hx hb dX10_isWished_68 rfl (lv_at hl 5 rfl) ?_
            refine lv_iload hx hb dX10_isWished_69 (lv_at hl 1 rfl) ?_
            refine ca_iR (va_runV (As := [.int (nI a2), .int (nI x)]) (rest := [.int (nI (dg k a x))]) ⟨hx, hb, hml, hown, hts⟩ (m_signAt l G H.size h1 (.int (nI k)) v_maps v_told v_kinds v_land v_spades (.ref a_pad) v_padMany v_slips v_slipMany v_made v_queue v_depth v_by v_from v_come v_offOf v_parent v_best v_trees v_least v_sums v_toward v_kept v_isKept v_keptAt v_isWriting a_part fp k a2 x hk6 hp (by omega) (by omega)) (cwV 2 hts gX10_isWished_X10_signAt rfl rfl rfl (by decide +kernel) ⟨by decide +kernel, by decide +kernel⟩) (pre_V E hP hD hS hA [0, 1] (by decide) rfl 0 6 rfl rfl) rfl rfl hl.1 rfl (lv_room (Nat.le_of_ble_eq_true rfl)) dX10_isWished_71 ⟨by decide +kernel, by decide +kernel⟩) hS hP hD hA [0, 1] rfl (fun r27 _ H locs w26 hP hS => ?_)
            rw [w26]
            have hdg8 : (dg k a2 x) < 5 := dg_lt _ _ _
            refine lv_icmp_ne (tgt := 81) hx hb dX10_isWished_74 (by decide) (fun c28 => ?_) (fun c28 => ?_)
            · have c28 : ¬ (dg k a x) = (dg k a2 x) := fun h9_ => c28 ((nI_eq (a := (dg k a x)) (b := (dg k a2 x)) (by omega) (by omega)).mpr h9_)
              refine lv_iconst (v := 0) hx hb dX10_isWished_81 (by decide) ?_
              refine lv_istore (lv' := [(4, .int 0), (6, .int (nI (dg k a x))), (5, .int (nI x)), (0, .ref h1), (1, .int (nI a)), (2, .int (nI a2)), (3, .int p2)]) hx hb dX10_isWished_82 hl (by decide) rfl (fun ls hl => ?_)
              obtain ⟨x29, ex29⟩ : ∃ yy_ : Int32, yy_ = (nI x) + 1 := ⟨_, rfl⟩
              refine lv_iinc (v := x29) (lv' := [(5, .int x29), (4, .int 0), (6, .int (nI (dg k a x))), (0, .ref h1), (1, .int (nI a)), (2, .int (nI a2)), (3, .int p2)]) hx hb dX10_isWished_84 hl (k := 2) rfl (by rw [ex29]; rfl) (by decide) rfl (fun ls hl => ?_)
              obtain rfl : x29 = nI (x + 1) := by rw [ex29]; exact nI_add x 1
              refine lv_goto (tgt := 6) hx hb dX10_isWished_87 (by decide) ?_
              refine ih6 ((x + 1), 0) ⟨?_, ?_⟩ (by first | omega | (dsimp only; omega)) H locs ls (hP.sub [0, 1, 2] rfl) (hD.sub [0, 1, 2] (by decide) rfl) hS (lv_sub hl [0, 1, 3, 4, 5, 6] rfl)
              · try dsimp only
                omega
              · try dsimp only
                exact Or.inl rfl
            · have c28 : (dg k a x) = (dg k a2 x) := (nI_eq (a := (dg k a x)) (b := (dg k a2 x)) (by omega) (by omega)).mp c28
              refine lv_iconst (v := 1) hx hb dX10_isWished_77 (by decide) ?_
              refine lv_goto (tgt := 82) hx hb dX10_isWished_78 (by decide) ?_
              refine lv_istore (lv' := [(4, .int 1), (6, .int (nI (dg k a x))), (5, .int (nI x)), (0, .ref h1), (1, .int (nI a)), (2, .int (nI a2)), (3, .int p2)]) hx hb dX10_isWished_82 hl (by decide) rfl (fun ls hl => ?_)
              obtain ⟨x30, ex30⟩ : ∃ yy_ : Int32, yy_ = (nI x) + 1 := ⟨_, rfl⟩
              refine lv_iinc (v := x30) (lv' := [(5, .int x30), (4, .int 1), (6, .int (nI (dg k a x))), (0, .ref h1), (1, .int (nI a)), (2, .int (nI a2)), (3, .int p2)]) hx hb dX10_isWished_84 hl (k := 2) rfl (by rw [ex30]; rfl) (by decide) rfl (fun ls hl => ?_)
              obtain rfl : x30 = nI (x + 1) := by rw [ex30]; exact nI_add x 1
              refine lv_goto (tgt := 6) hx hb dX10_isWished_87 (by decide) ?_
              refine ih6 ((x + 1), 1) ⟨?_, ?_⟩ (by first | omega | (dsimp only; omega)) H locs ls (hP.sub [0, 1, 2] rfl) (hD.sub [0, 1, 2] (by decide) rfl) hS (lv_sub hl [0, 1, 3, 4, 5, 6] rfl)
              · try dsimp only
                omega
              · try dsimp only
                exact Or.inr rfl

set_option maxHeartbeats 1000000 in
set_option maxRecDepth 100000 in
theorem m_wished (l : Launch) (G : Gy) (sz : Nat) (h1 : Nat) (v_land : Value) (v_spades : Value) (v_slips : Value) (v_slipMany : Value) (v_made : Value) (v_offOf : Value) (v_parent : Value) (v_best : Value) (v_trees : Value) (v_least : Value) (v_sums : Value) (v_toward : Value) (v_kept : Value) (v_isKept : Value) (v_keptAt : Value) (v_isWriting : Value) (a_maps : Nat) (fm : Nat → Int32) (a_kinds : Nat) (a_pad : Nat) (pm : Nat) (fk : Nat → Int32) (fpd : Nat → Int32) (a_part : Nat) (fp : Nat → Int32) (a_queue : Nat) (a_depth : Nat) (a_by : Nat) (a_from : Nat) (fq : Nat → Int32) (fd : Nat → Int32) (fb : Nat → Int32) (fr : Nat → Int32) (k : Nat) (told : Int32) (cm0 : Int32) (p0 : Int32) (p1 : Int32) (p2 : Int32) (p3 : Int32) (hk2 : 2 ≤ k) (hk6 : k ≤ 6) (hp : pOK k fp) (hfm : mapsOK k fm) (hpm : pm ≤ 40) : Ci l G yX10_wished wsX10_wished ({ frames := 4, cells := 0, slots := 0, locals := 98 }) [.ref h1, .int p0, .int p1, .int p2, .int p3] ([(h1, .inr (6, [.int (nI k), .ref a_maps, .int told, .ref a_kinds, v_land, v_spades, .ref a_part, .ref a_pad, .int (nI pm), v_slips, v_slipMany, v_made, .ref a_queue, .ref a_depth, .ref a_by, .ref a_from, .int cm0, v_offOf, v_parent, v_best, v_trees, v_least, v_sums, v_toward, v_kept, v_isKept, v_keptAt, v_isWriting])), (a_maps, .inl (gI G, 6, .inl fm)), (a_kinds, .inl (gI G, 4, .inl fk)), (a_part, .inl (gI G, 6, .inl fp)), (a_pad, .inl (gI G, 40, .inl fpd)), (a_queue, .inl (gI G, 15625, .inl fq)), (a_depth, .inl (gI G, 15625, .inl fd)), (a_by, .inl (gI G, 15625, .inl fb)), (a_from, .inl (gI G, 15625, .inl fr))]) sz (fun (r : Int32) (u : Int32 × (Nat → Int32) × (Nat → Int32) × (Nat → Int32) × (Nat → Int32)) => match u with | (cm1, gq, gd, gb, gr) => True) (fun (u : Int32 × (Nat → Int32) × (Nat → Int32) × (Nat → Int32) × (Nat → Int32)) => match u with | (cm1, gq, gd, gb, gr) => [(h1, .inr (6, [.int (nI k), .ref a_maps, .int told, .ref a_kinds, v_land, v_spades, .ref a_part, .ref a_pad, .int (nI pm), v_slips, v_slipMany, v_made, .ref a_queue, .ref a_depth, .ref a_by, .ref a_from, .int cm1, v_offOf, v_parent, v_best, v_trees, v_least, v_sums, v_toward, v_kept, v_isKept, v_keptAt, v_isWriting])), (a_maps, .inl (gI G, 6, .inl fm)), (a_kinds, .inl (gI G, 4, .inl fk)), (a_part, .inl (gI G, 6, .inl fp)), (a_pad, .inl (gI G, 40, .inl fpd)), (a_queue, .inl (gI G, 15625, .inl gq)), (a_depth, .inl (gI G, 15625, .inl gd)), (a_by, .inl (gI G, 15625, .inl gb)), (a_from, .inl (gI G, 15625, .inl gr))]) 0 0 := by
  refine Met.ofW (cc := cX10_wished) (maxL := 6) (ret := (some .int)) (by decide) rfl ?_
  intro p e s m args below meth c s₁ B hml hv
  obtain ⟨rfl, hsz, hP, hD0, E0⟩ := hv
  have hx := B.exec
  have hb := B.bytes
  have hr := B.returns
  have hts := atoms_spec (ws := wsX10_wished) B.pre
  have hown : s.vm.findClass RX10 = some m.cls := findClass_of_methodNamed B.named
  have hlocks := B.notSynchronized
  subst hsz
  have hD := hD0.self (sz := s.heap.size)
  generalize hAe : va_A ([(h1, .inr (6, [.int (nI k), .ref a_maps, .int told, .ref a_kinds, v_land, v_spades, .ref a_part, .ref a_pad, .int (nI pm), v_slips, v_slipMany, v_made, .ref a_queue, .ref a_depth, .ref a_by, .ref a_from, .int cm0, v_offOf, v_parent, v_best, v_trees, v_least, v_sums, v_toward, v_kept, v_isKept, v_keptAt, v_isWriting])), (a_maps, .inl (gI G, 6, .inl fm)), (a_kinds, .inl (gI G, 4, .inl fk)), (a_part, .inl (gI G, 6, .inl fp)), (a_pad, .inl (gI G, 40, .inl fpd)), (a_queue, .inl (gI G, 15625, .inl fq)), (a_depth, .inl (gI G, 15625, .inl fd)), (a_by, .inl (gI G, 15625, .inl fb)), (a_from, .inl (gI G, 15625, .inl fr))]) s.heap.size = A at hD E0 ⊢
  have E : EV G A s s.heap := E0
  have hA : ∀ q : Nat, s.heap.size ≤ q → A q := fun q h => by rw [← hAe]; exact Or.inr h
  have hS : va_S A s.heap s.heap [] := va_S.rf
  have hl := lv_entry ([.ref h1, .int p0, .int p1, .int p2, .int p3]) (n := 6) (Nat.le_of_ble_eq_true rfl)
  rw [lg_entry_eq]
  generalize (lg_sl ([.ref h1, .int p0, .int p1, .int p2, .int p3]) ++ List.replicate (6 - (lg_sl ([.ref h1, .int p0, .int p1, .int p2, .int p3])).length) Slot.unset).toArray = ls at hl ⊢
  have hl : lv_has ls 6 [(0, .ref h1), (1, .int p0), (2, .int p1), (3, .int p2), (4, .int p3)] := hl
  have hP : va_P G.1 vwCl ([(h1, .inr (6, [.int (nI k), .ref a_maps, .int told, .ref a_kinds, v_land, v_spades, .ref a_part, .ref a_pad, .int (nI pm), v_slips, v_slipMany, v_made, .ref a_queue, .ref a_depth, .ref a_by, .ref a_from, .int cm0, v_offOf, v_parent, v_best, v_trees, v_least, v_sums, v_toward, v_kept, v_isKept, v_keptAt, v_isWriting])), (a_maps, .inl (gI G, 6, .inl fm)), (a_kinds, .inl (gI G, 4, .inl fk)), (a_part, .inl (gI G, 6, .inl fp)), (a_pad, .inl (gI G, 40, .inl fpd)), (a_queue, .inl (gI G, 15625, .inl fq)), (a_depth, .inl (gI G, 15625, .inl fd)), (a_by, .inl (gI G, 15625, .inl fb)), (a_from, .inl (gI G, 15625, .inl fr))]) s.heap := hP
  have hal := p5le hk6
  refine lv_iload_n hx hb dX10_wished_0 rfl (lv_at hl 1 rfl) ?_
  refine ca_iR (va_runS (As := [.int p0]) (rest := []) ⟨hx, hb, hml, hown, hts⟩ (m_isMap l G s.heap.size p0) (va_cwS 1 hts gX10_wished_X10_isMap rfl rfl rfl (by decide +kernel) ⟨by decide +kernel, by decide +kernel⟩) (pre_S E hP hD hS hA [] (by decide) rfl) rfl rfl hl.1 rfl (lv_room (Nat.le_of_ble_eq_true rfl)) dX10_wished_1 ⟨by decide +kernel, by decide +kernel⟩) hS hP hD hA [] rfl (fun r2 _ H locs w1 hP hS => ?_)
  rcases w1 with ⟨rfl, b3⟩ | ⟨rfl, b3⟩
  · refine lv_if_eq (tgt := 14) hx hb dX10_wished_4 (by decide) (fun c4 => False.elim (by revert c4; decide)) (fun _ => ?_)
    refine lv_iload_n hx hb dX10_wished_7 rfl (lv_at hl 2 rfl) ?_
    refine ca_iR (va_runS (As := [.int p1]) (rest := []) ⟨hx, hb, hml, hown, hts⟩ (m_isHand l G H.size p1) (va_cwS 1 hts gX10_wished_X10_isHand rfl rfl rfl (by decide +kernel) ⟨by decide +kernel, by decide +kernel⟩) (pre_S E hP hD hS hA [] (by decide) rfl) rfl rfl hl.1 rfl (lv_room (Nat.le_of_ble_eq_true rfl)) dX10_wished_8 ⟨by decide +kernel, by decide +kernel⟩) hS hP hD hA [] rfl (fun r6 _ H locs w5 hP hS => ?_)
    rcases w5 with ⟨rfl, b7⟩ | ⟨rfl, b7⟩
    · refine lv_if_ne (tgt := 16) hx hb dX10_wished_11 (by decide) (fun _ => ?_) (fun c8 => False.elim (by revert c8; decide))
      obtain ⟨j_p0, hj_p0, ej_p0⟩ := inR6 b3
      have hl : lv_has ls 6 [(0, .ref h1), (1, .int (nI j_p0)), (2, .int p1), (3, .int p2), (4, .int p3)] := by have q := hl; rw [ej_p0] at q; exact q
      obtain ⟨j_p1, hj_p1, ej_p1⟩ := inR4 b7
      have hl : lv_has ls 6 [(0, .ref h1), (1, .int (nI j_p0)), (2, .int (nI j_p1)), (3, .int p2), (4, .int p3)] := by have q := hl; rw [ej_p1] at q; exact q
      refine lv_iload_n hx hb dX10_wished_16 rfl (lv_at hl 3 rfl) ?_
      refine lv_i2l hx hb dX10_wished_17 rfl ?_
      refine lv_topl (fun x9 ex9 => ?_)
      refine lv_lconst (v := 0) hx hb dX10_wished_18 (by decide) ?_
      refine lv_iconst (v := 1) hx hb dX10_wished_19 (by decide) ?_
      refine lv_aload_n hx hb dX10_wished_20 rfl (lv_at hl 0 rfl) ?_
      refine va_get (D := G.1) (ci := 6) (v := .int (nI k)) (C := RX10) (T := TX10) (N := 28) hx hb hts (fun _ h => List.mem_cons_of_mem _ (List.mem_append_right _ h)) hown E.K hP 0 rfl rfl 0 (by decide) (hts (.fieldLink RX10 67 "LastMapModel" "sites" "I") (by decide +kernel)) (fun _ h9 => h9) rfl dX10_wished_21 ?_
      refine lv_ishl hx hb dX10_wished_24 ?_
      refine lv_topi (fun x10 ex10 => ?_)
      refine lv_iconst (v := 1) hx hb dX10_wished_25 (by decide) ?_
      refine lv_isub hx hb dX10_wished_26 ?_
      refine lv_topi (fun x11 ex11 => ?_)
      refine lv_i2l hx hb dX10_wished_27 rfl ?_
      refine lv_topl (fun x12 ex12 => ?_)
      refine ca_iR (va_runS (As := [.long x9, .long 0, .long x12]) (rest := []) ⟨hx, hb, hml, hown, hts⟩ (m_in l G H.size x9 0 x12 p2 0 x11 ex9 (by decide) ex12) (va_cwS 3 hts gX10_wished_X10_in rfl rfl rfl (by decide +kernel) ⟨by decide +kernel, by decide +kernel⟩) (pre_S E hP hD hS hA [] (by decide) rfl) rfl rfl hl.1 rfl (lv_room (Nat.le_of_ble_eq_true rfl)) dX10_wished_28 ⟨by decide +kernel, by decide +kernel⟩) hS hP hD hA [] rfl (fun r14 _ H locs w13 hP hS => ?_)
      rcases w13 with ⟨rfl, b15⟩ | ⟨rfl, b15⟩
      · refine lv_if_ne (tgt := 37) hx hb dX10_wished_31 (by decide) (fun _ => ?_) (fun c16 => False.elim (by revert c16; decide))
        refine lv_aload_n hx hb dX10_wished_37 rfl (lv_at hl 0 rfl) ?_
        refine lv_iload_n hx hb dX10_wished_38 rfl (lv_at hl 1 rfl) ?_
        refine ca_iR (va_runV (As := [.int (nI j_p0)]) (rest := []) ⟨hx, hb, hml, hown, hts⟩ (m_isTold l G H.size h1 (.int (nI k)) (.ref a_maps) (.ref a_kinds) v_land v_spades (.ref a_part) (.ref a_pad) (.int (nI pm)) v_slips v_slipMany v_made (.ref a_queue) (.ref a_depth) (.ref a_by) (.ref a_from) (.int cm0) v_offOf v_parent v_best v_trees v_least v_sums v_toward v_kept v_isKept v_keptAt v_isWriting told (nI j_p0)) (cwV 1 hts gX10_wished_X10_isTold rfl rfl rfl (by decide +kernel) ⟨by decide +kernel, by decide +kernel⟩) (pre_V E hP hD hS hA [0] (by decide) rfl 0 6 rfl rfl) rfl rfl hl.1 rfl (lv_room (Nat.le_of_ble_eq_true rfl)) dX10_wished_39 ⟨by decide +kernel, by decide +kernel⟩) hS hP hD hA [0] rfl (fun r18 _ H locs w17 hP hS => ?_)
        rcases w17 with ⟨rfl, b19⟩ | ⟨rfl, b19⟩
        · refine lv_if_ne (tgt := 48) hx hb dX10_wished_42 (by decide) (fun _ => ?_) (fun c20 => False.elim (by revert c20; decide))
          refine lv_aload_n hx hb dX10_wished_48 rfl (lv_at hl 0 rfl) ?_
          refine lv_iconst (v := 1) hx hb dX10_wished_49 (by decide) ?_
          refine ca_iR (va_runV (As := [.int 1]) (rest := []) ⟨hx, hb, hml, hown, hts⟩ (m_faultOfMap l G H.size h1 (.ref a_maps) (.int told) (.ref a_kinds) v_land v_spades (.ref a_part) v_slips v_slipMany v_made (.ref a_queue) (.ref a_depth) (.ref a_by) (.ref a_from) (.int cm0) v_offOf v_parent v_best v_trees v_least v_sums v_toward v_kept v_isKept v_keptAt v_isWriting a_pad pm fpd k 1 hk2 hk6 (by omega)) (cwV 1 hts gX10_wished_X10_faultOfMap rfl rfl rfl (by decide +kernel) ⟨by decide +kernel, by decide +kernel⟩) (pre_V E hP hD hS hA [0, 4] (by decide) rfl 0 6 rfl rfl) rfl rfl hl.1 rfl (lv_room (Nat.le_of_ble_eq_true rfl)) dX10_wished_50 ⟨by decide +kernel, by decide +kernel⟩) hS hP hD hA [0, 4] rfl (fun r22 _ H locs w21 hP hS => ?_)
          refine lv_if_lt (tgt := 59) hx hb dX10_wished_53 (by decide) (fun c23 => ?_) (fun c23 => ?_)
          · refine lv_aload_n hx hb dX10_wished_59 rfl (lv_at hl 0 rfl) ?_
            refine lv_aload_n hx hb dX10_wished_60 rfl (lv_at hl 0 rfl) ?_
            refine va_get (D := G.1) (ci := 6) (v := .ref a_maps) (C := RX10) (T := TX10) (N := 28) hx hb hts (fun _ h => List.mem_cons_of_mem _ (List.mem_append_right _ h)) hown E.K hP 0 rfl rfl 1 (by decide) (hts (.fieldLink RX10 7 "LastMapModel" "maps" "[I") (by decide +kernel)) (fun _ h9 => h9) rfl dX10_wished_61 ?_
            refine lv_iload_n hx hb dX10_wished_64 rfl (lv_at hl 1 rfl) ?_
            refine va_iald hx hb E.K hP 1 1 rfl rfl (i := nI j_p0) (vp_in_nI (by omega) (by decide)) dX10_wished_65 ?_
            refine lv_topi (fun x24 ex24 => ?_)
            obtain ⟨a_x24, ha_x24, hvx24⟩ := hfm j_p0 (by omega)
            obtain rfl : x24 = nI a_x24 := by rw [ex24, nI_clamp (by omega)]; exact hvx24
            refine lv_aload_n hx hb dX10_wished_66 rfl (lv_at hl 0 rfl) ?_
            refine va_get (D := G.1) (ci := 6) (v := .ref a_kinds) (C := RX10) (T := TX10) (N := 28) hx hb hts (fun _ h => List.mem_cons_of_mem _ (List.mem_append_right _ h)) hown E.K hP 0 rfl rfl 3 (by decide) (hts (.fieldLink RX10 13 "LastMapModel" "kinds" "[I") (by decide +kernel)) (fun _ h9 => h9) rfl dX10_wished_67 ?_
            refine lv_iload_n hx hb dX10_wished_70 rfl (lv_at hl 2 rfl) ?_
            refine va_iald hx hb E.K hP 2 1 rfl rfl (i := nI j_p1) (vp_in_nI (by omega) (by decide)) dX10_wished_71 ?_
            refine lv_topi (fun x25 ex25 => ?_)
            refine ca_v (wr := [(a_maps, .inl (gI G, 6, .inl fm)), (a_kinds, .inl (gI G, 4, .inl fk)), (a_pad, .inl (gI G, 40, .inl fpd))]) (va_runV (As := [.int (nI a_x24), .int x25]) (rest := []) ⟨hx, hb, hml, hown, hts⟩ (m_goFrom l G H.size h1 (.ref a_maps) (.int told) (.ref a_kinds) v_land v_spades (.ref a_pad) (.int (nI pm)) v_slips v_slipMany v_made v_offOf v_parent v_best v_trees v_least v_sums v_toward v_kept v_isKept v_keptAt v_isWriting a_part fp a_queue a_depth a_by a_from fq fd fb fr k a_x24 cm0 x25 hk2 hk6 hp (by omega)) (cwV 2 hts gX10_wished_X10_goFrom rfl rfl rfl (by decide +kernel) ⟨by decide +kernel, by decide +kernel⟩) (pre_V E hP hD hS hA [0, 3, 5, 6, 7, 8] (by decide) rfl 0 6 rfl rfl) rfl rfl hl.1 rfl (lv_room (Nat.le_of_ble_eq_true rfl)) dX10_wished_72 ⟨by decide +kernel, by decide +kernel⟩) hS hP hD hA [0, 3, 5, 6, 7, 8] [1, 2, 4] rfl rfl (by decide) (by decide) (fun u28 H locs w26 hP hD hS => ?_)
            obtain ⟨cm1_29, gq_30, gd_31, gb_32, gr_33⟩ := u28
            try dsimp only at w26 hP hD
            have hP := (hP.sub (ws' := [(h1, .inr (6, [.int (nI k), .ref a_maps, .int told, .ref a_kinds, v_land, v_spades, .ref a_part, .ref a_pad, .int (nI pm), v_slips, v_slipMany, v_made, .ref a_queue, .ref a_depth, .ref a_by, .ref a_from, .int (nI cm1_29), v_offOf, v_parent, v_best, v_trees, v_least, v_sums, v_toward, v_kept, v_isKept, v_keptAt, v_isWriting])), (a_maps, .inl (gI G, 6, .inl fm)), (a_kinds, .inl (gI G, 4, .inl fk)), (a_part, .inl (gI G, 6, .inl fp)), (a_pad, .inl (gI G, 40, .inl fpd)), (a_queue, .inl (gI G, 15625, .inl gq_30)), (a_depth, .inl (gI G, 15625, .inl gd_31)), (a_by, .inl (gI G, 15625, .inl gb_32)), (a_from, .inl (gI G, 15625, .inl gr_33))]) [3, 0, 1, 4, 2, 5, 6, 7, 8] rfl)
            have hD := (hD.sub (ws' := [(h1, .inr (6, [.int (nI k), .ref a_maps, .int told, .ref a_kinds, v_land, v_spades, .ref a_part, .ref a_pad, .int (nI pm), v_slips, v_slipMany, v_made, .ref a_queue, .ref a_depth, .ref a_by, .ref a_from, .int (nI cm1_29), v_offOf, v_parent, v_best, v_trees, v_least, v_sums, v_toward, v_kept, v_isKept, v_keptAt, v_isWriting])), (a_maps, .inl (gI G, 6, .inl fm)), (a_kinds, .inl (gI G, 4, .inl fk)), (a_part, .inl (gI G, 6, .inl fp)), (a_pad, .inl (gI G, 40, .inl fpd)), (a_queue, .inl (gI G, 15625, .inl gq_30)), (a_depth, .inl (gI G, 15625, .inl gd_31)), (a_by, .inl (gI G, 15625, .inl gb_32)), (a_from, .inl (gI G, 15625, .inl gr_33))]) [3, 0, 1, 4, 2, 5, 6, 7, 8] (by decide) rfl)
            have hcl := dOK_le w26
            refine lv_iconst (v := 0) hx hb dX10_wished_75 (by decide) ?_
            refine lv_istore (lv' := [(5, .int 0), (0, .ref h1), (1, .int (nI j_p0)), (2, .int (nI j_p1)), (3, .int p2), (4, .int p3)]) hx hb dX10_wished_76 hl (by decide) rfl (fun ls hl => ?_)
            refine lp_run (x0 := 0) (fun x : Nat => [(h1, .inr (6, [.int (nI k), .ref a_maps, .int told, .ref a_kinds, v_land, v_spades, .ref a_part, .ref a_pad, .int (nI pm), v_slips, v_slipMany, v_made, .ref a_queue, .ref a_depth, .ref a_by, .ref a_from, .int (nI cm1_29), v_offOf, v_parent, v_best, v_trees, v_least, v_sums, v_toward, v_kept, v_isKept, v_keptAt, v_isWriting])), (a_maps, .inl (gI G, 6, .inl fm)), (a_kinds, .inl (gI G, 4, .inl fk)), (a_part, .inl (gI G, 6, .inl fp)), (a_pad, .inl (gI G, 40, .inl fpd)), (a_queue, .inl (gI G, 15625, .inl gq_30)), (a_depth, .inl (gI G, 15625, .inl gd_31)), (a_by, .inl (gI G, 15625, .inl gb_32)), (a_from, .inl (gI G, 15625, .inl gr_33))]) (fun x : Nat => [(5, .int (nI x)), (0, .ref h1), (1, .int (nI j_p0)), (2, .int (nI j_p1)), (3, .int p2), (4, .int p3)]) (fun x : Nat => (x ≤ cm1_29)) (fun x : Nat => cm1_29 - x) (hP.sub [0, 1, 2, 3, 4, 5, 6, 7, 8] rfl) (hD.sub [0, 1, 2, 3, 4, 5, 6, 7, 8] (by decide) rfl) hS (lv_sub hl [0, 1, 2, 3, 4, 5] rfl) (by omega) ?_
            intro xx_ hI ih78 H locs ls hP hD hS hl
            obtain ⟨x, rfl⟩ : ∃ zz_, zz_ = xx_ := ⟨_, rfl⟩
            have hx0 := hI
            have hl : lv_has ls 6 [(5, .int (nI x)), (0, .ref h1), (1, .int (nI j_p0)), (2, .int (nI j_p1)), (3, .int p2), (4, .int p3)] := hl
            have hP : va_P G.1 vwCl ([(h1, .inr (6, [.int (nI k), .ref a_maps, .int told, .ref a_kinds, v_land, v_spades, .ref a_part, .ref a_pad, .int (nI pm), v_slips, v_slipMany, v_made, .ref a_queue, .ref a_depth, .ref a_by, .ref a_from, .int (nI cm1_29), v_offOf, v_parent, v_best, v_trees, v_least, v_sums, v_toward, v_kept, v_isKept, v_keptAt, v_isWriting])), (a_maps, .inl (gI G, 6, .inl fm)), (a_kinds, .inl (gI G, 4, .inl fk)), (a_part, .inl (gI G, 6, .inl fp)), (a_pad, .inl (gI G, 40, .inl fpd)), (a_queue, .inl (gI G, 15625, .inl gq_30)), (a_depth, .inl (gI G, 15625, .inl gd_31)), (a_by, .inl (gI G, 15625, .inl gb_32)), (a_from, .inl (gI G, 15625, .inl gr_33))]) H := hP
            have hD : va_D A ([(h1, .inr (6, [.int (nI k), .ref a_maps, .int told, .ref a_kinds, v_land, v_spades, .ref a_part, .ref a_pad, .int (nI pm), v_slips, v_slipMany, v_made, .ref a_queue, .ref a_depth, .ref a_by, .ref a_from, .int (nI cm1_29), v_offOf, v_parent, v_best, v_trees, v_least, v_sums, v_toward, v_kept, v_isKept, v_keptAt, v_isWriting])), (a_maps, .inl (gI G, 6, .inl fm)), (a_kinds, .inl (gI G, 4, .inl fk)), (a_part, .inl (gI G, 6, .inl fp)), (a_pad, .inl (gI G, 40, .inl fpd)), (a_queue, .inl (gI G, 15625, .inl gq_30)), (a_depth, .inl (gI G, 15625, .inl gd_31)), (a_by, .inl (gI G, 15625, .inl gb_32)), (a_from, .inl (gI G, 15625, .inl gr_33))]) := hD
            refine lv_iload hx hb dX10_wished_78 (lv_at hl 0 rfl) ?_
            refine lv_aload_n hx hb dX10_wished_80 rfl (lv_at hl 1 rfl) ?_
            refine va_get (D := G.1) (ci := 6) (v := .int (nI cm1_29)) (C := RX10) (T := TX10) (N := 28) hx hb hts (fun _ h => List.mem_cons_of_mem _ (List.mem_append_right _ h)) hown E.K hP 0 rfl rfl 16 (by decide) (hts (.fieldLink RX10 158 "LastMapModel" "come" "I") (by decide +kernel)) (fun _ h9 => h9) rfl dX10_wished_81 ?_
            refine lv_icmp_ge (tgt := 149) hx hb dX10_wished_84 (by decide) (fun c34 => ?_) (fun c34 => ?_)
            · have c34 : cm1_29 ≤ x := (nI_leI (a := cm1_29) (b := x) (by omega) (by omega)).mp c34
              refine lv_bipush (v := (-6)) hx hb dX10_wished_149 (by decide) ?_
              have hP9 := (hP.sub (ws' := [(h1, .inr (6, [.int (nI k), .ref a_maps, .int told, .ref a_kinds, v_land, v_spades, .ref a_part, .ref a_pad, .int (nI pm), v_slips, v_slipMany, v_made, .ref a_queue, .ref a_depth, .ref a_by, .ref a_from, .int (nI cm1_29), v_offOf, v_parent, v_best, v_trees, v_least, v_sums, v_toward, v_kept, v_isKept, v_keptAt, v_isWriting])), (a_maps, .inl (gI G, 6, .inl fm)), (a_kinds, .inl (gI G, 4, .inl fk)), (a_part, .inl (gI G, 6, .inl fp)), (a_pad, .inl (gI G, 40, .inl fpd)), (a_queue, .inl (gI G, 15625, .inl gq_30)), (a_depth, .inl (gI G, 15625, .inl gd_31)), (a_by, .inl (gI G, 15625, .inl gb_32)), (a_from, .inl (gI G, 15625, .inl gr_33))]) [0, 1, 2, 3, 4, 5, 6, 7, 8] rfl)
              have hD9 := (hD.sub (ws' := [(h1, .inr (6, [.int (nI k), .ref a_maps, .int told, .ref a_kinds, v_land, v_spades, .ref a_part, .ref a_pad, .int (nI pm), v_slips, v_slipMany, v_made, .ref a_queue, .ref a_depth, .ref a_by, .ref a_from, .int (nI cm1_29), v_offOf, v_parent, v_best, v_trees, v_least, v_sums, v_toward, v_kept, v_isKept, v_keptAt, v_isWriting])), (a_maps, .inl (gI G, 6, .inl fm)), (a_kinds, .inl (gI G, 4, .inl fk)), (a_part, .inl (gI G, 6, .inl fp)), (a_pad, .inl (gI G, 40, .inl fpd)), (a_queue, .inl (gI G, 15625, .inl gq_30)), (a_depth, .inl (gI G, 15625, .inl gd_31)), (a_by, .inl (gI G, 15625, .inl gb_32)), (a_from, .inl (gI G, 15625, .inl gr_33))]) [0, 1, 2, 3, 4, 5, 6, 7, 8] (by decide) rfl)
              exact W.iret (v := (-6)) hx hb hr (fun t9_ ht9_ hW9_ => ⟨⟨(-6), (nI cm1_29, gq_30, gd_31, gb_32, gr_33), rfl, trivial, by rw [ht9_]; exact hP9, hD9⟩, hS.F ht9_⟩) hS.2.2 dX10_wished_151
            · have c34 : ¬ cm1_29 ≤ x := fun h9_ => c34 ((nI_leI (a := cm1_29) (b := x) (by omega) (by omega)).mpr h9_)
              obtain ⟨qx, hqx, eqx, hnx⟩ := w26.2.2.1 x (by omega)
              refine lv_aload_n hx hb dX10_wished_87 rfl (lv_at hl 1 rfl) ?_
              refine lv_aload_n hx hb dX10_wished_88 rfl (lv_at hl 1 rfl) ?_
              refine va_get (D := G.1) (ci := 6) (v := .ref a_queue) (C := RX10) (T := TX10) (N := 28) hx hb hts (fun _ h => List.mem_cons_of_mem _ (List.mem_append_right _ h)) hown E.K hP 0 rfl rfl 12 (by decide) (hts (.fieldLink RX10 25 "LastMapModel" "queue" "[I") (by decide +kernel)) (fun _ h9 => h9) rfl dX10_wished_89 ?_
              refine lv_iload hx hb dX10_wished_92 (lv_at hl 0 rfl) ?_
              refine va_iald hx hb E.K hP 5 1 rfl rfl (i := nI x) (vp_in_nI (by omega) (by decide)) dX10_wished_94 ?_
              refine lv_topi (fun x35 ex35 => ?_)
              obtain rfl : x35 = nI qx := by rw [ex35, nI_clamp (by omega)]; exact eqx
              refine lv_aload_n hx hb dX10_wished_95 rfl (lv_at hl 1 rfl) ?_
              refine va_get (D := G.1) (ci := 6) (v := .ref a_maps) (C := RX10) (T := TX10) (N := 28) hx hb hts (fun _ h => List.mem_cons_of_mem _ (List.mem_append_right _ h)) hown E.K hP 0 rfl rfl 1 (by decide) (hts (.fieldLink RX10 7 "LastMapModel" "maps" "[I") (by decide +kernel)) (fun _ h9 => h9) rfl dX10_wished_96 ?_
              refine lv_iload_n hx hb dX10_wished_99 rfl (lv_at hl 2 rfl) ?_
              refine va_iald hx hb E.K hP 1 1 rfl rfl (i := nI j_p0) (vp_in_nI (by omega) (by decide)) dX10_wished_100 ?_
              refine lv_topi (fun x36 ex36 => ?_)
              obtain ⟨a_x36, ha_x36, hvx36⟩ := hfm j_p0 (by omega)
              obtain rfl : x36 = nI a_x36 := by rw [ex36, nI_clamp (by omega)]; exact hvx36
              refine lv_iload_n hx hb dX10_wished_101 rfl (lv_at hl 4 rfl) ?_
              refine ca_iR (va_runV (As := [.int (nI qx), .int (nI a_x36), .int p2]) (rest := []) ⟨hx, hb, hml, hown, hts⟩ (m_isWished l G H.size h1 (.ref a_maps) (.int told) (.ref a_kinds) v_land v_spades (.int (nI pm)) v_slips v_slipMany v_made (.ref a_queue) (.ref a_depth) (.ref a_by) (.ref a_from) (.int (nI cm1_29)) v_offOf v_parent v_best v_trees v_least v_sums v_toward v_kept v_isKept v_keptAt v_isWriting a_part fp a_pad fpd k qx a_x36 p2 hk2 hk6 hp (by omega) (by omega)) (cwV 3 hts gX10_wished_X10_isWished rfl rfl rfl (by decide +kernel) ⟨by decide +kernel, by decide +kernel⟩) (pre_V E hP hD hS hA [0, 3, 4] (by decide) rfl 0 6 rfl rfl) rfl rfl hl.1 rfl (lv_room (Nat.le_of_ble_eq_true rfl)) dX10_wished_102 ⟨by decide +kernel, by decide +kernel⟩) hS hP hD hA [0, 3, 4] rfl (fun r38 _ H locs w37 hP hS => ?_)
              rcases w37 with ⟨rfl, b39⟩ | ⟨rfl, b39⟩
              · refine lv_if_eq (tgt := 143) hx hb dX10_wished_105 (by decide) (fun c40 => False.elim (by revert c40; decide)) (fun _ => ?_)
                refine lv_iload hx hb dX10_wished_108 (lv_at hl 5 rfl) ?_
                refine lv_iconst (v := (-1)) hx hb dX10_wished_110 (by decide) ?_
                refine lv_icmp_ne (tgt := 129) hx hb dX10_wished_111 (by decide) (fun c41 => ?_) (fun c41 => ?_)
                · refine lv_aload_n hx hb dX10_wished_129 rfl (lv_at hl 1 rfl) ?_
                  refine lv_aload_n hx hb dX10_wished_130 rfl (lv_at hl 1 rfl) ?_
                  refine va_get (D := G.1) (ci := 6) (v := .ref a_queue) (C := RX10) (T := TX10) (N := 28) hx hb hts (fun _ h => List.mem_cons_of_mem _ (List.mem_append_right _ h)) hown E.K hP 0 rfl rfl 12 (by decide) (hts (.fieldLink RX10 25 "LastMapModel" "queue" "[I") (by decide +kernel)) (fun _ h9 => h9) rfl dX10_wished_131 ?_
                  refine lv_iload hx hb dX10_wished_134 (lv_at hl 0 rfl) ?_
                  refine va_iald hx hb E.K hP 5 1 rfl rfl (i := nI x) (vp_in_nI (by omega) (by decide)) dX10_wished_136 ?_
                  refine lv_topi (fun x42 ex42 => ?_)
                  obtain rfl : x42 = nI qx := by rw [ex42, nI_clamp (by omega)]; exact eqx
                  refine lv_iload hx hb dX10_wished_137 (lv_at hl 5 rfl) ?_
                  refine ca_iR (va_runV (As := [.int (nI qx), .int p3]) (rest := []) ⟨hx, hb, hml, hown, hts⟩ (m_slipTo l G H.size h1 (.int (nI k)) (.ref a_maps) (.int told) (.ref a_kinds) v_land v_spades (.ref a_part) (.ref a_pad) (.int (nI pm)) v_slips v_slipMany v_made (.ref a_queue) (.int (nI cm1_29)) v_offOf v_parent v_best v_trees v_least v_sums v_toward v_kept v_isKept v_keptAt v_isWriting a_depth a_by a_from gd_31 gb_32 gr_33 gq_30 k qx cm1_29 p3 hk6 (by omega) w26) (cwV 2 hts gX10_wished_X10_slipTo rfl rfl rfl (by decide +kernel) ⟨by decide +kernel, by decide +kernel⟩) (pre_V E hP hD hS hA [0, 6, 7, 8] (by decide) rfl 0 6 rfl rfl) rfl rfl hl.1 rfl (lv_room (Nat.le_of_ble_eq_true rfl)) dX10_wished_139 ⟨by decide +kernel, by decide +kernel⟩) hS hP hD hA [0, 6, 7, 8] rfl (fun r44 _ H locs w43 hP hS => ?_)
                  have hP9 := (hP.sub (ws' := [(h1, .inr (6, [.int (nI k), .ref a_maps, .int told, .ref a_kinds, v_land, v_spades, .ref a_part, .ref a_pad, .int (nI pm), v_slips, v_slipMany, v_made, .ref a_queue, .ref a_depth, .ref a_by, .ref a_from, .int (nI cm1_29), v_offOf, v_parent, v_best, v_trees, v_least, v_sums, v_toward, v_kept, v_isKept, v_keptAt, v_isWriting])), (a_maps, .inl (gI G, 6, .inl fm)), (a_kinds, .inl (gI G, 4, .inl fk)), (a_part, .inl (gI G, 6, .inl fp)), (a_pad, .inl (gI G, 40, .inl fpd)), (a_queue, .inl (gI G, 15625, .inl gq_30)), (a_depth, .inl (gI G, 15625, .inl gd_31)), (a_by, .inl (gI G, 15625, .inl gb_32)), (a_from, .inl (gI G, 15625, .inl gr_33))]) [0, 1, 2, 3, 4, 5, 6, 7, 8] rfl)
                  have hD9 := (hD.sub (ws' := [(h1, .inr (6, [.int (nI k), .ref a_maps, .int told, .ref a_kinds, v_land, v_spades, .ref a_part, .ref a_pad, .int (nI pm), v_slips, v_slipMany, v_made, .ref a_queue, .ref a_depth, .ref a_by, .ref a_from, .int (nI cm1_29), v_offOf, v_parent, v_best, v_trees, v_least, v_sums, v_toward, v_kept, v_isKept, v_keptAt, v_isWriting])), (a_maps, .inl (gI G, 6, .inl fm)), (a_kinds, .inl (gI G, 4, .inl fk)), (a_part, .inl (gI G, 6, .inl fp)), (a_pad, .inl (gI G, 40, .inl fpd)), (a_queue, .inl (gI G, 15625, .inl gq_30)), (a_depth, .inl (gI G, 15625, .inl gd_31)), (a_by, .inl (gI G, 15625, .inl gb_32)), (a_from, .inl (gI G, 15625, .inl gr_33))]) [0, 1, 2, 3, 4, 5, 6, 7, 8] (by decide) rfl)
                  exact W.iret (v := r44) hx hb hr (fun t9_ ht9_ hW9_ => ⟨⟨r44, (nI cm1_29, gq_30, gd_31, gb_32, gr_33), rfl, trivial, by rw [ht9_]; exact hP9, hD9⟩, hS.F ht9_⟩) hS.2.2 dX10_wished_142
                · refine lv_aload_n hx hb dX10_wished_114 rfl (lv_at hl 1 rfl) ?_
                  refine va_get (D := G.1) (ci := 6) (v := .ref a_depth) (C := RX10) (T := TX10) (N := 28) hx hb hts (fun _ h => List.mem_cons_of_mem _ (List.mem_append_right _ h)) hown E.K hP 0 rfl rfl 13 (by decide) (hts (.fieldLink RX10 28 "LastMapModel" "depth" "[I") (by decide +kernel)) (fun _ h9 => h9) rfl dX10_wished_115 ?_
                  refine lv_aload_n hx hb dX10_wished_118 rfl (lv_at hl 1 rfl) ?_
                  refine va_get (D := G.1) (ci := 6) (v := .ref a_queue) (C := RX10) (T := TX10) (N := 28) hx hb hts (fun _ h => List.mem_cons_of_mem _ (List.mem_append_right _ h)) hown E.K hP 0 rfl rfl 12 (by decide) (hts (.fieldLink RX10 25 "LastMapModel" "queue" "[I") (by decide +kernel)) (fun _ h9 => h9) rfl dX10_wished_119 ?_
                  refine lv_iload hx hb dX10_wished_122 (lv_at hl 0 rfl) ?_
                  refine va_iald hx hb E.K hP 5 1 rfl rfl (i := nI x) (vp_in_nI (by omega) (by decide)) dX10_wished_124 ?_
                  refine lv_topi (fun x45 ex45 => ?_)
                  obtain rfl : x45 = nI qx := by rw [ex45, nI_clamp (by omega)]; exact eqx
                  refine va_iald hx hb E.K hP 6 1 rfl rfl (i := nI qx) (vp_in_nI (by omega) (by decide)) dX10_wished_125 ?_
                  refine lv_topi (fun x46 ex46 => ?_)
                  refine lv_goto (tgt := 142) hx hb dX10_wished_126 (by decide) ?_
                  have hP9 := (hP.sub (ws' := [(h1, .inr (6, [.int (nI k), .ref a_maps, .int told, .ref a_kinds, v_land, v_spades, .ref a_part, .ref a_pad, .int (nI pm), v_slips, v_slipMany, v_made, .ref a_queue, .ref a_depth, .ref a_by, .ref a_from, .int (nI cm1_29), v_offOf, v_parent, v_best, v_trees, v_least, v_sums, v_toward, v_kept, v_isKept, v_keptAt, v_isWriting])), (a_maps, .inl (gI G, 6, .inl fm)), (a_kinds, .inl (gI G, 4, .inl fk)), (a_part, .inl (gI G, 6, .inl fp)), (a_pad, .inl (gI G, 40, .inl fpd)), (a_queue, .inl (gI G, 15625, .inl gq_30)), (a_depth, .inl (gI G, 15625, .inl gd_31)), (a_by, .inl (gI G, 15625, .inl gb_32)), (a_from, .inl (gI G, 15625, .inl gr_33))]) [0, 1, 2, 3, 4, 5, 6, 7, 8] rfl)
                  have hD9 := (hD.sub (ws' := [(h1, .inr (6, [.int (nI k), .ref a_maps, .int told, .ref a_kinds, v_land, v_spades, .ref a_part, .ref a_pad, .int (nI pm), v_slips, v_slipMany, v_made, .ref a_queue, .ref a_depth, .ref a_by, .ref a_from, .int (nI cm1_29), v_offOf, v_parent, v_best, v_trees, v_least, v_sums, v_toward, v_kept, v_isKept, v_keptAt, v_isWriting])), (a_maps, .inl (gI G, 6, .inl fm)), (a_kinds, .inl (gI G, 4, .inl fk)), (a_part, .inl (gI G, 6, .inl fp)), (a_pad, .inl (gI G, 40, .inl fpd)), (a_queue, .inl (gI G, 15625, .inl gq_30)), (a_depth, .inl (gI G, 15625, .inl gd_31)), (a_by, .inl (gI G, 15625, .inl gb_32)), (a_from, .inl (gI G, 15625, .inl gr_33))]) [0, 1, 2, 3, 4, 5, 6, 7, 8] (by decide) rfl)
                  exact W.iret (v := x46) hx hb hr (fun t9_ ht9_ hW9_ => ⟨⟨x46, (nI cm1_29, gq_30, gd_31, gb_32, gr_33), rfl, trivial, by rw [ht9_]; exact hP9, hD9⟩, hS.F ht9_⟩) hS.2.2 dX10_wished_142
              · refine lv_if_eq (tgt := 143) hx hb dX10_wished_105 (by decide) (fun _ => ?_) (fun c47 => False.elim (by revert c47; decide))
                obtain ⟨x48, ex48⟩ : ∃ yy_ : Int32, yy_ = (nI x) + 1 := ⟨_, rfl⟩
                refine lv_iinc (v := x48) (lv' := [(5, .int x48), (0, .ref h1), (1, .int (nI j_p0)), (2, .int (nI j_p1)), (3, .int p2), (4, .int p3)]) hx hb dX10_wished_143 hl (k := 0) rfl (by rw [ex48]; rfl) (by decide) rfl (fun ls hl => ?_)
                obtain rfl : x48 = nI (x + 1) := by rw [ex48]; exact nI_add x 1
                refine lv_goto (tgt := 78) hx hb dX10_wished_146 (by decide) ?_
                refine ih78 (x + 1) ?_ (by first | omega | (dsimp only; omega)) H locs ls (hP.sub [0, 1, 2, 3, 4, 5, 6, 7, 8] rfl) (hD.sub [0, 1, 2, 3, 4, 5, 6, 7, 8] (by decide) rfl) hS (lv_sub hl [0, 1, 2, 3, 4, 5] rfl)
                try dsimp only
                omega
          · refine lv_bipush (v := (-5)) hx hb dX10_wished_56 (by decide) ?_
            have hP9 := (hP.sub (ws' := [(h1, .inr (6, [.int (nI k), .ref a_maps, .int told, .ref a_kinds, v_land, v_spades, .ref a_part, .ref a_pad, .int (nI pm), v_slips, v_slipMany, v_made, .ref a_queue, .ref a_depth, .ref a_by, .ref a_from, .int cm0, v_offOf, v_parent, v_best, v_trees, v_least, v_sums, v_toward, v_kept, v_isKept, v_keptAt, v_isWriting])), (a_maps, .inl (gI G, 6, .inl fm)), (a_kinds, .inl (gI G, 4, .inl fk)), (a_part, .inl (gI G, 6, .inl fp)), (a_pad, .inl (gI G, 40, .inl fpd)), (a_queue, .inl (gI G, 15625, .inl fq)), (a_depth, .inl (gI G, 15625, .inl fd)), (a_by, .inl (gI G, 15625, .inl fb)), (a_from, .inl (gI G, 15625, .inl fr))]) [0, 1, 2, 3, 4, 5, 6, 7, 8] rfl)
            have hD9 := (hD.sub (ws' := [(h1, .inr (6, [.int (nI k), .ref a_maps, .int told, .ref a_kinds, v_land, v_spades, .ref a_part, .ref a_pad, .int (nI pm), v_slips, v_slipMany, v_made, .ref a_queue, .ref a_depth, .ref a_by, .ref a_from, .int cm0, v_offOf, v_parent, v_best, v_trees, v_least, v_sums, v_toward, v_kept, v_isKept, v_keptAt, v_isWriting])), (a_maps, .inl (gI G, 6, .inl fm)), (a_kinds, .inl (gI G, 4, .inl fk)), (a_part, .inl (gI G, 6, .inl fp)), (a_pad, .inl (gI G, 40, .inl fpd)), (a_queue, .inl (gI G, 15625, .inl fq)), (a_depth, .inl (gI G, 15625, .inl fd)), (a_by, .inl (gI G, 15625, .inl fb)), (a_from, .inl (gI G, 15625, .inl fr))]) [0, 1, 2, 3, 4, 5, 6, 7, 8] (by decide) rfl)
            exact W.iret (v := (-5)) hx hb hr (fun t9_ ht9_ hW9_ => ⟨⟨(-5), (cm0, fq, fd, fb, fr), rfl, trivial, by rw [ht9_]; exact hP9, hD9⟩, hS.F ht9_⟩) hS.2.2 dX10_wished_58
        · refine lv_if_ne (tgt := 48) hx hb dX10_wished_42 (by decide) (fun c49 => False.elim (by revert c49; decide)) (fun _ => ?_)
          refine lv_bipush (v := (-3)) hx hb dX10_wished_45 (by decide) ?_
          have hP9 := (hP.sub (ws' := [(h1, .inr (6, [.int (nI k), .ref a_maps, .int told, .ref a_kinds, v_land, v_spades, .ref a_part, .ref a_pad, .int (nI pm), v_slips, v_slipMany, v_made, .ref a_queue, .ref a_depth, .ref a_by, .ref a_from, .int cm0, v_offOf, v_parent, v_best, v_trees, v_least, v_sums, v_toward, v_kept, v_isKept, v_keptAt, v_isWriting])), (a_maps, .inl (gI G, 6, .inl fm)), (a_kinds, .inl (gI G, 4, .inl fk)), (a_part, .inl (gI G, 6, .inl fp)), (a_pad, .inl (gI G, 40, .inl fpd)), (a_queue, .inl (gI G, 15625, .inl fq)), (a_depth, .inl (gI G, 15625, .inl fd)), (a_by, .inl (gI G, 15625, .inl fb)), (a_from, .inl (gI G, 15625, .inl fr))]) [0, 1, 2, 3, 4, 5, 6, 7, 8] rfl)
          have hD9 := (hD.sub (ws' := [(h1, .inr (6, [.int (nI k), .ref a_maps, .int told, .ref a_kinds, v_land, v_spades, .ref a_part, .ref a_pad, .int (nI pm), v_slips, v_slipMany, v_made, .ref a_queue, .ref a_depth, .ref a_by, .ref a_from, .int cm0, v_offOf, v_parent, v_best, v_trees, v_least, v_sums, v_toward, v_kept, v_isKept, v_keptAt, v_isWriting])), (a_maps, .inl (gI G, 6, .inl fm)), (a_kinds, .inl (gI G, 4, .inl fk)), (a_part, .inl (gI G, 6, .inl fp)), (a_pad, .inl (gI G, 40, .inl fpd)), (a_queue, .inl (gI G, 15625, .inl fq)), (a_depth, .inl (gI G, 15625, .inl fd)), (a_by, .inl (gI G, 15625, .inl fb)), (a_from, .inl (gI G, 15625, .inl fr))]) [0, 1, 2, 3, 4, 5, 6, 7, 8] (by decide) rfl)
          exact W.iret (v := (-3)) hx hb hr (fun t9_ ht9_ hW9_ => ⟨⟨(-3), (cm0, fq, fd, fb, fr), rfl, trivial, by rw [ht9_]; exact hP9, hD9⟩, hS.F ht9_⟩) hS.2.2 dX10_wished_47
      · refine lv_if_ne (tgt := 37) hx hb dX10_wished_31 (by decide) (fun c50 => False.elim (by revert c50; decide)) (fun _ => ?_)
        refine lv_bipush (v := (-2)) hx hb dX10_wished_34 (by decide) ?_
        have hP9 := (hP.sub (ws' := [(h1, .inr (6, [.int (nI k), .ref a_maps, .int told, .ref a_kinds, v_land, v_spades, .ref a_part, .ref a_pad, .int (nI pm), v_slips, v_slipMany, v_made, .ref a_queue, .ref a_depth, .ref a_by, .ref a_from, .int cm0, v_offOf, v_parent, v_best, v_trees, v_least, v_sums, v_toward, v_kept, v_isKept, v_keptAt, v_isWriting])), (a_maps, .inl (gI G, 6, .inl fm)), (a_kinds, .inl (gI G, 4, .inl fk)), (a_part, .inl (gI G, 6, .inl fp)), (a_pad, .inl (gI G, 40, .inl fpd)), (a_queue, .inl (gI G, 15625, .inl fq)), (a_depth, .inl (gI G, 15625, .inl fd)), (a_by, .inl (gI G, 15625, .inl fb)), (a_from, .inl (gI G, 15625, .inl fr))]) [0, 1, 2, 3, 4, 5, 6, 7, 8] rfl)
        have hD9 := (hD.sub (ws' := [(h1, .inr (6, [.int (nI k), .ref a_maps, .int told, .ref a_kinds, v_land, v_spades, .ref a_part, .ref a_pad, .int (nI pm), v_slips, v_slipMany, v_made, .ref a_queue, .ref a_depth, .ref a_by, .ref a_from, .int cm0, v_offOf, v_parent, v_best, v_trees, v_least, v_sums, v_toward, v_kept, v_isKept, v_keptAt, v_isWriting])), (a_maps, .inl (gI G, 6, .inl fm)), (a_kinds, .inl (gI G, 4, .inl fk)), (a_part, .inl (gI G, 6, .inl fp)), (a_pad, .inl (gI G, 40, .inl fpd)), (a_queue, .inl (gI G, 15625, .inl fq)), (a_depth, .inl (gI G, 15625, .inl fd)), (a_by, .inl (gI G, 15625, .inl fb)), (a_from, .inl (gI G, 15625, .inl fr))]) [0, 1, 2, 3, 4, 5, 6, 7, 8] (by decide) rfl)
        exact W.iret (v := (-2)) hx hb hr (fun t9_ ht9_ hW9_ => ⟨⟨(-2), (cm0, fq, fd, fb, fr), rfl, trivial, by rw [ht9_]; exact hP9, hD9⟩, hS.F ht9_⟩) hS.2.2 dX10_wished_36
    · refine lv_if_ne (tgt := 16) hx hb dX10_wished_11 (by decide) (fun c51 => False.elim (by revert c51; decide)) (fun _ => ?_)
      refine lv_iconst (v := (-1)) hx hb dX10_wished_14 (by decide) ?_
      have hP9 := (hP.sub (ws' := [(h1, .inr (6, [.int (nI k), .ref a_maps, .int told, .ref a_kinds, v_land, v_spades, .ref a_part, .ref a_pad, .int (nI pm), v_slips, v_slipMany, v_made, .ref a_queue, .ref a_depth, .ref a_by, .ref a_from, .int cm0, v_offOf, v_parent, v_best, v_trees, v_least, v_sums, v_toward, v_kept, v_isKept, v_keptAt, v_isWriting])), (a_maps, .inl (gI G, 6, .inl fm)), (a_kinds, .inl (gI G, 4, .inl fk)), (a_part, .inl (gI G, 6, .inl fp)), (a_pad, .inl (gI G, 40, .inl fpd)), (a_queue, .inl (gI G, 15625, .inl fq)), (a_depth, .inl (gI G, 15625, .inl fd)), (a_by, .inl (gI G, 15625, .inl fb)), (a_from, .inl (gI G, 15625, .inl fr))]) [0, 1, 2, 3, 4, 5, 6, 7, 8] rfl)
      have hD9 := (hD.sub (ws' := [(h1, .inr (6, [.int (nI k), .ref a_maps, .int told, .ref a_kinds, v_land, v_spades, .ref a_part, .ref a_pad, .int (nI pm), v_slips, v_slipMany, v_made, .ref a_queue, .ref a_depth, .ref a_by, .ref a_from, .int cm0, v_offOf, v_parent, v_best, v_trees, v_least, v_sums, v_toward, v_kept, v_isKept, v_keptAt, v_isWriting])), (a_maps, .inl (gI G, 6, .inl fm)), (a_kinds, .inl (gI G, 4, .inl fk)), (a_part, .inl (gI G, 6, .inl fp)), (a_pad, .inl (gI G, 40, .inl fpd)), (a_queue, .inl (gI G, 15625, .inl fq)), (a_depth, .inl (gI G, 15625, .inl fd)), (a_by, .inl (gI G, 15625, .inl fb)), (a_from, .inl (gI G, 15625, .inl fr))]) [0, 1, 2, 3, 4, 5, 6, 7, 8] (by decide) rfl)
      exact W.iret (v := (-1)) hx hb hr (fun t9_ ht9_ hW9_ => ⟨⟨(-1), (cm0, fq, fd, fb, fr), rfl, trivial, by rw [ht9_]; exact hP9, hD9⟩, hS.F ht9_⟩) hS.2.2 dX10_wished_15
  · refine lv_if_eq (tgt := 14) hx hb dX10_wished_4 (by decide) (fun _ => ?_) (fun c52 => False.elim (by revert c52; decide))
    refine lv_iconst (v := (-1)) hx hb dX10_wished_14 (by decide) ?_
    have hP9 := (hP.sub (ws' := [(h1, .inr (6, [.int (nI k), .ref a_maps, .int told, .ref a_kinds, v_land, v_spades, .ref a_part, .ref a_pad, .int (nI pm), v_slips, v_slipMany, v_made, .ref a_queue, .ref a_depth, .ref a_by, .ref a_from, .int cm0, v_offOf, v_parent, v_best, v_trees, v_least, v_sums, v_toward, v_kept, v_isKept, v_keptAt, v_isWriting])), (a_maps, .inl (gI G, 6, .inl fm)), (a_kinds, .inl (gI G, 4, .inl fk)), (a_part, .inl (gI G, 6, .inl fp)), (a_pad, .inl (gI G, 40, .inl fpd)), (a_queue, .inl (gI G, 15625, .inl fq)), (a_depth, .inl (gI G, 15625, .inl fd)), (a_by, .inl (gI G, 15625, .inl fb)), (a_from, .inl (gI G, 15625, .inl fr))]) [0, 1, 2, 3, 4, 5, 6, 7, 8] rfl)
    have hD9 := (hD.sub (ws' := [(h1, .inr (6, [.int (nI k), .ref a_maps, .int told, .ref a_kinds, v_land, v_spades, .ref a_part, .ref a_pad, .int (nI pm), v_slips, v_slipMany, v_made, .ref a_queue, .ref a_depth, .ref a_by, .ref a_from, .int cm0, v_offOf, v_parent, v_best, v_trees, v_least, v_sums, v_toward, v_kept, v_isKept, v_keptAt, v_isWriting])), (a_maps, .inl (gI G, 6, .inl fm)), (a_kinds, .inl (gI G, 4, .inl fk)), (a_part, .inl (gI G, 6, .inl fp)), (a_pad, .inl (gI G, 40, .inl fpd)), (a_queue, .inl (gI G, 15625, .inl fq)), (a_depth, .inl (gI G, 15625, .inl fd)), (a_by, .inl (gI G, 15625, .inl fb)), (a_from, .inl (gI G, 15625, .inl fr))]) [0, 1, 2, 3, 4, 5, 6, 7, 8] (by decide) rfl)
    exact W.iret (v := (-1)) hx hb hr (fun t9_ ht9_ hW9_ => ⟨⟨(-1), (cm0, fq, fd, fb, fr), rfl, trivial, by rw [ht9_]; exact hP9, hD9⟩, hS.F ht9_⟩) hS.2.2 dX10_wished_15

set_option maxHeartbeats 1000000 in
set_option maxRecDepth 100000 in
theorem m_mostAt (l : Launch) (G : Gy) (sz : Nat) (h1 : Nat) (v_sites : Value) (v_told : Value) (v_kinds : Value) (v_land : Value) (v_spades : Value) (v_pad : Value) (v_padMany : Value) (v_slips : Value) (v_slipMany : Value) (v_made : Value) (v_queue : Value) (v_depth : Value) (v_by : Value) (v_from : Value) (v_come : Value) (v_offOf : Value) (v_parent : Value) (v_best : Value) (v_trees : Value) (v_least : Value) (v_sums : Value) (v_toward : Value) (v_kept : Value) (v_isKept : Value) (v_keptAt : Value) (v_isWriting : Value) (a_maps : Nat) (fm : Nat → Int32) (a_part : Nat) (fp : Nat → Int32) (k : Nat) (j : Nat) (p1 : Int32) (hk6 : k ≤ 6) (hp : pOK k fp) (hfm : mapsOK k fm) (hj : j < k) : Ci l G yX10_mostAt wsX10_mostAt ({ frames := 1, cells := 0, slots := 0, locals := 22 }) [.ref h1, .int p1, .int (nI j)] ([(h1, .inr (6, [v_sites, .ref a_maps, v_told, v_kinds, v_land, v_spades, .ref a_part, v_pad, v_padMany, v_slips, v_slipMany, v_made, v_queue, v_depth, v_by, v_from, v_come, v_offOf, v_parent, v_best, v_trees, v_least, v_sums, v_toward, v_kept, v_isKept, v_keptAt, v_isWriting])), (a_maps, .inl (gI G, 6, .inl fm)), (a_part, .inl (gI G, 6, .inl fp))]) sz (fun (r : Int32) (_ : Unit) => True) (fun (_ : Unit) => [(h1, .inr (6, [v_sites, .ref a_maps, v_told, v_kinds, v_land, v_spades, .ref a_part, v_pad, v_padMany, v_slips, v_slipMany, v_made, v_queue, v_depth, v_by, v_from, v_come, v_offOf, v_parent, v_best, v_trees, v_least, v_sums, v_toward, v_kept, v_isKept, v_keptAt, v_isWriting])), (a_maps, .inl (gI G, 6, .inl fm)), (a_part, .inl (gI G, 6, .inl fp))]) 0 0 := by
  refine Met.ofW (cc := cX10_mostAt) (maxL := 8) (ret := (some .int)) (by decide) rfl ?_
  intro p e s m args below meth c s₁ B hml hv
  obtain ⟨rfl, hsz, hP, hD0, E0⟩ := hv
  have hx := B.exec
  have hb := B.bytes
  have hr := B.returns
  have hts := atoms_spec (ws := wsX10_mostAt) B.pre
  have hown : s.vm.findClass RX10 = some m.cls := findClass_of_methodNamed B.named
  have hlocks := B.notSynchronized
  subst hsz
  have hD := hD0.self (sz := s.heap.size)
  generalize hAe : va_A ([(h1, .inr (6, [v_sites, .ref a_maps, v_told, v_kinds, v_land, v_spades, .ref a_part, v_pad, v_padMany, v_slips, v_slipMany, v_made, v_queue, v_depth, v_by, v_from, v_come, v_offOf, v_parent, v_best, v_trees, v_least, v_sums, v_toward, v_kept, v_isKept, v_keptAt, v_isWriting])), (a_maps, .inl (gI G, 6, .inl fm)), (a_part, .inl (gI G, 6, .inl fp))]) s.heap.size = A at hD E0 ⊢
  have E : EV G A s s.heap := E0
  have hA : ∀ q : Nat, s.heap.size ≤ q → A q := fun q h => by rw [← hAe]; exact Or.inr h
  have hS : va_S A s.heap s.heap [] := va_S.rf
  have hl := lv_entry ([.ref h1, .int p1, .int (nI j)]) (n := 8) (Nat.le_of_ble_eq_true rfl)
  rw [lg_entry_eq]
  generalize (lg_sl ([.ref h1, .int p1, .int (nI j)]) ++ List.replicate (8 - (lg_sl ([.ref h1, .int p1, .int (nI j)])).length) Slot.unset).toArray = ls at hl ⊢
  have hl : lv_has ls 8 [(0, .ref h1), (1, .int p1), (2, .int (nI j))] := hl
  have hP : va_P G.1 vwCl ([(h1, .inr (6, [v_sites, .ref a_maps, v_told, v_kinds, v_land, v_spades, .ref a_part, v_pad, v_padMany, v_slips, v_slipMany, v_made, v_queue, v_depth, v_by, v_from, v_come, v_offOf, v_parent, v_best, v_trees, v_least, v_sums, v_toward, v_kept, v_isKept, v_keptAt, v_isWriting])), (a_maps, .inl (gI G, 6, .inl fm)), (a_part, .inl (gI G, 6, .inl fp))]) s.heap := hP
  have hal := p5le hk6
  refine lv_iconst (v := 0) hx hb dX10_mostAt_0 (by decide) ?_
  refine lv_istore_n (lv' := [(3, .int 0), (0, .ref h1), (1, .int p1), (2, .int (nI j))]) hx hb dX10_mostAt_1 rfl hl (by decide) rfl (fun ls hl => ?_)
  refine lv_iconst (v := 0) hx hb dX10_mostAt_2 (by decide) ?_
  refine lv_istore (lv' := [(4, .int 0), (3, .int 0), (0, .ref h1), (1, .int p1), (2, .int (nI j))]) hx hb dX10_mostAt_3 hl (by decide) rfl (fun ls hl => ?_)
  refine lv_iconst (v := 0) hx hb dX10_mostAt_5 (by decide) ?_
  refine lv_istore (lv' := [(5, .int 0), (4, .int 0), (3, .int 0), (0, .ref h1), (1, .int p1), (2, .int (nI j))]) hx hb dX10_mostAt_6 hl (by decide) rfl (fun ls hl => ?_)
  refine lp_run (x0 := (0, 0, 0)) (fun xx_ : Nat × Int32 × Int32 => match xx_ with | (x, be, mo_) => [(h1, .inr (6, [v_sites, .ref a_maps, v_told, v_kinds, v_land, v_spades, .ref a_part, v_pad, v_padMany, v_slips, v_slipMany, v_made, v_queue, v_depth, v_by, v_from, v_come, v_offOf, v_parent, v_best, v_trees, v_least, v_sums, v_toward, v_kept, v_isKept, v_keptAt, v_isWriting])), (a_maps, .inl (gI G, 6, .inl fm)), (a_part, .inl (gI G, 6, .inl fp))]) (fun xx_ : Nat × Int32 × Int32 => match xx_ with | (x, be, mo_) => [(5, .int (nI x)), (4, .int mo_), (3, .int be), (0, .ref h1), (1, .int p1), (2, .int (nI j))]) (fun xx_ : Nat × Int32 × Int32 => match xx_ with | (x, be, mo_) => (x ≤ 5)) (fun xx_ : Nat × Int32 × Int32 => match xx_ with | (x, be, mo_) => 5 - x) (hP.sub [0, 1, 2] rfl) (hD.sub [0, 1, 2] (by decide) rfl) hS (lv_sub hl [0, 1, 2, 3, 4, 5] rfl) (by omega) ?_
  intro xx_ hI ih8 H locs ls hP hD hS hl
  obtain ⟨x, be, mo_⟩ := xx_
  dsimp only at hI ih8 hP hD hl
  have hx0 := hI
  have hl : lv_has ls 8 [(5, .int (nI x)), (4, .int mo_), (3, .int be), (0, .ref h1), (1, .int p1), (2, .int (nI j))] := hl
  have hP : va_P G.1 vwCl ([(h1, .inr (6, [v_sites, .ref a_maps, v_told, v_kinds, v_land, v_spades, .ref a_part, v_pad, v_padMany, v_slips, v_slipMany, v_made, v_queue, v_depth, v_by, v_from, v_come, v_offOf, v_parent, v_best, v_trees, v_least, v_sums, v_toward, v_kept, v_isKept, v_keptAt, v_isWriting])), (a_maps, .inl (gI G, 6, .inl fm)), (a_part, .inl (gI G, 6, .inl fp))]) H := hP
  have hD : va_D A ([(h1, .inr (6, [v_sites, .ref a_maps, v_told, v_kinds, v_land, v_spades, .ref a_part, v_pad, v_padMany, v_slips, v_slipMany, v_made, v_queue, v_depth, v_by, v_from, v_come, v_offOf, v_parent, v_best, v_trees, v_least, v_sums, v_toward, v_kept, v_isKept, v_keptAt, v_isWriting])), (a_maps, .inl (gI G, 6, .inl fm)), (a_part, .inl (gI G, 6, .inl fp))]) := hD
  refine lv_iload hx hb dX10_mostAt_8 (lv_at hl 0 rfl) ?_
  refine lv_iconst (v := 5) hx hb dX10_mostAt_10 (by decide) ?_
  refine lv_icmp_ge (tgt := 106) hx hb dX10_mostAt_11 (by decide) (fun c1 => ?_) (fun c1 => ?_)
  · have c1 : 5 ≤ x := (nI_leI (a := 5) (b := x) (by omega) (by omega)).mp c1
    refine lv_iload_n hx hb dX10_mostAt_106 rfl (lv_at hl 2 rfl) ?_
    have hP9 := (hP.sub (ws' := [(h1, .inr (6, [v_sites, .ref a_maps, v_told, v_kinds, v_land, v_spades, .ref a_part, v_pad, v_padMany, v_slips, v_slipMany, v_made, v_queue, v_depth, v_by, v_from, v_come, v_offOf, v_parent, v_best, v_trees, v_least, v_sums, v_toward, v_kept, v_isKept, v_keptAt, v_isWriting])), (a_maps, .inl (gI G, 6, .inl fm)), (a_part, .inl (gI G, 6, .inl fp))]) [0, 1, 2] rfl)
    have hD9 := (hD.sub (ws' := [(h1, .inr (6, [v_sites, .ref a_maps, v_told, v_kinds, v_land, v_spades, .ref a_part, v_pad, v_padMany, v_slips, v_slipMany, v_made, v_queue, v_depth, v_by, v_from, v_come, v_offOf, v_parent, v_best, v_trees, v_least, v_sums, v_toward, v_kept, v_isKept, v_keptAt, v_isWriting])), (a_maps, .inl (gI G, 6, .inl fm)), (a_part, .inl (gI G, 6, .inl fp))]) [0, 1, 2] (by decide) rfl)
    exact W.iret (v := be) hx hb hr (fun t9_ ht9_ hW9_ => ⟨⟨be, (), rfl, trivial, by rw [ht9_]; exact hP9, hD9⟩, hS.F ht9_⟩) hS.2.2 dX10_mostAt_107
  · have c1 : ¬ 5 ≤ x := fun h9_ => c1 ((nI_leI (a := 5) (b := x) (by omega) (by omega)).mpr h9_)
    refine lv_iconst (v := 0) hx hb dX10_mostAt_14 (by decide) ?_
    refine lv_istore (lv' := [(6, .int 0), (5, .int (nI x)), (4, .int mo_), (3, .int be), (0, .ref h1), (1, .int p1), (2, .int (nI j))]) hx hb dX10_mostAt_15 hl (by decide) rfl (fun ls hl => ?_)
    refine lv_iconst (v := 0) hx hb dX10_mostAt_17 (by decide) ?_
    refine lv_istore (lv' := [(7, .int 0), (6, .int 0), (5, .int (nI x)), (4, .int mo_), (3, .int be), (0, .ref h1), (1, .int p1), (2, .int (nI j))]) hx hb dX10_mostAt_18 hl (by decide) rfl (fun ls hl => ?_)
    refine lp_run (x0 := (0, 0)) (fun xx_ : Nat × Int32 => match xx_ with | (y, ma_) => [(h1, .inr (6, [v_sites, .ref a_maps, v_told, v_kinds, v_land, v_spades, .ref a_part, v_pad, v_padMany, v_slips, v_slipMany, v_made, v_queue, v_depth, v_by, v_from, v_come, v_offOf, v_parent, v_best, v_trees, v_least, v_sums, v_toward, v_kept, v_isKept, v_keptAt, v_isWriting])), (a_maps, .inl (gI G, 6, .inl fm)), (a_part, .inl (gI G, 6, .inl fp))]) (fun xx_ : Nat × Int32 => match xx_ with | (y, ma_) => [(7, .int (nI y)), (6, .int ma_), (5, .int (nI x)), (4, .int mo_), (3, .int be), (0, .ref h1), (1, .int p1), (2, .int (nI j))]) (fun xx_ : Nat × Int32 => match xx_ with | (y, ma_) => (y ≤ 6)) (fun xx_ : Nat × Int32 => match xx_ with | (y, ma_) => 6 - y) (hP.sub [0, 1, 2] rfl) (hD.sub [0, 1, 2] (by decide) rfl) hS (lv_sub hl [0, 1, 2, 3, 4, 5, 6, 7] rfl) (by omega) ?_
    intro xx_ hI ih20 H locs ls hP hD hS hl
    obtain ⟨y, ma_⟩ := xx_
    dsimp only at hI ih20 hP hD hl
    have hy0 := hI
    have hl : lv_has ls 8 [(7, .int (nI y)), (6, .int ma_), (5, .int (nI x)), (4, .int mo_), (3, .int be), (0, .ref h1), (1, .int p1), (2, .int (nI j))] := hl
    have hP : va_P G.1 vwCl ([(h1, .inr (6, [v_sites, .ref a_maps, v_told, v_kinds, v_land, v_spades, .ref a_part, v_pad, v_padMany, v_slips, v_slipMany, v_made, v_queue, v_depth, v_by, v_from, v_come, v_offOf, v_parent, v_best, v_trees, v_least, v_sums, v_toward, v_kept, v_isKept, v_keptAt, v_isWriting])), (a_maps, .inl (gI G, 6, .inl fm)), (a_part, .inl (gI G, 6, .inl fp))]) H := hP
    have hD : va_D A ([(h1, .inr (6, [v_sites, .ref a_maps, v_told, v_kinds, v_land, v_spades, .ref a_part, v_pad, v_padMany, v_slips, v_slipMany, v_made, v_queue, v_depth, v_by, v_from, v_come, v_offOf, v_parent, v_best, v_trees, v_least, v_sums, v_toward, v_kept, v_isKept, v_keptAt, v_isWriting])), (a_maps, .inl (gI G, 6, .inl fm)), (a_part, .inl (gI G, 6, .inl fp))]) := hD
    refine lv_iload hx hb dX10_mostAt_20 (lv_at hl 0 rfl) ?_
    refine lv_bipush (v := 6) hx hb dX10_mostAt_22 (by decide) ?_
    refine lv_icmp_ge (tgt := 70) hx hb dX10_mostAt_24 (by decide) (fun c2 => ?_) (fun c2 => ?_)
    · have c2 : 6 ≤ y := (nI_leI (a := 6) (b := y) (by omega) (by omega)).mp c2
      refine lv_iload hx hb dX10_mostAt_70 (lv_at hl 1 rfl) ?_
      refine lv_iload hx hb dX10_mostAt_72 (lv_at hl 3 rfl) ?_
      refine lv_icmp_le (tgt := 82) hx hb dX10_mostAt_74 (by decide) (fun c3 => ?_) (fun c3 => ?_)
      · refine lv_iload_n hx hb dX10_mostAt_82 rfl (lv_at hl 4 rfl) ?_
        refine lv_istore_n (lv' := [(3, .int be), (7, .int (nI y)), (6, .int ma_), (5, .int (nI x)), (4, .int mo_), (0, .ref h1), (1, .int p1), (2, .int (nI j))]) hx hb dX10_mostAt_83 rfl hl (by decide) rfl (fun ls hl => ?_)
        refine lv_iload hx hb dX10_mostAt_84 (lv_at hl 2 rfl) ?_
        refine lv_iload hx hb dX10_mostAt_86 (lv_at hl 4 rfl) ?_
        refine lv_icmp_le (tgt := 96) hx hb dX10_mostAt_88 (by decide) (fun c4 => ?_) (fun c4 => ?_)
        · refine lv_iload hx hb dX10_mostAt_96 (lv_at hl 4 rfl) ?_
          refine lv_istore (lv' := [(4, .int mo_), (3, .int be), (7, .int (nI y)), (6, .int ma_), (5, .int (nI x)), (0, .ref h1), (1, .int p1), (2, .int (nI j))]) hx hb dX10_mostAt_98 hl (by decide) rfl (fun ls hl => ?_)
          obtain ⟨x5, ex5⟩ : ∃ yy_ : Int32, yy_ = (nI x) + 1 := ⟨_, rfl⟩
          refine lv_iinc (v := x5) (lv' := [(5, .int x5), (4, .int mo_), (3, .int be), (7, .int (nI y)), (6, .int ma_), (0, .ref h1), (1, .int p1), (2, .int (nI j))]) hx hb dX10_mostAt_100 hl (k := 4) rfl (by rw [ex5]; rfl) (by decide) rfl (fun ls hl => ?_)
          obtain rfl : x5 = nI (x + 1) := by rw [ex5]; exact nI_add x 1
          refine lv_goto (tgt := 8) hx hb dX10_mostAt_103 (by decide) ?_
          refine ih8 ((x + 1), be, mo_) ?_ (by first | omega | (dsimp only; omega)) H locs ls (hP.sub [0, 1, 2] rfl) (hD.sub [0, 1, 2] (by decide) rfl) hS (lv_sub hl [0, 1, 2, 5, 6, 7] rfl)
          try dsimp only
          omega
        · refine lv_iload hx hb dX10_mostAt_91 (lv_at hl 2 rfl) ?_
          refine lv_goto (tgt := 98) hx hb dX10_mostAt_93 (by decide) ?_
          refine lv_istore (lv' := [(4, .int ma_), (3, .int be), (7, .int (nI y)), (6, .int ma_), (5, .int (nI x)), (0, .ref h1), (1, .int p1), (2, .int (nI j))]) hx hb dX10_mostAt_98 hl (by decide) rfl (fun ls hl => ?_)
          obtain ⟨x6, ex6⟩ : ∃ yy_ : Int32, yy_ = (nI x) + 1 := ⟨_, rfl⟩
          refine lv_iinc (v := x6) (lv' := [(5, .int x6), (4, .int ma_), (3, .int be), (7, .int (nI y)), (6, .int ma_), (0, .ref h1), (1, .int p1), (2, .int (nI j))]) hx hb dX10_mostAt_100 hl (k := 4) rfl (by rw [ex6]; rfl) (by decide) rfl (fun ls hl => ?_)
          obtain rfl : x6 = nI (x + 1) := by rw [ex6]; exact nI_add x 1
          refine lv_goto (tgt := 8) hx hb dX10_mostAt_103 (by decide) ?_
          refine ih8 ((x + 1), be, ma_) ?_ (by first | omega | (dsimp only; omega)) H locs ls (hP.sub [0, 1, 2] rfl) (hD.sub [0, 1, 2] (by decide) rfl) hS (lv_sub hl [0, 1, 2, 5, 6, 7] rfl)
          try dsimp only
          omega
      · refine lv_iload hx hb dX10_mostAt_77 (lv_at hl 2 rfl) ?_
        refine lv_goto (tgt := 83) hx hb dX10_mostAt_79 (by decide) ?_
        refine lv_istore_n (lv' := [(3, .int (nI x)), (7, .int (nI y)), (6, .int ma_), (5, .int (nI x)), (4, .int mo_), (0, .ref h1), (1, .int p1), (2, .int (nI j))]) hx hb dX10_mostAt_83 rfl hl (by decide) rfl (fun ls hl => ?_)
        refine lv_iload hx hb dX10_mostAt_84 (lv_at hl 2 rfl) ?_
        refine lv_iload hx hb dX10_mostAt_86 (lv_at hl 4 rfl) ?_
        refine lv_icmp_le (tgt := 96) hx hb dX10_mostAt_88 (by decide) (fun c7 => ?_) (fun c7 => ?_)
        · refine lv_iload hx hb dX10_mostAt_96 (lv_at hl 4 rfl) ?_
          refine lv_istore (lv' := [(4, .int mo_), (3, .int (nI x)), (7, .int (nI y)), (6, .int ma_), (5, .int (nI x)), (0, .ref h1), (1, .int p1), (2, .int (nI j))]) hx hb dX10_mostAt_98 hl (by decide) rfl (fun ls hl => ?_)
          obtain ⟨x8, ex8⟩ : ∃ yy_ : Int32, yy_ = (nI x) + 1 := ⟨_, rfl⟩
          refine lv_iinc (v := x8) (lv' := [(5, .int x8), (4, .int mo_), (3, .int (nI x)), (7, .int (nI y)), (6, .int ma_), (0, .ref h1), (1, .int p1), (2, .int (nI j))]) hx hb dX10_mostAt_100 hl (k := 4) rfl (by rw [ex8]; rfl) (by decide) rfl (fun ls hl => ?_)
          obtain rfl : x8 = nI (x + 1) := by rw [ex8]; exact nI_add x 1
          refine lv_goto (tgt := 8) hx hb dX10_mostAt_103 (by decide) ?_
          refine ih8 ((x + 1), nI x, mo_) ?_ (by first | omega | (dsimp only; omega)) H locs ls (hP.sub [0, 1, 2] rfl) (hD.sub [0, 1, 2] (by decide) rfl) hS (lv_sub hl [0, 1, 2, 5, 6, 7] rfl)
          try dsimp only
          omega
        · refine lv_iload hx hb dX10_mostAt_91 (lv_at hl 2 rfl) ?_
          refine lv_goto (tgt := 98) hx hb dX10_mostAt_93 (by decide) ?_
          refine lv_istore (lv' := [(4, .int ma_), (3, .int (nI x)), (7, .int (nI y)), (6, .int ma_), (5, .int (nI x)), (0, .ref h1), (1, .int p1), (2, .int (nI j))]) hx hb dX10_mostAt_98 hl (by decide) rfl (fun ls hl => ?_)
          obtain ⟨x9, ex9⟩ : ∃ yy_ : Int32, yy_ = (nI x) + 1 := ⟨_, rfl⟩
          refine lv_iinc (v := x9) (lv' := [(5, .int x9), (4, .int ma_), (3, .int (nI x)), (7, .int (nI y)), (6, .int ma_), (0, .ref h1), (1, .int p1), (2, .int (nI j))]) hx hb dX10_mostAt_100 hl (k := 4) rfl (by rw [ex9]; rfl) (by decide) rfl (fun ls hl => ?_)
          obtain rfl : x9 = nI (x + 1) := by rw [ex9]; exact nI_add x 1
          refine lv_goto (tgt := 8) hx hb dX10_mostAt_103 (by decide) ?_
          refine ih8 ((x + 1), nI x, ma_) ?_ (by first | omega | (dsimp only; omega)) H locs ls (hP.sub [0, 1, 2] rfl) (hD.sub [0, 1, 2] (by decide) rfl) hS (lv_sub hl [0, 1, 2, 5, 6, 7] rfl)
          try dsimp only
          omega
    · have c2 : ¬ 6 ≤ y := fun h9_ => c2 ((nI_leI (a := 6) (b := y) (by omega) (by omega)).mpr h9_)
      refine lv_iload hx hb dX10_mostAt_27 (lv_at hl 1 rfl) ?_
      refine lv_iload_n hx hb dX10_mostAt_29 rfl (lv_at hl 6 rfl) ?_
      refine lv_iload hx hb dX10_mostAt_30 (lv_at hl 0 rfl) ?_
      refine lv_ishr hx hb dX10_mostAt_32 ?_
      refine lv_topi (fun x10 ex10 => ?_)
      refine lv_iconst (v := 1) hx hb dX10_mostAt_33 (by decide) ?_
      refine lv_iand hx hb dX10_mostAt_34 ?_
      refine lv_topi (fun x11 ex11 => ?_)
      refine lv_iconst (v := 1) hx hb dX10_mostAt_35 (by decide) ?_
      refine lv_icmp_ne (tgt := 60) hx hb dX10_mostAt_36 (by decide) (fun c12 => ?_) (fun c12 => ?_)
      · refine lv_iconst (v := 0) hx hb dX10_mostAt_60 (by decide) ?_
        refine lv_iadd hx hb dX10_mostAt_61 ?_
        refine lv_topi (fun x13 ex13 => ?_)
        refine lv_istore (lv' := [(6, .int x13), (7, .int (nI y)), (5, .int (nI x)), (4, .int mo_), (3, .int be), (0, .ref h1), (1, .int p1), (2, .int (nI j))]) hx hb dX10_mostAt_62 hl (by decide) rfl (fun ls hl => ?_)
        obtain ⟨x14, ex14⟩ : ∃ yy_ : Int32, yy_ = (nI y) + 1 := ⟨_, rfl⟩
        refine lv_iinc (v := x14) (lv' := [(7, .int x14), (6, .int x13), (5, .int (nI x)), (4, .int mo_), (3, .int be), (0, .ref h1), (1, .int p1), (2, .int (nI j))]) hx hb dX10_mostAt_64 hl (k := 1) rfl (by rw [ex14]; rfl) (by decide) rfl (fun ls hl => ?_)
        obtain rfl : x14 = nI (y + 1) := by rw [ex14]; exact nI_add y 1
        refine lv_goto (tgt := 20) hx hb dX10_mostAt_67 (by decide) ?_
        refine ih20 ((y + 1), x13) ?_ (by first | omega | (dsimp only; omega)) H locs ls (hP.sub [0, 1, 2] rfl) (hD.sub [0, 1, 2] (by decide) rfl) hS (lv_sub hl [0, 1, 2, 3, 4, 5, 6, 7] rfl)
        try dsimp only
        omega
      · refine lv_aload_n hx hb dX10_mostAt_39 rfl (lv_at hl 5 rfl) ?_
        refine lv_aload_n hx hb dX10_mostAt_40 rfl (lv_at hl 5 rfl) ?_
        refine va_get (D := G.1) (ci := 6) (v := .ref a_maps) (C := RX10) (T := TX10) (N := 28) hx hb hts (fun _ h => List.mem_cons_of_mem _ (List.mem_append_right _ h)) hown E.K hP 0 rfl rfl 1 (by decide) (hts (.fieldLink RX10 7 "LastMapModel" "maps" "[I") (by decide +kernel)) (fun _ h9 => h9) rfl dX10_mostAt_41 ?_
        refine lv_iload hx hb dX10_mostAt_44 (lv_at hl 0 rfl) ?_
        refine va_iald hx hb E.K hP 1 1 rfl rfl (i := nI y) (vp_in_nI (by omega) (by decide)) dX10_mostAt_46 ?_
        refine lv_topi (fun x15 ex15 => ?_)
        obtain ⟨a_x15, ha_x15, hvx15⟩ := hfm y (by omega)
        obtain rfl : x15 = nI a_x15 := by rw [ex15, nI_clamp (by omega)]; exact hvx15
        refine lv_iload_n hx hb dX10_mostAt_47 rfl (lv_at hl 7 rfl) ?_
        refine ca_iR (va_runV (As := [.int (nI a_x15), .int (nI j)]) (rest := [.int ma_]) ⟨hx, hb, hml, hown, hts⟩ (m_signAt l G H.size h1 v_sites (.ref a_maps) v_told v_kinds v_land v_spades v_pad v_padMany v_slips v_slipMany v_made v_queue v_depth v_by v_from v_come v_offOf v_parent v_best v_trees v_least v_sums v_toward v_kept v_isKept v_keptAt v_isWriting a_part fp k a_x15 j hk6 hp (by omega) (by omega)) (cwV 2 hts gX10_mostAt_X10_signAt rfl rfl rfl (by decide +kernel) ⟨by decide +kernel, by decide +kernel⟩) (pre_V E hP hD hS hA [0, 2] (by decide) rfl 0 6 rfl rfl) rfl rfl hl.1 rfl (lv_room (Nat.le_of_ble_eq_true rfl)) dX10_mostAt_48 ⟨by decide +kernel, by decide +kernel⟩) hS hP hD hA [0, 2] rfl (fun r17 _ H locs w16 hP hS => ?_)
        rw [w16]
        have hdg9 : (dg k a_x15 j) < 5 := dg_lt _ _ _
        refine lv_iload hx hb dX10_mostAt_51 (lv_at hl 2 rfl) ?_
        refine lv_icmp_ne (tgt := 60) hx hb dX10_mostAt_53 (by decide) (fun c18 => ?_) (fun c18 => ?_)
        · have c18 : ¬ (dg k a_x15 j) = x := fun h9_ => c18 ((nI_eq (a := (dg k a_x15 j)) (b := x) (by omega) (by omega)).mpr h9_)
          refine lv_iconst (v := 0) hx hb dX10_mostAt_60 (by decide) ?_
          refine lv_iadd hx hb dX10_mostAt_61 ?_
          refine lv_topi (fun x19 ex19 => ?_)
          refine lv_istore (lv' := [(6, .int x19), (7, .int (nI y)), (5, .int (nI x)), (4, .int mo_), (3, .int be), (0, .ref h1), (1, .int p1), (2, .int (nI j))]) hx hb dX10_mostAt_62 hl (by decide) rfl (fun ls hl => ?_)
          obtain ⟨x20, ex20⟩ : ∃ yy_ : Int32, yy_ = (nI y) + 1 := ⟨_, rfl⟩
          refine lv_iinc (v := x20) (lv' := [(7, .int x20), (6, .int x19), (5, .int (nI x)), (4, .int mo_), (3, .int be), (0, .ref h1), (1, .int p1), (2, .int (nI j))]) hx hb dX10_mostAt_64 hl (k := 1) rfl (by rw [ex20]; rfl) (by decide) rfl (fun ls hl => ?_)
          obtain rfl : x20 = nI (y + 1) := by rw [ex20]; exact nI_add y 1
          refine lv_goto (tgt := 20) hx hb dX10_mostAt_67 (by decide) ?_
          refine ih20 ((y + 1), x19) ?_ (by first | omega | (dsimp only; omega)) H locs ls (hP.sub [0, 1, 2] rfl) (hD.sub [0, 1, 2] (by decide) rfl) hS (lv_sub hl [0, 1, 2, 3, 4, 5, 6, 7] rfl)
          try dsimp only
          omega
        · have c18 : (dg k a_x15 j) = x := (nI_eq (a := (dg k a_x15 j)) (b := x) (by omega) (by omega)).mp c18
          refine lv_iconst (v := 1) hx hb dX10_mostAt_56 (by decide) ?_
          refine lv_goto (tgt := 61) hx hb dX10_mostAt_57 (by decide) ?_
          refine lv_iadd hx hb dX10_mostAt_61 ?_
          refine lv_topi (fun x21 ex21 => ?_)
          refine lv_istore (lv' := [(6, .int x21), (7, .int (nI y)), (5, .int (nI x)), (4, .int mo_), (3, .int be), (0, .ref h1), (1, .int p1), (2, .int (nI j))]) hx hb dX10_mostAt_62 hl (by decide) rfl (fun ls hl => ?_)
          obtain ⟨x22, ex22⟩ : ∃ yy_ : Int32, yy_ = (nI y) + 1 := ⟨_, rfl⟩
          refine lv_iinc (v := x22) (lv' := [(7, .int x22), (6, .int x21), (5, .int (nI x)), (4, .int mo_), (3, .int be), (0, .ref h1), (1, .int p1), (2, .int (nI j))]) hx hb dX10_mostAt_64 hl (k := 1) rfl (by rw [ex22]; rfl) (by decide) rfl (fun ls hl => ?_)
          obtain rfl : x22 = nI (y + 1) := by rw [ex22]; exact nI_add y 1
          refine lv_goto (tgt := 20) hx hb dX10_mostAt_67 (by decide) ?_
          refine ih20 ((y + 1), x21) ?_ (by first | omega | (dsimp only; omega)) H locs ls (hP.sub [0, 1, 2] rfl) (hD.sub [0, 1, 2] (by decide) rfl) hS (lv_sub hl [0, 1, 2, 3, 4, 5, 6, 7] rfl)
          try dsimp only
          omega

set_option maxHeartbeats 1000000 in
set_option maxRecDepth 100000 in
theorem m_holdsAt (l : Launch) (G : Gy) (sz : Nat) (h1 : Nat) (v_sites : Value) (v_told : Value) (v_kinds : Value) (v_land : Value) (v_spades : Value) (v_pad : Value) (v_padMany : Value) (v_slips : Value) (v_slipMany : Value) (v_made : Value) (v_queue : Value) (v_depth : Value) (v_by : Value) (v_from : Value) (v_come : Value) (v_offOf : Value) (v_parent : Value) (v_best : Value) (v_trees : Value) (v_least : Value) (v_sums : Value) (v_toward : Value) (v_kept : Value) (v_isKept : Value) (v_keptAt : Value) (v_isWriting : Value) (a_maps : Nat) (fm : Nat → Int32) (a_part : Nat) (fp : Nat → Int32) (k : Nat) (j : Nat) (p1 : Int32) (hk6 : k ≤ 6) (hp : pOK k fp) (hfm : mapsOK k fm) (hj : j < k) : Ci l G yX10_holdsAt wsX10_holdsAt ({ frames := 2, cells := 0, slots := 0, locals := 49 }) [.ref h1, .int p1, .int (nI j)] ([(h1, .inr (6, [v_sites, .ref a_maps, v_told, v_kinds, v_land, v_spades, .ref a_part, v_pad, v_padMany, v_slips, v_slipMany, v_made, v_queue, v_depth, v_by, v_from, v_come, v_offOf, v_parent, v_best, v_trees, v_least, v_sums, v_toward, v_kept, v_isKept, v_keptAt, v_isWriting])), (a_maps, .inl (gI G, 6, .inl fm)), (a_part, .inl (gI G, 6, .inl fp))]) sz (fun (r : Int32) (_ : Unit) => (r = 1 ∧ True) ∨ (r = 0 ∧ True)) (fun (_ : Unit) => [(h1, .inr (6, [v_sites, .ref a_maps, v_told, v_kinds, v_land, v_spades, .ref a_part, v_pad, v_padMany, v_slips, v_slipMany, v_made, v_queue, v_depth, v_by, v_from, v_come, v_offOf, v_parent, v_best, v_trees, v_least, v_sums, v_toward, v_kept, v_isKept, v_keptAt, v_isWriting])), (a_maps, .inl (gI G, 6, .inl fm)), (a_part, .inl (gI G, 6, .inl fp))]) 0 0 := by
  refine Met.ofW (cc := cX10_holdsAt) (maxL := 6) (ret := (some .boolean)) (by decide) rfl ?_
  intro p e s m args below meth c s₁ B hml hv
  obtain ⟨rfl, hsz, hP, hD0, E0⟩ := hv
  have hx := B.exec
  have hb := B.bytes
  have hr := B.returns
  have hts := atoms_spec (ws := wsX10_holdsAt) B.pre
  have hown : s.vm.findClass RX10 = some m.cls := findClass_of_methodNamed B.named
  have hlocks := B.notSynchronized
  subst hsz
  have hD := hD0.self (sz := s.heap.size)
  generalize hAe : va_A ([(h1, .inr (6, [v_sites, .ref a_maps, v_told, v_kinds, v_land, v_spades, .ref a_part, v_pad, v_padMany, v_slips, v_slipMany, v_made, v_queue, v_depth, v_by, v_from, v_come, v_offOf, v_parent, v_best, v_trees, v_least, v_sums, v_toward, v_kept, v_isKept, v_keptAt, v_isWriting])), (a_maps, .inl (gI G, 6, .inl fm)), (a_part, .inl (gI G, 6, .inl fp))]) s.heap.size = A at hD E0 ⊢
  have E : EV G A s s.heap := E0
  have hA : ∀ q : Nat, s.heap.size ≤ q → A q := fun q h => by rw [← hAe]; exact Or.inr h
  have hS : va_S A s.heap s.heap [] := va_S.rf
  have hl := lv_entry ([.ref h1, .int p1, .int (nI j)]) (n := 6) (Nat.le_of_ble_eq_true rfl)
  rw [lg_entry_eq]
  generalize (lg_sl ([.ref h1, .int p1, .int (nI j)]) ++ List.replicate (6 - (lg_sl ([.ref h1, .int p1, .int (nI j)])).length) Slot.unset).toArray = ls at hl ⊢
  have hl : lv_has ls 6 [(0, .ref h1), (1, .int p1), (2, .int (nI j))] := hl
  have hP : va_P G.1 vwCl ([(h1, .inr (6, [v_sites, .ref a_maps, v_told, v_kinds, v_land, v_spades, .ref a_part, v_pad, v_padMany, v_slips, v_slipMany, v_made, v_queue, v_depth, v_by, v_from, v_come, v_offOf, v_parent, v_best, v_trees, v_least, v_sums, v_toward, v_kept, v_isKept, v_keptAt, v_isWriting])), (a_maps, .inl (gI G, 6, .inl fm)), (a_part, .inl (gI G, 6, .inl fp))]) s.heap := hP
  have hal := p5le hk6
  refine lv_aload_n hx hb dX10_holdsAt_0 rfl (lv_at hl 0 rfl) ?_
  refine lv_iload_n hx hb dX10_holdsAt_1 rfl (lv_at hl 1 rfl) ?_
  refine lv_iload_n hx hb dX10_holdsAt_2 rfl (lv_at hl 2 rfl) ?_
  refine ca_iR (va_runV (As := [.int p1, .int (nI j)]) (rest := []) ⟨hx, hb, hml, hown, hts⟩ (m_mostAt l G s.heap.size h1 v_sites v_told v_kinds v_land v_spades v_pad v_padMany v_slips v_slipMany v_made v_queue v_depth v_by v_from v_come v_offOf v_parent v_best v_trees v_least v_sums v_toward v_kept v_isKept v_keptAt v_isWriting a_maps fm a_part fp k j p1 hk6 hp hfm (by omega)) (cwV 2 hts gX10_holdsAt_X10_mostAt rfl rfl rfl (by decide +kernel) ⟨by decide +kernel, by decide +kernel⟩) (pre_V E hP hD hS hA [0, 1, 2] (by decide) rfl 0 6 rfl rfl) rfl rfl hl.1 rfl (lv_room (Nat.le_of_ble_eq_true rfl)) dX10_holdsAt_3 ⟨by decide +kernel, by decide +kernel⟩) hS hP hD hA [0, 1, 2] rfl (fun r2 _ H locs w1 hP hS => ?_)
  refine lv_istore_n (lv' := [(3, .int r2), (0, .ref h1), (1, .int p1), (2, .int (nI j))]) hx hb dX10_holdsAt_6 rfl hl (by decide) rfl (fun ls hl => ?_)
  refine lv_iconst (v := 1) hx hb dX10_holdsAt_7 (by decide) ?_
  refine lv_istore (lv' := [(4, .int 1), (3, .int r2), (0, .ref h1), (1, .int p1), (2, .int (nI j))]) hx hb dX10_holdsAt_8 hl (by decide) rfl (fun ls hl => ?_)
  refine lv_iconst (v := 0) hx hb dX10_holdsAt_10 (by decide) ?_
  refine lv_istore (lv' := [(5, .int 0), (4, .int 1), (3, .int r2), (0, .ref h1), (1, .int p1), (2, .int (nI j))]) hx hb dX10_holdsAt_11 hl (by decide) rfl (fun ls hl => ?_)
  refine lp_run (x0 := (0, 1)) (fun xx_ : Nat × Int32 => match xx_ with | (x, is_) => [(h1, .inr (6, [v_sites, .ref a_maps, v_told, v_kinds, v_land, v_spades, .ref a_part, v_pad, v_padMany, v_slips, v_slipMany, v_made, v_queue, v_depth, v_by, v_from, v_come, v_offOf, v_parent, v_best, v_trees, v_least, v_sums, v_toward, v_kept, v_isKept, v_keptAt, v_isWriting])), (a_maps, .inl (gI G, 6, .inl fm)), (a_part, .inl (gI G, 6, .inl fp))]) (fun xx_ : Nat × Int32 => match xx_ with | (x, is_) => [(5, .int (nI x)), (4, .int is_), (3, .int r2), (0, .ref h1), (1, .int p1), (2, .int (nI j))]) (fun xx_ : Nat × Int32 => match xx_ with | (x, is_) => (x ≤ 6) ∧ (is_ = 0 ∨ is_ = 1)) (fun xx_ : Nat × Int32 => match xx_ with | (x, is_) => 6 - x) (hP.sub [0, 1, 2] rfl) (hD.sub [0, 1, 2] (by decide) rfl) hS (lv_sub hl [0, 1, 2, 3, 4, 5] rfl) ⟨(by omega), Or.inr rfl⟩ ?_
  intro xx_ hI ih13 H locs ls hP hD hS hl
  obtain ⟨x, is_⟩ := xx_
  dsimp only at hI ih13 hP hD hl
  obtain ⟨hx0, his⟩ := hI
  have hl : lv_has ls 6 [(5, .int (nI x)), (4, .int is_), (3, .int r2), (0, .ref h1), (1, .int p1), (2, .int (nI j))] := hl
  have hP : va_P G.1 vwCl ([(h1, .inr (6, [v_sites, .ref a_maps, v_told, v_kinds, v_land, v_spades, .ref a_part, v_pad, v_padMany, v_slips, v_slipMany, v_made, v_queue, v_depth, v_by, v_from, v_come, v_offOf, v_parent, v_best, v_trees, v_least, v_sums, v_toward, v_kept, v_isKept, v_keptAt, v_isWriting])), (a_maps, .inl (gI G, 6, .inl fm)), (a_part, .inl (gI G, 6, .inl fp))]) H := hP
  have hD : va_D A ([(h1, .inr (6, [v_sites, .ref a_maps, v_told, v_kinds, v_land, v_spades, .ref a_part, v_pad, v_padMany, v_slips, v_slipMany, v_made, v_queue, v_depth, v_by, v_from, v_come, v_offOf, v_parent, v_best, v_trees, v_least, v_sums, v_toward, v_kept, v_isKept, v_keptAt, v_isWriting])), (a_maps, .inl (gI G, 6, .inl fm)), (a_part, .inl (gI G, 6, .inl fp))]) := hD
  refine lv_iload hx hb dX10_holdsAt_13 (lv_at hl 0 rfl) ?_
  refine lv_bipush (v := 6) hx hb dX10_holdsAt_15 (by decide) ?_
  refine lv_icmp_ge (tgt := 63) hx hb dX10_holdsAt_17 (by decide) (fun c3 => ?_) (fun c3 => ?_)
  · have c3 : 6 ≤ x := (nI_leI (a := 6) (b := x) (by omega) (by omega)).mp c3
    refine lv_iload hx hb dX10_holdsAt_63 (lv_at hl 1 rfl) ?_
    have hP9 := (hP.sub (ws' := [(h1, .inr (6, [v_sites, .ref a_maps, v_told, v_kinds, v_land, v_spades, .ref a_part, v_pad, v_padMany, v_slips, v_slipMany, v_made, v_queue, v_depth, v_by, v_from, v_come, v_offOf, v_parent, v_best, v_trees, v_least, v_sums, v_toward, v_kept, v_isKept, v_keptAt, v_isWriting])), (a_maps, .inl (gI G, 6, .inl fm)), (a_part, .inl (gI G, 6, .inl fp))]) [0, 1, 2] rfl)
    have hD9 := (hD.sub (ws' := [(h1, .inr (6, [v_sites, .ref a_maps, v_told, v_kinds, v_land, v_spades, .ref a_part, v_pad, v_padMany, v_slips, v_slipMany, v_made, v_queue, v_depth, v_by, v_from, v_come, v_offOf, v_parent, v_best, v_trees, v_least, v_sums, v_toward, v_kept, v_isKept, v_keptAt, v_isWriting])), (a_maps, .inl (gI G, 6, .inl fm)), (a_part, .inl (gI G, 6, .inl fp))]) [0, 1, 2] (by decide) rfl)
    exact W.zret (v := is_) hx hb hr (by rcases his with q | q <;> rw [q] <;> decide) (fun t9_ ht9_ hW9_ => ⟨⟨is_, (), rfl, his.elim (fun q => Or.inr ⟨q, trivial⟩) (fun q => Or.inl ⟨q, trivial⟩), by rw [ht9_]; exact hP9, hD9⟩, hS.F ht9_⟩) hS.2.2 dX10_holdsAt_65
  · have c3 : ¬ 6 ≤ x := fun h9_ => c3 ((nI_leI (a := 6) (b := x) (by omega) (by omega)).mpr h9_)
    refine lv_iload hx hb dX10_holdsAt_20 (lv_at hl 1 rfl) ?_
    refine lv_if_eq (tgt := 54) hx hb dX10_holdsAt_22 (by decide) (fun c4 => ?_) (fun c4 => ?_)
    · refine lv_iconst (v := 0) hx hb dX10_holdsAt_54 (by decide) ?_
      refine lv_istore (lv' := [(4, .int 0), (5, .int (nI x)), (3, .int r2), (0, .ref h1), (1, .int p1), (2, .int (nI j))]) hx hb dX10_holdsAt_55 hl (by decide) rfl (fun ls hl => ?_)
      obtain ⟨x5, ex5⟩ : ∃ yy_ : Int32, yy_ = (nI x) + 1 := ⟨_, rfl⟩
      refine lv_iinc (v := x5) (lv' := [(5, .int x5), (4, .int 0), (3, .int r2), (0, .ref h1), (1, .int p1), (2, .int (nI j))]) hx hb dX10_holdsAt_57 hl (k := 1) rfl (by rw [ex5]; rfl) (by decide) rfl (fun ls hl => ?_)
      obtain rfl : x5 = nI (x + 1) := by rw [ex5]; exact nI_add x 1
      refine lv_goto (tgt := 13) hx hb dX10_holdsAt_60 (by decide) ?_
      refine ih13 ((x + 1), 0) ⟨?_, ?_⟩ (by first | omega | (dsimp only; omega)) H locs ls (hP.sub [0, 1, 2] rfl) (hD.sub [0, 1, 2] (by decide) rfl) hS (lv_sub hl [0, 1, 2, 3, 4, 5] rfl)
      · try dsimp only
        omega
      · try dsimp only
        exact Or.inl rfl
    · refine lv_iload_n hx hb dX10_holdsAt_25 rfl (lv_at hl 4 rfl) ?_
      refine lv_iload hx hb dX10_holdsAt_26 (lv_at hl 0 rfl) ?_
      refine lv_ishr hx hb dX10_holdsAt_28 ?_
      refine lv_topi (fun x6 ex6 => ?_)
      refine lv_iconst (v := 1) hx hb dX10_holdsAt_29 (by decide) ?_
      refine lv_iand hx hb dX10_holdsAt_30 ?_
      refine lv_topi (fun x7 ex7 => ?_)
      refine lv_if_eq (tgt := 50) hx hb dX10_holdsAt_31 (by decide) (fun c8 => ?_) (fun c8 => ?_)
      · refine lv_iconst (v := 1) hx hb dX10_holdsAt_50 (by decide) ?_
        refine lv_goto (tgt := 55) hx hb dX10_holdsAt_51 (by decide) ?_
        refine lv_istore (lv' := [(4, .int 1), (5, .int (nI x)), (3, .int r2), (0, .ref h1), (1, .int p1), (2, .int (nI j))]) hx hb dX10_holdsAt_55 hl (by decide) rfl (fun ls hl => ?_)
        obtain ⟨x9, ex9⟩ : ∃ yy_ : Int32, yy_ = (nI x) + 1 := ⟨_, rfl⟩
        refine lv_iinc (v := x9) (lv' := [(5, .int x9), (4, .int 1), (3, .int r2), (0, .ref h1), (1, .int p1), (2, .int (nI j))]) hx hb dX10_holdsAt_57 hl (k := 1) rfl (by rw [ex9]; rfl) (by decide) rfl (fun ls hl => ?_)
        obtain rfl : x9 = nI (x + 1) := by rw [ex9]; exact nI_add x 1
        refine lv_goto (tgt := 13) hx hb dX10_holdsAt_60 (by decide) ?_
        refine ih13 ((x + 1), 1) ⟨?_, ?_⟩ (by first | omega | (dsimp only; omega)) H locs ls (hP.sub [0, 1, 2] rfl) (hD.sub [0, 1, 2] (by decide) rfl) hS (lv_sub hl [0, 1, 2, 3, 4, 5] rfl)
        · try dsimp only
          omega
        · try dsimp only
          exact Or.inr rfl
      · refine lv_aload_n hx hb dX10_holdsAt_34 rfl (lv_at hl 3 rfl) ?_
        refine lv_aload_n hx hb dX10_holdsAt_35 rfl (lv_at hl 3 rfl) ?_
        refine va_get (D := G.1) (ci := 6) (v := .ref a_maps) (C := RX10) (T := TX10) (N := 28) hx hb hts (fun _ h => List.mem_cons_of_mem _ (List.mem_append_right _ h)) hown E.K hP 0 rfl rfl 1 (by decide) (hts (.fieldLink RX10 7 "LastMapModel" "maps" "[I") (by decide +kernel)) (fun _ h9 => h9) rfl dX10_holdsAt_36 ?_
        refine lv_iload hx hb dX10_holdsAt_39 (lv_at hl 0 rfl) ?_
        refine va_iald hx hb E.K hP 1 1 rfl rfl (i := nI x) (vp_in_nI (by omega) (by decide)) dX10_holdsAt_41 ?_
        refine lv_topi (fun x10 ex10 => ?_)
        obtain ⟨a_x10, ha_x10, hvx10⟩ := hfm x (by omega)
        obtain rfl : x10 = nI a_x10 := by rw [ex10, nI_clamp (by omega)]; exact hvx10
        refine lv_iload_n hx hb dX10_holdsAt_42 rfl (lv_at hl 5 rfl) ?_
        refine ca_iR (va_runV (As := [.int (nI a_x10), .int (nI j)]) (rest := []) ⟨hx, hb, hml, hown, hts⟩ (m_signAt l G H.size h1 v_sites (.ref a_maps) v_told v_kinds v_land v_spades v_pad v_padMany v_slips v_slipMany v_made v_queue v_depth v_by v_from v_come v_offOf v_parent v_best v_trees v_least v_sums v_toward v_kept v_isKept v_keptAt v_isWriting a_part fp k a_x10 j hk6 hp (by omega) (by omega)) (cwV 2 hts gX10_holdsAt_X10_signAt rfl rfl rfl (by decide +kernel) ⟨by decide +kernel, by decide +kernel⟩) (pre_V E hP hD hS hA [0, 2] (by decide) rfl 0 6 rfl rfl) rfl rfl hl.1 rfl (lv_room (Nat.le_of_ble_eq_true rfl)) dX10_holdsAt_43 ⟨by decide +kernel, by decide +kernel⟩) hS hP hD hA [0, 2] rfl (fun r12 _ H locs w11 hP hS => ?_)
        rw [w11]
        refine lv_iload_n hx hb dX10_holdsAt_46 rfl (lv_at hl 2 rfl) ?_
        refine lv_icmp_ne (tgt := 54) hx hb dX10_holdsAt_47 (by decide) (fun c13 => ?_) (fun c13 => ?_)
        · refine lv_iconst (v := 0) hx hb dX10_holdsAt_54 (by decide) ?_
          refine lv_istore (lv' := [(4, .int 0), (5, .int (nI x)), (3, .int r2), (0, .ref h1), (1, .int p1), (2, .int (nI j))]) hx hb dX10_holdsAt_55 hl (by decide) rfl (fun ls hl => ?_)
          obtain ⟨x14, ex14⟩ : ∃ yy_ : Int32, yy_ = (nI x) + 1 := ⟨_, rfl⟩
          refine lv_iinc (v := x14) (lv' := [(5, .int x14), (4, .int 0), (3, .int r2), (0, .ref h1), (1, .int p1), (2, .int (nI j))]) hx hb dX10_holdsAt_57 hl (k := 1) rfl (by rw [ex14]; rfl) (by decide) rfl (fun ls hl => ?_)
          obtain rfl : x14 = nI (x + 1) := by rw [ex14]; exact nI_add x 1
          refine lv_goto (tgt := 13) hx hb dX10_holdsAt_60 (by decide) ?_
          refine ih13 ((x + 1), 0) ⟨?_, ?_⟩ (by first | omega | (dsimp only; omega)) H locs ls (hP.sub [0, 1, 2] rfl) (hD.sub [0, 1, 2] (by decide) rfl) hS (lv_sub hl [0, 1, 2, 3, 4, 5] rfl)
          · try dsimp only
            omega
          · try dsimp only
            exact Or.inl rfl
        · refine lv_iconst (v := 1) hx hb dX10_holdsAt_50 (by decide) ?_
          refine lv_goto (tgt := 55) hx hb dX10_holdsAt_51 (by decide) ?_
          refine lv_istore (lv' := [(4, .int 1), (5, .int (nI x)), (3, .int r2), (0, .ref h1), (1, .int p1), (2, .int (nI j))]) hx hb dX10_holdsAt_55 hl (by decide) rfl (fun ls hl => ?_)
          obtain ⟨x15, ex15⟩ : ∃ yy_ : Int32, yy_ = (nI x) + 1 := ⟨_, rfl⟩
          refine lv_iinc (v := x15) (lv' := [(5, .int x15), (4, .int 1), (3, .int r2), (0, .ref h1), (1, .int p1), (2, .int (nI j))]) hx hb dX10_holdsAt_57 hl (k := 1) rfl (by rw [ex15]; rfl) (by decide) rfl (fun ls hl => ?_)
          obtain rfl : x15 = nI (x + 1) := by rw [ex15]; exact nI_add x 1
          refine lv_goto (tgt := 13) hx hb dX10_holdsAt_60 (by decide) ?_
          refine ih13 ((x + 1), 1) ⟨?_, ?_⟩ (by first | omega | (dsimp only; omega)) H locs ls (hP.sub [0, 1, 2] rfl) (hD.sub [0, 1, 2] (by decide) rfl) hS (lv_sub hl [0, 1, 2, 3, 4, 5] rfl)
          · try dsimp only
            omega
          · try dsimp only
            exact Or.inr rfl

set_option maxHeartbeats 1000000 in
set_option maxRecDepth 100000 in
theorem m_holds (l : Launch) (G : Gy) (sz : Nat) (h1 : Nat) (v_kinds : Value) (v_land : Value) (v_spades : Value) (v_pad : Value) (v_padMany : Value) (v_slips : Value) (v_slipMany : Value) (v_made : Value) (v_queue : Value) (v_depth : Value) (v_by : Value) (v_from : Value) (v_come : Value) (v_offOf : Value) (v_parent : Value) (v_best : Value) (v_trees : Value) (v_least : Value) (v_sums : Value) (v_toward : Value) (v_kept : Value) (v_isKept : Value) (v_keptAt : Value) (v_isWriting : Value) (a_maps : Nat) (fm : Nat → Int32) (a_part : Nat) (fp : Nat → Int32) (k : Nat) (told : Int32) (p0 : Int32) (p1 : Int32) (hk2 : 2 ≤ k) (hk6 : k ≤ 6) (hp : pOK k fp) (hfm : mapsOK k fm) : Ci l G yX10_holds wsX10_holds ({ frames := 3, cells := 0, slots := 0, locals := 74 }) [.ref h1, .int p0, .int p1] ([(h1, .inr (6, [.int (nI k), .ref a_maps, .int told, v_kinds, v_land, v_spades, .ref a_part, v_pad, v_padMany, v_slips, v_slipMany, v_made, v_queue, v_depth, v_by, v_from, v_come, v_offOf, v_parent, v_best, v_trees, v_least, v_sums, v_toward, v_kept, v_isKept, v_keptAt, v_isWriting])), (a_maps, .inl (gI G, 6, .inl fm)), (a_part, .inl (gI G, 6, .inl fp))]) sz (fun (r : Int32) (_ : Unit) => True) (fun (_ : Unit) => [(h1, .inr (6, [.int (nI k), .ref a_maps, .int told, v_kinds, v_land, v_spades, .ref a_part, v_pad, v_padMany, v_slips, v_slipMany, v_made, v_queue, v_depth, v_by, v_from, v_come, v_offOf, v_parent, v_best, v_trees, v_least, v_sums, v_toward, v_kept, v_isKept, v_keptAt, v_isWriting])), (a_maps, .inl (gI G, 6, .inl fm)), (a_part, .inl (gI G, 6, .inl fp))]) 0 0 := by
  refine Met.ofW (cc := cX10_holds) (maxL := 5) (ret := (some .int)) (by decide) rfl ?_
  intro p e s m args below meth c s₁ B hml hv
  obtain ⟨rfl, hsz, hP, hD0, E0⟩ := hv
  have hx := B.exec
  have hb := B.bytes
  have hr := B.returns
  have hts := atoms_spec (ws := wsX10_holds) B.pre
  have hown : s.vm.findClass RX10 = some m.cls := findClass_of_methodNamed B.named
  have hlocks := B.notSynchronized
  subst hsz
  have hD := hD0.self (sz := s.heap.size)
  generalize hAe : va_A ([(h1, .inr (6, [.int (nI k), .ref a_maps, .int told, v_kinds, v_land, v_spades, .ref a_part, v_pad, v_padMany, v_slips, v_slipMany, v_made, v_queue, v_depth, v_by, v_from, v_come, v_offOf, v_parent, v_best, v_trees, v_least, v_sums, v_toward, v_kept, v_isKept, v_keptAt, v_isWriting])), (a_maps, .inl (gI G, 6, .inl fm)), (a_part, .inl (gI G, 6, .inl fp))]) s.heap.size = A at hD E0 ⊢
  have E : EV G A s s.heap := E0
  have hA : ∀ q : Nat, s.heap.size ≤ q → A q := fun q h => by rw [← hAe]; exact Or.inr h
  have hS : va_S A s.heap s.heap [] := va_S.rf
  have hl := lv_entry ([.ref h1, .int p0, .int p1]) (n := 5) (Nat.le_of_ble_eq_true rfl)
  rw [lg_entry_eq]
  generalize (lg_sl ([.ref h1, .int p0, .int p1]) ++ List.replicate (5 - (lg_sl ([.ref h1, .int p0, .int p1])).length) Slot.unset).toArray = ls at hl ⊢
  have hl : lv_has ls 5 [(0, .ref h1), (1, .int p0), (2, .int p1)] := hl
  have hP : va_P G.1 vwCl ([(h1, .inr (6, [.int (nI k), .ref a_maps, .int told, v_kinds, v_land, v_spades, .ref a_part, v_pad, v_padMany, v_slips, v_slipMany, v_made, v_queue, v_depth, v_by, v_from, v_come, v_offOf, v_parent, v_best, v_trees, v_least, v_sums, v_toward, v_kept, v_isKept, v_keptAt, v_isWriting])), (a_maps, .inl (gI G, 6, .inl fm)), (a_part, .inl (gI G, 6, .inl fp))]) s.heap := hP
  have hal := p5le hk6
  refine lv_iload_n hx hb dX10_holds_0 rfl (lv_at hl 2 rfl) ?_
  refine lv_iconst (v := (-1)) hx hb dX10_holds_1 (by decide) ?_
  refine lv_icmp_eq (tgt := 15) hx hb dX10_holds_2 (by decide) (fun c1 => ?_) (fun c1 => ?_)
  · refine lv_iload_n hx hb dX10_holds_15 rfl (lv_at hl 1 rfl) ?_
    refine lv_i2l hx hb dX10_holds_16 rfl ?_
    refine lv_topl (fun x2 ex2 => ?_)
    refine lv_lconst (v := 1) hx hb dX10_holds_17 (by decide) ?_
    refine lv_ldc2 (v := 63) hx hb hown (hts (.constantLong RX10 203 (63)) (by decide +kernel)) dX10_holds_18 ?_
    refine ca_iR (va_runS (As := [.long x2, .long 1, .long 63]) (rest := []) ⟨hx, hb, hml, hown, hts⟩ (m_in l G s.heap.size x2 1 63 p0 1 63 ex2 (by decide) (by decide)) (va_cwS 3 hts gX10_holds_X10_in rfl rfl rfl (by decide +kernel) ⟨by decide +kernel, by decide +kernel⟩) (pre_S E hP hD hS hA [] (by decide) rfl) rfl rfl hl.1 rfl (lv_room (Nat.le_of_ble_eq_true rfl)) dX10_holds_21 ⟨by decide +kernel, by decide +kernel⟩) hS hP hD hA [] rfl (fun r4 _ H locs w3 hP hS => ?_)
    rcases w3 with ⟨rfl, b5⟩ | ⟨rfl, b5⟩
    · refine lv_if_ne (tgt := 30) hx hb dX10_holds_24 (by decide) (fun _ => ?_) (fun c6 => False.elim (by revert c6; decide))
      refine lv_aload_n hx hb dX10_holds_30 rfl (lv_at hl 0 rfl) ?_
      refine lv_iload_n hx hb dX10_holds_31 rfl (lv_at hl 1 rfl) ?_
      refine ca_iR (va_runV (As := [.int p0]) (rest := []) ⟨hx, hb, hml, hown, hts⟩ (m_areTold l G H.size h1 (.int (nI k)) (.ref a_maps) v_kinds v_land v_spades (.ref a_part) v_pad v_padMany v_slips v_slipMany v_made v_queue v_depth v_by v_from v_come v_offOf v_parent v_best v_trees v_least v_sums v_toward v_kept v_isKept v_keptAt v_isWriting told p0) (cwV 1 hts gX10_holds_X10_areTold rfl rfl rfl (by decide +kernel) ⟨by decide +kernel, by decide +kernel⟩) (pre_V E hP hD hS hA [0] (by decide) rfl 0 6 rfl rfl) rfl rfl hl.1 rfl (lv_room (Nat.le_of_ble_eq_true rfl)) dX10_holds_32 ⟨by decide +kernel, by decide +kernel⟩) hS hP hD hA [0] rfl (fun r8 _ H locs w7 hP hS => ?_)
      rcases w7 with ⟨rfl, b9⟩ | ⟨rfl, b9⟩
      · refine lv_if_ne (tgt := 41) hx hb dX10_holds_35 (by decide) (fun _ => ?_) (fun c10 => False.elim (by revert c10; decide))
        refine lv_iload_n hx hb dX10_holds_41 rfl (lv_at hl 2 rfl) ?_
        refine lv_if_lt (tgt := 55) hx hb dX10_holds_42 (by decide) (fun c11 => ?_) (fun c11 => absurd (show p1 < 0 by rw [c1]; decide) c11)
        refine lv_iconst (v := 0) hx hb dX10_holds_55 (by decide) ?_
        refine lv_istore_n (lv' := [(3, .int 0), (0, .ref h1), (1, .int p0), (2, .int p1)]) hx hb dX10_holds_56 rfl hl (by decide) rfl (fun ls hl => ?_)
        refine lv_iconst (v := 0) hx hb dX10_holds_57 (by decide) ?_
        refine lv_istore (lv' := [(4, .int 0), (3, .int 0), (0, .ref h1), (1, .int p0), (2, .int p1)]) hx hb dX10_holds_58 hl (by decide) rfl (fun ls hl => ?_)
        refine lp_run (x0 := (0, 0)) (fun xx_ : Nat × Int32 => match xx_ with | (x, bi) => [(h1, .inr (6, [.int (nI k), .ref a_maps, .int told, v_kinds, v_land, v_spades, .ref a_part, v_pad, v_padMany, v_slips, v_slipMany, v_made, v_queue, v_depth, v_by, v_from, v_come, v_offOf, v_parent, v_best, v_trees, v_least, v_sums, v_toward, v_kept, v_isKept, v_keptAt, v_isWriting])), (a_maps, .inl (gI G, 6, .inl fm)), (a_part, .inl (gI G, 6, .inl fp))]) (fun xx_ : Nat × Int32 => match xx_ with | (x, bi) => [(4, .int (nI x)), (3, .int bi), (0, .ref h1), (1, .int p0), (2, .int p1)]) (fun xx_ : Nat × Int32 => match xx_ with | (x, bi) => (x ≤ k)) (fun xx_ : Nat × Int32 => match xx_ with | (x, bi) => k - x) (hP.sub [0, 1, 2] rfl) (hD.sub [0, 1, 2] (by decide) rfl) hS (lv_sub hl [0, 1, 2, 3, 4] rfl) (by omega) ?_
        intro xx_ hI ih60 H locs ls hP hD hS hl
        obtain ⟨x, bi⟩ := xx_
        dsimp only at hI ih60 hP hD hl
        have hx0 := hI
        have hl : lv_has ls 5 [(4, .int (nI x)), (3, .int bi), (0, .ref h1), (1, .int p0), (2, .int p1)] := hl
        have hP : va_P G.1 vwCl ([(h1, .inr (6, [.int (nI k), .ref a_maps, .int told, v_kinds, v_land, v_spades, .ref a_part, v_pad, v_padMany, v_slips, v_slipMany, v_made, v_queue, v_depth, v_by, v_from, v_come, v_offOf, v_parent, v_best, v_trees, v_least, v_sums, v_toward, v_kept, v_isKept, v_keptAt, v_isWriting])), (a_maps, .inl (gI G, 6, .inl fm)), (a_part, .inl (gI G, 6, .inl fp))]) H := hP
        have hD : va_D A ([(h1, .inr (6, [.int (nI k), .ref a_maps, .int told, v_kinds, v_land, v_spades, .ref a_part, v_pad, v_padMany, v_slips, v_slipMany, v_made, v_queue, v_depth, v_by, v_from, v_come, v_offOf, v_parent, v_best, v_trees, v_least, v_sums, v_toward, v_kept, v_isKept, v_keptAt, v_isWriting])), (a_maps, .inl (gI G, 6, .inl fm)), (a_part, .inl (gI G, 6, .inl fp))]) := hD
        refine lv_iload hx hb dX10_holds_60 (lv_at hl 0 rfl) ?_
        refine lv_aload_n hx hb dX10_holds_62 rfl (lv_at hl 2 rfl) ?_
        refine va_get (D := G.1) (ci := 6) (v := .int (nI k)) (C := RX10) (T := TX10) (N := 28) hx hb hts (fun _ h => List.mem_cons_of_mem _ (List.mem_append_right _ h)) hown E.K hP 0 rfl rfl 0 (by decide) (hts (.fieldLink RX10 67 "LastMapModel" "sites" "I") (by decide +kernel)) (fun _ h9 => h9) rfl dX10_holds_63 ?_
        refine lv_icmp_ge (tgt := 96) hx hb dX10_holds_66 (by decide) (fun c12 => ?_) (fun c12 => ?_)
        · have c12 : k ≤ x := (nI_leI (a := k) (b := x) (by omega) (by omega)).mp c12
          refine lv_iload_n hx hb dX10_holds_96 rfl (lv_at hl 1 rfl) ?_
          have hP9 := (hP.sub (ws' := [(h1, .inr (6, [.int (nI k), .ref a_maps, .int told, v_kinds, v_land, v_spades, .ref a_part, v_pad, v_padMany, v_slips, v_slipMany, v_made, v_queue, v_depth, v_by, v_from, v_come, v_offOf, v_parent, v_best, v_trees, v_least, v_sums, v_toward, v_kept, v_isKept, v_keptAt, v_isWriting])), (a_maps, .inl (gI G, 6, .inl fm)), (a_part, .inl (gI G, 6, .inl fp))]) [0, 1, 2] rfl)
          have hD9 := (hD.sub (ws' := [(h1, .inr (6, [.int (nI k), .ref a_maps, .int told, v_kinds, v_land, v_spades, .ref a_part, v_pad, v_padMany, v_slips, v_slipMany, v_made, v_queue, v_depth, v_by, v_from, v_come, v_offOf, v_parent, v_best, v_trees, v_least, v_sums, v_toward, v_kept, v_isKept, v_keptAt, v_isWriting])), (a_maps, .inl (gI G, 6, .inl fm)), (a_part, .inl (gI G, 6, .inl fp))]) [0, 1, 2] (by decide) rfl)
          exact W.iret (v := bi) hx hb hr (fun t9_ ht9_ hW9_ => ⟨⟨bi, (), rfl, trivial, by rw [ht9_]; exact hP9, hD9⟩, hS.F ht9_⟩) hS.2.2 dX10_holds_97
        · have c12 : ¬ k ≤ x := fun h9_ => c12 ((nI_leI (a := k) (b := x) (by omega) (by omega)).mpr h9_)
          refine lv_iload_n hx hb dX10_holds_69 rfl (lv_at hl 1 rfl) ?_
          refine lv_aload_n hx hb dX10_holds_70 rfl (lv_at hl 2 rfl) ?_
          refine lv_iload_n hx hb dX10_holds_71 rfl (lv_at hl 3 rfl) ?_
          refine lv_iload hx hb dX10_holds_72 (lv_at hl 0 rfl) ?_
          refine ca_iR (va_runV (As := [.int p0, .int (nI x)]) (rest := [.int bi]) ⟨hx, hb, hml, hown, hts⟩ (m_holdsAt l G H.size h1 (.int (nI k)) (.int told) v_kinds v_land v_spades v_pad v_padMany v_slips v_slipMany v_made v_queue v_depth v_by v_from v_come v_offOf v_parent v_best v_trees v_least v_sums v_toward v_kept v_isKept v_keptAt v_isWriting a_maps fm a_part fp k x p0 hk6 hp hfm (by omega)) (cwV 2 hts gX10_holds_X10_holdsAt rfl rfl rfl (by decide +kernel) ⟨by decide +kernel, by decide +kernel⟩) (pre_V E hP hD hS hA [0, 1, 2] (by decide) rfl 0 6 rfl rfl) rfl rfl hl.1 rfl (lv_room (Nat.le_of_ble_eq_true rfl)) dX10_holds_74 ⟨by decide +kernel, by decide +kernel⟩) hS hP hD hA [0, 1, 2] rfl (fun r14 _ H locs w13 hP hS => ?_)
          rcases w13 with ⟨rfl, b15⟩ | ⟨rfl, b15⟩
          · refine lv_if_eq (tgt := 87) hx hb dX10_holds_77 (by decide) (fun c16 => False.elim (by revert c16; decide)) (fun _ => ?_)
            refine lv_iconst (v := 1) hx hb dX10_holds_80 (by decide) ?_
            refine lv_iload hx hb dX10_holds_81 (lv_at hl 0 rfl) ?_
            refine lv_ishl hx hb dX10_holds_83 ?_
            refine lv_topi (fun x17 ex17 => ?_)
            refine lv_goto (tgt := 88) hx hb dX10_holds_84 (by decide) ?_
            refine lv_ior hx hb dX10_holds_88 ?_
            refine lv_topi (fun x18 ex18 => ?_)
            refine lv_istore_n (lv' := [(3, .int x18), (4, .int (nI x)), (0, .ref h1), (1, .int p0), (2, .int p1)]) hx hb dX10_holds_89 rfl hl (by decide) rfl (fun ls hl => ?_)
            obtain ⟨x19, ex19⟩ : ∃ yy_ : Int32, yy_ = (nI x) + 1 := ⟨_, rfl⟩
            refine lv_iinc (v := x19) (lv' := [(4, .int x19), (3, .int x18), (0, .ref h1), (1, .int p0), (2, .int p1)]) hx hb dX10_holds_90 hl (k := 1) rfl (by rw [ex19]; rfl) (by decide) rfl (fun ls hl => ?_)
            obtain rfl : x19 = nI (x + 1) := by rw [ex19]; exact nI_add x 1
            refine lv_goto (tgt := 60) hx hb dX10_holds_93 (by decide) ?_
            refine ih60 ((x + 1), x18) ?_ (by first | omega | (dsimp only; omega)) H locs ls (hP.sub [0, 1, 2] rfl) (hD.sub [0, 1, 2] (by decide) rfl) hS (lv_sub hl [0, 1, 2, 3, 4] rfl)
            try dsimp only
            omega
          · refine lv_if_eq (tgt := 87) hx hb dX10_holds_77 (by decide) (fun _ => ?_) (fun c20 => False.elim (by revert c20; decide))
            refine lv_iconst (v := 0) hx hb dX10_holds_87 (by decide) ?_
            refine lv_ior hx hb dX10_holds_88 ?_
            refine lv_topi (fun x21 ex21 => ?_)
            refine lv_istore_n (lv' := [(3, .int x21), (4, .int (nI x)), (0, .ref h1), (1, .int p0), (2, .int p1)]) hx hb dX10_holds_89 rfl hl (by decide) rfl (fun ls hl => ?_)
            obtain ⟨x22, ex22⟩ : ∃ yy_ : Int32, yy_ = (nI x) + 1 := ⟨_, rfl⟩
            refine lv_iinc (v := x22) (lv' := [(4, .int x22), (3, .int x21), (0, .ref h1), (1, .int p0), (2, .int p1)]) hx hb dX10_holds_90 hl (k := 1) rfl (by rw [ex22]; rfl) (by decide) rfl (fun ls hl => ?_)
            obtain rfl : x22 = nI (x + 1) := by rw [ex22]; exact nI_add x 1
            refine lv_goto (tgt := 60) hx hb dX10_holds_93 (by decide) ?_
            refine ih60 ((x + 1), x21) ?_ (by first | omega | (dsimp only; omega)) H locs ls (hP.sub [0, 1, 2] rfl) (hD.sub [0, 1, 2] (by decide) rfl) hS (lv_sub hl [0, 1, 2, 3, 4] rfl)
            try dsimp only
            omega
      · refine lv_if_ne (tgt := 41) hx hb dX10_holds_35 (by decide) (fun c23 => False.elim (by revert c23; decide)) (fun _ => ?_)
        refine lv_bipush (v := (-3)) hx hb dX10_holds_38 (by decide) ?_
        have hP9 := (hP.sub (ws' := [(h1, .inr (6, [.int (nI k), .ref a_maps, .int told, v_kinds, v_land, v_spades, .ref a_part, v_pad, v_padMany, v_slips, v_slipMany, v_made, v_queue, v_depth, v_by, v_from, v_come, v_offOf, v_parent, v_best, v_trees, v_least, v_sums, v_toward, v_kept, v_isKept, v_keptAt, v_isWriting])), (a_maps, .inl (gI G, 6, .inl fm)), (a_part, .inl (gI G, 6, .inl fp))]) [0, 1, 2] rfl)
        have hD9 := (hD.sub (ws' := [(h1, .inr (6, [.int (nI k), .ref a_maps, .int told, v_kinds, v_land, v_spades, .ref a_part, v_pad, v_padMany, v_slips, v_slipMany, v_made, v_queue, v_depth, v_by, v_from, v_come, v_offOf, v_parent, v_best, v_trees, v_least, v_sums, v_toward, v_kept, v_isKept, v_keptAt, v_isWriting])), (a_maps, .inl (gI G, 6, .inl fm)), (a_part, .inl (gI G, 6, .inl fp))]) [0, 1, 2] (by decide) rfl)
        exact W.iret (v := (-3)) hx hb hr (fun t9_ ht9_ hW9_ => ⟨⟨(-3), (), rfl, trivial, by rw [ht9_]; exact hP9, hD9⟩, hS.F ht9_⟩) hS.2.2 dX10_holds_40
    · refine lv_if_ne (tgt := 30) hx hb dX10_holds_24 (by decide) (fun c24 => False.elim (by revert c24; decide)) (fun _ => ?_)
      refine lv_bipush (v := (-2)) hx hb dX10_holds_27 (by decide) ?_
      have hP9 := (hP.sub (ws' := [(h1, .inr (6, [.int (nI k), .ref a_maps, .int told, v_kinds, v_land, v_spades, .ref a_part, v_pad, v_padMany, v_slips, v_slipMany, v_made, v_queue, v_depth, v_by, v_from, v_come, v_offOf, v_parent, v_best, v_trees, v_least, v_sums, v_toward, v_kept, v_isKept, v_keptAt, v_isWriting])), (a_maps, .inl (gI G, 6, .inl fm)), (a_part, .inl (gI G, 6, .inl fp))]) [0, 1, 2] rfl)
      have hD9 := (hD.sub (ws' := [(h1, .inr (6, [.int (nI k), .ref a_maps, .int told, v_kinds, v_land, v_spades, .ref a_part, v_pad, v_padMany, v_slips, v_slipMany, v_made, v_queue, v_depth, v_by, v_from, v_come, v_offOf, v_parent, v_best, v_trees, v_least, v_sums, v_toward, v_kept, v_isKept, v_keptAt, v_isWriting])), (a_maps, .inl (gI G, 6, .inl fm)), (a_part, .inl (gI G, 6, .inl fp))]) [0, 1, 2] (by decide) rfl)
      exact W.iret (v := (-2)) hx hb hr (fun t9_ ht9_ hW9_ => ⟨⟨(-2), (), rfl, trivial, by rw [ht9_]; exact hP9, hD9⟩, hS.F ht9_⟩) hS.2.2 dX10_holds_29
  · refine lv_aload_n hx hb dX10_holds_5 rfl (lv_at hl 0 rfl) ?_
    refine lv_iload_n hx hb dX10_holds_6 rfl (lv_at hl 2 rfl) ?_
    refine ca_iR (va_runV (As := [.int p1]) (rest := []) ⟨hx, hb, hml, hown, hts⟩ (m_isSite l G s.heap.size h1 (.ref a_maps) (.int told) v_kinds v_land v_spades (.ref a_part) v_pad v_padMany v_slips v_slipMany v_made v_queue v_depth v_by v_from v_come v_offOf v_parent v_best v_trees v_least v_sums v_toward v_kept v_isKept v_keptAt v_isWriting k p1 hk2 hk6) (cwV 1 hts gX10_holds_X10_isSite rfl rfl rfl (by decide +kernel) ⟨by decide +kernel, by decide +kernel⟩) (pre_V E hP hD hS hA [0] (by decide) rfl 0 6 rfl rfl) rfl rfl hl.1 rfl (lv_room (Nat.le_of_ble_eq_true rfl)) dX10_holds_7 ⟨by decide +kernel, by decide +kernel⟩) hS hP hD hA [0] rfl (fun r26 _ H locs w25 hP hS => ?_)
    rcases w25 with ⟨rfl, b27⟩ | ⟨rfl, b27⟩
    · refine lv_if_ne (tgt := 15) hx hb dX10_holds_10 (by decide) (fun _ => ?_) (fun c28 => False.elim (by revert c28; decide))
      obtain ⟨j_p1, hj_p1, ej_p1⟩ := b27
      have hl : lv_has ls 5 [(0, .ref h1), (1, .int p0), (2, .int (nI j_p1))] := by have q := hl; rw [ej_p1] at q; exact q
      refine lv_iload_n hx hb dX10_holds_15 rfl (lv_at hl 1 rfl) ?_
      refine lv_i2l hx hb dX10_holds_16 rfl ?_
      refine lv_topl (fun x29 ex29 => ?_)
      refine lv_lconst (v := 1) hx hb dX10_holds_17 (by decide) ?_
      refine lv_ldc2 (v := 63) hx hb hown (hts (.constantLong RX10 203 (63)) (by decide +kernel)) dX10_holds_18 ?_
      refine ca_iR (va_runS (As := [.long x29, .long 1, .long 63]) (rest := []) ⟨hx, hb, hml, hown, hts⟩ (m_in l G H.size x29 1 63 p0 1 63 ex29 (by decide) (by decide)) (va_cwS 3 hts gX10_holds_X10_in rfl rfl rfl (by decide +kernel) ⟨by decide +kernel, by decide +kernel⟩) (pre_S E hP hD hS hA [] (by decide) rfl) rfl rfl hl.1 rfl (lv_room (Nat.le_of_ble_eq_true rfl)) dX10_holds_21 ⟨by decide +kernel, by decide +kernel⟩) hS hP hD hA [] rfl (fun r31 _ H locs w30 hP hS => ?_)
      rcases w30 with ⟨rfl, b32⟩ | ⟨rfl, b32⟩
      · refine lv_if_ne (tgt := 30) hx hb dX10_holds_24 (by decide) (fun _ => ?_) (fun c33 => False.elim (by revert c33; decide))
        refine lv_aload_n hx hb dX10_holds_30 rfl (lv_at hl 0 rfl) ?_
        refine lv_iload_n hx hb dX10_holds_31 rfl (lv_at hl 1 rfl) ?_
        refine ca_iR (va_runV (As := [.int p0]) (rest := []) ⟨hx, hb, hml, hown, hts⟩ (m_areTold l G H.size h1 (.int (nI k)) (.ref a_maps) v_kinds v_land v_spades (.ref a_part) v_pad v_padMany v_slips v_slipMany v_made v_queue v_depth v_by v_from v_come v_offOf v_parent v_best v_trees v_least v_sums v_toward v_kept v_isKept v_keptAt v_isWriting told p0) (cwV 1 hts gX10_holds_X10_areTold rfl rfl rfl (by decide +kernel) ⟨by decide +kernel, by decide +kernel⟩) (pre_V E hP hD hS hA [0] (by decide) rfl 0 6 rfl rfl) rfl rfl hl.1 rfl (lv_room (Nat.le_of_ble_eq_true rfl)) dX10_holds_32 ⟨by decide +kernel, by decide +kernel⟩) hS hP hD hA [0] rfl (fun r35 _ H locs w34 hP hS => ?_)
        rcases w34 with ⟨rfl, b36⟩ | ⟨rfl, b36⟩
        · refine lv_if_ne (tgt := 41) hx hb dX10_holds_35 (by decide) (fun _ => ?_) (fun c37 => False.elim (by revert c37; decide))
          refine lv_iload_n hx hb dX10_holds_41 rfl (lv_at hl 2 rfl) ?_
          refine lv_if_lt (tgt := 55) hx hb dX10_holds_42 (by decide) (fun c38 => absurd c38 (nI_pos (by omega))) (fun c38 => ?_)
          refine lv_aload_n hx hb dX10_holds_45 rfl (lv_at hl 0 rfl) ?_
          refine lv_iload_n hx hb dX10_holds_46 rfl (lv_at hl 1 rfl) ?_
          refine lv_iload_n hx hb dX10_holds_47 rfl (lv_at hl 2 rfl) ?_
          refine ca_iR (va_runV (As := [.int p0, .int (nI j_p1)]) (rest := []) ⟨hx, hb, hml, hown, hts⟩ (m_mostAt l G H.size h1 (.int (nI k)) (.int told) v_kinds v_land v_spades v_pad v_padMany v_slips v_slipMany v_made v_queue v_depth v_by v_from v_come v_offOf v_parent v_best v_trees v_least v_sums v_toward v_kept v_isKept v_keptAt v_isWriting a_maps fm a_part fp k j_p1 p0 hk6 hp hfm (by omega)) (cwV 2 hts gX10_holds_X10_mostAt rfl rfl rfl (by decide +kernel) ⟨by decide +kernel, by decide +kernel⟩) (pre_V E hP hD hS hA [0, 1, 2] (by decide) rfl 0 6 rfl rfl) rfl rfl hl.1 rfl (lv_room (Nat.le_of_ble_eq_true rfl)) dX10_holds_48 ⟨by decide +kernel, by decide +kernel⟩) hS hP hD hA [0, 1, 2] rfl (fun r40 _ H locs w39 hP hS => ?_)
          refine ca_iR (va_runS (As := [.int r40]) (rest := []) ⟨hx, hb, hml, hown, hts⟩ (m_codeOf l G H.size r40) (va_cwS 1 hts gX10_holds_X10_codeOf rfl rfl rfl (by decide +kernel) ⟨by decide +kernel, by decide +kernel⟩) (pre_S E hP hD hS hA [] (by decide) rfl) rfl rfl hl.1 rfl (lv_room (Nat.le_of_ble_eq_true rfl)) dX10_holds_51 ⟨by decide +kernel, by decide +kernel⟩) hS hP hD hA [] rfl (fun r42 _ H locs w41 hP hS => ?_)
          have hP9 := (hP.sub (ws' := [(h1, .inr (6, [.int (nI k), .ref a_maps, .int told, v_kinds, v_land, v_spades, .ref a_part, v_pad, v_padMany, v_slips, v_slipMany, v_made, v_queue, v_depth, v_by, v_from, v_come, v_offOf, v_parent, v_best, v_trees, v_least, v_sums, v_toward, v_kept, v_isKept, v_keptAt, v_isWriting])), (a_maps, .inl (gI G, 6, .inl fm)), (a_part, .inl (gI G, 6, .inl fp))]) [0, 1, 2] rfl)
          have hD9 := (hD.sub (ws' := [(h1, .inr (6, [.int (nI k), .ref a_maps, .int told, v_kinds, v_land, v_spades, .ref a_part, v_pad, v_padMany, v_slips, v_slipMany, v_made, v_queue, v_depth, v_by, v_from, v_come, v_offOf, v_parent, v_best, v_trees, v_least, v_sums, v_toward, v_kept, v_isKept, v_keptAt, v_isWriting])), (a_maps, .inl (gI G, 6, .inl fm)), (a_part, .inl (gI G, 6, .inl fp))]) [0, 1, 2] (by decide) rfl)
          exact W.iret (v := r42) hx hb hr (fun t9_ ht9_ hW9_ => ⟨⟨r42, (), rfl, trivial, by rw [ht9_]; exact hP9, hD9⟩, hS.F ht9_⟩) hS.2.2 dX10_holds_54
        · refine lv_if_ne (tgt := 41) hx hb dX10_holds_35 (by decide) (fun c43 => False.elim (by revert c43; decide)) (fun _ => ?_)
          refine lv_bipush (v := (-3)) hx hb dX10_holds_38 (by decide) ?_
          have hP9 := (hP.sub (ws' := [(h1, .inr (6, [.int (nI k), .ref a_maps, .int told, v_kinds, v_land, v_spades, .ref a_part, v_pad, v_padMany, v_slips, v_slipMany, v_made, v_queue, v_depth, v_by, v_from, v_come, v_offOf, v_parent, v_best, v_trees, v_least, v_sums, v_toward, v_kept, v_isKept, v_keptAt, v_isWriting])), (a_maps, .inl (gI G, 6, .inl fm)), (a_part, .inl (gI G, 6, .inl fp))]) [0, 1, 2] rfl)
          have hD9 := (hD.sub (ws' := [(h1, .inr (6, [.int (nI k), .ref a_maps, .int told, v_kinds, v_land, v_spades, .ref a_part, v_pad, v_padMany, v_slips, v_slipMany, v_made, v_queue, v_depth, v_by, v_from, v_come, v_offOf, v_parent, v_best, v_trees, v_least, v_sums, v_toward, v_kept, v_isKept, v_keptAt, v_isWriting])), (a_maps, .inl (gI G, 6, .inl fm)), (a_part, .inl (gI G, 6, .inl fp))]) [0, 1, 2] (by decide) rfl)
          exact W.iret (v := (-3)) hx hb hr (fun t9_ ht9_ hW9_ => ⟨⟨(-3), (), rfl, trivial, by rw [ht9_]; exact hP9, hD9⟩, hS.F ht9_⟩) hS.2.2 dX10_holds_40
      · refine lv_if_ne (tgt := 30) hx hb dX10_holds_24 (by decide) (fun c44 => False.elim (by revert c44; decide)) (fun _ => ?_)
        refine lv_bipush (v := (-2)) hx hb dX10_holds_27 (by decide) ?_
        have hP9 := (hP.sub (ws' := [(h1, .inr (6, [.int (nI k), .ref a_maps, .int told, v_kinds, v_land, v_spades, .ref a_part, v_pad, v_padMany, v_slips, v_slipMany, v_made, v_queue, v_depth, v_by, v_from, v_come, v_offOf, v_parent, v_best, v_trees, v_least, v_sums, v_toward, v_kept, v_isKept, v_keptAt, v_isWriting])), (a_maps, .inl (gI G, 6, .inl fm)), (a_part, .inl (gI G, 6, .inl fp))]) [0, 1, 2] rfl)
        have hD9 := (hD.sub (ws' := [(h1, .inr (6, [.int (nI k), .ref a_maps, .int told, v_kinds, v_land, v_spades, .ref a_part, v_pad, v_padMany, v_slips, v_slipMany, v_made, v_queue, v_depth, v_by, v_from, v_come, v_offOf, v_parent, v_best, v_trees, v_least, v_sums, v_toward, v_kept, v_isKept, v_keptAt, v_isWriting])), (a_maps, .inl (gI G, 6, .inl fm)), (a_part, .inl (gI G, 6, .inl fp))]) [0, 1, 2] (by decide) rfl)
        exact W.iret (v := (-2)) hx hb hr (fun t9_ ht9_ hW9_ => ⟨⟨(-2), (), rfl, trivial, by rw [ht9_]; exact hP9, hD9⟩, hS.F ht9_⟩) hS.2.2 dX10_holds_29
    · refine lv_if_ne (tgt := 15) hx hb dX10_holds_10 (by decide) (fun c45 => False.elim (by revert c45; decide)) (fun _ => ?_)
      refine lv_iconst (v := (-1)) hx hb dX10_holds_13 (by decide) ?_
      have hP9 := (hP.sub (ws' := [(h1, .inr (6, [.int (nI k), .ref a_maps, .int told, v_kinds, v_land, v_spades, .ref a_part, v_pad, v_padMany, v_slips, v_slipMany, v_made, v_queue, v_depth, v_by, v_from, v_come, v_offOf, v_parent, v_best, v_trees, v_least, v_sums, v_toward, v_kept, v_isKept, v_keptAt, v_isWriting])), (a_maps, .inl (gI G, 6, .inl fm)), (a_part, .inl (gI G, 6, .inl fp))]) [0, 1, 2] rfl)
      have hD9 := (hD.sub (ws' := [(h1, .inr (6, [.int (nI k), .ref a_maps, .int told, v_kinds, v_land, v_spades, .ref a_part, v_pad, v_padMany, v_slips, v_slipMany, v_made, v_queue, v_depth, v_by, v_from, v_come, v_offOf, v_parent, v_best, v_trees, v_least, v_sums, v_toward, v_kept, v_isKept, v_keptAt, v_isWriting])), (a_maps, .inl (gI G, 6, .inl fm)), (a_part, .inl (gI G, 6, .inl fp))]) [0, 1, 2] (by decide) rfl)
      exact W.iret (v := (-1)) hx hb hr (fun t9_ ht9_ hW9_ => ⟨⟨(-1), (), rfl, trivial, by rw [ht9_]; exact hP9, hD9⟩, hS.F ht9_⟩) hS.2.2 dX10_holds_14

set_option maxHeartbeats 1000000 in
set_option maxRecDepth 100000 in
theorem m_spades (l : Launch) (G : Gy) (sz : Nat) (h1 : Nat) (v_sites : Value) (v_maps : Value) (v_told : Value) (v_kinds : Value) (v_land : Value) (v_part : Value) (v_pad : Value) (v_padMany : Value) (v_slips : Value) (v_slipMany : Value) (v_made : Value) (v_queue : Value) (v_depth : Value) (v_by : Value) (v_from : Value) (v_come : Value) (v_offOf : Value) (v_parent : Value) (v_best : Value) (v_trees : Value) (v_least : Value) (v_sums : Value) (v_toward : Value) (v_kept : Value) (v_isKept : Value) (v_keptAt : Value) (v_isWriting : Value) (sp : Int32) (p0 : Int32)  : Ci l G yX10_spades wsX10_spades ({ frames := 1, cells := 0, slots := 0, locals := 25 }) [.ref h1, .int p0] ([(h1, .inr (6, [v_sites, v_maps, v_told, v_kinds, v_land, .int sp, v_part, v_pad, v_padMany, v_slips, v_slipMany, v_made, v_queue, v_depth, v_by, v_from, v_come, v_offOf, v_parent, v_best, v_trees, v_least, v_sums, v_toward, v_kept, v_isKept, v_keptAt, v_isWriting]))]) sz (fun (r : Int32) (sp1 : Int32) => (inR p0 1 6 ∧ r = sp ∧ sp1 = p0) ∨ (¬ inR p0 1 6 ∧ r = (-2) ∧ sp1 = sp)) (fun (sp1 : Int32) => [(h1, .inr (6, [v_sites, v_maps, v_told, v_kinds, v_land, .int sp1, v_part, v_pad, v_padMany, v_slips, v_slipMany, v_made, v_queue, v_depth, v_by, v_from, v_come, v_offOf, v_parent, v_best, v_trees, v_least, v_sums, v_toward, v_kept, v_isKept, v_keptAt, v_isWriting]))]) 0 0 := by
  refine Met.ofW (cc := cX10_spades) (maxL := 3) (ret := (some .int)) (by decide) rfl ?_
  intro p e s m args below meth c s₁ B hml hv
  obtain ⟨rfl, hsz, hP, hD0, E0⟩ := hv
  have hx := B.exec
  have hb := B.bytes
  have hr := B.returns
  have hts := atoms_spec (ws := wsX10_spades) B.pre
  have hown : s.vm.findClass RX10 = some m.cls := findClass_of_methodNamed B.named
  have hlocks := B.notSynchronized
  subst hsz
  have hD := hD0.self (sz := s.heap.size)
  generalize hAe : va_A ([(h1, .inr (6, [v_sites, v_maps, v_told, v_kinds, v_land, .int sp, v_part, v_pad, v_padMany, v_slips, v_slipMany, v_made, v_queue, v_depth, v_by, v_from, v_come, v_offOf, v_parent, v_best, v_trees, v_least, v_sums, v_toward, v_kept, v_isKept, v_keptAt, v_isWriting]))]) s.heap.size = A at hD E0 ⊢
  have E : EV G A s s.heap := E0
  have hA : ∀ q : Nat, s.heap.size ≤ q → A q := fun q h => by rw [← hAe]; exact Or.inr h
  have hS : va_S A s.heap s.heap [] := va_S.rf
  have hl := lv_entry ([.ref h1, .int p0]) (n := 3) (Nat.le_of_ble_eq_true rfl)
  rw [lg_entry_eq]
  generalize (lg_sl ([.ref h1, .int p0]) ++ List.replicate (3 - (lg_sl ([.ref h1, .int p0])).length) Slot.unset).toArray = ls at hl ⊢
  have hl : lv_has ls 3 [(0, .ref h1), (1, .int p0)] := hl
  have hP : va_P G.1 vwCl ([(h1, .inr (6, [v_sites, v_maps, v_told, v_kinds, v_land, .int sp, v_part, v_pad, v_padMany, v_slips, v_slipMany, v_made, v_queue, v_depth, v_by, v_from, v_come, v_offOf, v_parent, v_best, v_trees, v_least, v_sums, v_toward, v_kept, v_isKept, v_keptAt, v_isWriting]))]) s.heap := hP
  refine lv_iload_n hx hb dX10_spades_0 rfl (lv_at hl 1 rfl) ?_
  refine lv_i2l hx hb dX10_spades_1 rfl ?_
  refine lv_topl (fun x1 ex1 => ?_)
  refine lv_lconst (v := 1) hx hb dX10_spades_2 (by decide) ?_
  refine lv_ldc2 (v := 6) hx hb hown (hts (.constantLong RX10 89 (6)) (by decide +kernel)) dX10_spades_3 ?_
  refine ca_iR (va_runS (As := [.long x1, .long 1, .long 6]) (rest := []) ⟨hx, hb, hml, hown, hts⟩ (m_in l G s.heap.size x1 1 6 p0 1 6 ex1 (by decide) (by decide)) (va_cwS 3 hts gX10_spades_X10_in rfl rfl rfl (by decide +kernel) ⟨by decide +kernel, by decide +kernel⟩) (pre_S E hP hD hS hA [] (by decide) rfl) rfl rfl hl.1 rfl (lv_room (Nat.le_of_ble_eq_true rfl)) dX10_spades_6 ⟨by decide +kernel, by decide +kernel⟩) hS hP hD hA [] rfl (fun r3 _ H locs w2 hP hS => ?_)
  rcases w2 with ⟨rfl, b4⟩ | ⟨rfl, b4⟩
  · refine lv_if_ne (tgt := 15) hx hb dX10_spades_9 (by decide) (fun _ => ?_) (fun c5 => False.elim (by revert c5; decide))
    refine lv_aload_n hx hb dX10_spades_15 rfl (lv_at hl 0 rfl) ?_
    refine va_get (D := G.1) (ci := 6) (v := .int sp) (C := RX10) (T := TX10) (N := 28) hx hb hts (fun _ h => List.mem_cons_of_mem _ (List.mem_append_right _ h)) hown E.K hP 0 rfl rfl 5 (by decide) (hts (.fieldLink RX10 59 "LastMapModel" "spades" "I") (by decide +kernel)) (fun _ h9 => h9) rfl dX10_spades_16 ?_
    refine lv_istore_n (lv' := [(2, .int sp), (0, .ref h1), (1, .int p0)]) hx hb dX10_spades_19 rfl hl (by decide) rfl (fun ls hl => ?_)
    refine lv_aload_n hx hb dX10_spades_20 rfl (lv_at hl 1 rfl) ?_
    refine lv_iload_n hx hb dX10_spades_21 rfl (lv_at hl 2 rfl) ?_
    refine va_put (D := G.1) (ci := 6) (v := .int p0) (ty := .int) (C := RX10) (T := TX10) (N := 28) hx hb hts (fun _ h => List.mem_cons_of_mem _ (List.mem_append_right _ h)) tyX10 tyX10_ok nmX10 hown E.K hP hD hS 0 rfl rfl 5 (by decide) (hts (.fieldLink RX10 59 "LastMapModel" "spades" "I") (by decide +kernel)) (fun _ h9 => h9) rfl (by decide +kernel) rfl rfl (Nat.le_of_ble_eq_true rfl) dX10_spades_22 (fun H locs hP hD hS => ?_)
    have hP : va_P G.1 vwCl ([(h1, .inr (6, [v_sites, v_maps, v_told, v_kinds, v_land, .int p0, v_part, v_pad, v_padMany, v_slips, v_slipMany, v_made, v_queue, v_depth, v_by, v_from, v_come, v_offOf, v_parent, v_best, v_trees, v_least, v_sums, v_toward, v_kept, v_isKept, v_keptAt, v_isWriting]))]) H := hP
    have hD : va_D A ([(h1, .inr (6, [v_sites, v_maps, v_told, v_kinds, v_land, .int p0, v_part, v_pad, v_padMany, v_slips, v_slipMany, v_made, v_queue, v_depth, v_by, v_from, v_come, v_offOf, v_parent, v_best, v_trees, v_least, v_sums, v_toward, v_kept, v_isKept, v_keptAt, v_isWriting]))]) := hD
    refine lv_iload_n hx hb dX10_spades_25 rfl (lv_at hl 0 rfl) ?_
    have hP9 := (hP.sub (ws' := [(h1, .inr (6, [v_sites, v_maps, v_told, v_kinds, v_land, .int p0, v_part, v_pad, v_padMany, v_slips, v_slipMany, v_made, v_queue, v_depth, v_by, v_from, v_come, v_offOf, v_parent, v_best, v_trees, v_least, v_sums, v_toward, v_kept, v_isKept, v_keptAt, v_isWriting]))]) [0] rfl)
    have hD9 := (hD.sub (ws' := [(h1, .inr (6, [v_sites, v_maps, v_told, v_kinds, v_land, .int p0, v_part, v_pad, v_padMany, v_slips, v_slipMany, v_made, v_queue, v_depth, v_by, v_from, v_come, v_offOf, v_parent, v_best, v_trees, v_least, v_sums, v_toward, v_kept, v_isKept, v_keptAt, v_isWriting]))]) [0] (by decide) rfl)
    exact W.iret (v := sp) hx hb hr (fun t9_ ht9_ hW9_ => ⟨⟨sp, p0, rfl, Or.inl ⟨b4, rfl, rfl⟩, by rw [ht9_]; exact hP9, hD9⟩, hS.F ht9_⟩) hS.2.2 dX10_spades_26
  · refine lv_if_ne (tgt := 15) hx hb dX10_spades_9 (by decide) (fun c6 => False.elim (by revert c6; decide)) (fun _ => ?_)
    refine lv_bipush (v := (-2)) hx hb dX10_spades_12 (by decide) ?_
    have hP9 := (hP.sub (ws' := [(h1, .inr (6, [v_sites, v_maps, v_told, v_kinds, v_land, .int sp, v_part, v_pad, v_padMany, v_slips, v_slipMany, v_made, v_queue, v_depth, v_by, v_from, v_come, v_offOf, v_parent, v_best, v_trees, v_least, v_sums, v_toward, v_kept, v_isKept, v_keptAt, v_isWriting]))]) [0] rfl)
    have hD9 := (hD.sub (ws' := [(h1, .inr (6, [v_sites, v_maps, v_told, v_kinds, v_land, .int sp, v_part, v_pad, v_padMany, v_slips, v_slipMany, v_made, v_queue, v_depth, v_by, v_from, v_come, v_offOf, v_parent, v_best, v_trees, v_least, v_sums, v_toward, v_kept, v_isKept, v_keptAt, v_isWriting]))]) [0] (by decide) rfl)
    exact W.iret (v := (-2)) hx hb hr (fun t9_ ht9_ hW9_ => ⟨⟨(-2), sp, rfl, Or.inr ⟨b4, rfl, rfl⟩, by rw [ht9_]; exact hP9, hD9⟩, hS.F ht9_⟩) hS.2.2 dX10_spades_14

set_option maxHeartbeats 1000000 in
set_option maxRecDepth 100000 in
theorem m_land (l : Launch) (G : Gy) (sz : Nat) (h1 : Nat) (v_maps : Value) (v_told : Value) (v_kinds : Value) (v_spades : Value) (v_pad : Value) (v_padMany : Value) (v_slips : Value) (v_slipMany : Value) (v_made : Value) (v_queue : Value) (v_depth : Value) (v_by : Value) (v_from : Value) (v_come : Value) (v_offOf : Value) (v_parent : Value) (v_best : Value) (v_trees : Value) (v_least : Value) (v_sums : Value) (v_toward : Value) (v_kept : Value) (v_isKept : Value) (v_keptAt : Value) (v_isWriting : Value) (a_part : Nat) (fp : Nat → Int32) (k : Nat) (la : Nat) (p0 : Int32) (hk2 : 2 ≤ k) (hk6 : k ≤ 6) (hp : pOK k fp) (hla : la < 5 ^ k) : Ci l G yX10_land wsX10_land ({ frames := 2, cells := 0, slots := 0, locals := 46 }) [.ref h1, .int p0] ([(h1, .inr (6, [.int (nI k), v_maps, v_told, v_kinds, .int (nI la), v_spades, .ref a_part, v_pad, v_padMany, v_slips, v_slipMany, v_made, v_queue, v_depth, v_by, v_from, v_come, v_offOf, v_parent, v_best, v_trees, v_least, v_sums, v_toward, v_kept, v_isKept, v_keptAt, v_isWriting])), (a_part, .inl (gI G, 6, .inl fp))]) sz (fun (r : Int32) (_ : Unit) => True) (fun (_ : Unit) => [(h1, .inr (6, [.int (nI k), v_maps, v_told, v_kinds, .int (nI la), v_spades, .ref a_part, v_pad, v_padMany, v_slips, v_slipMany, v_made, v_queue, v_depth, v_by, v_from, v_come, v_offOf, v_parent, v_best, v_trees, v_least, v_sums, v_toward, v_kept, v_isKept, v_keptAt, v_isWriting])), (a_part, .inl (gI G, 6, .inl fp))]) 0 0 := by
  refine Met.ofW (cc := cX10_land) (maxL := 2) (ret := (some .int)) (by decide) rfl ?_
  intro p e s m args below meth c s₁ B hml hv
  obtain ⟨rfl, hsz, hP, hD0, E0⟩ := hv
  have hx := B.exec
  have hb := B.bytes
  have hr := B.returns
  have hts := atoms_spec (ws := wsX10_land) B.pre
  have hown : s.vm.findClass RX10 = some m.cls := findClass_of_methodNamed B.named
  have hlocks := B.notSynchronized
  subst hsz
  have hD := hD0.self (sz := s.heap.size)
  generalize hAe : va_A ([(h1, .inr (6, [.int (nI k), v_maps, v_told, v_kinds, .int (nI la), v_spades, .ref a_part, v_pad, v_padMany, v_slips, v_slipMany, v_made, v_queue, v_depth, v_by, v_from, v_come, v_offOf, v_parent, v_best, v_trees, v_least, v_sums, v_toward, v_kept, v_isKept, v_keptAt, v_isWriting])), (a_part, .inl (gI G, 6, .inl fp))]) s.heap.size = A at hD E0 ⊢
  have E : EV G A s s.heap := E0
  have hA : ∀ q : Nat, s.heap.size ≤ q → A q := fun q h => by rw [← hAe]; exact Or.inr h
  have hS : va_S A s.heap s.heap [] := va_S.rf
  have hl := lv_entry ([.ref h1, .int p0]) (n := 2) (Nat.le_of_ble_eq_true rfl)
  rw [lg_entry_eq]
  generalize (lg_sl ([.ref h1, .int p0]) ++ List.replicate (2 - (lg_sl ([.ref h1, .int p0])).length) Slot.unset).toArray = ls at hl ⊢
  have hl : lv_has ls 2 [(0, .ref h1), (1, .int p0)] := hl
  have hP : va_P G.1 vwCl ([(h1, .inr (6, [.int (nI k), v_maps, v_told, v_kinds, .int (nI la), v_spades, .ref a_part, v_pad, v_padMany, v_slips, v_slipMany, v_made, v_queue, v_depth, v_by, v_from, v_come, v_offOf, v_parent, v_best, v_trees, v_least, v_sums, v_toward, v_kept, v_isKept, v_keptAt, v_isWriting])), (a_part, .inl (gI G, 6, .inl fp))]) s.heap := hP
  have hal := p5le hk6
  refine lv_aload_n hx hb dX10_land_0 rfl (lv_at hl 0 rfl) ?_
  refine lv_iload_n hx hb dX10_land_1 rfl (lv_at hl 1 rfl) ?_
  refine ca_iR (va_runV (As := [.int p0]) (rest := []) ⟨hx, hb, hml, hown, hts⟩ (m_isSite l G s.heap.size h1 v_maps v_told v_kinds (.int (nI la)) v_spades (.ref a_part) v_pad v_padMany v_slips v_slipMany v_made v_queue v_depth v_by v_from v_come v_offOf v_parent v_best v_trees v_least v_sums v_toward v_kept v_isKept v_keptAt v_isWriting k p0 hk2 hk6) (cwV 1 hts gX10_land_X10_isSite rfl rfl rfl (by decide +kernel) ⟨by decide +kernel, by decide +kernel⟩) (pre_V E hP hD hS hA [0] (by decide) rfl 0 6 rfl rfl) rfl rfl hl.1 rfl (lv_room (Nat.le_of_ble_eq_true rfl)) dX10_land_2 ⟨by decide +kernel, by decide +kernel⟩) hS hP hD hA [0] rfl (fun r2 _ H locs w1 hP hS => ?_)
  rcases w1 with ⟨rfl, b3⟩ | ⟨rfl, b3⟩
  · refine lv_if_eq (tgt := 23) hx hb dX10_land_5 (by decide) (fun c4 => False.elim (by revert c4; decide)) (fun _ => ?_)
    obtain ⟨j_p0, hj_p0, ej_p0⟩ := b3
    have hl : lv_has ls 2 [(0, .ref h1), (1, .int (nI j_p0))] := by have q := hl; rw [ej_p0] at q; exact q
    refine lv_aload_n hx hb dX10_land_8 rfl (lv_at hl 0 rfl) ?_
    refine lv_aload_n hx hb dX10_land_9 rfl (lv_at hl 0 rfl) ?_
    refine va_get (D := G.1) (ci := 6) (v := .int (nI la)) (C := RX10) (T := TX10) (N := 28) hx hb hts (fun _ h => List.mem_cons_of_mem _ (List.mem_append_right _ h)) hown E.K hP 0 rfl rfl 4 (by decide) (hts (.fieldLink RX10 73 "LastMapModel" "land" "I") (by decide +kernel)) (fun _ h9 => h9) rfl dX10_land_10 ?_
    refine lv_iload_n hx hb dX10_land_13 rfl (lv_at hl 1 rfl) ?_
    refine ca_iR (va_runV (As := [.int (nI la), .int (nI j_p0)]) (rest := []) ⟨hx, hb, hml, hown, hts⟩ (m_signAt l G H.size h1 (.int (nI k)) v_maps v_told v_kinds (.int (nI la)) v_spades v_pad v_padMany v_slips v_slipMany v_made v_queue v_depth v_by v_from v_come v_offOf v_parent v_best v_trees v_least v_sums v_toward v_kept v_isKept v_keptAt v_isWriting a_part fp k la j_p0 hk6 hp (by omega) (by omega)) (cwV 2 hts gX10_land_X10_signAt rfl rfl rfl (by decide +kernel) ⟨by decide +kernel, by decide +kernel⟩) (pre_V E hP hD hS hA [0, 1] (by decide) rfl 0 6 rfl rfl) rfl rfl hl.1 rfl (lv_room (Nat.le_of_ble_eq_true rfl)) dX10_land_14 ⟨by decide +kernel, by decide +kernel⟩) hS hP hD hA [0, 1] rfl (fun r6 _ H locs w5 hP hS => ?_)
    rw [w5]
    refine ca_iR (va_runS (As := [.int (nI (dg k la j_p0))]) (rest := []) ⟨hx, hb, hml, hown, hts⟩ (m_codeOf l G H.size (nI (dg k la j_p0))) (va_cwS 1 hts gX10_land_X10_codeOf rfl rfl rfl (by decide +kernel) ⟨by decide +kernel, by decide +kernel⟩) (pre_S E hP hD hS hA [] (by decide) rfl) rfl rfl hl.1 rfl (lv_room (Nat.le_of_ble_eq_true rfl)) dX10_land_17 ⟨by decide +kernel, by decide +kernel⟩) hS hP hD hA [] rfl (fun r8 _ H locs w7 hP hS => ?_)
    refine lv_goto (tgt := 24) hx hb dX10_land_20 (by decide) ?_
    have hP9 := (hP.sub (ws' := [(h1, .inr (6, [.int (nI k), v_maps, v_told, v_kinds, .int (nI la), v_spades, .ref a_part, v_pad, v_padMany, v_slips, v_slipMany, v_made, v_queue, v_depth, v_by, v_from, v_come, v_offOf, v_parent, v_best, v_trees, v_least, v_sums, v_toward, v_kept, v_isKept, v_keptAt, v_isWriting])), (a_part, .inl (gI G, 6, .inl fp))]) [0, 1] rfl)
    have hD9 := (hD.sub (ws' := [(h1, .inr (6, [.int (nI k), v_maps, v_told, v_kinds, .int (nI la), v_spades, .ref a_part, v_pad, v_padMany, v_slips, v_slipMany, v_made, v_queue, v_depth, v_by, v_from, v_come, v_offOf, v_parent, v_best, v_trees, v_least, v_sums, v_toward, v_kept, v_isKept, v_keptAt, v_isWriting])), (a_part, .inl (gI G, 6, .inl fp))]) [0, 1] (by decide) rfl)
    exact W.iret (v := r8) hx hb hr (fun t9_ ht9_ hW9_ => ⟨⟨r8, (), rfl, trivial, by rw [ht9_]; exact hP9, hD9⟩, hS.F ht9_⟩) hS.2.2 dX10_land_24
  · refine lv_if_eq (tgt := 23) hx hb dX10_land_5 (by decide) (fun _ => ?_) (fun c9 => False.elim (by revert c9; decide))
    refine lv_iconst (v := (-1)) hx hb dX10_land_23 (by decide) ?_
    have hP9 := (hP.sub (ws' := [(h1, .inr (6, [.int (nI k), v_maps, v_told, v_kinds, .int (nI la), v_spades, .ref a_part, v_pad, v_padMany, v_slips, v_slipMany, v_made, v_queue, v_depth, v_by, v_from, v_come, v_offOf, v_parent, v_best, v_trees, v_least, v_sums, v_toward, v_kept, v_isKept, v_keptAt, v_isWriting])), (a_part, .inl (gI G, 6, .inl fp))]) [0, 1] rfl)
    have hD9 := (hD.sub (ws' := [(h1, .inr (6, [.int (nI k), v_maps, v_told, v_kinds, .int (nI la), v_spades, .ref a_part, v_pad, v_padMany, v_slips, v_slipMany, v_made, v_queue, v_depth, v_by, v_from, v_come, v_offOf, v_parent, v_best, v_trees, v_least, v_sums, v_toward, v_kept, v_isKept, v_keptAt, v_isWriting])), (a_part, .inl (gI G, 6, .inl fp))]) [0, 1] (by decide) rfl)
    exact W.iret (v := (-1)) hx hb hr (fun t9_ ht9_ hW9_ => ⟨⟨(-1), (), rfl, trivial, by rw [ht9_]; exact hP9, hD9⟩, hS.F ht9_⟩) hS.2.2 dX10_land_24

set_option maxHeartbeats 1000000 in
set_option maxRecDepth 100000 in
theorem m_otherThan (l : Launch) (G : Gy) (sz : Nat) (h1 : Nat) (v_maps : Value) (v_told : Value) (v_kinds : Value) (v_land : Value) (v_spades : Value) (v_pad : Value) (v_padMany : Value) (v_slips : Value) (v_slipMany : Value) (v_made : Value) (v_queue : Value) (v_depth : Value) (v_by : Value) (v_from : Value) (v_come : Value) (v_offOf : Value) (v_parent : Value) (v_best : Value) (v_trees : Value) (v_least : Value) (v_sums : Value) (v_toward : Value) (v_kept : Value) (v_isKept : Value) (v_keptAt : Value) (v_isWriting : Value) (a_part : Nat) (fp : Nat → Int32) (k : Nat) (a : Nat) (a2 : Nat) (hk2 : 2 ≤ k) (hk6 : k ≤ 6) (hp : pOK k fp) (ha : a < 5 ^ k) (ha2 : a2 < 5 ^ k) : Ci l G yX10_otherThan wsX10_otherThan ({ frames := 1, cells := 0, slots := 0, locals := 22 }) [.ref h1, .int (nI a), .int (nI a2)] ([(h1, .inr (6, [.int (nI k), v_maps, v_told, v_kinds, v_land, v_spades, .ref a_part, v_pad, v_padMany, v_slips, v_slipMany, v_made, v_queue, v_depth, v_by, v_from, v_come, v_offOf, v_parent, v_best, v_trees, v_least, v_sums, v_toward, v_kept, v_isKept, v_keptAt, v_isWriting])), (a_part, .inl (gI G, 6, .inl fp))]) sz (fun (r : Int32) (_ : Unit) => True) (fun (_ : Unit) => [(h1, .inr (6, [.int (nI k), v_maps, v_told, v_kinds, v_land, v_spades, .ref a_part, v_pad, v_padMany, v_slips, v_slipMany, v_made, v_queue, v_depth, v_by, v_from, v_come, v_offOf, v_parent, v_best, v_trees, v_least, v_sums, v_toward, v_kept, v_isKept, v_keptAt, v_isWriting])), (a_part, .inl (gI G, 6, .inl fp))]) 0 0 := by
  refine Met.ofW (cc := cX10_otherThan) (maxL := 5) (ret := (some .int)) (by decide) rfl ?_
  intro p e s m args below meth c s₁ B hml hv
  obtain ⟨rfl, hsz, hP, hD0, E0⟩ := hv
  have hx := B.exec
  have hb := B.bytes
  have hr := B.returns
  have hts := atoms_spec (ws := wsX10_otherThan) B.pre
  have hown : s.vm.findClass RX10 = some m.cls := findClass_of_methodNamed B.named
  have hlocks := B.notSynchronized
  subst hsz
  have hD := hD0.self (sz := s.heap.size)
  generalize hAe : va_A ([(h1, .inr (6, [.int (nI k), v_maps, v_told, v_kinds, v_land, v_spades, .ref a_part, v_pad, v_padMany, v_slips, v_slipMany, v_made, v_queue, v_depth, v_by, v_from, v_come, v_offOf, v_parent, v_best, v_trees, v_least, v_sums, v_toward, v_kept, v_isKept, v_keptAt, v_isWriting])), (a_part, .inl (gI G, 6, .inl fp))]) s.heap.size = A at hD E0 ⊢
  have E : EV G A s s.heap := E0
  have hA : ∀ q : Nat, s.heap.size ≤ q → A q := fun q h => by rw [← hAe]; exact Or.inr h
  have hS : va_S A s.heap s.heap [] := va_S.rf
  have hl := lv_entry ([.ref h1, .int (nI a), .int (nI a2)]) (n := 5) (Nat.le_of_ble_eq_true rfl)
  rw [lg_entry_eq]
  generalize (lg_sl ([.ref h1, .int (nI a), .int (nI a2)]) ++ List.replicate (5 - (lg_sl ([.ref h1, .int (nI a), .int (nI a2)])).length) Slot.unset).toArray = ls at hl ⊢
  have hl : lv_has ls 5 [(0, .ref h1), (1, .int (nI a)), (2, .int (nI a2))] := hl
  have hP : va_P G.1 vwCl ([(h1, .inr (6, [.int (nI k), v_maps, v_told, v_kinds, v_land, v_spades, .ref a_part, v_pad, v_padMany, v_slips, v_slipMany, v_made, v_queue, v_depth, v_by, v_from, v_come, v_offOf, v_parent, v_best, v_trees, v_least, v_sums, v_toward, v_kept, v_isKept, v_keptAt, v_isWriting])), (a_part, .inl (gI G, 6, .inl fp))]) s.heap := hP
  have hal := p5le hk6
  refine lv_iconst (v := 0) hx hb dX10_otherThan_0 (by decide) ?_
  refine lv_istore_n (lv' := [(3, .int 0), (0, .ref h1), (1, .int (nI a)), (2, .int (nI a2))]) hx hb dX10_otherThan_1 rfl hl (by decide) rfl (fun ls hl => ?_)
  refine lv_iconst (v := 0) hx hb dX10_otherThan_2 (by decide) ?_
  refine lv_istore (lv' := [(4, .int 0), (3, .int 0), (0, .ref h1), (1, .int (nI a)), (2, .int (nI a2))]) hx hb dX10_otherThan_3 hl (by decide) rfl (fun ls hl => ?_)
  refine lp_run (x0 := (0, 0)) (fun xx_ : Nat × Int32 => match xx_ with | (x, ma_) => [(h1, .inr (6, [.int (nI k), v_maps, v_told, v_kinds, v_land, v_spades, .ref a_part, v_pad, v_padMany, v_slips, v_slipMany, v_made, v_queue, v_depth, v_by, v_from, v_come, v_offOf, v_parent, v_best, v_trees, v_least, v_sums, v_toward, v_kept, v_isKept, v_keptAt, v_isWriting])), (a_part, .inl (gI G, 6, .inl fp))]) (fun xx_ : Nat × Int32 => match xx_ with | (x, ma_) => [(4, .int (nI x)), (3, .int ma_), (0, .ref h1), (1, .int (nI a)), (2, .int (nI a2))]) (fun xx_ : Nat × Int32 => match xx_ with | (x, ma_) => (x ≤ k)) (fun xx_ : Nat × Int32 => match xx_ with | (x, ma_) => k - x) (hP.sub [0, 1] rfl) (hD.sub [0, 1] (by decide) rfl) hS (lv_sub hl [0, 1, 2, 3, 4] rfl) (by omega) ?_
  intro xx_ hI ih5 H locs ls hP hD hS hl
  obtain ⟨x, ma_⟩ := xx_
  dsimp only at hI ih5 hP hD hl
  have hx0 := hI
  have hl : lv_has ls 5 [(4, .int (nI x)), (3, .int ma_), (0, .ref h1), (1, .int (nI a)), (2, .int (nI a2))] := hl
  have hP : va_P G.1 vwCl ([(h1, .inr (6, [.int (nI k), v_maps, v_told, v_kinds, v_land, v_spades, .ref a_part, v_pad, v_padMany, v_slips, v_slipMany, v_made, v_queue, v_depth, v_by, v_from, v_come, v_offOf, v_parent, v_best, v_trees, v_least, v_sums, v_toward, v_kept, v_isKept, v_keptAt, v_isWriting])), (a_part, .inl (gI G, 6, .inl fp))]) H := hP
  have hD : va_D A ([(h1, .inr (6, [.int (nI k), v_maps, v_told, v_kinds, v_land, v_spades, .ref a_part, v_pad, v_padMany, v_slips, v_slipMany, v_made, v_queue, v_depth, v_by, v_from, v_come, v_offOf, v_parent, v_best, v_trees, v_least, v_sums, v_toward, v_kept, v_isKept, v_keptAt, v_isWriting])), (a_part, .inl (gI G, 6, .inl fp))]) := hD
  refine lv_iload hx hb dX10_otherThan_5 (lv_at hl 0 rfl) ?_
  refine lv_aload_n hx hb dX10_otherThan_7 rfl (lv_at hl 2 rfl) ?_
  refine va_get (D := G.1) (ci := 6) (v := .int (nI k)) (C := RX10) (T := TX10) (N := 28) hx hb hts (fun _ h => List.mem_cons_of_mem _ (List.mem_append_right _ h)) hown E.K hP 0 rfl rfl 0 (by decide) (hts (.fieldLink RX10 67 "LastMapModel" "sites" "I") (by decide +kernel)) (fun _ h9 => h9) rfl dX10_otherThan_8 ?_
  refine lv_icmp_ge (tgt := 45) hx hb dX10_otherThan_11 (by decide) (fun c1 => ?_) (fun c1 => ?_)
  · have c1 : k ≤ x := (nI_leI (a := k) (b := x) (by omega) (by omega)).mp c1
    refine lv_iload_n hx hb dX10_otherThan_45 rfl (lv_at hl 1 rfl) ?_
    have hP9 := (hP.sub (ws' := [(h1, .inr (6, [.int (nI k), v_maps, v_told, v_kinds, v_land, v_spades, .ref a_part, v_pad, v_padMany, v_slips, v_slipMany, v_made, v_queue, v_depth, v_by, v_from, v_come, v_offOf, v_parent, v_best, v_trees, v_least, v_sums, v_toward, v_kept, v_isKept, v_keptAt, v_isWriting])), (a_part, .inl (gI G, 6, .inl fp))]) [0, 1] rfl)
    have hD9 := (hD.sub (ws' := [(h1, .inr (6, [.int (nI k), v_maps, v_told, v_kinds, v_land, v_spades, .ref a_part, v_pad, v_padMany, v_slips, v_slipMany, v_made, v_queue, v_depth, v_by, v_from, v_come, v_offOf, v_parent, v_best, v_trees, v_least, v_sums, v_toward, v_kept, v_isKept, v_keptAt, v_isWriting])), (a_part, .inl (gI G, 6, .inl fp))]) [0, 1] (by decide) rfl)
    exact W.iret (v := ma_) hx hb hr (fun t9_ ht9_ hW9_ => ⟨⟨ma_, (), rfl, trivial, by rw [ht9_]; exact hP9, hD9⟩, hS.F ht9_⟩) hS.2.2 dX10_otherThan_46
  · have c1 : ¬ k ≤ x := fun h9_ => c1 ((nI_leI (a := k) (b := x) (by omega) (by omega)).mpr h9_)
    refine lv_iload_n hx hb dX10_otherThan_14 rfl (lv_at hl 1 rfl) ?_
    refine lv_aload_n hx hb dX10_otherThan_15 rfl (lv_at hl 2 rfl) ?_
    refine lv_iload_n hx hb dX10_otherThan_16 rfl (lv_at hl 3 rfl) ?_
    refine lv_iload hx hb dX10_otherThan_17 (lv_at hl 0 rfl) ?_
    refine ca_iR (va_runV (As := [.int (nI a), .int (nI x)]) (rest := [.int ma_]) ⟨hx, hb, hml, hown, hts⟩ (m_signAt l G H.size h1 (.int (nI k)) v_maps v_told v_kinds v_land v_spades v_pad v_padMany v_slips v_slipMany v_made v_queue v_depth v_by v_from v_come v_offOf v_parent v_best v_trees v_least v_sums v_toward v_kept v_isKept v_keptAt v_isWriting a_part fp k a x hk6 hp (by omega) (by omega)) (cwV 2 hts gX10_otherThan_X10_signAt rfl rfl rfl (by decide +kernel) ⟨by decide +kernel, by decide +kernel⟩) (pre_V E hP hD hS hA [0, 1] (by decide) rfl 0 6 rfl rfl) rfl rfl hl.1 rfl (lv_room (Nat.le_of_ble_eq_true rfl)) dX10_otherThan_19 ⟨by decide +kernel, by decide +kernel⟩) hS hP hD hA [0, 1] rfl (fun r3 _ H locs w2 hP hS => ?_)
    rw [w2]
    have hdg8 : (dg k a x) < 5 := dg_lt _ _ _
    refine lv_aload_n hx hb dX10_otherThan_22 rfl (lv_at hl 2 rfl) ?_
    refine lv_iload_n hx hb dX10_otherThan_23 rfl (lv_at hl 4 rfl) ?_
    refine lv_iload hx hb dX10_otherThan_24 (lv_at hl 0 rfl) ?_
    refine ca_iR (va_runV (As := [.int (nI a2), .int (nI x)]) (rest := [.int (nI (dg k a x)), .int ma_]) ⟨hx, hb, hml, hown, hts⟩ (m_signAt l G H.size h1 (.int (nI k)) v_maps v_told v_kinds v_land v_spades v_pad v_padMany v_slips v_slipMany v_made v_queue v_depth v_by v_from v_come v_offOf v_parent v_best v_trees v_least v_sums v_toward v_kept v_isKept v_keptAt v_isWriting a_part fp k a2 x hk6 hp (by omega) (by omega)) (cwV 2 hts gX10_otherThan_X10_signAt rfl rfl rfl (by decide +kernel) ⟨by decide +kernel, by decide +kernel⟩) (pre_V E hP hD hS hA [0, 1] (by decide) rfl 0 6 rfl rfl) rfl rfl hl.1 rfl (lv_room (Nat.le_of_ble_eq_true rfl)) dX10_otherThan_26 ⟨by decide +kernel, by decide +kernel⟩) hS hP hD hA [0, 1] rfl (fun r5 _ H locs w4 hP hS => ?_)
    rw [w4]
    have hdg9 : (dg k a2 x) < 5 := dg_lt _ _ _
    refine lv_icmp_ne (tgt := 36) hx hb dX10_otherThan_29 (by decide) (fun c6 => ?_) (fun c6 => ?_)
    · have c6 : ¬ (dg k a x) = (dg k a2 x) := fun h9_ => c6 ((nI_eq (a := (dg k a x)) (b := (dg k a2 x)) (by omega) (by omega)).mpr h9_)
      refine lv_iconst (v := 1) hx hb dX10_otherThan_36 (by decide) ?_
      refine lv_iadd hx hb dX10_otherThan_37 ?_
      refine lv_topi (fun x7 ex7 => ?_)
      refine lv_istore_n (lv' := [(3, .int x7), (4, .int (nI x)), (0, .ref h1), (1, .int (nI a)), (2, .int (nI a2))]) hx hb dX10_otherThan_38 rfl hl (by decide) rfl (fun ls hl => ?_)
      obtain ⟨x8, ex8⟩ : ∃ yy_ : Int32, yy_ = (nI x) + 1 := ⟨_, rfl⟩
      refine lv_iinc (v := x8) (lv' := [(4, .int x8), (3, .int x7), (0, .ref h1), (1, .int (nI a)), (2, .int (nI a2))]) hx hb dX10_otherThan_39 hl (k := 1) rfl (by rw [ex8]; rfl) (by decide) rfl (fun ls hl => ?_)
      obtain rfl : x8 = nI (x + 1) := by rw [ex8]; exact nI_add x 1
      refine lv_goto (tgt := 5) hx hb dX10_otherThan_42 (by decide) ?_
      refine ih5 ((x + 1), x7) ?_ (by first | omega | (dsimp only; omega)) H locs ls (hP.sub [0, 1] rfl) (hD.sub [0, 1] (by decide) rfl) hS (lv_sub hl [0, 1, 2, 3, 4] rfl)
      try dsimp only
      omega
    · have c6 : (dg k a x) = (dg k a2 x) := (nI_eq (a := (dg k a x)) (b := (dg k a2 x)) (by omega) (by omega)).mp c6
      refine lv_iconst (v := 0) hx hb dX10_otherThan_32 (by decide) ?_
      refine lv_goto (tgt := 37) hx hb dX10_otherThan_33 (by decide) ?_
      refine lv_iadd hx hb dX10_otherThan_37 ?_
      refine lv_topi (fun x9 ex9 => ?_)
      refine lv_istore_n (lv' := [(3, .int x9), (4, .int (nI x)), (0, .ref h1), (1, .int (nI a)), (2, .int (nI a2))]) hx hb dX10_otherThan_38 rfl hl (by decide) rfl (fun ls hl => ?_)
      obtain ⟨x10, ex10⟩ : ∃ yy_ : Int32, yy_ = (nI x) + 1 := ⟨_, rfl⟩
      refine lv_iinc (v := x10) (lv' := [(4, .int x10), (3, .int x9), (0, .ref h1), (1, .int (nI a)), (2, .int (nI a2))]) hx hb dX10_otherThan_39 hl (k := 1) rfl (by rw [ex10]; rfl) (by decide) rfl (fun ls hl => ?_)
      obtain rfl : x10 = nI (x + 1) := by rw [ex10]; exact nI_add x 1
      refine lv_goto (tgt := 5) hx hb dX10_otherThan_42 (by decide) ?_
      refine ih5 ((x + 1), x9) ?_ (by first | omega | (dsimp only; omega)) H locs ls (hP.sub [0, 1] rfl) (hD.sub [0, 1] (by decide) rfl) hS (lv_sub hl [0, 1, 2, 3, 4] rfl)
      try dsimp only
      omega

set_option maxHeartbeats 1000000 in
set_option maxRecDepth 100000 in
theorem m_years (l : Launch) (G : Gy) (sz : Nat) (h1 : Nat) (v_kinds : Value) (v_pad : Value) (v_padMany : Value) (v_slips : Value) (v_slipMany : Value) (v_made : Value) (v_queue : Value) (v_depth : Value) (v_by : Value) (v_from : Value) (v_come : Value) (v_offOf : Value) (v_parent : Value) (v_best : Value) (v_trees : Value) (v_least : Value) (v_sums : Value) (v_toward : Value) (v_kept : Value) (v_isKept : Value) (v_keptAt : Value) (v_isWriting : Value) (a_maps : Nat) (fm : Nat → Int32) (a_part : Nat) (fp : Nat → Int32) (k : Nat) (la : Nat) (told : Int32) (sp : Int32) (p0 : Int32) (hk2 : 2 ≤ k) (hk6 : k ≤ 6) (hp : pOK k fp) (hfm : mapsOK k fm) (hla : la < 5 ^ k) (hsp : inR sp 1 6) : Ci l G yX10_years wsX10_years ({ frames := 2, cells := 0, slots := 0, locals := 46 }) [.ref h1, .int p0] ([(h1, .inr (6, [.int (nI k), .ref a_maps, .int told, v_kinds, .int (nI la), .int sp, .ref a_part, v_pad, v_padMany, v_slips, v_slipMany, v_made, v_queue, v_depth, v_by, v_from, v_come, v_offOf, v_parent, v_best, v_trees, v_least, v_sums, v_toward, v_kept, v_isKept, v_keptAt, v_isWriting])), (a_maps, .inl (gI G, 6, .inl fm)), (a_part, .inl (gI G, 6, .inl fp))]) sz (fun (r : Int32) (_ : Unit) => True) (fun (_ : Unit) => [(h1, .inr (6, [.int (nI k), .ref a_maps, .int told, v_kinds, .int (nI la), .int sp, .ref a_part, v_pad, v_padMany, v_slips, v_slipMany, v_made, v_queue, v_depth, v_by, v_from, v_come, v_offOf, v_parent, v_best, v_trees, v_least, v_sums, v_toward, v_kept, v_isKept, v_keptAt, v_isWriting])), (a_maps, .inl (gI G, 6, .inl fm)), (a_part, .inl (gI G, 6, .inl fp))]) 0 0 := by
  refine Met.ofW (cc := cX10_years) (maxL := 2) (ret := (some .int)) (by decide) rfl ?_
  intro p e s m args below meth c s₁ B hml hv
  obtain ⟨rfl, hsz, hP, hD0, E0⟩ := hv
  have hx := B.exec
  have hb := B.bytes
  have hr := B.returns
  have hts := atoms_spec (ws := wsX10_years) B.pre
  have hown : s.vm.findClass RX10 = some m.cls := findClass_of_methodNamed B.named
  have hlocks := B.notSynchronized
  subst hsz
  have hD := hD0.self (sz := s.heap.size)
  generalize hAe : va_A ([(h1, .inr (6, [.int (nI k), .ref a_maps, .int told, v_kinds, .int (nI la), .int sp, .ref a_part, v_pad, v_padMany, v_slips, v_slipMany, v_made, v_queue, v_depth, v_by, v_from, v_come, v_offOf, v_parent, v_best, v_trees, v_least, v_sums, v_toward, v_kept, v_isKept, v_keptAt, v_isWriting])), (a_maps, .inl (gI G, 6, .inl fm)), (a_part, .inl (gI G, 6, .inl fp))]) s.heap.size = A at hD E0 ⊢
  have E : EV G A s s.heap := E0
  have hA : ∀ q : Nat, s.heap.size ≤ q → A q := fun q h => by rw [← hAe]; exact Or.inr h
  have hS : va_S A s.heap s.heap [] := va_S.rf
  have hl := lv_entry ([.ref h1, .int p0]) (n := 2) (Nat.le_of_ble_eq_true rfl)
  rw [lg_entry_eq]
  generalize (lg_sl ([.ref h1, .int p0]) ++ List.replicate (2 - (lg_sl ([.ref h1, .int p0])).length) Slot.unset).toArray = ls at hl ⊢
  have hl : lv_has ls 2 [(0, .ref h1), (1, .int p0)] := hl
  have hP : va_P G.1 vwCl ([(h1, .inr (6, [.int (nI k), .ref a_maps, .int told, v_kinds, .int (nI la), .int sp, .ref a_part, v_pad, v_padMany, v_slips, v_slipMany, v_made, v_queue, v_depth, v_by, v_from, v_come, v_offOf, v_parent, v_best, v_trees, v_least, v_sums, v_toward, v_kept, v_isKept, v_keptAt, v_isWriting])), (a_maps, .inl (gI G, 6, .inl fm)), (a_part, .inl (gI G, 6, .inl fp))]) s.heap := hP
  have hal := p5le hk6
  refine lv_iload_n hx hb dX10_years_0 rfl (lv_at hl 1 rfl) ?_
  refine ca_iR (va_runS (As := [.int p0]) (rest := []) ⟨hx, hb, hml, hown, hts⟩ (m_isMap l G s.heap.size p0) (va_cwS 1 hts gX10_years_X10_isMap rfl rfl rfl (by decide +kernel) ⟨by decide +kernel, by decide +kernel⟩) (pre_S E hP hD hS hA [] (by decide) rfl) rfl rfl hl.1 rfl (lv_room (Nat.le_of_ble_eq_true rfl)) dX10_years_1 ⟨by decide +kernel, by decide +kernel⟩) hS hP hD hA [] rfl (fun r2 _ H locs w1 hP hS => ?_)
  rcases w1 with ⟨rfl, b3⟩ | ⟨rfl, b3⟩
  · refine lv_if_ne (tgt := 9) hx hb dX10_years_4 (by decide) (fun _ => ?_) (fun c4 => False.elim (by revert c4; decide))
    obtain ⟨j_p0, hj_p0, ej_p0⟩ := inR6 b3
    have hl : lv_has ls 2 [(0, .ref h1), (1, .int (nI j_p0))] := by have q := hl; rw [ej_p0] at q; exact q
    refine lv_aload_n hx hb dX10_years_9 rfl (lv_at hl 0 rfl) ?_
    refine lv_iload_n hx hb dX10_years_10 rfl (lv_at hl 1 rfl) ?_
    refine ca_iR (va_runV (As := [.int (nI j_p0)]) (rest := []) ⟨hx, hb, hml, hown, hts⟩ (m_isTold l G H.size h1 (.int (nI k)) (.ref a_maps) v_kinds (.int (nI la)) (.int sp) (.ref a_part) v_pad v_padMany v_slips v_slipMany v_made v_queue v_depth v_by v_from v_come v_offOf v_parent v_best v_trees v_least v_sums v_toward v_kept v_isKept v_keptAt v_isWriting told (nI j_p0)) (cwV 1 hts gX10_years_X10_isTold rfl rfl rfl (by decide +kernel) ⟨by decide +kernel, by decide +kernel⟩) (pre_V E hP hD hS hA [0] (by decide) rfl 0 6 rfl rfl) rfl rfl hl.1 rfl (lv_room (Nat.le_of_ble_eq_true rfl)) dX10_years_11 ⟨by decide +kernel, by decide +kernel⟩) hS hP hD hA [0] rfl (fun r6 _ H locs w5 hP hS => ?_)
    rcases w5 with ⟨rfl, b7⟩ | ⟨rfl, b7⟩
    · refine lv_if_eq (tgt := 46) hx hb dX10_years_14 (by decide) (fun c8 => False.elim (by revert c8; decide)) (fun _ => ?_)
      refine lv_aload_n hx hb dX10_years_17 rfl (lv_at hl 0 rfl) ?_
      refine lv_aload_n hx hb dX10_years_18 rfl (lv_at hl 0 rfl) ?_
      refine va_get (D := G.1) (ci := 6) (v := .int (nI la)) (C := RX10) (T := TX10) (N := 28) hx hb hts (fun _ h => List.mem_cons_of_mem _ (List.mem_append_right _ h)) hown E.K hP 0 rfl rfl 4 (by decide) (hts (.fieldLink RX10 73 "LastMapModel" "land" "I") (by decide +kernel)) (fun _ h9 => h9) rfl dX10_years_19 ?_
      refine lv_aload_n hx hb dX10_years_22 rfl (lv_at hl 0 rfl) ?_
      refine va_get (D := G.1) (ci := 6) (v := .ref a_maps) (C := RX10) (T := TX10) (N := 28) hx hb hts (fun _ h => List.mem_cons_of_mem _ (List.mem_append_right _ h)) hown E.K hP 0 rfl rfl 1 (by decide) (hts (.fieldLink RX10 7 "LastMapModel" "maps" "[I") (by decide +kernel)) (fun _ h9 => h9) rfl dX10_years_23 ?_
      refine lv_iload_n hx hb dX10_years_26 rfl (lv_at hl 1 rfl) ?_
      refine va_iald hx hb E.K hP 1 1 rfl rfl (i := nI j_p0) (vp_in_nI (by omega) (by decide)) dX10_years_27 ?_
      refine lv_topi (fun x9 ex9 => ?_)
      obtain ⟨a_x9, ha_x9, hvx9⟩ := hfm j_p0 (by omega)
      obtain rfl : x9 = nI a_x9 := by rw [ex9, nI_clamp (by omega)]; exact hvx9
      refine ca_iR (va_runV (As := [.int (nI la), .int (nI a_x9)]) (rest := []) ⟨hx, hb, hml, hown, hts⟩ (m_otherThan l G H.size h1 (.ref a_maps) (.int told) v_kinds (.int (nI la)) (.int sp) v_pad v_padMany v_slips v_slipMany v_made v_queue v_depth v_by v_from v_come v_offOf v_parent v_best v_trees v_least v_sums v_toward v_kept v_isKept v_keptAt v_isWriting a_part fp k la a_x9 hk2 hk6 hp (by omega) (by omega)) (cwV 2 hts gX10_years_X10_otherThan rfl rfl rfl (by decide +kernel) ⟨by decide +kernel, by decide +kernel⟩) (pre_V E hP hD hS hA [0, 2] (by decide) rfl 0 6 rfl rfl) rfl rfl hl.1 rfl (lv_room (Nat.le_of_ble_eq_true rfl)) dX10_years_28 ⟨by decide +kernel, by decide +kernel⟩) hS hP hD hA [0, 2] rfl (fun r11 _ H locs w10 hP hS => ?_)
      refine lv_aload_n hx hb dX10_years_31 rfl (lv_at hl 0 rfl) ?_
      refine va_get (D := G.1) (ci := 6) (v := .int sp) (C := RX10) (T := TX10) (N := 28) hx hb hts (fun _ h => List.mem_cons_of_mem _ (List.mem_append_right _ h)) hown E.K hP 0 rfl rfl 5 (by decide) (hts (.fieldLink RX10 59 "LastMapModel" "spades" "I") (by decide +kernel)) (fun _ h9 => h9) rfl dX10_years_32 ?_
      refine lv_iadd hx hb dX10_years_35 ?_
      refine lv_topi (fun x12 ex12 => ?_)
      refine lv_iconst (v := 1) hx hb dX10_years_36 (by decide) ?_
      refine lv_isub hx hb dX10_years_37 ?_
      refine lv_topi (fun x13 ex13 => ?_)
      refine lv_aload_n hx hb dX10_years_38 rfl (lv_at hl 0 rfl) ?_
      refine va_get (D := G.1) (ci := 6) (v := .int sp) (C := RX10) (T := TX10) (N := 28) hx hb hts (fun _ h => List.mem_cons_of_mem _ (List.mem_append_right _ h)) hown E.K hP 0 rfl rfl 5 (by decide) (hts (.fieldLink RX10 59 "LastMapModel" "spades" "I") (by decide +kernel)) (fun _ h9 => h9) rfl dX10_years_39 ?_
      refine lv_idiv hx hb dX10_years_42 (fun h => absurd hsp (by rw [h]; unfold inR; decide)) ?_
      refine lv_topi (fun x14 ex14 => ?_)
      refine lv_goto (tgt := 48) hx hb dX10_years_43 (by decide) ?_
      have hP9 := (hP.sub (ws' := [(h1, .inr (6, [.int (nI k), .ref a_maps, .int told, v_kinds, .int (nI la), .int sp, .ref a_part, v_pad, v_padMany, v_slips, v_slipMany, v_made, v_queue, v_depth, v_by, v_from, v_come, v_offOf, v_parent, v_best, v_trees, v_least, v_sums, v_toward, v_kept, v_isKept, v_keptAt, v_isWriting])), (a_maps, .inl (gI G, 6, .inl fm)), (a_part, .inl (gI G, 6, .inl fp))]) [0, 1, 2] rfl)
      have hD9 := (hD.sub (ws' := [(h1, .inr (6, [.int (nI k), .ref a_maps, .int told, v_kinds, .int (nI la), .int sp, .ref a_part, v_pad, v_padMany, v_slips, v_slipMany, v_made, v_queue, v_depth, v_by, v_from, v_come, v_offOf, v_parent, v_best, v_trees, v_least, v_sums, v_toward, v_kept, v_isKept, v_keptAt, v_isWriting])), (a_maps, .inl (gI G, 6, .inl fm)), (a_part, .inl (gI G, 6, .inl fp))]) [0, 1, 2] (by decide) rfl)
      exact W.iret (v := x14) hx hb hr (fun t9_ ht9_ hW9_ => ⟨⟨x14, (), rfl, trivial, by rw [ht9_]; exact hP9, hD9⟩, hS.F ht9_⟩) hS.2.2 dX10_years_48
    · refine lv_if_eq (tgt := 46) hx hb dX10_years_14 (by decide) (fun _ => ?_) (fun c15 => False.elim (by revert c15; decide))
      refine lv_bipush (v := (-3)) hx hb dX10_years_46 (by decide) ?_
      have hP9 := (hP.sub (ws' := [(h1, .inr (6, [.int (nI k), .ref a_maps, .int told, v_kinds, .int (nI la), .int sp, .ref a_part, v_pad, v_padMany, v_slips, v_slipMany, v_made, v_queue, v_depth, v_by, v_from, v_come, v_offOf, v_parent, v_best, v_trees, v_least, v_sums, v_toward, v_kept, v_isKept, v_keptAt, v_isWriting])), (a_maps, .inl (gI G, 6, .inl fm)), (a_part, .inl (gI G, 6, .inl fp))]) [0, 1, 2] rfl)
      have hD9 := (hD.sub (ws' := [(h1, .inr (6, [.int (nI k), .ref a_maps, .int told, v_kinds, .int (nI la), .int sp, .ref a_part, v_pad, v_padMany, v_slips, v_slipMany, v_made, v_queue, v_depth, v_by, v_from, v_come, v_offOf, v_parent, v_best, v_trees, v_least, v_sums, v_toward, v_kept, v_isKept, v_keptAt, v_isWriting])), (a_maps, .inl (gI G, 6, .inl fm)), (a_part, .inl (gI G, 6, .inl fp))]) [0, 1, 2] (by decide) rfl)
      exact W.iret (v := (-3)) hx hb hr (fun t9_ ht9_ hW9_ => ⟨⟨(-3), (), rfl, trivial, by rw [ht9_]; exact hP9, hD9⟩, hS.F ht9_⟩) hS.2.2 dX10_years_48
  · refine lv_if_ne (tgt := 9) hx hb dX10_years_4 (by decide) (fun c16 => False.elim (by revert c16; decide)) (fun _ => ?_)
    refine lv_iconst (v := (-1)) hx hb dX10_years_7 (by decide) ?_
    have hP9 := (hP.sub (ws' := [(h1, .inr (6, [.int (nI k), .ref a_maps, .int told, v_kinds, .int (nI la), .int sp, .ref a_part, v_pad, v_padMany, v_slips, v_slipMany, v_made, v_queue, v_depth, v_by, v_from, v_come, v_offOf, v_parent, v_best, v_trees, v_least, v_sums, v_toward, v_kept, v_isKept, v_keptAt, v_isWriting])), (a_maps, .inl (gI G, 6, .inl fm)), (a_part, .inl (gI G, 6, .inl fp))]) [0, 1, 2] rfl)
    have hD9 := (hD.sub (ws' := [(h1, .inr (6, [.int (nI k), .ref a_maps, .int told, v_kinds, .int (nI la), .int sp, .ref a_part, v_pad, v_padMany, v_slips, v_slipMany, v_made, v_queue, v_depth, v_by, v_from, v_come, v_offOf, v_parent, v_best, v_trees, v_least, v_sums, v_toward, v_kept, v_isKept, v_keptAt, v_isWriting])), (a_maps, .inl (gI G, 6, .inl fm)), (a_part, .inl (gI G, 6, .inl fp))]) [0, 1, 2] (by decide) rfl)
    exact W.iret (v := (-1)) hx hb hr (fun t9_ ht9_ hW9_ => ⟨⟨(-1), (), rfl, trivial, by rw [ht9_]; exact hP9, hD9⟩, hS.F ht9_⟩) hS.2.2 dX10_years_8

set_option maxHeartbeats 1000000 in
set_option maxRecDepth 100000 in
theorem m_follow (l : Launch) (G : Gy) (sz : Nat) (h1 : Nat) (v_kinds : Value) (v_pad : Value) (v_padMany : Value) (v_slips : Value) (v_slipMany : Value) (v_made : Value) (v_queue : Value) (v_depth : Value) (v_by : Value) (v_from : Value) (v_come : Value) (v_offOf : Value) (v_parent : Value) (v_best : Value) (v_trees : Value) (v_least : Value) (v_sums : Value) (v_toward : Value) (v_kept : Value) (v_isKept : Value) (v_keptAt : Value) (v_isWriting : Value) (a_maps : Nat) (fm : Nat → Int32) (a_part : Nat) (fp : Nat → Int32) (k : Nat) (la : Nat) (told : Int32) (sp : Int32) (p0 : Int32) (p1 : Int32) (hk2 : 2 ≤ k) (hk6 : k ≤ 6) (hp : pOK k fp) (hfm : mapsOK k fm) (hla : la < 5 ^ k) : Ci l G yX10_follow wsX10_follow ({ frames := 2, cells := 0, slots := 0, locals := 46 }) [.ref h1, .int p0, .int p1] ([(h1, .inr (6, [.int (nI k), .ref a_maps, .int told, v_kinds, .int (nI la), .int sp, .ref a_part, v_pad, v_padMany, v_slips, v_slipMany, v_made, v_queue, v_depth, v_by, v_from, v_come, v_offOf, v_parent, v_best, v_trees, v_least, v_sums, v_toward, v_kept, v_isKept, v_keptAt, v_isWriting])), (a_maps, .inl (gI G, 6, .inl fm)), (a_part, .inl (gI G, 6, .inl fp))]) sz (fun (r : Int32) (la1 : Nat) => la1 < 5 ^ k) (fun (la1 : Nat) => [(h1, .inr (6, [.int (nI k), .ref a_maps, .int told, v_kinds, .int (nI la1), .int sp, .ref a_part, v_pad, v_padMany, v_slips, v_slipMany, v_made, v_queue, v_depth, v_by, v_from, v_come, v_offOf, v_parent, v_best, v_trees, v_least, v_sums, v_toward, v_kept, v_isKept, v_keptAt, v_isWriting])), (a_maps, .inl (gI G, 6, .inl fm)), (a_part, .inl (gI G, 6, .inl fp))]) 0 0 := by
  refine Met.ofW (cc := cX10_follow) (maxL := 6) (ret := (some .int)) (by decide) rfl ?_
  intro p e s m args below meth c s₁ B hml hv
  obtain ⟨rfl, hsz, hP, hD0, E0⟩ := hv
  have hx := B.exec
  have hb := B.bytes
  have hr := B.returns
  have hts := atoms_spec (ws := wsX10_follow) B.pre
  have hown : s.vm.findClass RX10 = some m.cls := findClass_of_methodNamed B.named
  have hlocks := B.notSynchronized
  subst hsz
  have hD := hD0.self (sz := s.heap.size)
  generalize hAe : va_A ([(h1, .inr (6, [.int (nI k), .ref a_maps, .int told, v_kinds, .int (nI la), .int sp, .ref a_part, v_pad, v_padMany, v_slips, v_slipMany, v_made, v_queue, v_depth, v_by, v_from, v_come, v_offOf, v_parent, v_best, v_trees, v_least, v_sums, v_toward, v_kept, v_isKept, v_keptAt, v_isWriting])), (a_maps, .inl (gI G, 6, .inl fm)), (a_part, .inl (gI G, 6, .inl fp))]) s.heap.size = A at hD E0 ⊢
  have E : EV G A s s.heap := E0
  have hA : ∀ q : Nat, s.heap.size ≤ q → A q := fun q h => by rw [← hAe]; exact Or.inr h
  have hS : va_S A s.heap s.heap [] := va_S.rf
  have hl := lv_entry ([.ref h1, .int p0, .int p1]) (n := 6) (Nat.le_of_ble_eq_true rfl)
  rw [lg_entry_eq]
  generalize (lg_sl ([.ref h1, .int p0, .int p1]) ++ List.replicate (6 - (lg_sl ([.ref h1, .int p0, .int p1])).length) Slot.unset).toArray = ls at hl ⊢
  have hl : lv_has ls 6 [(0, .ref h1), (1, .int p0), (2, .int p1)] := hl
  have hP : va_P G.1 vwCl ([(h1, .inr (6, [.int (nI k), .ref a_maps, .int told, v_kinds, .int (nI la), .int sp, .ref a_part, v_pad, v_padMany, v_slips, v_slipMany, v_made, v_queue, v_depth, v_by, v_from, v_come, v_offOf, v_parent, v_best, v_trees, v_least, v_sums, v_toward, v_kept, v_isKept, v_keptAt, v_isWriting])), (a_maps, .inl (gI G, 6, .inl fm)), (a_part, .inl (gI G, 6, .inl fp))]) s.heap := hP
  have hal := p5le hk6
  refine lv_iload_n hx hb dX10_follow_0 rfl (lv_at hl 1 rfl) ?_
  refine ca_iR (va_runS (As := [.int p0]) (rest := []) ⟨hx, hb, hml, hown, hts⟩ (m_isMap l G s.heap.size p0) (va_cwS 1 hts gX10_follow_X10_isMap rfl rfl rfl (by decide +kernel) ⟨by decide +kernel, by decide +kernel⟩) (pre_S E hP hD hS hA [] (by decide) rfl) rfl rfl hl.1 rfl (lv_room (Nat.le_of_ble_eq_true rfl)) dX10_follow_1 ⟨by decide +kernel, by decide +kernel⟩) hS hP hD hA [] rfl (fun r2 _ H locs w1 hP hS => ?_)
  rcases w1 with ⟨rfl, b3⟩ | ⟨rfl, b3⟩
  · refine lv_if_ne (tgt := 9) hx hb dX10_follow_4 (by decide) (fun _ => ?_) (fun c4 => False.elim (by revert c4; decide))
    obtain ⟨j_p0, hj_p0, ej_p0⟩ := inR6 b3
    have hl : lv_has ls 6 [(0, .ref h1), (1, .int (nI j_p0)), (2, .int p1)] := by have q := hl; rw [ej_p0] at q; exact q
    refine lv_iload_n hx hb dX10_follow_9 rfl (lv_at hl 2 rfl) ?_
    refine lv_i2l hx hb dX10_follow_10 rfl ?_
    refine lv_topl (fun x5 ex5 => ?_)
    refine lv_lconst (v := 0) hx hb dX10_follow_11 (by decide) ?_
    refine lv_ldc2 (v := 9) hx hb hown (hts (.constantLong RX10 183 (9)) (by decide +kernel)) dX10_follow_12 ?_
    refine ca_iR (va_runS (As := [.long x5, .long 0, .long 9]) (rest := []) ⟨hx, hb, hml, hown, hts⟩ (m_in l G H.size x5 0 9 p1 0 9 ex5 (by decide) (by decide)) (va_cwS 3 hts gX10_follow_X10_in rfl rfl rfl (by decide +kernel) ⟨by decide +kernel, by decide +kernel⟩) (pre_S E hP hD hS hA [] (by decide) rfl) rfl rfl hl.1 rfl (lv_room (Nat.le_of_ble_eq_true rfl)) dX10_follow_15 ⟨by decide +kernel, by decide +kernel⟩) hS hP hD hA [] rfl (fun r7 _ H locs w6 hP hS => ?_)
    rcases w6 with ⟨rfl, b8⟩ | ⟨rfl, b8⟩
    · refine lv_if_ne (tgt := 24) hx hb dX10_follow_18 (by decide) (fun _ => ?_) (fun c9 => False.elim (by revert c9; decide))
      refine lv_aload_n hx hb dX10_follow_24 rfl (lv_at hl 0 rfl) ?_
      refine lv_iload_n hx hb dX10_follow_25 rfl (lv_at hl 1 rfl) ?_
      refine ca_iR (va_runV (As := [.int (nI j_p0)]) (rest := []) ⟨hx, hb, hml, hown, hts⟩ (m_isTold l G H.size h1 (.int (nI k)) (.ref a_maps) v_kinds (.int (nI la)) (.int sp) (.ref a_part) v_pad v_padMany v_slips v_slipMany v_made v_queue v_depth v_by v_from v_come v_offOf v_parent v_best v_trees v_least v_sums v_toward v_kept v_isKept v_keptAt v_isWriting told (nI j_p0)) (cwV 1 hts gX10_follow_X10_isTold rfl rfl rfl (by decide +kernel) ⟨by decide +kernel, by decide +kernel⟩) (pre_V E hP hD hS hA [0] (by decide) rfl 0 6 rfl rfl) rfl rfl hl.1 rfl (lv_room (Nat.le_of_ble_eq_true rfl)) dX10_follow_26 ⟨by decide +kernel, by decide +kernel⟩) hS hP hD hA [0] rfl (fun r11 _ H locs w10 hP hS => ?_)
      rcases w10 with ⟨rfl, b12⟩ | ⟨rfl, b12⟩
      · refine lv_if_ne (tgt := 35) hx hb dX10_follow_29 (by decide) (fun _ => ?_) (fun c13 => False.elim (by revert c13; decide))
        refine lv_iload_n hx hb dX10_follow_35 rfl (lv_at hl 2 rfl) ?_
        refine lv_aload_n hx hb dX10_follow_36 rfl (lv_at hl 0 rfl) ?_
        refine va_get (D := G.1) (ci := 6) (v := .int sp) (C := RX10) (T := TX10) (N := 28) hx hb hts (fun _ h => List.mem_cons_of_mem _ (List.mem_append_right _ h)) hown E.K hP 0 rfl rfl 5 (by decide) (hts (.fieldLink RX10 59 "LastMapModel" "spades" "I") (by decide +kernel)) (fun _ h9 => h9) rfl dX10_follow_37 ?_
        refine lv_imul hx hb dX10_follow_40 ?_
        refine lv_topi (fun x14 ex14 => ?_)
        refine lv_istore_n (lv' := [(3, .int x14), (0, .ref h1), (1, .int (nI j_p0)), (2, .int p1)]) hx hb dX10_follow_41 rfl hl (by decide) rfl (fun ls hl => ?_)
        refine lv_iconst (v := 0) hx hb dX10_follow_42 (by decide) ?_
        refine lv_istore (lv' := [(4, .int 0), (3, .int x14), (0, .ref h1), (1, .int (nI j_p0)), (2, .int p1)]) hx hb dX10_follow_43 hl (by decide) rfl (fun ls hl => ?_)
        refine lp_run (x0 := (0, x14, la)) (fun xx_ : Nat × Int32 × Nat => match xx_ with | (x, lf, la1) => [(h1, .inr (6, [.int (nI k), .ref a_maps, .int told, v_kinds, .int (nI la1), .int sp, .ref a_part, v_pad, v_padMany, v_slips, v_slipMany, v_made, v_queue, v_depth, v_by, v_from, v_come, v_offOf, v_parent, v_best, v_trees, v_least, v_sums, v_toward, v_kept, v_isKept, v_keptAt, v_isWriting])), (a_maps, .inl (gI G, 6, .inl fm)), (a_part, .inl (gI G, 6, .inl fp))]) (fun xx_ : Nat × Int32 × Nat => match xx_ with | (x, lf, la1) => [(4, .int (nI x)), (3, .int lf), (0, .ref h1), (1, .int (nI j_p0)), (2, .int p1)]) (fun xx_ : Nat × Int32 × Nat => match xx_ with | (x, lf, la1) => (x ≤ k) ∧ (la1 < 5 ^ k)) (fun xx_ : Nat × Int32 × Nat => match xx_ with | (x, lf, la1) => k - x) (hP.sub [0, 1, 2] rfl) (hD.sub [0, 1, 2] (by decide) rfl) hS (lv_sub hl [0, 1, 2, 3, 4] rfl) ⟨(by omega), by omega⟩ ?_
        intro xx_ hI ih45 H locs ls hP hD hS hl
        obtain ⟨x, lf, la1⟩ := xx_
        dsimp only at hI ih45 hP hD hl
        obtain ⟨hx0, hl1⟩ := hI
        have hl : lv_has ls 6 [(4, .int (nI x)), (3, .int lf), (0, .ref h1), (1, .int (nI j_p0)), (2, .int p1)] := hl
        have hP : va_P G.1 vwCl ([(h1, .inr (6, [.int (nI k), .ref a_maps, .int told, v_kinds, .int (nI la1), .int sp, .ref a_part, v_pad, v_padMany, v_slips, v_slipMany, v_made, v_queue, v_depth, v_by, v_from, v_come, v_offOf, v_parent, v_best, v_trees, v_least, v_sums, v_toward, v_kept, v_isKept, v_keptAt, v_isWriting])), (a_maps, .inl (gI G, 6, .inl fm)), (a_part, .inl (gI G, 6, .inl fp))]) H := hP
        have hD : va_D A ([(h1, .inr (6, [.int (nI k), .ref a_maps, .int told, v_kinds, .int (nI la1), .int sp, .ref a_part, v_pad, v_padMany, v_slips, v_slipMany, v_made, v_queue, v_depth, v_by, v_from, v_come, v_offOf, v_parent, v_best, v_trees, v_least, v_sums, v_toward, v_kept, v_isKept, v_keptAt, v_isWriting])), (a_maps, .inl (gI G, 6, .inl fm)), (a_part, .inl (gI G, 6, .inl fp))]) := hD
        refine lv_iload hx hb dX10_follow_45 (lv_at hl 0 rfl) ?_
        refine lv_aload_n hx hb dX10_follow_47 rfl (lv_at hl 2 rfl) ?_
        refine va_get (D := G.1) (ci := 6) (v := .int (nI k)) (C := RX10) (T := TX10) (N := 28) hx hb hts (fun _ h => List.mem_cons_of_mem _ (List.mem_append_right _ h)) hown E.K hP 0 rfl rfl 0 (by decide) (hts (.fieldLink RX10 67 "LastMapModel" "sites" "I") (by decide +kernel)) (fun _ h9 => h9) rfl dX10_follow_48 ?_
        refine lv_icmp_ge (tgt := 112) hx hb dX10_follow_51 (by decide) (fun c15 => ?_) (fun c15 => ?_)
        · have c15 : k ≤ x := (nI_leI (a := k) (b := x) (by omega) (by omega)).mp c15
          refine lv_aload_n hx hb dX10_follow_112 rfl (lv_at hl 2 rfl) ?_
          refine lv_aload_n hx hb dX10_follow_113 rfl (lv_at hl 2 rfl) ?_
          refine va_get (D := G.1) (ci := 6) (v := .int (nI la1)) (C := RX10) (T := TX10) (N := 28) hx hb hts (fun _ h => List.mem_cons_of_mem _ (List.mem_append_right _ h)) hown E.K hP 0 rfl rfl 4 (by decide) (hts (.fieldLink RX10 73 "LastMapModel" "land" "I") (by decide +kernel)) (fun _ h9 => h9) rfl dX10_follow_114 ?_
          refine lv_aload_n hx hb dX10_follow_117 rfl (lv_at hl 2 rfl) ?_
          refine va_get (D := G.1) (ci := 6) (v := .ref a_maps) (C := RX10) (T := TX10) (N := 28) hx hb hts (fun _ h => List.mem_cons_of_mem _ (List.mem_append_right _ h)) hown E.K hP 0 rfl rfl 1 (by decide) (hts (.fieldLink RX10 7 "LastMapModel" "maps" "[I") (by decide +kernel)) (fun _ h9 => h9) rfl dX10_follow_118 ?_
          refine lv_iload_n hx hb dX10_follow_121 rfl (lv_at hl 3 rfl) ?_
          refine va_iald hx hb E.K hP 1 1 rfl rfl (i := nI j_p0) (vp_in_nI (by omega) (by decide)) dX10_follow_122 ?_
          refine lv_topi (fun x16 ex16 => ?_)
          obtain ⟨a_x16, ha_x16, hvx16⟩ := hfm j_p0 (by omega)
          obtain rfl : x16 = nI a_x16 := by rw [ex16, nI_clamp (by omega)]; exact hvx16
          refine ca_iR (va_runV (As := [.int (nI la1), .int (nI a_x16)]) (rest := []) ⟨hx, hb, hml, hown, hts⟩ (m_otherThan l G H.size h1 (.ref a_maps) (.int told) v_kinds (.int (nI la1)) (.int sp) v_pad v_padMany v_slips v_slipMany v_made v_queue v_depth v_by v_from v_come v_offOf v_parent v_best v_trees v_least v_sums v_toward v_kept v_isKept v_keptAt v_isWriting a_part fp k la1 a_x16 hk2 hk6 hp (by omega) (by omega)) (cwV 2 hts gX10_follow_X10_otherThan rfl rfl rfl (by decide +kernel) ⟨by decide +kernel, by decide +kernel⟩) (pre_V E hP hD hS hA [0, 2] (by decide) rfl 0 6 rfl rfl) rfl rfl hl.1 rfl (lv_room (Nat.le_of_ble_eq_true rfl)) dX10_follow_123 ⟨by decide +kernel, by decide +kernel⟩) hS hP hD hA [0, 2] rfl (fun r18 _ H locs w17 hP hS => ?_)
          have hP9 := (hP.sub (ws' := [(h1, .inr (6, [.int (nI k), .ref a_maps, .int told, v_kinds, .int (nI la1), .int sp, .ref a_part, v_pad, v_padMany, v_slips, v_slipMany, v_made, v_queue, v_depth, v_by, v_from, v_come, v_offOf, v_parent, v_best, v_trees, v_least, v_sums, v_toward, v_kept, v_isKept, v_keptAt, v_isWriting])), (a_maps, .inl (gI G, 6, .inl fm)), (a_part, .inl (gI G, 6, .inl fp))]) [0, 1, 2] rfl)
          have hD9 := (hD.sub (ws' := [(h1, .inr (6, [.int (nI k), .ref a_maps, .int told, v_kinds, .int (nI la1), .int sp, .ref a_part, v_pad, v_padMany, v_slips, v_slipMany, v_made, v_queue, v_depth, v_by, v_from, v_come, v_offOf, v_parent, v_best, v_trees, v_least, v_sums, v_toward, v_kept, v_isKept, v_keptAt, v_isWriting])), (a_maps, .inl (gI G, 6, .inl fm)), (a_part, .inl (gI G, 6, .inl fp))]) [0, 1, 2] (by decide) rfl)
          exact W.iret (v := r18) hx hb hr (fun t9_ ht9_ hW9_ => ⟨⟨r18, la1, rfl, by omega, by rw [ht9_]; exact hP9, hD9⟩, hS.F ht9_⟩) hS.2.2 dX10_follow_126
        · have c15 : ¬ k ≤ x := fun h9_ => c15 ((nI_leI (a := k) (b := x) (by omega) (by omega)).mpr h9_)
          refine lv_aload_n hx hb dX10_follow_54 rfl (lv_at hl 2 rfl) ?_
          refine lv_aload_n hx hb dX10_follow_55 rfl (lv_at hl 2 rfl) ?_
          refine va_get (D := G.1) (ci := 6) (v := .ref a_maps) (C := RX10) (T := TX10) (N := 28) hx hb hts (fun _ h => List.mem_cons_of_mem _ (List.mem_append_right _ h)) hown E.K hP 0 rfl rfl 1 (by decide) (hts (.fieldLink RX10 7 "LastMapModel" "maps" "[I") (by decide +kernel)) (fun _ h9 => h9) rfl dX10_follow_56 ?_
          refine lv_iload_n hx hb dX10_follow_59 rfl (lv_at hl 3 rfl) ?_
          refine va_iald hx hb E.K hP 1 1 rfl rfl (i := nI j_p0) (vp_in_nI (by omega) (by decide)) dX10_follow_60 ?_
          refine lv_topi (fun x19 ex19 => ?_)
          obtain ⟨a_x19, ha_x19, hvx19⟩ := hfm j_p0 (by omega)
          obtain rfl : x19 = nI a_x19 := by rw [ex19, nI_clamp (by omega)]; exact hvx19
          refine lv_iload hx hb dX10_follow_61 (lv_at hl 0 rfl) ?_
          refine ca_iR (va_runV (As := [.int (nI a_x19), .int (nI x)]) (rest := []) ⟨hx, hb, hml, hown, hts⟩ (m_signAt l G H.size h1 (.int (nI k)) (.ref a_maps) (.int told) v_kinds (.int (nI la1)) (.int sp) v_pad v_padMany v_slips v_slipMany v_made v_queue v_depth v_by v_from v_come v_offOf v_parent v_best v_trees v_least v_sums v_toward v_kept v_isKept v_keptAt v_isWriting a_part fp k a_x19 x hk6 hp (by omega) (by omega)) (cwV 2 hts gX10_follow_X10_signAt rfl rfl rfl (by decide +kernel) ⟨by decide +kernel, by decide +kernel⟩) (pre_V E hP hD hS hA [0, 2] (by decide) rfl 0 6 rfl rfl) rfl rfl hl.1 rfl (lv_room (Nat.le_of_ble_eq_true rfl)) dX10_follow_63 ⟨by decide +kernel, by decide +kernel⟩) hS hP hD hA [0, 2] rfl (fun r21 _ H locs w20 hP hS => ?_)
          rw [w20]
          have hdg8 : (dg k a_x19 x) < 5 := dg_lt _ _ _
          refine lv_istore (lv' := [(5, .int (nI (dg k a_x19 x))), (4, .int (nI x)), (3, .int lf), (0, .ref h1), (1, .int (nI j_p0)), (2, .int p1)]) hx hb dX10_follow_66 hl (by decide) rfl (fun ls hl => ?_)
          refine lv_iload_n hx hb dX10_follow_68 rfl (lv_at hl 2 rfl) ?_
          refine lv_if_le (tgt := 106) hx hb dX10_follow_69 (by decide) (fun c22 => ?_) (fun c22 => ?_)
          · obtain ⟨x23, ex23⟩ : ∃ yy_ : Int32, yy_ = (nI x) + 1 := ⟨_, rfl⟩
            refine lv_iinc (v := x23) (lv' := [(4, .int x23), (5, .int (nI (dg k a_x19 x))), (3, .int lf), (0, .ref h1), (1, .int (nI j_p0)), (2, .int p1)]) hx hb dX10_follow_106 hl (k := 1) rfl (by rw [ex23]; rfl) (by decide) rfl (fun ls hl => ?_)
            obtain rfl : x23 = nI (x + 1) := by rw [ex23]; exact nI_add x 1
            refine lv_goto (tgt := 45) hx hb dX10_follow_109 (by decide) ?_
            refine ih45 ((x + 1), lf, la1) ⟨?_, ?_⟩ (by first | omega | (dsimp only; omega)) H locs ls (hP.sub [0, 1, 2] rfl) (hD.sub [0, 1, 2] (by decide) rfl) hS (lv_sub hl [0, 2, 3, 4, 5] rfl)
            · try dsimp only
              omega
            · try dsimp only
              first | omega | exact wN_lt hl1 (by omega) (dg_lt _ _ _)
          · refine lv_aload_n hx hb dX10_follow_72 rfl (lv_at hl 3 rfl) ?_
            refine lv_aload_n hx hb dX10_follow_73 rfl (lv_at hl 3 rfl) ?_
            refine va_get (D := G.1) (ci := 6) (v := .int (nI la1)) (C := RX10) (T := TX10) (N := 28) hx hb hts (fun _ h => List.mem_cons_of_mem _ (List.mem_append_right _ h)) hown E.K hP 0 rfl rfl 4 (by decide) (hts (.fieldLink RX10 73 "LastMapModel" "land" "I") (by decide +kernel)) (fun _ h9 => h9) rfl dX10_follow_74 ?_
            refine lv_iload hx hb dX10_follow_77 (lv_at hl 1 rfl) ?_
            refine ca_iR (va_runV (As := [.int (nI la1), .int (nI x)]) (rest := []) ⟨hx, hb, hml, hown, hts⟩ (m_signAt l G H.size h1 (.int (nI k)) (.ref a_maps) (.int told) v_kinds (.int (nI la1)) (.int sp) v_pad v_padMany v_slips v_slipMany v_made v_queue v_depth v_by v_from v_come v_offOf v_parent v_best v_trees v_least v_sums v_toward v_kept v_isKept v_keptAt v_isWriting a_part fp k la1 x hk6 hp (by omega) (by omega)) (cwV 2 hts gX10_follow_X10_signAt rfl rfl rfl (by decide +kernel) ⟨by decide +kernel, by decide +kernel⟩) (pre_V E hP hD hS hA [0, 2] (by decide) rfl 0 6 rfl rfl) rfl rfl hl.1 rfl (lv_room (Nat.le_of_ble_eq_true rfl)) dX10_follow_79 ⟨by decide +kernel, by decide +kernel⟩) hS hP hD hA [0, 2] rfl (fun r25 _ H locs w24 hP hS => ?_)
            rw [w24]
            have hdg9 : (dg k la1 x) < 5 := dg_lt _ _ _
            refine lv_iload hx hb dX10_follow_82 (lv_at hl 0 rfl) ?_
            refine lv_icmp_eq (tgt := 106) hx hb dX10_follow_84 (by decide) (fun c26 => ?_) (fun c26 => ?_)
            · have c26 : (dg k la1 x) = (dg k a_x19 x) := (nI_eq (a := (dg k la1 x)) (b := (dg k a_x19 x)) (by omega) (by omega)).mp c26
              obtain ⟨x27, ex27⟩ : ∃ yy_ : Int32, yy_ = (nI x) + 1 := ⟨_, rfl⟩
              refine lv_iinc (v := x27) (lv' := [(4, .int x27), (5, .int (nI (dg k a_x19 x))), (3, .int lf), (0, .ref h1), (1, .int (nI j_p0)), (2, .int p1)]) hx hb dX10_follow_106 hl (k := 1) rfl (by rw [ex27]; rfl) (by decide) rfl (fun ls hl => ?_)
              obtain rfl : x27 = nI (x + 1) := by rw [ex27]; exact nI_add x 1
              refine lv_goto (tgt := 45) hx hb dX10_follow_109 (by decide) ?_
              refine ih45 ((x + 1), lf, la1) ⟨?_, ?_⟩ (by first | omega | (dsimp only; omega)) H locs ls (hP.sub [0, 1, 2] rfl) (hD.sub [0, 1, 2] (by decide) rfl) hS (lv_sub hl [0, 2, 3, 4, 5] rfl)
              · try dsimp only
                omega
              · try dsimp only
                first | omega | exact wN_lt hl1 (by omega) (dg_lt _ _ _)
            · have c26 : ¬ (dg k la1 x) = (dg k a_x19 x) := fun h9_ => c26 ((nI_eq (a := (dg k la1 x)) (b := (dg k a_x19 x)) (by omega) (by omega)).mpr h9_)
              refine lv_aload_n hx hb dX10_follow_87 rfl (lv_at hl 3 rfl) ?_
              refine lv_aload_n hx hb dX10_follow_88 rfl (lv_at hl 3 rfl) ?_
              refine lv_aload_n hx hb dX10_follow_89 rfl (lv_at hl 3 rfl) ?_
              refine va_get (D := G.1) (ci := 6) (v := .int (nI la1)) (C := RX10) (T := TX10) (N := 28) hx hb hts (fun _ h => List.mem_cons_of_mem _ (List.mem_append_right _ h)) hown E.K hP 0 rfl rfl 4 (by decide) (hts (.fieldLink RX10 73 "LastMapModel" "land" "I") (by decide +kernel)) (fun _ h9 => h9) rfl dX10_follow_90 ?_
              refine lv_iload hx hb dX10_follow_93 (lv_at hl 1 rfl) ?_
              refine lv_iload hx hb dX10_follow_95 (lv_at hl 0 rfl) ?_
              refine ca_iR (va_runV (As := [.int (nI la1), .int (nI x), .int (nI (dg k a_x19 x))]) (rest := [.ref h1]) ⟨hx, hb, hml, hown, hts⟩ (m_with l G H.size h1 (.int (nI k)) (.ref a_maps) (.int told) v_kinds (.int (nI la1)) (.int sp) v_pad v_padMany v_slips v_slipMany v_made v_queue v_depth v_by v_from v_come v_offOf v_parent v_best v_trees v_least v_sums v_toward v_kept v_isKept v_keptAt v_isWriting a_part fp k la1 x (dg k a_x19 x) hk6 hp (by omega) (by omega)) (cwV 3 hts gX10_follow_X10_with rfl rfl rfl (by decide +kernel) ⟨by decide +kernel, by decide +kernel⟩) (pre_V E hP hD hS hA [0, 2] (by decide) rfl 0 6 rfl rfl) rfl rfl hl.1 rfl (lv_room (Nat.le_of_ble_eq_true rfl)) dX10_follow_97 ⟨by decide +kernel, by decide +kernel⟩) hS hP hD hA [0, 2] rfl (fun r29 _ H locs w28 hP hS => ?_)
              rw [w28]
              refine va_put (D := G.1) (ci := 6) (v := .int (nI (wN k la1 x (dg k a_x19 x)))) (ty := .int) (C := RX10) (T := TX10) (N := 28) hx hb hts (fun _ h => List.mem_cons_of_mem _ (List.mem_append_right _ h)) tyX10 tyX10_ok nmX10 hown E.K hP hD hS 0 rfl rfl 4 (by decide) (hts (.fieldLink RX10 73 "LastMapModel" "land" "I") (by decide +kernel)) (fun _ h9 => h9) rfl (by decide +kernel) rfl rfl (Nat.le_of_ble_eq_true rfl) dX10_follow_100 (fun H locs hP hD hS => ?_)
              have hP : va_P G.1 vwCl ([(h1, .inr (6, [.int (nI k), .ref a_maps, .int told, v_kinds, .int (nI (wN k la1 x (dg k a_x19 x))), .int sp, .ref a_part, v_pad, v_padMany, v_slips, v_slipMany, v_made, v_queue, v_depth, v_by, v_from, v_come, v_offOf, v_parent, v_best, v_trees, v_least, v_sums, v_toward, v_kept, v_isKept, v_keptAt, v_isWriting])), (a_maps, .inl (gI G, 6, .inl fm)), (a_part, .inl (gI G, 6, .inl fp))]) H := hP
              have hD : va_D A ([(h1, .inr (6, [.int (nI k), .ref a_maps, .int told, v_kinds, .int (nI (wN k la1 x (dg k a_x19 x))), .int sp, .ref a_part, v_pad, v_padMany, v_slips, v_slipMany, v_made, v_queue, v_depth, v_by, v_from, v_come, v_offOf, v_parent, v_best, v_trees, v_least, v_sums, v_toward, v_kept, v_isKept, v_keptAt, v_isWriting])), (a_maps, .inl (gI G, 6, .inl fm)), (a_part, .inl (gI G, 6, .inl fp))]) := hD
              obtain ⟨x30, ex30⟩ : ∃ yy_ : Int32, yy_ = lf + (-1) := ⟨_, rfl⟩
              refine lv_iinc (v := x30) (lv' := [(3, .int x30), (5, .int (nI (dg k a_x19 x))), (4, .int (nI x)), (0, .ref h1), (1, .int (nI j_p0)), (2, .int p1)]) hx hb dX10_follow_103 hl (k := 2) rfl (by rw [ex30]; rfl) (by decide) rfl (fun ls hl => ?_)
              obtain ⟨x31, ex31⟩ : ∃ yy_ : Int32, yy_ = (nI x) + 1 := ⟨_, rfl⟩
              refine lv_iinc (v := x31) (lv' := [(4, .int x31), (3, .int x30), (5, .int (nI (dg k a_x19 x))), (0, .ref h1), (1, .int (nI j_p0)), (2, .int p1)]) hx hb dX10_follow_106 hl (k := 2) rfl (by rw [ex31]; rfl) (by decide) rfl (fun ls hl => ?_)
              obtain rfl : x31 = nI (x + 1) := by rw [ex31]; exact nI_add x 1
              refine lv_goto (tgt := 45) hx hb dX10_follow_109 (by decide) ?_
              refine ih45 ((x + 1), x30, (wN k la1 x (dg k a_x19 x))) ⟨?_, ?_⟩ (by first | omega | (dsimp only; omega)) H locs ls (hP.sub [0, 1, 2] rfl) (hD.sub [0, 1, 2] (by decide) rfl) hS (lv_sub hl [0, 1, 3, 4, 5] rfl)
              · try dsimp only
                omega
              · try dsimp only
                first | omega | exact wN_lt hl1 (by omega) (dg_lt _ _ _)
      · refine lv_if_ne (tgt := 35) hx hb dX10_follow_29 (by decide) (fun c32 => False.elim (by revert c32; decide)) (fun _ => ?_)
        refine lv_bipush (v := (-3)) hx hb dX10_follow_32 (by decide) ?_
        have hP9 := (hP.sub (ws' := [(h1, .inr (6, [.int (nI k), .ref a_maps, .int told, v_kinds, .int (nI la), .int sp, .ref a_part, v_pad, v_padMany, v_slips, v_slipMany, v_made, v_queue, v_depth, v_by, v_from, v_come, v_offOf, v_parent, v_best, v_trees, v_least, v_sums, v_toward, v_kept, v_isKept, v_keptAt, v_isWriting])), (a_maps, .inl (gI G, 6, .inl fm)), (a_part, .inl (gI G, 6, .inl fp))]) [0, 1, 2] rfl)
        have hD9 := (hD.sub (ws' := [(h1, .inr (6, [.int (nI k), .ref a_maps, .int told, v_kinds, .int (nI la), .int sp, .ref a_part, v_pad, v_padMany, v_slips, v_slipMany, v_made, v_queue, v_depth, v_by, v_from, v_come, v_offOf, v_parent, v_best, v_trees, v_least, v_sums, v_toward, v_kept, v_isKept, v_keptAt, v_isWriting])), (a_maps, .inl (gI G, 6, .inl fm)), (a_part, .inl (gI G, 6, .inl fp))]) [0, 1, 2] (by decide) rfl)
        exact W.iret (v := (-3)) hx hb hr (fun t9_ ht9_ hW9_ => ⟨⟨(-3), la, rfl, by omega, by rw [ht9_]; exact hP9, hD9⟩, hS.F ht9_⟩) hS.2.2 dX10_follow_34
    · refine lv_if_ne (tgt := 24) hx hb dX10_follow_18 (by decide) (fun c33 => False.elim (by revert c33; decide)) (fun _ => ?_)
      refine lv_bipush (v := (-2)) hx hb dX10_follow_21 (by decide) ?_
      have hP9 := (hP.sub (ws' := [(h1, .inr (6, [.int (nI k), .ref a_maps, .int told, v_kinds, .int (nI la), .int sp, .ref a_part, v_pad, v_padMany, v_slips, v_slipMany, v_made, v_queue, v_depth, v_by, v_from, v_come, v_offOf, v_parent, v_best, v_trees, v_least, v_sums, v_toward, v_kept, v_isKept, v_keptAt, v_isWriting])), (a_maps, .inl (gI G, 6, .inl fm)), (a_part, .inl (gI G, 6, .inl fp))]) [0, 1, 2] rfl)
      have hD9 := (hD.sub (ws' := [(h1, .inr (6, [.int (nI k), .ref a_maps, .int told, v_kinds, .int (nI la), .int sp, .ref a_part, v_pad, v_padMany, v_slips, v_slipMany, v_made, v_queue, v_depth, v_by, v_from, v_come, v_offOf, v_parent, v_best, v_trees, v_least, v_sums, v_toward, v_kept, v_isKept, v_keptAt, v_isWriting])), (a_maps, .inl (gI G, 6, .inl fm)), (a_part, .inl (gI G, 6, .inl fp))]) [0, 1, 2] (by decide) rfl)
      exact W.iret (v := (-2)) hx hb hr (fun t9_ ht9_ hW9_ => ⟨⟨(-2), la, rfl, by omega, by rw [ht9_]; exact hP9, hD9⟩, hS.F ht9_⟩) hS.2.2 dX10_follow_23
  · refine lv_if_ne (tgt := 9) hx hb dX10_follow_4 (by decide) (fun c34 => False.elim (by revert c34; decide)) (fun _ => ?_)
    refine lv_iconst (v := (-1)) hx hb dX10_follow_7 (by decide) ?_
    have hP9 := (hP.sub (ws' := [(h1, .inr (6, [.int (nI k), .ref a_maps, .int told, v_kinds, .int (nI la), .int sp, .ref a_part, v_pad, v_padMany, v_slips, v_slipMany, v_made, v_queue, v_depth, v_by, v_from, v_come, v_offOf, v_parent, v_best, v_trees, v_least, v_sums, v_toward, v_kept, v_isKept, v_keptAt, v_isWriting])), (a_maps, .inl (gI G, 6, .inl fm)), (a_part, .inl (gI G, 6, .inl fp))]) [0, 1, 2] rfl)
    have hD9 := (hD.sub (ws' := [(h1, .inr (6, [.int (nI k), .ref a_maps, .int told, v_kinds, .int (nI la), .int sp, .ref a_part, v_pad, v_padMany, v_slips, v_slipMany, v_made, v_queue, v_depth, v_by, v_from, v_come, v_offOf, v_parent, v_best, v_trees, v_least, v_sums, v_toward, v_kept, v_isKept, v_keptAt, v_isWriting])), (a_maps, .inl (gI G, 6, .inl fm)), (a_part, .inl (gI G, 6, .inl fp))]) [0, 1, 2] (by decide) rfl)
    exact W.iret (v := (-1)) hx hb hr (fun t9_ ht9_ hW9_ => ⟨⟨(-1), la, rfl, by omega, by rw [ht9_]; exact hP9, hD9⟩, hS.F ht9_⟩) hS.2.2 dX10_follow_8

set_option maxHeartbeats 1000000 in
set_option maxRecDepth 100000 in
theorem m_slipsFrom (l : Launch) (G : Gy) (sz : Nat) (h1 : Nat) (v_maps : Value) (v_told : Value) (v_kinds : Value) (v_land : Value) (v_spades : Value) (v_pad : Value) (v_padMany : Value) (v_slips : Value) (v_slipMany : Value) (v_queue : Value) (v_depth : Value) (v_by : Value) (v_from : Value) (v_come : Value) (v_offOf : Value) (v_parent : Value) (v_best : Value) (v_trees : Value) (v_least : Value) (v_sums : Value) (v_toward : Value) (v_kept : Value) (v_isKept : Value) (v_keptAt : Value) (v_isWriting : Value) (a_part : Nat) (fp : Nat → Int32) (k : Nat) (a : Nat) (md0 : Int32) (p1 : Int32) (p2 : Int32) (hk2 : 2 ≤ k) (hk6 : k ≤ 6) (hp : pOK k fp) (ha : a < 5 ^ k) : Ci l G yX10_slipsFrom wsX10_slipsFrom ({ frames := 3, cells := 0, slots := 0, locals := 69 }) [.ref h1, .int (nI a), .int p1, .int p2] ([(h1, .inr (6, [.int (nI k), v_maps, v_told, v_kinds, v_land, v_spades, .ref a_part, v_pad, v_padMany, v_slips, v_slipMany, .int md0, v_queue, v_depth, v_by, v_from, v_come, v_offOf, v_parent, v_best, v_trees, v_least, v_sums, v_toward, v_kept, v_isKept, v_keptAt, v_isWriting])), (a_part, .inl (gI G, 6, .inl fp))]) sz (fun (r : Int32) (md1 : Int32) => r = nI (cSl k (bK p1) a (manyS k)) ∧ ∀ q : Nat, p2 = nI q → q < cSl k (bK p1) a (manyS k) → ∃ d, d < 5 ^ k ∧ md1 = nI d) (fun (md1 : Int32) => [(h1, .inr (6, [.int (nI k), v_maps, v_told, v_kinds, v_land, v_spades, .ref a_part, v_pad, v_padMany, v_slips, v_slipMany, .int md1, v_queue, v_depth, v_by, v_from, v_come, v_offOf, v_parent, v_best, v_trees, v_least, v_sums, v_toward, v_kept, v_isKept, v_keptAt, v_isWriting])), (a_part, .inl (gI G, 6, .inl fp))]) 0 0 := by
  refine Met.ofW (cc := cX10_slipsFrom) (maxL := 8) (ret := (some .int)) (by decide) rfl ?_
  intro p e s m args below meth c s₁ B hml hv
  obtain ⟨rfl, hsz, hP, hD0, E0⟩ := hv
  have hx := B.exec
  have hb := B.bytes
  have hr := B.returns
  have hts := atoms_spec (ws := wsX10_slipsFrom) B.pre
  have hown : s.vm.findClass RX10 = some m.cls := findClass_of_methodNamed B.named
  have hlocks := B.notSynchronized
  subst hsz
  have hD := hD0.self (sz := s.heap.size)
  generalize hAe : va_A ([(h1, .inr (6, [.int (nI k), v_maps, v_told, v_kinds, v_land, v_spades, .ref a_part, v_pad, v_padMany, v_slips, v_slipMany, .int md0, v_queue, v_depth, v_by, v_from, v_come, v_offOf, v_parent, v_best, v_trees, v_least, v_sums, v_toward, v_kept, v_isKept, v_keptAt, v_isWriting])), (a_part, .inl (gI G, 6, .inl fp))]) s.heap.size = A at hD E0 ⊢
  have E : EV G A s s.heap := E0
  have hA : ∀ q : Nat, s.heap.size ≤ q → A q := fun q h => by rw [← hAe]; exact Or.inr h
  have hS : va_S A s.heap s.heap [] := va_S.rf
  have hl := lv_entry ([.ref h1, .int (nI a), .int p1, .int p2]) (n := 8) (Nat.le_of_ble_eq_true rfl)
  rw [lg_entry_eq]
  generalize (lg_sl ([.ref h1, .int (nI a), .int p1, .int p2]) ++ List.replicate (8 - (lg_sl ([.ref h1, .int (nI a), .int p1, .int p2])).length) Slot.unset).toArray = ls at hl ⊢
  have hl : lv_has ls 8 [(0, .ref h1), (1, .int (nI a)), (2, .int p1), (3, .int p2)] := hl
  have hP : va_P G.1 vwCl ([(h1, .inr (6, [.int (nI k), v_maps, v_told, v_kinds, v_land, v_spades, .ref a_part, v_pad, v_padMany, v_slips, v_slipMany, .int md0, v_queue, v_depth, v_by, v_from, v_come, v_offOf, v_parent, v_best, v_trees, v_least, v_sums, v_toward, v_kept, v_isKept, v_keptAt, v_isWriting])), (a_part, .inl (gI G, 6, .inl fp))]) s.heap := hP
  have hal := p5le hk6
  have hmk := many40 hk6
  refine lv_iconst (v := 0) hx hb dX10_slipsFrom_0 (by decide) ?_
  refine lv_istore (lv' := [(4, .int 0), (0, .ref h1), (1, .int (nI a)), (2, .int p1), (3, .int p2)]) hx hb dX10_slipsFrom_1 hl (by decide) rfl (fun ls hl => ?_)
  refine lv_aload_n hx hb dX10_slipsFrom_3 rfl (lv_at hl 1 rfl) ?_
  refine ca_iR (va_runV (As := []) (rest := []) ⟨hx, hb, hml, hown, hts⟩ (m_slipsThere l G s.heap.size h1 v_maps v_told v_kinds v_land v_spades (.ref a_part) v_pad v_padMany v_slips v_slipMany (.int md0) v_queue v_depth v_by v_from v_come v_offOf v_parent v_best v_trees v_least v_sums v_toward v_kept v_isKept v_keptAt v_isWriting k hk2 hk6) (cwV 0 hts gX10_slipsFrom_X10_slipsThere rfl rfl rfl (by decide +kernel) ⟨by decide +kernel, by decide +kernel⟩) (pre_V E hP hD hS hA [0] (by decide) rfl 0 6 rfl rfl) rfl rfl hl.1 rfl (lv_room (Nat.le_of_ble_eq_true rfl)) dX10_slipsFrom_4 ⟨by decide +kernel, by decide +kernel⟩) hS hP hD hA [0] rfl (fun r2 _ H locs w1 hP hS => ?_)
  rw [w1]
  refine lv_istore (lv' := [(5, .int (nI (manyS k))), (4, .int 0), (0, .ref h1), (1, .int (nI a)), (2, .int p1), (3, .int p2)]) hx hb dX10_slipsFrom_7 hl (by decide) rfl (fun ls hl => ?_)
  refine lv_iconst (v := 0) hx hb dX10_slipsFrom_9 (by decide) ?_
  refine lv_istore (lv' := [(6, .int 0), (5, .int (nI (manyS k))), (4, .int 0), (0, .ref h1), (1, .int (nI a)), (2, .int p1), (3, .int p2)]) hx hb dX10_slipsFrom_10 hl (by decide) rfl (fun ls hl => ?_)
  refine lp_run (x0 := (0, 0, md0)) (fun xx_ : Nat × Nat × Int32 => match xx_ with | (z, ma, md) => [(h1, .inr (6, [.int (nI k), v_maps, v_told, v_kinds, v_land, v_spades, .ref a_part, v_pad, v_padMany, v_slips, v_slipMany, .int md, v_queue, v_depth, v_by, v_from, v_come, v_offOf, v_parent, v_best, v_trees, v_least, v_sums, v_toward, v_kept, v_isKept, v_keptAt, v_isWriting])), (a_part, .inl (gI G, 6, .inl fp))]) (fun xx_ : Nat × Nat × Int32 => match xx_ with | (z, ma, md) => [(6, .int (nI z)), (5, .int (nI (manyS k))), (4, .int (nI ma)), (0, .ref h1), (1, .int (nI a)), (2, .int p1), (3, .int p2)]) (fun xx_ : Nat × Nat × Int32 => match xx_ with | (z, ma, md) => (z ≤ manyS k) ∧ (ma = cSl k (bK p1) a z) ∧ (∀ q : Nat, p2 = nI q → q < ma → ∃ d, d < 5 ^ k ∧ md = nI d)) (fun xx_ : Nat × Nat × Int32 => match xx_ with | (z, ma, md) => (manyS k) - z) (hP.sub [0, 1] rfl) (hD.sub [0, 1] (by decide) rfl) hS (lv_sub hl [0, 1, 2, 3, 4, 5, 6] rfl) ⟨(by omega), rfl, by intro q9 e9 h9; omega⟩ ?_
  intro xx_ hI ih12 H locs ls hP hD hS hl
  obtain ⟨z, ma, md⟩ := xx_
  dsimp only at hI ih12 hP hD hl
  obtain ⟨hz0, hma, hmd⟩ := hI
  have hl : lv_has ls 8 [(6, .int (nI z)), (5, .int (nI (manyS k))), (4, .int (nI ma)), (0, .ref h1), (1, .int (nI a)), (2, .int p1), (3, .int p2)] := hl
  have hP : va_P G.1 vwCl ([(h1, .inr (6, [.int (nI k), v_maps, v_told, v_kinds, v_land, v_spades, .ref a_part, v_pad, v_padMany, v_slips, v_slipMany, .int md, v_queue, v_depth, v_by, v_from, v_come, v_offOf, v_parent, v_best, v_trees, v_least, v_sums, v_toward, v_kept, v_isKept, v_keptAt, v_isWriting])), (a_part, .inl (gI G, 6, .inl fp))]) H := hP
  have hD : va_D A ([(h1, .inr (6, [.int (nI k), v_maps, v_told, v_kinds, v_land, v_spades, .ref a_part, v_pad, v_padMany, v_slips, v_slipMany, .int md, v_queue, v_depth, v_by, v_from, v_come, v_offOf, v_parent, v_best, v_trees, v_least, v_sums, v_toward, v_kept, v_isKept, v_keptAt, v_isWriting])), (a_part, .inl (gI G, 6, .inl fp))]) := hD
  refine lv_iload hx hb dX10_slipsFrom_12 (lv_at hl 0 rfl) ?_
  refine lv_iload hx hb dX10_slipsFrom_14 (lv_at hl 1 rfl) ?_
  refine lv_icmp_ge (tgt := 80) hx hb dX10_slipsFrom_16 (by decide) (fun c3 => ?_) (fun c3 => ?_)
  · have c3 : (manyS k) ≤ z := (nI_leI (a := (manyS k)) (b := z) (by omega) (by omega)).mp c3
    refine lv_iload hx hb dX10_slipsFrom_80 (lv_at hl 2 rfl) ?_
    have hP9 := (hP.sub (ws' := [(h1, .inr (6, [.int (nI k), v_maps, v_told, v_kinds, v_land, v_spades, .ref a_part, v_pad, v_padMany, v_slips, v_slipMany, .int md, v_queue, v_depth, v_by, v_from, v_come, v_offOf, v_parent, v_best, v_trees, v_least, v_sums, v_toward, v_kept, v_isKept, v_keptAt, v_isWriting])), (a_part, .inl (gI G, 6, .inl fp))]) [0, 1] rfl)
    have hD9 := (hD.sub (ws' := [(h1, .inr (6, [.int (nI k), v_maps, v_told, v_kinds, v_land, v_spades, .ref a_part, v_pad, v_padMany, v_slips, v_slipMany, .int md, v_queue, v_depth, v_by, v_from, v_come, v_offOf, v_parent, v_best, v_trees, v_least, v_sums, v_toward, v_kept, v_isKept, v_keptAt, v_isWriting])), (a_part, .inl (gI G, 6, .inl fp))]) [0, 1] (by decide) rfl)
    exact W.iret (v := (nI ma)) hx hb hr (fun t9_ ht9_ hW9_ => ⟨⟨nI ma, md, rfl, ⟨by rw [hma, show z = manyS k by omega], fun q9 e9 h9 => hmd q9 e9 (by rw [hma, show z = manyS k by omega]; exact h9)⟩, by rw [ht9_]; exact hP9, hD9⟩, hS.F ht9_⟩) hS.2.2 dX10_slipsFrom_82
  · have c3 : ¬ (manyS k) ≤ z := fun h9_ => c3 ((nI_leI (a := (manyS k)) (b := z) (by omega) (by omega)).mpr h9_)
    have hz9 : z < manyS k := by omega
    have hv9 := mvAt_ok hz9
    have hs9 := slv_facts hk6 hz9
    have hT9 := slN_lt ha hv9
    have hc9 := cSl_le k (bK p1) a z
    refine lv_aload_n hx hb dX10_slipsFrom_19 rfl (lv_at hl 3 rfl) ?_
    refine lv_iload hx hb dX10_slipsFrom_20 (lv_at hl 0 rfl) ?_
    refine ca_iR (va_runV (As := [.int (nI z)]) (rest := []) ⟨hx, hb, hml, hown, hts⟩ (m_slipAt l G H.size h1 v_maps v_told v_kinds v_land v_spades (.ref a_part) v_pad v_padMany v_slips v_slipMany (.int md) v_queue v_depth v_by v_from v_come v_offOf v_parent v_best v_trees v_least v_sums v_toward v_kept v_isKept v_keptAt v_isWriting k z hk2 hk6 (by omega)) (cwV 1 hts gX10_slipsFrom_X10_slipAt rfl rfl rfl (by decide +kernel) ⟨by decide +kernel, by decide +kernel⟩) (pre_V E hP hD hS hA [0] (by decide) rfl 0 6 rfl rfl) rfl rfl hl.1 rfl (lv_room (Nat.le_of_ble_eq_true rfl)) dX10_slipsFrom_22 ⟨by decide +kernel, by decide +kernel⟩) hS hP hD hA [0] rfl (fun r5 _ H locs w4 hP hS => ?_)
    rw [w4]
    refine lv_istore (lv' := [(7, .int (nI (slv k z))), (6, .int (nI z)), (5, .int (nI (manyS k))), (4, .int (nI ma)), (0, .ref h1), (1, .int (nI a)), (2, .int p1), (3, .int p2)]) hx hb dX10_slipsFrom_25 hl (by decide) rfl (fun ls hl => ?_)
    refine lv_iload_n hx hb dX10_slipsFrom_27 rfl (lv_at hl 6 rfl) ?_
    refine lv_iload hx hb dX10_slipsFrom_28 (lv_at hl 0 rfl) ?_
    refine ca_iR (va_runS (As := [.int p1, .int (nI (slv k z))]) (rest := []) ⟨hx, hb, hml, hown, hts⟩ (m_makes l G H.size p1 (slv k z) ((mvAt k z).1) (by omega) hs9.2) (va_cwS 2 hts gX10_slipsFrom_X10_makes rfl rfl rfl (by decide +kernel) ⟨by decide +kernel, by decide +kernel⟩) (pre_S E hP hD hS hA [] (by decide) rfl) rfl rfl hl.1 rfl (lv_room (Nat.le_of_ble_eq_true rfl)) dX10_slipsFrom_30 ⟨by decide +kernel, by decide +kernel⟩) hS hP hD hA [] rfl (fun r7 _ H locs w6 hP hS => ?_)
    rcases w6 with ⟨rfl, b8⟩ | ⟨rfl, b8⟩
    · refine lv_if_eq (tgt := 74) hx hb dX10_slipsFrom_33 (by decide) (fun c9 => False.elim (by revert c9; decide)) (fun _ => ?_)
      refine lv_aload_n hx hb dX10_slipsFrom_36 rfl (lv_at hl 4 rfl) ?_
      refine lv_iload_n hx hb dX10_slipsFrom_37 rfl (lv_at hl 5 rfl) ?_
      refine lv_iload hx hb dX10_slipsFrom_38 (lv_at hl 0 rfl) ?_
      refine ca_iR (va_runV (As := [.int (nI a), .int (nI (slv k z))]) (rest := []) ⟨hx, hb, hml, hown, hts⟩ (m_slipped l G H.size h1 (.int (nI k)) v_maps v_told v_kinds v_land v_spades v_pad v_padMany v_slips v_slipMany (.int md) v_queue v_depth v_by v_from v_come v_offOf v_parent v_best v_trees v_least v_sums v_toward v_kept v_isKept v_keptAt v_isWriting a_part fp k a (slv k z) ((mvAt k z).1) ((mvAt k z).2.1) ((mvAt k z).2.2) hk6 hp (by omega) rfl hv9) (cwV 2 hts gX10_slipsFrom_X10_slipped rfl rfl rfl (by decide +kernel) ⟨by decide +kernel, by decide +kernel⟩) (pre_V E hP hD hS hA [0, 1] (by decide) rfl 0 6 rfl rfl) rfl rfl hl.1 rfl (lv_room (Nat.le_of_ble_eq_true rfl)) dX10_slipsFrom_40 ⟨by decide +kernel, by decide +kernel⟩) hS hP hD hA [0, 1] rfl (fun r11 _ H locs w10 hP hS => ?_)
      rw [w10]
      refine lv_iload_n hx hb dX10_slipsFrom_43 rfl (lv_at hl 5 rfl) ?_
      refine lv_icmp_eq (tgt := 74) hx hb dX10_slipsFrom_44 (by decide) (fun c12 => ?_) (fun c12 => ?_)
      · have c12 : (slN k a (((mvAt k z).1), ((mvAt k z).2.1), ((mvAt k z).2.2))) = a := (nI_eq (a := (slN k a (((mvAt k z).1), ((mvAt k z).2.1), ((mvAt k z).2.2)))) (b := a) (by omega) (by omega)).mp c12
        obtain ⟨x13, ex13⟩ : ∃ yy_ : Int32, yy_ = (nI z) + 1 := ⟨_, rfl⟩
        refine lv_iinc (v := x13) (lv' := [(6, .int x13), (7, .int (nI (slv k z))), (5, .int (nI (manyS k))), (4, .int (nI ma)), (0, .ref h1), (1, .int (nI a)), (2, .int p1), (3, .int p2)]) hx hb dX10_slipsFrom_74 hl (k := 1) rfl (by rw [ex13]; rfl) (by decide) rfl (fun ls hl => ?_)
        obtain rfl : x13 = nI (z + 1) := by rw [ex13]; exact nI_add z 1
        refine lv_goto (tgt := 12) hx hb dX10_slipsFrom_77 (by decide) ?_
        refine ih12 ((z + 1), ma, md) ⟨?_, ?_, ?_⟩ (by first | omega | (dsimp only; omega)) H locs ls (hP.sub [0, 1] rfl) (hD.sub [0, 1] (by decide) rfl) hS (lv_sub hl [0, 2, 3, 4, 5, 6, 7] rfl)
        · try dsimp only
          omega
        · try dsimp only
          rw [cSl_f (fun q9 => q9.2 c12)]; exact hma
        · try dsimp only
          exact hmd
      · have c12 : ¬ (slN k a (((mvAt k z).1), ((mvAt k z).2.1), ((mvAt k z).2.2))) = a := fun h9_ => c12 ((nI_eq (a := (slN k a (((mvAt k z).1), ((mvAt k z).2.1), ((mvAt k z).2.2)))) (b := a) (by omega) (by omega)).mpr h9_)
        refine lv_aload_n hx hb dX10_slipsFrom_47 rfl (lv_at hl 4 rfl) ?_
        refine lv_iload hx hb dX10_slipsFrom_48 (lv_at hl 3 rfl) ?_
        refine lv_iload_n hx hb dX10_slipsFrom_50 rfl (lv_at hl 7 rfl) ?_
        refine lv_icmp_ne (tgt := 64) hx hb dX10_slipsFrom_51 (by decide) (fun c14 => ?_) (fun c14 => ?_)
        · refine lv_aload_n hx hb dX10_slipsFrom_64 rfl (lv_at hl 4 rfl) ?_
          refine va_get (D := G.1) (ci := 6) (v := .int md) (C := RX10) (T := TX10) (N := 28) hx hb hts (fun _ h => List.mem_cons_of_mem _ (List.mem_append_right _ h)) hown E.K hP 0 rfl rfl 11 (by decide) (hts (.fieldLink RX10 149 "LastMapModel" "made" "I") (by decide +kernel)) (fun _ h9 => h9) rfl dX10_slipsFrom_65 ?_
          refine va_put (D := G.1) (ci := 6) (v := .int md) (ty := .int) (C := RX10) (T := TX10) (N := 28) hx hb hts (fun _ h => List.mem_cons_of_mem _ (List.mem_append_right _ h)) tyX10 tyX10_ok nmX10 hown E.K hP hD hS 0 rfl rfl 11 (by decide) (hts (.fieldLink RX10 149 "LastMapModel" "made" "I") (by decide +kernel)) (fun _ h9 => h9) rfl (by decide +kernel) rfl rfl (Nat.le_of_ble_eq_true rfl) dX10_slipsFrom_68 (fun H locs hP hD hS => ?_)
          have hP : va_P G.1 vwCl ([(h1, .inr (6, [.int (nI k), v_maps, v_told, v_kinds, v_land, v_spades, .ref a_part, v_pad, v_padMany, v_slips, v_slipMany, .int md, v_queue, v_depth, v_by, v_from, v_come, v_offOf, v_parent, v_best, v_trees, v_least, v_sums, v_toward, v_kept, v_isKept, v_keptAt, v_isWriting])), (a_part, .inl (gI G, 6, .inl fp))]) H := hP
          have hD : va_D A ([(h1, .inr (6, [.int (nI k), v_maps, v_told, v_kinds, v_land, v_spades, .ref a_part, v_pad, v_padMany, v_slips, v_slipMany, .int md, v_queue, v_depth, v_by, v_from, v_come, v_offOf, v_parent, v_best, v_trees, v_least, v_sums, v_toward, v_kept, v_isKept, v_keptAt, v_isWriting])), (a_part, .inl (gI G, 6, .inl fp))]) := hD
          obtain ⟨x15, ex15⟩ : ∃ yy_ : Int32, yy_ = (nI ma) + 1 := ⟨_, rfl⟩
          refine lv_iinc (v := x15) (lv' := [(4, .int x15), (7, .int (nI (slv k z))), (6, .int (nI z)), (5, .int (nI (manyS k))), (0, .ref h1), (1, .int (nI a)), (2, .int p1), (3, .int p2)]) hx hb dX10_slipsFrom_71 hl (k := 3) rfl (by rw [ex15]; rfl) (by decide) rfl (fun ls hl => ?_)
          obtain rfl : x15 = nI (ma + 1) := by rw [ex15]; exact nI_add ma 1
          obtain ⟨x16, ex16⟩ : ∃ yy_ : Int32, yy_ = (nI z) + 1 := ⟨_, rfl⟩
          refine lv_iinc (v := x16) (lv' := [(6, .int x16), (4, .int (nI (ma + 1))), (7, .int (nI (slv k z))), (5, .int (nI (manyS k))), (0, .ref h1), (1, .int (nI a)), (2, .int p1), (3, .int p2)]) hx hb dX10_slipsFrom_74 hl (k := 2) rfl (by rw [ex16]; rfl) (by decide) rfl (fun ls hl => ?_)
          obtain rfl : x16 = nI (z + 1) := by rw [ex16]; exact nI_add z 1
          refine lv_goto (tgt := 12) hx hb dX10_slipsFrom_77 (by decide) ?_
          refine ih12 ((z + 1), (ma + 1), md) ⟨?_, ?_, ?_⟩ (by first | omega | (dsimp only; omega)) H locs ls (hP.sub [0, 1] rfl) (hD.sub [0, 1] (by decide) rfl) hS (lv_sub hl [0, 3, 1, 4, 5, 6, 7] rfl)
          · try dsimp only
            omega
          · try dsimp only
            rw [cSl_t b8 c12]; omega
          · try dsimp only
            intro q9 e9 h9
            have e8 : ¬ ma = q9 := fun e7 => c14 (by rw [e9, e7])
            exact hmd q9 e9 (by omega)
        · refine lv_aload_n hx hb dX10_slipsFrom_54 rfl (lv_at hl 4 rfl) ?_
          refine lv_iload_n hx hb dX10_slipsFrom_55 rfl (lv_at hl 5 rfl) ?_
          refine lv_iload hx hb dX10_slipsFrom_56 (lv_at hl 0 rfl) ?_
          refine ca_iR (va_runV (As := [.int (nI a), .int (nI (slv k z))]) (rest := [.ref h1]) ⟨hx, hb, hml, hown, hts⟩ (m_slipped l G H.size h1 (.int (nI k)) v_maps v_told v_kinds v_land v_spades v_pad v_padMany v_slips v_slipMany (.int md) v_queue v_depth v_by v_from v_come v_offOf v_parent v_best v_trees v_least v_sums v_toward v_kept v_isKept v_keptAt v_isWriting a_part fp k a (slv k z) ((mvAt k z).1) ((mvAt k z).2.1) ((mvAt k z).2.2) hk6 hp (by omega) rfl hv9) (cwV 2 hts gX10_slipsFrom_X10_slipped rfl rfl rfl (by decide +kernel) ⟨by decide +kernel, by decide +kernel⟩) (pre_V E hP hD hS hA [0, 1] (by decide) rfl 0 6 rfl rfl) rfl rfl hl.1 rfl (lv_room (Nat.le_of_ble_eq_true rfl)) dX10_slipsFrom_58 ⟨by decide +kernel, by decide +kernel⟩) hS hP hD hA [0, 1] rfl (fun r18 _ H locs w17 hP hS => ?_)
          rw [w17]
          refine lv_goto (tgt := 68) hx hb dX10_slipsFrom_61 (by decide) ?_
          refine va_put (D := G.1) (ci := 6) (v := .int (nI (slN k a (((mvAt k z).1), ((mvAt k z).2.1), ((mvAt k z).2.2))))) (ty := .int) (C := RX10) (T := TX10) (N := 28) hx hb hts (fun _ h => List.mem_cons_of_mem _ (List.mem_append_right _ h)) tyX10 tyX10_ok nmX10 hown E.K hP hD hS 0 rfl rfl 11 (by decide) (hts (.fieldLink RX10 149 "LastMapModel" "made" "I") (by decide +kernel)) (fun _ h9 => h9) rfl (by decide +kernel) rfl rfl (Nat.le_of_ble_eq_true rfl) dX10_slipsFrom_68 (fun H locs hP hD hS => ?_)
          have hP : va_P G.1 vwCl ([(h1, .inr (6, [.int (nI k), v_maps, v_told, v_kinds, v_land, v_spades, .ref a_part, v_pad, v_padMany, v_slips, v_slipMany, .int (nI (slN k a (((mvAt k z).1), ((mvAt k z).2.1), ((mvAt k z).2.2)))), v_queue, v_depth, v_by, v_from, v_come, v_offOf, v_parent, v_best, v_trees, v_least, v_sums, v_toward, v_kept, v_isKept, v_keptAt, v_isWriting])), (a_part, .inl (gI G, 6, .inl fp))]) H := hP
          have hD : va_D A ([(h1, .inr (6, [.int (nI k), v_maps, v_told, v_kinds, v_land, v_spades, .ref a_part, v_pad, v_padMany, v_slips, v_slipMany, .int (nI (slN k a (((mvAt k z).1), ((mvAt k z).2.1), ((mvAt k z).2.2)))), v_queue, v_depth, v_by, v_from, v_come, v_offOf, v_parent, v_best, v_trees, v_least, v_sums, v_toward, v_kept, v_isKept, v_keptAt, v_isWriting])), (a_part, .inl (gI G, 6, .inl fp))]) := hD
          obtain ⟨x19, ex19⟩ : ∃ yy_ : Int32, yy_ = (nI ma) + 1 := ⟨_, rfl⟩
          refine lv_iinc (v := x19) (lv' := [(4, .int x19), (7, .int (nI (slv k z))), (6, .int (nI z)), (5, .int (nI (manyS k))), (0, .ref h1), (1, .int (nI a)), (2, .int p1), (3, .int p2)]) hx hb dX10_slipsFrom_71 hl (k := 3) rfl (by rw [ex19]; rfl) (by decide) rfl (fun ls hl => ?_)
          obtain rfl : x19 = nI (ma + 1) := by rw [ex19]; exact nI_add ma 1
          obtain ⟨x20, ex20⟩ : ∃ yy_ : Int32, yy_ = (nI z) + 1 := ⟨_, rfl⟩
          refine lv_iinc (v := x20) (lv' := [(6, .int x20), (4, .int (nI (ma + 1))), (7, .int (nI (slv k z))), (5, .int (nI (manyS k))), (0, .ref h1), (1, .int (nI a)), (2, .int p1), (3, .int p2)]) hx hb dX10_slipsFrom_74 hl (k := 2) rfl (by rw [ex20]; rfl) (by decide) rfl (fun ls hl => ?_)
          obtain rfl : x20 = nI (z + 1) := by rw [ex20]; exact nI_add z 1
          refine lv_goto (tgt := 12) hx hb dX10_slipsFrom_77 (by decide) ?_
          refine ih12 ((z + 1), (ma + 1), nI (slN k a (((mvAt k z).1), ((mvAt k z).2.1), ((mvAt k z).2.2)))) ⟨?_, ?_, ?_⟩ (by first | omega | (dsimp only; omega)) H locs ls (hP.sub [0, 1] rfl) (hD.sub [0, 1] (by decide) rfl) hS (lv_sub hl [0, 3, 1, 4, 5, 6, 7] rfl)
          · try dsimp only
            omega
          · try dsimp only
            rw [cSl_t b8 c12]; omega
          · try dsimp only
            intro q9 e9 h9; exact ⟨_, hT9, rfl⟩
    · refine lv_if_eq (tgt := 74) hx hb dX10_slipsFrom_33 (by decide) (fun _ => ?_) (fun c21 => False.elim (by revert c21; decide))
      obtain ⟨x22, ex22⟩ : ∃ yy_ : Int32, yy_ = (nI z) + 1 := ⟨_, rfl⟩
      refine lv_iinc (v := x22) (lv' := [(6, .int x22), (7, .int (nI (slv k z))), (5, .int (nI (manyS k))), (4, .int (nI ma)), (0, .ref h1), (1, .int (nI a)), (2, .int p1), (3, .int p2)]) hx hb dX10_slipsFrom_74 hl (k := 1) rfl (by rw [ex22]; rfl) (by decide) rfl (fun ls hl => ?_)
      obtain rfl : x22 = nI (z + 1) := by rw [ex22]; exact nI_add z 1
      refine lv_goto (tgt := 12) hx hb dX10_slipsFrom_77 (by decide) ?_
      refine ih12 ((z + 1), ma, md) ⟨?_, ?_, ?_⟩ (by first | omega | (dsimp only; omega)) H locs ls (hP.sub [0, 1] rfl) (hD.sub [0, 1] (by decide) rfl) hS (lv_sub hl [0, 2, 3, 4, 5, 6, 7] rfl)
      · try dsimp only
        omega
      · try dsimp only
        rw [cSl_f (fun q9 => b8 q9.1)]; exact hma
      · try dsimp only
        exact hmd

set_option maxHeartbeats 1000000 in
set_option maxRecDepth 100000 in
theorem m_drawn (l : Launch) (G : Gy) (sz : Nat) (h1 : Nat) (v_land : Value) (v_spades : Value) (v_pad : Value) (v_padMany : Value) (v_slips : Value) (v_slipMany : Value) (v_queue : Value) (v_depth : Value) (v_by : Value) (v_from : Value) (v_come : Value) (v_offOf : Value) (v_parent : Value) (v_best : Value) (v_trees : Value) (v_least : Value) (v_sums : Value) (v_toward : Value) (v_kept : Value) (v_isKept : Value) (v_keptAt : Value) (v_isWriting : Value) (a_maps : Nat) (fm : Nat → Int32) (a_kinds : Nat) (fk : Nat → Int32) (a_part : Nat) (fp : Nat → Int32) (k : Nat) (told : Int32) (md0 : Int32) (p0 : Int32) (p1 : Int32) (p2 : Int32) (p3 : Int32) (p4 : Int32) (hk2 : 2 ≤ k) (hk6 : k ≤ 6) (hp : pOK k fp) (hfm : mapsOK k fm) : Ci l G yX10_drawn wsX10_drawn ({ frames := 4, cells := 0, slots := 0, locals := 96 }) [.ref h1, .int p0, .int p1, .int p2, .int p3, .int p4] ([(h1, .inr (6, [.int (nI k), .ref a_maps, .int told, .ref a_kinds, v_land, v_spades, .ref a_part, v_pad, v_padMany, v_slips, v_slipMany, .int md0, v_queue, v_depth, v_by, v_from, v_come, v_offOf, v_parent, v_best, v_trees, v_least, v_sums, v_toward, v_kept, v_isKept, v_keptAt, v_isWriting])), (a_maps, .inl (gI G, 6, .inl fm)), (a_kinds, .inl (gI G, 4, .inl fk)), (a_part, .inl (gI G, 6, .inl fp))]) sz (fun (r : Int32) (md1 : Int32) => True) (fun (md1 : Int32) => [(h1, .inr (6, [.int (nI k), .ref a_maps, .int told, .ref a_kinds, v_land, v_spades, .ref a_part, v_pad, v_padMany, v_slips, v_slipMany, .int md1, v_queue, v_depth, v_by, v_from, v_come, v_offOf, v_parent, v_best, v_trees, v_least, v_sums, v_toward, v_kept, v_isKept, v_keptAt, v_isWriting])), (a_maps, .inl (gI G, 6, .inl fm)), (a_kinds, .inl (gI G, 4, .inl fk)), (a_part, .inl (gI G, 6, .inl fp))]) 0 0 := by
  refine Met.ofW (cc := cX10_drawn) (maxL := 10) (ret := (some .int)) (by decide) rfl ?_
  intro p e s m args below meth c s₁ B hml hv
  obtain ⟨rfl, hsz, hP, hD0, E0⟩ := hv
  have hx := B.exec
  have hb := B.bytes
  have hr := B.returns
  have hts := atoms_spec (ws := wsX10_drawn) B.pre
  have hown : s.vm.findClass RX10 = some m.cls := findClass_of_methodNamed B.named
  have hlocks := B.notSynchronized
  subst hsz
  have hD := hD0.self (sz := s.heap.size)
  generalize hAe : va_A ([(h1, .inr (6, [.int (nI k), .ref a_maps, .int told, .ref a_kinds, v_land, v_spades, .ref a_part, v_pad, v_padMany, v_slips, v_slipMany, .int md0, v_queue, v_depth, v_by, v_from, v_come, v_offOf, v_parent, v_best, v_trees, v_least, v_sums, v_toward, v_kept, v_isKept, v_keptAt, v_isWriting])), (a_maps, .inl (gI G, 6, .inl fm)), (a_kinds, .inl (gI G, 4, .inl fk)), (a_part, .inl (gI G, 6, .inl fp))]) s.heap.size = A at hD E0 ⊢
  have E : EV G A s s.heap := E0
  have hA : ∀ q : Nat, s.heap.size ≤ q → A q := fun q h => by rw [← hAe]; exact Or.inr h
  have hS : va_S A s.heap s.heap [] := va_S.rf
  have hl := lv_entry ([.ref h1, .int p0, .int p1, .int p2, .int p3, .int p4]) (n := 10) (Nat.le_of_ble_eq_true rfl)
  rw [lg_entry_eq]
  generalize (lg_sl ([.ref h1, .int p0, .int p1, .int p2, .int p3, .int p4]) ++ List.replicate (10 - (lg_sl ([.ref h1, .int p0, .int p1, .int p2, .int p3, .int p4])).length) Slot.unset).toArray = ls at hl ⊢
  have hl : lv_has ls 10 [(0, .ref h1), (1, .int p0), (2, .int p1), (3, .int p2), (4, .int p3), (5, .int p4)] := hl
  have hP : va_P G.1 vwCl ([(h1, .inr (6, [.int (nI k), .ref a_maps, .int told, .ref a_kinds, v_land, v_spades, .ref a_part, v_pad, v_padMany, v_slips, v_slipMany, .int md0, v_queue, v_depth, v_by, v_from, v_come, v_offOf, v_parent, v_best, v_trees, v_least, v_sums, v_toward, v_kept, v_isKept, v_keptAt, v_isWriting])), (a_maps, .inl (gI G, 6, .inl fm)), (a_kinds, .inl (gI G, 4, .inl fk)), (a_part, .inl (gI G, 6, .inl fp))]) s.heap := hP
  have hal := p5le hk6
  have hmk := many40 hk6
  refine lv_iload_n hx hb dX10_drawn_0 rfl (lv_at hl 2 rfl) ?_
  refine ca_iR (va_runS (As := [.int p1]) (rest := []) ⟨hx, hb, hml, hown, hts⟩ (m_isMap l G s.heap.size p1) (va_cwS 1 hts gX10_drawn_X10_isMap rfl rfl rfl (by decide +kernel) ⟨by decide +kernel, by decide +kernel⟩) (pre_S E hP hD hS hA [] (by decide) rfl) rfl rfl hl.1 rfl (lv_room (Nat.le_of_ble_eq_true rfl)) dX10_drawn_1 ⟨by decide +kernel, by decide +kernel⟩) hS hP hD hA [] rfl (fun r2 _ H locs w1 hP hS => ?_)
  rcases w1 with ⟨rfl, b3⟩ | ⟨rfl, b3⟩
  · refine lv_if_eq (tgt := 29) hx hb dX10_drawn_4 (by decide) (fun c4 => False.elim (by revert c4; decide)) (fun _ => ?_)
    refine lv_iload_n hx hb dX10_drawn_7 rfl (lv_at hl 3 rfl) ?_
    refine ca_iR (va_runS (As := [.int p2]) (rest := []) ⟨hx, hb, hml, hown, hts⟩ (m_isHand l G H.size p2) (va_cwS 1 hts gX10_drawn_X10_isHand rfl rfl rfl (by decide +kernel) ⟨by decide +kernel, by decide +kernel⟩) (pre_S E hP hD hS hA [] (by decide) rfl) rfl rfl hl.1 rfl (lv_room (Nat.le_of_ble_eq_true rfl)) dX10_drawn_8 ⟨by decide +kernel, by decide +kernel⟩) hS hP hD hA [] rfl (fun r6 _ H locs w5 hP hS => ?_)
    rcases w5 with ⟨rfl, b7⟩ | ⟨rfl, b7⟩
    · refine lv_if_eq (tgt := 29) hx hb dX10_drawn_11 (by decide) (fun c8 => False.elim (by revert c8; decide)) (fun _ => ?_)
      refine lv_iload hx hb dX10_drawn_14 (lv_at hl 5 rfl) ?_
      refine lv_iconst (v := (-1)) hx hb dX10_drawn_16 (by decide) ?_
      refine lv_icmp_eq (tgt := 31) hx hb dX10_drawn_17 (by decide) (fun c9 => ?_) (fun c9 => ?_)
      · obtain ⟨j_p1, hj_p1, ej_p1⟩ := inR6 b3
        have hl : lv_has ls 10 [(0, .ref h1), (1, .int p0), (2, .int (nI j_p1)), (3, .int p2), (4, .int p3), (5, .int p4)] := by have q := hl; rw [ej_p1] at q; exact q
        obtain ⟨j_p2, hj_p2, ej_p2⟩ := inR4 b7
        have hl : lv_has ls 10 [(0, .ref h1), (1, .int p0), (2, .int (nI j_p1)), (3, .int (nI j_p2)), (4, .int p3), (5, .int p4)] := by have q := hl; rw [ej_p2] at q; exact q
        refine lv_iload_n hx hb dX10_drawn_31 rfl (lv_at hl 1 rfl) ?_
        refine lv_i2l hx hb dX10_drawn_32 rfl ?_
        refine lv_topl (fun x10 ex10 => ?_)
        refine lv_lconst (v := 0) hx hb dX10_drawn_33 (by decide) ?_
        refine lv_ldc2 (v := 9999) hx hb hown (hts (.constantLong RX10 230 (9999)) (by decide +kernel)) dX10_drawn_34 ?_
        refine ca_iR (va_runS (As := [.long x10, .long 0, .long 9999]) (rest := []) ⟨hx, hb, hml, hown, hts⟩ (m_in l G H.size x10 0 9999 p0 0 9999 ex10 (by decide) (by decide)) (va_cwS 3 hts gX10_drawn_X10_in rfl rfl rfl (by decide +kernel) ⟨by decide +kernel, by decide +kernel⟩) (pre_S E hP hD hS hA [] (by decide) rfl) rfl rfl hl.1 rfl (lv_room (Nat.le_of_ble_eq_true rfl)) dX10_drawn_37 ⟨by decide +kernel, by decide +kernel⟩) hS hP hD hA [] rfl (fun r12 _ H locs w11 hP hS => ?_)
        rcases w11 with ⟨rfl, b13⟩ | ⟨rfl, b13⟩
        · refine lv_if_eq (tgt := 56) hx hb dX10_drawn_40 (by decide) (fun c14 => False.elim (by revert c14; decide)) (fun _ => ?_)
          refine lv_iload hx hb dX10_drawn_43 (lv_at hl 4 rfl) ?_
          refine lv_i2l hx hb dX10_drawn_45 rfl ?_
          refine lv_topl (fun x15 ex15 => ?_)
          refine lv_lconst (v := 0) hx hb dX10_drawn_46 (by decide) ?_
          refine lv_ldc2 (v := 60) hx hb hown (hts (.constantLong RX10 232 (60)) (by decide +kernel)) dX10_drawn_47 ?_
          refine ca_iR (va_runS (As := [.long x15, .long 0, .long 60]) (rest := []) ⟨hx, hb, hml, hown, hts⟩ (m_in l G H.size x15 0 60 p3 0 60 ex15 (by decide) (by decide)) (va_cwS 3 hts gX10_drawn_X10_in rfl rfl rfl (by decide +kernel) ⟨by decide +kernel, by decide +kernel⟩) (pre_S E hP hD hS hA [] (by decide) rfl) rfl rfl hl.1 rfl (lv_room (Nat.le_of_ble_eq_true rfl)) dX10_drawn_50 ⟨by decide +kernel, by decide +kernel⟩) hS hP hD hA [] rfl (fun r17 _ H locs w16 hP hS => ?_)
          rcases w16 with ⟨rfl, b18⟩ | ⟨rfl, b18⟩
          · refine lv_if_ne (tgt := 59) hx hb dX10_drawn_53 (by decide) (fun _ => ?_) (fun c19 => False.elim (by revert c19; decide))
            obtain ⟨j_p0, hj_p0, ej_p0⟩ := inRn (n := 9999) (by decide) b13
            have hl : lv_has ls 10 [(0, .ref h1), (1, .int (nI j_p0)), (2, .int (nI j_p1)), (3, .int (nI j_p2)), (4, .int p3), (5, .int p4)] := by have q := hl; rw [ej_p0] at q; exact q
            obtain ⟨j_p3, hj_p3, ej_p3⟩ := inRn (n := 60) (by decide) b18
            have hl : lv_has ls 10 [(0, .ref h1), (1, .int (nI j_p0)), (2, .int (nI j_p1)), (3, .int (nI j_p2)), (4, .int (nI j_p3)), (5, .int p4)] := by have q := hl; rw [ej_p3] at q; exact q
            refine lv_aload_n hx hb dX10_drawn_59 rfl (lv_at hl 0 rfl) ?_
            refine lv_iload_n hx hb dX10_drawn_60 rfl (lv_at hl 2 rfl) ?_
            refine ca_iR (va_runV (As := [.int (nI j_p1)]) (rest := []) ⟨hx, hb, hml, hown, hts⟩ (m_isTold l G H.size h1 (.int (nI k)) (.ref a_maps) (.ref a_kinds) v_land v_spades (.ref a_part) v_pad v_padMany v_slips v_slipMany (.int md0) v_queue v_depth v_by v_from v_come v_offOf v_parent v_best v_trees v_least v_sums v_toward v_kept v_isKept v_keptAt v_isWriting told (nI j_p1)) (cwV 1 hts gX10_drawn_X10_isTold rfl rfl rfl (by decide +kernel) ⟨by decide +kernel, by decide +kernel⟩) (pre_V E hP hD hS hA [0] (by decide) rfl 0 6 rfl rfl) rfl rfl hl.1 rfl (lv_room (Nat.le_of_ble_eq_true rfl)) dX10_drawn_61 ⟨by decide +kernel, by decide +kernel⟩) hS hP hD hA [0] rfl (fun r21 _ H locs w20 hP hS => ?_)
            rcases w20 with ⟨rfl, b22⟩ | ⟨rfl, b22⟩
            · refine lv_if_ne (tgt := 70) hx hb dX10_drawn_64 (by decide) (fun _ => ?_) (fun c23 => False.elim (by revert c23; decide))
              refine lv_aload_n hx hb dX10_drawn_70 rfl (lv_at hl 0 rfl) ?_
              refine va_get (D := G.1) (ci := 6) (v := .ref a_maps) (C := RX10) (T := TX10) (N := 28) hx hb hts (fun _ h => List.mem_cons_of_mem _ (List.mem_append_right _ h)) hown E.K hP 0 rfl rfl 1 (by decide) (hts (.fieldLink RX10 7 "LastMapModel" "maps" "[I") (by decide +kernel)) (fun _ h9 => h9) rfl dX10_drawn_71 ?_
              refine lv_iload_n hx hb dX10_drawn_74 rfl (lv_at hl 2 rfl) ?_
              refine va_iald hx hb E.K hP 1 1 rfl rfl (i := nI j_p1) (vp_in_nI (by omega) (by decide)) dX10_drawn_75 ?_
              refine lv_topi (fun x24 ex24 => ?_)
              obtain ⟨a_x24, ha_x24, hvx24⟩ := hfm j_p1 (by omega)
              obtain rfl : x24 = nI a_x24 := by rw [ex24, nI_clamp (by omega)]; exact hvx24
              refine lv_istore (lv' := [(6, .int (nI a_x24)), (0, .ref h1), (1, .int (nI j_p0)), (2, .int (nI j_p1)), (3, .int (nI j_p2)), (4, .int (nI j_p3)), (5, .int p4)]) hx hb dX10_drawn_76 hl (by decide) rfl (fun ls hl => ?_)
              refine lv_iload_n hx hb dX10_drawn_78 rfl (lv_at hl 2 rfl) ?_
              refine lv_istore (lv' := [(7, .int (nI j_p0)), (6, .int (nI a_x24)), (0, .ref h1), (1, .int (nI j_p0)), (2, .int (nI j_p1)), (3, .int (nI j_p2)), (4, .int (nI j_p3)), (5, .int p4)]) hx hb dX10_drawn_79 hl (by decide) rfl (fun ls hl => ?_)
              refine lv_iconst (v := 0) hx hb dX10_drawn_81 (by decide) ?_
              refine lv_istore (lv' := [(8, .int 0), (7, .int (nI j_p0)), (6, .int (nI a_x24)), (0, .ref h1), (1, .int (nI j_p0)), (2, .int (nI j_p1)), (3, .int (nI j_p2)), (4, .int (nI j_p3)), (5, .int p4)]) hx hb dX10_drawn_82 hl (by decide) rfl (fun ls hl => ?_)
              refine lp_run (x0 := (0, a_x24, j_p0, md0)) (fun xx_ : Nat × Nat × Nat × Int32 => match xx_ with | (x, nw, xx, md) => [(h1, .inr (6, [.int (nI k), .ref a_maps, .int told, .ref a_kinds, v_land, v_spades, .ref a_part, v_pad, v_padMany, v_slips, v_slipMany, .int md, v_queue, v_depth, v_by, v_from, v_come, v_offOf, v_parent, v_best, v_trees, v_least, v_sums, v_toward, v_kept, v_isKept, v_keptAt, v_isWriting])), (a_maps, .inl (gI G, 6, .inl fm)), (a_kinds, .inl (gI G, 4, .inl fk)), (a_part, .inl (gI G, 6, .inl fp))]) (fun xx_ : Nat × Nat × Nat × Int32 => match xx_ with | (x, nw, xx, md) => [(8, .int (nI x)), (7, .int (nI xx)), (6, .int (nI nw)), (0, .ref h1), (1, .int (nI j_p0)), (2, .int (nI j_p1)), (3, .int (nI j_p2)), (4, .int (nI j_p3)), (5, .int p4)]) (fun xx_ : Nat × Nat × Nat × Int32 => match xx_ with | (x, nw, xx, md) => (x ≤ j_p3) ∧ (nw < 5 ^ k) ∧ (xx ≤ 65536)) (fun xx_ : Nat × Nat × Nat × Int32 => match xx_ with | (x, nw, xx, md) => j_p3 - x) (hP.sub [0, 1, 2, 3] rfl) (hD.sub [0, 1, 2, 3] (by decide) rfl) hS (lv_sub hl [0, 1, 2, 3, 4, 5, 6, 7, 8] rfl) ⟨(by omega), by omega, by omega⟩ ?_
              intro xx_ hI ih84 H locs ls hP hD hS hl
              obtain ⟨x, nw, xx, md⟩ := xx_
              dsimp only at hI ih84 hP hD hl
              obtain ⟨hx0, hnw, hxx⟩ := hI
              have hl : lv_has ls 10 [(8, .int (nI x)), (7, .int (nI xx)), (6, .int (nI nw)), (0, .ref h1), (1, .int (nI j_p0)), (2, .int (nI j_p1)), (3, .int (nI j_p2)), (4, .int (nI j_p3)), (5, .int p4)] := hl
              have hP : va_P G.1 vwCl ([(h1, .inr (6, [.int (nI k), .ref a_maps, .int told, .ref a_kinds, v_land, v_spades, .ref a_part, v_pad, v_padMany, v_slips, v_slipMany, .int md, v_queue, v_depth, v_by, v_from, v_come, v_offOf, v_parent, v_best, v_trees, v_least, v_sums, v_toward, v_kept, v_isKept, v_keptAt, v_isWriting])), (a_maps, .inl (gI G, 6, .inl fm)), (a_kinds, .inl (gI G, 4, .inl fk)), (a_part, .inl (gI G, 6, .inl fp))]) H := hP
              have hD : va_D A ([(h1, .inr (6, [.int (nI k), .ref a_maps, .int told, .ref a_kinds, v_land, v_spades, .ref a_part, v_pad, v_padMany, v_slips, v_slipMany, .int md, v_queue, v_depth, v_by, v_from, v_come, v_offOf, v_parent, v_best, v_trees, v_least, v_sums, v_toward, v_kept, v_isKept, v_keptAt, v_isWriting])), (a_maps, .inl (gI G, 6, .inl fm)), (a_kinds, .inl (gI G, 4, .inl fk)), (a_part, .inl (gI G, 6, .inl fp))]) := hD
              refine lv_iload hx hb dX10_drawn_84 (lv_at hl 0 rfl) ?_
              refine lv_iload hx hb dX10_drawn_86 (lv_at hl 7 rfl) ?_
              refine lv_icmp_ge (tgt := 160) hx hb dX10_drawn_88 (by decide) (fun c25 => ?_) (fun c25 => ?_)
              · have c25 : j_p3 ≤ x := (nI_leI (a := j_p3) (b := x) (by omega) (by omega)).mp c25
                refine lv_iload hx hb dX10_drawn_160 (lv_at hl 8 rfl) ?_
                refine lv_iconst (v := (-1)) hx hb dX10_drawn_162 (by decide) ?_
                refine lv_icmp_ne (tgt := 181) hx hb dX10_drawn_163 (by decide) (fun c26 => absurd c9 c26) (fun c26 => ?_)
                refine lv_aload_n hx hb dX10_drawn_166 rfl (lv_at hl 3 rfl) ?_
                refine lv_iload hx hb dX10_drawn_167 (lv_at hl 2 rfl) ?_
                refine lv_aload_n hx hb dX10_drawn_169 rfl (lv_at hl 3 rfl) ?_
                refine va_get (D := G.1) (ci := 6) (v := .ref a_maps) (C := RX10) (T := TX10) (N := 28) hx hb hts (fun _ h => List.mem_cons_of_mem _ (List.mem_append_right _ h)) hown E.K hP 0 rfl rfl 1 (by decide) (hts (.fieldLink RX10 7 "LastMapModel" "maps" "[I") (by decide +kernel)) (fun _ h9 => h9) rfl dX10_drawn_170 ?_
                refine lv_iload_n hx hb dX10_drawn_173 rfl (lv_at hl 5 rfl) ?_
                refine va_iald hx hb E.K hP 1 1 rfl rfl (i := nI j_p1) (vp_in_nI (by omega) (by decide)) dX10_drawn_174 ?_
                refine lv_topi (fun x27 ex27 => ?_)
                obtain ⟨a_x27, ha_x27, hvx27⟩ := hfm j_p1 (by omega)
                obtain rfl : x27 = nI a_x27 := by rw [ex27, nI_clamp (by omega)]; exact hvx27
                refine ca_iR (va_runV (As := [.int (nI nw), .int (nI a_x27)]) (rest := []) ⟨hx, hb, hml, hown, hts⟩ (m_otherThan l G H.size h1 (.ref a_maps) (.int told) (.ref a_kinds) v_land v_spades v_pad v_padMany v_slips v_slipMany (.int md) v_queue v_depth v_by v_from v_come v_offOf v_parent v_best v_trees v_least v_sums v_toward v_kept v_isKept v_keptAt v_isWriting a_part fp k nw a_x27 hk2 hk6 hp (by omega) (by omega)) (cwV 2 hts gX10_drawn_X10_otherThan rfl rfl rfl (by decide +kernel) ⟨by decide +kernel, by decide +kernel⟩) (pre_V E hP hD hS hA [0, 3] (by decide) rfl 0 6 rfl rfl) rfl rfl hl.1 rfl (lv_room (Nat.le_of_ble_eq_true rfl)) dX10_drawn_175 ⟨by decide +kernel, by decide +kernel⟩) hS hP hD hA [0, 3] rfl (fun r29 _ H locs w28 hP hS => ?_)
                refine lv_goto (tgt := 192) hx hb dX10_drawn_178 (by decide) ?_
                have hP9 := (hP.sub (ws' := [(h1, .inr (6, [.int (nI k), .ref a_maps, .int told, .ref a_kinds, v_land, v_spades, .ref a_part, v_pad, v_padMany, v_slips, v_slipMany, .int md, v_queue, v_depth, v_by, v_from, v_come, v_offOf, v_parent, v_best, v_trees, v_least, v_sums, v_toward, v_kept, v_isKept, v_keptAt, v_isWriting])), (a_maps, .inl (gI G, 6, .inl fm)), (a_kinds, .inl (gI G, 4, .inl fk)), (a_part, .inl (gI G, 6, .inl fp))]) [0, 1, 2, 3] rfl)
                have hD9 := (hD.sub (ws' := [(h1, .inr (6, [.int (nI k), .ref a_maps, .int told, .ref a_kinds, v_land, v_spades, .ref a_part, v_pad, v_padMany, v_slips, v_slipMany, .int md, v_queue, v_depth, v_by, v_from, v_come, v_offOf, v_parent, v_best, v_trees, v_least, v_sums, v_toward, v_kept, v_isKept, v_keptAt, v_isWriting])), (a_maps, .inl (gI G, 6, .inl fm)), (a_kinds, .inl (gI G, 4, .inl fk)), (a_part, .inl (gI G, 6, .inl fp))]) [0, 1, 2, 3] (by decide) rfl)
                exact W.iret (v := r29) hx hb hr (fun t9_ ht9_ hW9_ => ⟨⟨r29, md, rfl, trivial, by rw [ht9_]; exact hP9, hD9⟩, hS.F ht9_⟩) hS.2.2 dX10_drawn_192
              · have c25 : ¬ j_p3 ≤ x := fun h9_ => c25 ((nI_leI (a := j_p3) (b := x) (by omega) (by omega)).mpr h9_)
                refine lv_ldc2 (v := 75) hx hb hown (hts (.constantLong RX10 234 (75)) (by decide +kernel)) dX10_drawn_91 ?_
                refine lv_iload hx hb dX10_drawn_94 (lv_at hl 1 rfl) ?_
                refine lv_i2l hx hb dX10_drawn_96 rfl ?_
                refine lv_topl (fun x30 ex30 => ?_)
                refine lv_lmul hx hb dX10_drawn_97 ?_
                refine lv_topl (fun x31 ex31 => ?_)
                refine lv_ldc2 (v := 74) hx hb hown (hts (.constantLong RX10 236 (74)) (by decide +kernel)) dX10_drawn_98 ?_
                refine lv_ladd hx hb dX10_drawn_101 ?_
                refine lv_topl (fun x32 ex32 => ?_)
                refine lv_ldc2 (v := 65537) hx hb hown (hts (.constantLong RX10 238 (65537)) (by decide +kernel)) dX10_drawn_102 ?_
                refine lv_lrem hx hb dX10_drawn_105 (by decide) ?_
                refine lv_topl (fun x33 ex33 => ?_)
                refine lv_l2i hx hb dX10_drawn_106 rfl ?_
                refine lv_topi (fun x34 ex34 => ?_)
                have hr9 := drw hxx ex30 ex31 ex32 ex33 ex34
                obtain rfl : x34 = nI ((75 * xx + 74) % 65537) := hr9
                refine lv_istore (lv' := [(7, .int (nI ((75 * xx + 74) % 65537))), (8, .int (nI x)), (6, .int (nI nw)), (0, .ref h1), (1, .int (nI j_p0)), (2, .int (nI j_p1)), (3, .int (nI j_p2)), (4, .int (nI j_p3)), (5, .int p4)]) hx hb dX10_drawn_107 hl (by decide) rfl (fun ls hl => ?_)
                refine lv_aload_n hx hb dX10_drawn_109 rfl (lv_at hl 3 rfl) ?_
                refine lv_iload hx hb dX10_drawn_110 (lv_at hl 2 rfl) ?_
                refine lv_aload_n hx hb dX10_drawn_112 rfl (lv_at hl 3 rfl) ?_
                refine va_get (D := G.1) (ci := 6) (v := .ref a_kinds) (C := RX10) (T := TX10) (N := 28) hx hb hts (fun _ h => List.mem_cons_of_mem _ (List.mem_append_right _ h)) hown E.K hP 0 rfl rfl 3 (by decide) (hts (.fieldLink RX10 13 "LastMapModel" "kinds" "[I") (by decide +kernel)) (fun _ h9 => h9) rfl dX10_drawn_113 ?_
                refine lv_iload_n hx hb dX10_drawn_116 rfl (lv_at hl 6 rfl) ?_
                refine va_iald hx hb E.K hP 2 1 rfl rfl (i := nI j_p2) (vp_in_nI (by omega) (by decide)) dX10_drawn_117 ?_
                refine lv_topi (fun x35 ex35 => ?_)
                refine lv_bipush (v := (-6)) hx hb dX10_drawn_118 (by decide) ?_
                refine ca_i (wr := [(a_maps, .inl (gI G, 6, .inl fm)), (a_kinds, .inl (gI G, 4, .inl fk))]) (va_runV (As := [.int (nI nw), .int x35, .int (-6)]) (rest := []) ⟨hx, hb, hml, hown, hts⟩ (m_slipsFrom l G H.size h1 (.ref a_maps) (.int told) (.ref a_kinds) v_land v_spades v_pad v_padMany v_slips v_slipMany v_queue v_depth v_by v_from v_come v_offOf v_parent v_best v_trees v_least v_sums v_toward v_kept v_isKept v_keptAt v_isWriting a_part fp k nw md x35 (-6) hk2 hk6 hp (by omega)) (cwV 3 hts gX10_drawn_X10_slipsFrom rfl rfl rfl (by decide +kernel) ⟨by decide +kernel, by decide +kernel⟩) (pre_V E hP hD hS hA [0, 3] (by decide) rfl 0 6 rfl rfl) rfl rfl hl.1 rfl (lv_room (Nat.le_of_ble_eq_true rfl)) dX10_drawn_120 ⟨by decide +kernel, by decide +kernel⟩) hS hP hD hA [0, 3] [1, 2] rfl rfl (by decide) (by decide) (fun r37 u38 H locs w36 hP hD hS => ?_)
                obtain ⟨md1_39, rfl⟩ : ∃ z, z = u38 := ⟨_, rfl⟩
                try dsimp only at w36 hP hD
                have hP := (hP.sub (ws' := [(h1, .inr (6, [.int (nI k), .ref a_maps, .int told, .ref a_kinds, v_land, v_spades, .ref a_part, v_pad, v_padMany, v_slips, v_slipMany, .int md1_39, v_queue, v_depth, v_by, v_from, v_come, v_offOf, v_parent, v_best, v_trees, v_least, v_sums, v_toward, v_kept, v_isKept, v_keptAt, v_isWriting])), (a_maps, .inl (gI G, 6, .inl fm)), (a_kinds, .inl (gI G, 4, .inl fk)), (a_part, .inl (gI G, 6, .inl fp))]) [2, 0, 1, 3] rfl)
                have hD := (hD.sub (ws' := [(h1, .inr (6, [.int (nI k), .ref a_maps, .int told, .ref a_kinds, v_land, v_spades, .ref a_part, v_pad, v_padMany, v_slips, v_slipMany, .int md1_39, v_queue, v_depth, v_by, v_from, v_come, v_offOf, v_parent, v_best, v_trees, v_least, v_sums, v_toward, v_kept, v_isKept, v_keptAt, v_isWriting])), (a_maps, .inl (gI G, 6, .inl fm)), (a_kinds, .inl (gI G, 4, .inl fk)), (a_part, .inl (gI G, 6, .inl fp))]) [2, 0, 1, 3] (by decide) rfl)
                have hc9 := cSl_le k (bK x35) nw (manyS k)
                obtain rfl : r37 = nI (cSl k (bK x35) nw (manyS k)) := w36.1
                refine lv_istore (lv' := [(9, .int (nI (cSl k (bK x35) nw (manyS k)))), (7, .int (nI ((75 * xx + 74) % 65537))), (8, .int (nI x)), (6, .int (nI nw)), (0, .ref h1), (1, .int (nI j_p0)), (2, .int (nI j_p1)), (3, .int (nI j_p2)), (4, .int (nI j_p3)), (5, .int p4)]) hx hb dX10_drawn_123 hl (by decide) rfl (fun ls hl => ?_)
                refine lv_iload hx hb dX10_drawn_125 (lv_at hl 0 rfl) ?_
                refine lv_if_le (tgt := 154) hx hb dX10_drawn_127 (by decide) (fun c40 => ?_) (fun c40 => ?_)
                · have c40 : (cSl k (bK x35) nw (manyS k)) ≤ 0 := (nI_leI (a := (cSl k (bK x35) nw (manyS k))) (b := 0) (by omega) (by omega)).mp c40
                  obtain ⟨x41, ex41⟩ : ∃ yy_ : Int32, yy_ = (nI x) + 1 := ⟨_, rfl⟩
                  refine lv_iinc (v := x41) (lv' := [(8, .int x41), (9, .int (nI (cSl k (bK x35) nw (manyS k)))), (7, .int (nI ((75 * xx + 74) % 65537))), (6, .int (nI nw)), (0, .ref h1), (1, .int (nI j_p0)), (2, .int (nI j_p1)), (3, .int (nI j_p2)), (4, .int (nI j_p3)), (5, .int p4)]) hx hb dX10_drawn_154 hl (k := 2) rfl (by rw [ex41]; rfl) (by decide) rfl (fun ls hl => ?_)
                  obtain rfl : x41 = nI (x + 1) := by rw [ex41]; exact nI_add x 1
                  refine lv_goto (tgt := 84) hx hb dX10_drawn_157 (by decide) ?_
                  refine ih84 ((x + 1), nw, ((75 * xx + 74) % 65537), md1_39) ⟨?_, ?_, ?_⟩ (by first | omega | (dsimp only; omega)) H locs ls (hP.sub [0, 1, 2, 3] rfl) (hD.sub [0, 1, 2, 3] (by decide) rfl) hS (lv_sub hl [0, 2, 3, 4, 5, 6, 7, 8, 9] rfl)
                  · try dsimp only
                    omega
                  · try dsimp only
                    omega
                  · try dsimp only
                    omega
                · have c40 : ¬ (cSl k (bK x35) nw (manyS k)) ≤ 0 := fun h9_ => c40 ((nI_leI (a := (cSl k (bK x35) nw (manyS k))) (b := 0) (by omega) (by omega)).mpr h9_)
                  refine lv_aload_n hx hb dX10_drawn_130 rfl (lv_at hl 4 rfl) ?_
                  refine lv_iload hx hb dX10_drawn_131 (lv_at hl 3 rfl) ?_
                  refine lv_aload_n hx hb dX10_drawn_133 rfl (lv_at hl 4 rfl) ?_
                  refine va_get (D := G.1) (ci := 6) (v := .ref a_kinds) (C := RX10) (T := TX10) (N := 28) hx hb hts (fun _ h => List.mem_cons_of_mem _ (List.mem_append_right _ h)) hown E.K hP 0 rfl rfl 3 (by decide) (hts (.fieldLink RX10 13 "LastMapModel" "kinds" "[I") (by decide +kernel)) (fun _ h9 => h9) rfl dX10_drawn_134 ?_
                  refine lv_iload_n hx hb dX10_drawn_137 rfl (lv_at hl 7 rfl) ?_
                  refine va_iald hx hb E.K hP 2 1 rfl rfl (i := nI j_p2) (vp_in_nI (by omega) (by decide)) dX10_drawn_138 ?_
                  refine lv_topi (fun x42 ex42 => ?_)
                  refine lv_iload hx hb dX10_drawn_139 (lv_at hl 1 rfl) ?_
                  refine lv_iload hx hb dX10_drawn_141 (lv_at hl 0 rfl) ?_
                  refine lv_irem hx hb dX10_drawn_143 (nI_ne0 (by omega) (by omega)) ?_
                  refine lv_topi (fun x43 ex43 => ?_)
                  obtain rfl : x43 = nI ((75 * xx + 74) % 65537 % cSl k (bK x35) nw (manyS k)) := by rw [ex43]; exact pk_rem (by omega) (by omega) (by omega)
                  refine ca_i (wr := [(a_maps, .inl (gI G, 6, .inl fm)), (a_kinds, .inl (gI G, 4, .inl fk))]) (va_runV (As := [.int (nI nw), .int x42, .int (nI ((75 * xx + 74) % 65537 % cSl k (bK x35) nw (manyS k)))]) (rest := []) ⟨hx, hb, hml, hown, hts⟩ (m_slipsFrom l G H.size h1 (.ref a_maps) (.int told) (.ref a_kinds) v_land v_spades v_pad v_padMany v_slips v_slipMany v_queue v_depth v_by v_from v_come v_offOf v_parent v_best v_trees v_least v_sums v_toward v_kept v_isKept v_keptAt v_isWriting a_part fp k nw md1_39 x42 (nI ((75 * xx + 74) % 65537 % cSl k (bK x35) nw (manyS k))) hk2 hk6 hp (by omega)) (cwV 3 hts gX10_drawn_X10_slipsFrom rfl rfl rfl (by decide +kernel) ⟨by decide +kernel, by decide +kernel⟩) (pre_V E hP hD hS hA [0, 3] (by decide) rfl 0 6 rfl rfl) rfl rfl hl.1 rfl (lv_room (Nat.le_of_ble_eq_true rfl)) dX10_drawn_144 ⟨by decide +kernel, by decide +kernel⟩) hS hP hD hA [0, 3] [1, 2] rfl rfl (by decide) (by decide) (fun r45 u46 H locs w44 hP hD hS => ?_)
                  obtain ⟨md1_47, rfl⟩ : ∃ z, z = u46 := ⟨_, rfl⟩
                  try dsimp only at w44 hP hD
                  have hP := (hP.sub (ws' := [(h1, .inr (6, [.int (nI k), .ref a_maps, .int told, .ref a_kinds, v_land, v_spades, .ref a_part, v_pad, v_padMany, v_slips, v_slipMany, .int md1_47, v_queue, v_depth, v_by, v_from, v_come, v_offOf, v_parent, v_best, v_trees, v_least, v_sums, v_toward, v_kept, v_isKept, v_keptAt, v_isWriting])), (a_maps, .inl (gI G, 6, .inl fm)), (a_kinds, .inl (gI G, 4, .inl fk)), (a_part, .inl (gI G, 6, .inl fp))]) [2, 0, 1, 3] rfl)
                  have hD := (hD.sub (ws' := [(h1, .inr (6, [.int (nI k), .ref a_maps, .int told, .ref a_kinds, v_land, v_spades, .ref a_part, v_pad, v_padMany, v_slips, v_slipMany, .int md1_47, v_queue, v_depth, v_by, v_from, v_come, v_offOf, v_parent, v_best, v_trees, v_least, v_sums, v_toward, v_kept, v_isKept, v_keptAt, v_isWriting])), (a_maps, .inl (gI G, 6, .inl fm)), (a_kinds, .inl (gI G, 4, .inl fk)), (a_part, .inl (gI G, 6, .inl fp))]) [2, 0, 1, 3] (by decide) rfl)
                  refine lv_pop hx hb dX10_drawn_147 rfl ?_
                  refine lv_aload_n hx hb dX10_drawn_148 rfl (lv_at hl 4 rfl) ?_
                  refine va_get (D := G.1) (ci := 6) (v := .int md1_47) (C := RX10) (T := TX10) (N := 28) hx hb hts (fun _ h => List.mem_cons_of_mem _ (List.mem_append_right _ h)) hown E.K hP 0 rfl rfl 11 (by decide) (hts (.fieldLink RX10 149 "LastMapModel" "made" "I") (by decide +kernel)) (fun _ h9 => h9) rfl dX10_drawn_149 ?_
                  obtain ⟨nw9, hnw9, enw9⟩ := w44.2 _ rfl (by rw [show x42 = x35 by rw [ex42, ex35]]; exact Nat.mod_lt _ (by omega))
                  refine W.eq (g2 := F0 m 152 ls [.int (nI nw9)]) (by rw [enw9]) ?_
                  refine lv_istore (lv' := [(6, .int (nI nw9)), (9, .int (nI (cSl k (bK x35) nw (manyS k)))), (7, .int (nI ((75 * xx + 74) % 65537))), (8, .int (nI x)), (0, .ref h1), (1, .int (nI j_p0)), (2, .int (nI j_p1)), (3, .int (nI j_p2)), (4, .int (nI j_p3)), (5, .int p4)]) hx hb dX10_drawn_152 hl (by decide) rfl (fun ls hl => ?_)
                  obtain ⟨x48, ex48⟩ : ∃ yy_ : Int32, yy_ = (nI x) + 1 := ⟨_, rfl⟩
                  refine lv_iinc (v := x48) (lv' := [(8, .int x48), (6, .int (nI nw9)), (9, .int (nI (cSl k (bK x35) nw (manyS k)))), (7, .int (nI ((75 * xx + 74) % 65537))), (0, .ref h1), (1, .int (nI j_p0)), (2, .int (nI j_p1)), (3, .int (nI j_p2)), (4, .int (nI j_p3)), (5, .int p4)]) hx hb dX10_drawn_154 hl (k := 3) rfl (by rw [ex48]; rfl) (by decide) rfl (fun ls hl => ?_)
                  obtain rfl : x48 = nI (x + 1) := by rw [ex48]; exact nI_add x 1
                  refine lv_goto (tgt := 84) hx hb dX10_drawn_157 (by decide) ?_
                  refine ih84 ((x + 1), nw9, ((75 * xx + 74) % 65537), md1_47) ⟨?_, ?_, ?_⟩ (by first | omega | (dsimp only; omega)) H locs ls (hP.sub [0, 1, 2, 3] rfl) (hD.sub [0, 1, 2, 3] (by decide) rfl) hS (lv_sub hl [0, 3, 1, 4, 5, 6, 7, 8, 9] rfl)
                  · try dsimp only
                    omega
                  · try dsimp only
                    omega
                  · try dsimp only
                    omega
            · refine lv_if_ne (tgt := 70) hx hb dX10_drawn_64 (by decide) (fun c49 => False.elim (by revert c49; decide)) (fun _ => ?_)
              refine lv_bipush (v := (-3)) hx hb dX10_drawn_67 (by decide) ?_
              have hP9 := (hP.sub (ws' := [(h1, .inr (6, [.int (nI k), .ref a_maps, .int told, .ref a_kinds, v_land, v_spades, .ref a_part, v_pad, v_padMany, v_slips, v_slipMany, .int md0, v_queue, v_depth, v_by, v_from, v_come, v_offOf, v_parent, v_best, v_trees, v_least, v_sums, v_toward, v_kept, v_isKept, v_keptAt, v_isWriting])), (a_maps, .inl (gI G, 6, .inl fm)), (a_kinds, .inl (gI G, 4, .inl fk)), (a_part, .inl (gI G, 6, .inl fp))]) [0, 1, 2, 3] rfl)
              have hD9 := (hD.sub (ws' := [(h1, .inr (6, [.int (nI k), .ref a_maps, .int told, .ref a_kinds, v_land, v_spades, .ref a_part, v_pad, v_padMany, v_slips, v_slipMany, .int md0, v_queue, v_depth, v_by, v_from, v_come, v_offOf, v_parent, v_best, v_trees, v_least, v_sums, v_toward, v_kept, v_isKept, v_keptAt, v_isWriting])), (a_maps, .inl (gI G, 6, .inl fm)), (a_kinds, .inl (gI G, 4, .inl fk)), (a_part, .inl (gI G, 6, .inl fp))]) [0, 1, 2, 3] (by decide) rfl)
              exact W.iret (v := (-3)) hx hb hr (fun t9_ ht9_ hW9_ => ⟨⟨(-3), md0, rfl, trivial, by rw [ht9_]; exact hP9, hD9⟩, hS.F ht9_⟩) hS.2.2 dX10_drawn_69
          · refine lv_if_ne (tgt := 59) hx hb dX10_drawn_53 (by decide) (fun c50 => False.elim (by revert c50; decide)) (fun _ => ?_)
            refine lv_bipush (v := (-2)) hx hb dX10_drawn_56 (by decide) ?_
            have hP9 := (hP.sub (ws' := [(h1, .inr (6, [.int (nI k), .ref a_maps, .int told, .ref a_kinds, v_land, v_spades, .ref a_part, v_pad, v_padMany, v_slips, v_slipMany, .int md0, v_queue, v_depth, v_by, v_from, v_come, v_offOf, v_parent, v_best, v_trees, v_least, v_sums, v_toward, v_kept, v_isKept, v_keptAt, v_isWriting])), (a_maps, .inl (gI G, 6, .inl fm)), (a_kinds, .inl (gI G, 4, .inl fk)), (a_part, .inl (gI G, 6, .inl fp))]) [0, 1, 2, 3] rfl)
            have hD9 := (hD.sub (ws' := [(h1, .inr (6, [.int (nI k), .ref a_maps, .int told, .ref a_kinds, v_land, v_spades, .ref a_part, v_pad, v_padMany, v_slips, v_slipMany, .int md0, v_queue, v_depth, v_by, v_from, v_come, v_offOf, v_parent, v_best, v_trees, v_least, v_sums, v_toward, v_kept, v_isKept, v_keptAt, v_isWriting])), (a_maps, .inl (gI G, 6, .inl fm)), (a_kinds, .inl (gI G, 4, .inl fk)), (a_part, .inl (gI G, 6, .inl fp))]) [0, 1, 2, 3] (by decide) rfl)
            exact W.iret (v := (-2)) hx hb hr (fun t9_ ht9_ hW9_ => ⟨⟨(-2), md0, rfl, trivial, by rw [ht9_]; exact hP9, hD9⟩, hS.F ht9_⟩) hS.2.2 dX10_drawn_58
        · refine lv_if_eq (tgt := 56) hx hb dX10_drawn_40 (by decide) (fun _ => ?_) (fun c51 => False.elim (by revert c51; decide))
          refine lv_bipush (v := (-2)) hx hb dX10_drawn_56 (by decide) ?_
          have hP9 := (hP.sub (ws' := [(h1, .inr (6, [.int (nI k), .ref a_maps, .int told, .ref a_kinds, v_land, v_spades, .ref a_part, v_pad, v_padMany, v_slips, v_slipMany, .int md0, v_queue, v_depth, v_by, v_from, v_come, v_offOf, v_parent, v_best, v_trees, v_least, v_sums, v_toward, v_kept, v_isKept, v_keptAt, v_isWriting])), (a_maps, .inl (gI G, 6, .inl fm)), (a_kinds, .inl (gI G, 4, .inl fk)), (a_part, .inl (gI G, 6, .inl fp))]) [0, 1, 2, 3] rfl)
          have hD9 := (hD.sub (ws' := [(h1, .inr (6, [.int (nI k), .ref a_maps, .int told, .ref a_kinds, v_land, v_spades, .ref a_part, v_pad, v_padMany, v_slips, v_slipMany, .int md0, v_queue, v_depth, v_by, v_from, v_come, v_offOf, v_parent, v_best, v_trees, v_least, v_sums, v_toward, v_kept, v_isKept, v_keptAt, v_isWriting])), (a_maps, .inl (gI G, 6, .inl fm)), (a_kinds, .inl (gI G, 4, .inl fk)), (a_part, .inl (gI G, 6, .inl fp))]) [0, 1, 2, 3] (by decide) rfl)
          exact W.iret (v := (-2)) hx hb hr (fun t9_ ht9_ hW9_ => ⟨⟨(-2), md0, rfl, trivial, by rw [ht9_]; exact hP9, hD9⟩, hS.F ht9_⟩) hS.2.2 dX10_drawn_58
      · refine lv_aload_n hx hb dX10_drawn_20 rfl (lv_at hl 0 rfl) ?_
        refine lv_iload hx hb dX10_drawn_21 (lv_at hl 5 rfl) ?_
        refine ca_iR (va_runV (As := [.int p4]) (rest := []) ⟨hx, hb, hml, hown, hts⟩ (m_isSite l G H.size h1 (.ref a_maps) (.int told) (.ref a_kinds) v_land v_spades (.ref a_part) v_pad v_padMany v_slips v_slipMany (.int md0) v_queue v_depth v_by v_from v_come v_offOf v_parent v_best v_trees v_least v_sums v_toward v_kept v_isKept v_keptAt v_isWriting k p4 hk2 hk6) (cwV 1 hts gX10_drawn_X10_isSite rfl rfl rfl (by decide +kernel) ⟨by decide +kernel, by decide +kernel⟩) (pre_V E hP hD hS hA [0] (by decide) rfl 0 6 rfl rfl) rfl rfl hl.1 rfl (lv_room (Nat.le_of_ble_eq_true rfl)) dX10_drawn_23 ⟨by decide +kernel, by decide +kernel⟩) hS hP hD hA [0] rfl (fun r53 _ H locs w52 hP hS => ?_)
        rcases w52 with ⟨rfl, b54⟩ | ⟨rfl, b54⟩
        · refine lv_if_ne (tgt := 31) hx hb dX10_drawn_26 (by decide) (fun _ => ?_) (fun c55 => False.elim (by revert c55; decide))
          obtain ⟨j_p1, hj_p1, ej_p1⟩ := inR6 b3
          have hl : lv_has ls 10 [(0, .ref h1), (1, .int p0), (2, .int (nI j_p1)), (3, .int p2), (4, .int p3), (5, .int p4)] := by have q := hl; rw [ej_p1] at q; exact q
          obtain ⟨j_p2, hj_p2, ej_p2⟩ := inR4 b7
          have hl : lv_has ls 10 [(0, .ref h1), (1, .int p0), (2, .int (nI j_p1)), (3, .int (nI j_p2)), (4, .int p3), (5, .int p4)] := by have q := hl; rw [ej_p2] at q; exact q
          obtain ⟨j_p4, hj_p4, ej_p4⟩ := b54
          have hl : lv_has ls 10 [(0, .ref h1), (1, .int p0), (2, .int (nI j_p1)), (3, .int (nI j_p2)), (4, .int p3), (5, .int (nI j_p4))] := by have q := hl; rw [ej_p4] at q; exact q
          refine lv_iload_n hx hb dX10_drawn_31 rfl (lv_at hl 1 rfl) ?_
          refine lv_i2l hx hb dX10_drawn_32 rfl ?_
          refine lv_topl (fun x56 ex56 => ?_)
          refine lv_lconst (v := 0) hx hb dX10_drawn_33 (by decide) ?_
          refine lv_ldc2 (v := 9999) hx hb hown (hts (.constantLong RX10 230 (9999)) (by decide +kernel)) dX10_drawn_34 ?_
          refine ca_iR (va_runS (As := [.long x56, .long 0, .long 9999]) (rest := []) ⟨hx, hb, hml, hown, hts⟩ (m_in l G H.size x56 0 9999 p0 0 9999 ex56 (by decide) (by decide)) (va_cwS 3 hts gX10_drawn_X10_in rfl rfl rfl (by decide +kernel) ⟨by decide +kernel, by decide +kernel⟩) (pre_S E hP hD hS hA [] (by decide) rfl) rfl rfl hl.1 rfl (lv_room (Nat.le_of_ble_eq_true rfl)) dX10_drawn_37 ⟨by decide +kernel, by decide +kernel⟩) hS hP hD hA [] rfl (fun r58 _ H locs w57 hP hS => ?_)
          rcases w57 with ⟨rfl, b59⟩ | ⟨rfl, b59⟩
          · refine lv_if_eq (tgt := 56) hx hb dX10_drawn_40 (by decide) (fun c60 => False.elim (by revert c60; decide)) (fun _ => ?_)
            refine lv_iload hx hb dX10_drawn_43 (lv_at hl 4 rfl) ?_
            refine lv_i2l hx hb dX10_drawn_45 rfl ?_
            refine lv_topl (fun x61 ex61 => ?_)
            refine lv_lconst (v := 0) hx hb dX10_drawn_46 (by decide) ?_
            refine lv_ldc2 (v := 60) hx hb hown (hts (.constantLong RX10 232 (60)) (by decide +kernel)) dX10_drawn_47 ?_
            refine ca_iR (va_runS (As := [.long x61, .long 0, .long 60]) (rest := []) ⟨hx, hb, hml, hown, hts⟩ (m_in l G H.size x61 0 60 p3 0 60 ex61 (by decide) (by decide)) (va_cwS 3 hts gX10_drawn_X10_in rfl rfl rfl (by decide +kernel) ⟨by decide +kernel, by decide +kernel⟩) (pre_S E hP hD hS hA [] (by decide) rfl) rfl rfl hl.1 rfl (lv_room (Nat.le_of_ble_eq_true rfl)) dX10_drawn_50 ⟨by decide +kernel, by decide +kernel⟩) hS hP hD hA [] rfl (fun r63 _ H locs w62 hP hS => ?_)
            rcases w62 with ⟨rfl, b64⟩ | ⟨rfl, b64⟩
            · refine lv_if_ne (tgt := 59) hx hb dX10_drawn_53 (by decide) (fun _ => ?_) (fun c65 => False.elim (by revert c65; decide))
              obtain ⟨j_p0, hj_p0, ej_p0⟩ := inRn (n := 9999) (by decide) b59
              have hl : lv_has ls 10 [(0, .ref h1), (1, .int (nI j_p0)), (2, .int (nI j_p1)), (3, .int (nI j_p2)), (4, .int p3), (5, .int (nI j_p4))] := by have q := hl; rw [ej_p0] at q; exact q
              obtain ⟨j_p3, hj_p3, ej_p3⟩ := inRn (n := 60) (by decide) b64
              have hl : lv_has ls 10 [(0, .ref h1), (1, .int (nI j_p0)), (2, .int (nI j_p1)), (3, .int (nI j_p2)), (4, .int (nI j_p3)), (5, .int (nI j_p4))] := by have q := hl; rw [ej_p3] at q; exact q
              refine lv_aload_n hx hb dX10_drawn_59 rfl (lv_at hl 0 rfl) ?_
              refine lv_iload_n hx hb dX10_drawn_60 rfl (lv_at hl 2 rfl) ?_
              refine ca_iR (va_runV (As := [.int (nI j_p1)]) (rest := []) ⟨hx, hb, hml, hown, hts⟩ (m_isTold l G H.size h1 (.int (nI k)) (.ref a_maps) (.ref a_kinds) v_land v_spades (.ref a_part) v_pad v_padMany v_slips v_slipMany (.int md0) v_queue v_depth v_by v_from v_come v_offOf v_parent v_best v_trees v_least v_sums v_toward v_kept v_isKept v_keptAt v_isWriting told (nI j_p1)) (cwV 1 hts gX10_drawn_X10_isTold rfl rfl rfl (by decide +kernel) ⟨by decide +kernel, by decide +kernel⟩) (pre_V E hP hD hS hA [0] (by decide) rfl 0 6 rfl rfl) rfl rfl hl.1 rfl (lv_room (Nat.le_of_ble_eq_true rfl)) dX10_drawn_61 ⟨by decide +kernel, by decide +kernel⟩) hS hP hD hA [0] rfl (fun r67 _ H locs w66 hP hS => ?_)
              rcases w66 with ⟨rfl, b68⟩ | ⟨rfl, b68⟩
              · refine lv_if_ne (tgt := 70) hx hb dX10_drawn_64 (by decide) (fun _ => ?_) (fun c69 => False.elim (by revert c69; decide))
                refine lv_aload_n hx hb dX10_drawn_70 rfl (lv_at hl 0 rfl) ?_
                refine va_get (D := G.1) (ci := 6) (v := .ref a_maps) (C := RX10) (T := TX10) (N := 28) hx hb hts (fun _ h => List.mem_cons_of_mem _ (List.mem_append_right _ h)) hown E.K hP 0 rfl rfl 1 (by decide) (hts (.fieldLink RX10 7 "LastMapModel" "maps" "[I") (by decide +kernel)) (fun _ h9 => h9) rfl dX10_drawn_71 ?_
                refine lv_iload_n hx hb dX10_drawn_74 rfl (lv_at hl 2 rfl) ?_
                refine va_iald hx hb E.K hP 1 1 rfl rfl (i := nI j_p1) (vp_in_nI (by omega) (by decide)) dX10_drawn_75 ?_
                refine lv_topi (fun x70 ex70 => ?_)
                obtain ⟨a_x70, ha_x70, hvx70⟩ := hfm j_p1 (by omega)
                obtain rfl : x70 = nI a_x70 := by rw [ex70, nI_clamp (by omega)]; exact hvx70
                refine lv_istore (lv' := [(6, .int (nI a_x70)), (0, .ref h1), (1, .int (nI j_p0)), (2, .int (nI j_p1)), (3, .int (nI j_p2)), (4, .int (nI j_p3)), (5, .int (nI j_p4))]) hx hb dX10_drawn_76 hl (by decide) rfl (fun ls hl => ?_)
                refine lv_iload_n hx hb dX10_drawn_78 rfl (lv_at hl 2 rfl) ?_
                refine lv_istore (lv' := [(7, .int (nI j_p0)), (6, .int (nI a_x70)), (0, .ref h1), (1, .int (nI j_p0)), (2, .int (nI j_p1)), (3, .int (nI j_p2)), (4, .int (nI j_p3)), (5, .int (nI j_p4))]) hx hb dX10_drawn_79 hl (by decide) rfl (fun ls hl => ?_)
                refine lv_iconst (v := 0) hx hb dX10_drawn_81 (by decide) ?_
                refine lv_istore (lv' := [(8, .int 0), (7, .int (nI j_p0)), (6, .int (nI a_x70)), (0, .ref h1), (1, .int (nI j_p0)), (2, .int (nI j_p1)), (3, .int (nI j_p2)), (4, .int (nI j_p3)), (5, .int (nI j_p4))]) hx hb dX10_drawn_82 hl (by decide) rfl (fun ls hl => ?_)
                refine lp_run (x0 := (0, a_x70, j_p0, md0)) (fun xx_ : Nat × Nat × Nat × Int32 => match xx_ with | (x, nw, xx, md) => [(h1, .inr (6, [.int (nI k), .ref a_maps, .int told, .ref a_kinds, v_land, v_spades, .ref a_part, v_pad, v_padMany, v_slips, v_slipMany, .int md, v_queue, v_depth, v_by, v_from, v_come, v_offOf, v_parent, v_best, v_trees, v_least, v_sums, v_toward, v_kept, v_isKept, v_keptAt, v_isWriting])), (a_maps, .inl (gI G, 6, .inl fm)), (a_kinds, .inl (gI G, 4, .inl fk)), (a_part, .inl (gI G, 6, .inl fp))]) (fun xx_ : Nat × Nat × Nat × Int32 => match xx_ with | (x, nw, xx, md) => [(8, .int (nI x)), (7, .int (nI xx)), (6, .int (nI nw)), (0, .ref h1), (1, .int (nI j_p0)), (2, .int (nI j_p1)), (3, .int (nI j_p2)), (4, .int (nI j_p3)), (5, .int (nI j_p4))]) (fun xx_ : Nat × Nat × Nat × Int32 => match xx_ with | (x, nw, xx, md) => (x ≤ j_p3) ∧ (nw < 5 ^ k) ∧ (xx ≤ 65536)) (fun xx_ : Nat × Nat × Nat × Int32 => match xx_ with | (x, nw, xx, md) => j_p3 - x) (hP.sub [0, 1, 2, 3] rfl) (hD.sub [0, 1, 2, 3] (by decide) rfl) hS (lv_sub hl [0, 1, 2, 3, 4, 5, 6, 7, 8] rfl) ⟨(by omega), by omega, by omega⟩ ?_
                intro xx_ hI ih84 H locs ls hP hD hS hl
                obtain ⟨x, nw, xx, md⟩ := xx_
                dsimp only at hI ih84 hP hD hl
                obtain ⟨hx0, hnw, hxx⟩ := hI
                have hl : lv_has ls 10 [(8, .int (nI x)), (7, .int (nI xx)), (6, .int (nI nw)), (0, .ref h1), (1, .int (nI j_p0)), (2, .int (nI j_p1)), (3, .int (nI j_p2)), (4, .int (nI j_p3)), (5, .int (nI j_p4))] := hl
                have hP : va_P G.1 vwCl ([(h1, .inr (6, [.int (nI k), .ref a_maps, .int told, .ref a_kinds, v_land, v_spades, .ref a_part, v_pad, v_padMany, v_slips, v_slipMany, .int md, v_queue, v_depth, v_by, v_from, v_come, v_offOf, v_parent, v_best, v_trees, v_least, v_sums, v_toward, v_kept, v_isKept, v_keptAt, v_isWriting])), (a_maps, .inl (gI G, 6, .inl fm)), (a_kinds, .inl (gI G, 4, .inl fk)), (a_part, .inl (gI G, 6, .inl fp))]) H := hP
                have hD : va_D A ([(h1, .inr (6, [.int (nI k), .ref a_maps, .int told, .ref a_kinds, v_land, v_spades, .ref a_part, v_pad, v_padMany, v_slips, v_slipMany, .int md, v_queue, v_depth, v_by, v_from, v_come, v_offOf, v_parent, v_best, v_trees, v_least, v_sums, v_toward, v_kept, v_isKept, v_keptAt, v_isWriting])), (a_maps, .inl (gI G, 6, .inl fm)), (a_kinds, .inl (gI G, 4, .inl fk)), (a_part, .inl (gI G, 6, .inl fp))]) := hD
                refine lv_iload hx hb dX10_drawn_84 (lv_at hl 0 rfl) ?_
                refine lv_iload hx hb dX10_drawn_86 (lv_at hl 7 rfl) ?_
                refine lv_icmp_ge (tgt := 160) hx hb dX10_drawn_88 (by decide) (fun c71 => ?_) (fun c71 => ?_)
                · have c71 : j_p3 ≤ x := (nI_leI (a := j_p3) (b := x) (by omega) (by omega)).mp c71
                  refine lv_iload hx hb dX10_drawn_160 (lv_at hl 8 rfl) ?_
                  refine lv_iconst (v := (-1)) hx hb dX10_drawn_162 (by decide) ?_
                  refine lv_icmp_ne (tgt := 181) hx hb dX10_drawn_163 (by decide) (fun c72 => ?_) (fun c72 => absurd c72 (by intro q9; have q8 := congrArg Int32.toInt q9; rw [nI_toInt (by omega)] at q8; simp only [Int32.reduceToInt] at q8; omega))
                  refine lv_aload_n hx hb dX10_drawn_181 rfl (lv_at hl 3 rfl) ?_
                  refine lv_iload hx hb dX10_drawn_182 (lv_at hl 2 rfl) ?_
                  refine lv_iload hx hb dX10_drawn_184 (lv_at hl 8 rfl) ?_
                  refine ca_iR (va_runV (As := [.int (nI nw), .int (nI j_p4)]) (rest := []) ⟨hx, hb, hml, hown, hts⟩ (m_signAt l G H.size h1 (.int (nI k)) (.ref a_maps) (.int told) (.ref a_kinds) v_land v_spades v_pad v_padMany v_slips v_slipMany (.int md) v_queue v_depth v_by v_from v_come v_offOf v_parent v_best v_trees v_least v_sums v_toward v_kept v_isKept v_keptAt v_isWriting a_part fp k nw j_p4 hk6 hp (by omega) (by omega)) (cwV 2 hts gX10_drawn_X10_signAt rfl rfl rfl (by decide +kernel) ⟨by decide +kernel, by decide +kernel⟩) (pre_V E hP hD hS hA [0, 3] (by decide) rfl 0 6 rfl rfl) rfl rfl hl.1 rfl (lv_room (Nat.le_of_ble_eq_true rfl)) dX10_drawn_186 ⟨by decide +kernel, by decide +kernel⟩) hS hP hD hA [0, 3] rfl (fun r74 _ H locs w73 hP hS => ?_)
                  rw [w73]
                  refine ca_iR (va_runS (As := [.int (nI (dg k nw j_p4))]) (rest := []) ⟨hx, hb, hml, hown, hts⟩ (m_codeOf l G H.size (nI (dg k nw j_p4))) (va_cwS 1 hts gX10_drawn_X10_codeOf rfl rfl rfl (by decide +kernel) ⟨by decide +kernel, by decide +kernel⟩) (pre_S E hP hD hS hA [] (by decide) rfl) rfl rfl hl.1 rfl (lv_room (Nat.le_of_ble_eq_true rfl)) dX10_drawn_189 ⟨by decide +kernel, by decide +kernel⟩) hS hP hD hA [] rfl (fun r76 _ H locs w75 hP hS => ?_)
                  have hP9 := (hP.sub (ws' := [(h1, .inr (6, [.int (nI k), .ref a_maps, .int told, .ref a_kinds, v_land, v_spades, .ref a_part, v_pad, v_padMany, v_slips, v_slipMany, .int md, v_queue, v_depth, v_by, v_from, v_come, v_offOf, v_parent, v_best, v_trees, v_least, v_sums, v_toward, v_kept, v_isKept, v_keptAt, v_isWriting])), (a_maps, .inl (gI G, 6, .inl fm)), (a_kinds, .inl (gI G, 4, .inl fk)), (a_part, .inl (gI G, 6, .inl fp))]) [0, 1, 2, 3] rfl)
                  have hD9 := (hD.sub (ws' := [(h1, .inr (6, [.int (nI k), .ref a_maps, .int told, .ref a_kinds, v_land, v_spades, .ref a_part, v_pad, v_padMany, v_slips, v_slipMany, .int md, v_queue, v_depth, v_by, v_from, v_come, v_offOf, v_parent, v_best, v_trees, v_least, v_sums, v_toward, v_kept, v_isKept, v_keptAt, v_isWriting])), (a_maps, .inl (gI G, 6, .inl fm)), (a_kinds, .inl (gI G, 4, .inl fk)), (a_part, .inl (gI G, 6, .inl fp))]) [0, 1, 2, 3] (by decide) rfl)
                  exact W.iret (v := r76) hx hb hr (fun t9_ ht9_ hW9_ => ⟨⟨r76, md, rfl, trivial, by rw [ht9_]; exact hP9, hD9⟩, hS.F ht9_⟩) hS.2.2 dX10_drawn_192
                · have c71 : ¬ j_p3 ≤ x := fun h9_ => c71 ((nI_leI (a := j_p3) (b := x) (by omega) (by omega)).mpr h9_)
                  refine lv_ldc2 (v := 75) hx hb hown (hts (.constantLong RX10 234 (75)) (by decide +kernel)) dX10_drawn_91 ?_
                  refine lv_iload hx hb dX10_drawn_94 (lv_at hl 1 rfl) ?_
                  refine lv_i2l hx hb dX10_drawn_96 rfl ?_
                  refine lv_topl (fun x77 ex77 => ?_)
                  refine lv_lmul hx hb dX10_drawn_97 ?_
                  refine lv_topl (fun x78 ex78 => ?_)
                  refine lv_ldc2 (v := 74) hx hb hown (hts (.constantLong RX10 236 (74)) (by decide +kernel)) dX10_drawn_98 ?_
                  refine lv_ladd hx hb dX10_drawn_101 ?_
                  refine lv_topl (fun x79 ex79 => ?_)
                  refine lv_ldc2 (v := 65537) hx hb hown (hts (.constantLong RX10 238 (65537)) (by decide +kernel)) dX10_drawn_102 ?_
                  refine lv_lrem hx hb dX10_drawn_105 (by decide) ?_
                  refine lv_topl (fun x80 ex80 => ?_)
                  refine lv_l2i hx hb dX10_drawn_106 rfl ?_
                  refine lv_topi (fun x81 ex81 => ?_)
                  have hr9 := drw hxx ex77 ex78 ex79 ex80 ex81
                  obtain rfl : x81 = nI ((75 * xx + 74) % 65537) := hr9
                  refine lv_istore (lv' := [(7, .int (nI ((75 * xx + 74) % 65537))), (8, .int (nI x)), (6, .int (nI nw)), (0, .ref h1), (1, .int (nI j_p0)), (2, .int (nI j_p1)), (3, .int (nI j_p2)), (4, .int (nI j_p3)), (5, .int (nI j_p4))]) hx hb dX10_drawn_107 hl (by decide) rfl (fun ls hl => ?_)
                  refine lv_aload_n hx hb dX10_drawn_109 rfl (lv_at hl 3 rfl) ?_
                  refine lv_iload hx hb dX10_drawn_110 (lv_at hl 2 rfl) ?_
                  refine lv_aload_n hx hb dX10_drawn_112 rfl (lv_at hl 3 rfl) ?_
                  refine va_get (D := G.1) (ci := 6) (v := .ref a_kinds) (C := RX10) (T := TX10) (N := 28) hx hb hts (fun _ h => List.mem_cons_of_mem _ (List.mem_append_right _ h)) hown E.K hP 0 rfl rfl 3 (by decide) (hts (.fieldLink RX10 13 "LastMapModel" "kinds" "[I") (by decide +kernel)) (fun _ h9 => h9) rfl dX10_drawn_113 ?_
                  refine lv_iload_n hx hb dX10_drawn_116 rfl (lv_at hl 6 rfl) ?_
                  refine va_iald hx hb E.K hP 2 1 rfl rfl (i := nI j_p2) (vp_in_nI (by omega) (by decide)) dX10_drawn_117 ?_
                  refine lv_topi (fun x82 ex82 => ?_)
                  refine lv_bipush (v := (-6)) hx hb dX10_drawn_118 (by decide) ?_
                  refine ca_i (wr := [(a_maps, .inl (gI G, 6, .inl fm)), (a_kinds, .inl (gI G, 4, .inl fk))]) (va_runV (As := [.int (nI nw), .int x82, .int (-6)]) (rest := []) ⟨hx, hb, hml, hown, hts⟩ (m_slipsFrom l G H.size h1 (.ref a_maps) (.int told) (.ref a_kinds) v_land v_spades v_pad v_padMany v_slips v_slipMany v_queue v_depth v_by v_from v_come v_offOf v_parent v_best v_trees v_least v_sums v_toward v_kept v_isKept v_keptAt v_isWriting a_part fp k nw md x82 (-6) hk2 hk6 hp (by omega)) (cwV 3 hts gX10_drawn_X10_slipsFrom rfl rfl rfl (by decide +kernel) ⟨by decide +kernel, by decide +kernel⟩) (pre_V E hP hD hS hA [0, 3] (by decide) rfl 0 6 rfl rfl) rfl rfl hl.1 rfl (lv_room (Nat.le_of_ble_eq_true rfl)) dX10_drawn_120 ⟨by decide +kernel, by decide +kernel⟩) hS hP hD hA [0, 3] [1, 2] rfl rfl (by decide) (by decide) (fun r84 u85 H locs w83 hP hD hS => ?_)
                  obtain ⟨md1_86, rfl⟩ : ∃ z, z = u85 := ⟨_, rfl⟩
                  try dsimp only at w83 hP hD
                  have hP := (hP.sub (ws' := [(h1, .inr (6, [.int (nI k), .ref a_maps, .int told, .ref a_kinds, v_land, v_spades, .ref a_part, v_pad, v_padMany, v_slips, v_slipMany, .int md1_86, v_queue, v_depth, v_by, v_from, v_come, v_offOf, v_parent, v_best, v_trees, v_least, v_sums, v_toward, v_kept, v_isKept, v_keptAt, v_isWriting])), (a_maps, .inl (gI G, 6, .inl fm)), (a_kinds, .inl (gI G, 4, .inl fk)), (a_part, .inl (gI G, 6, .inl fp))]) [2, 0, 1, 3] rfl)
                  have hD := (hD.sub (ws' := [(h1, .inr (6, [.int (nI k), .ref a_maps, .int told, .ref a_kinds, v_land, v_spades, .ref a_part, v_pad, v_padMany, v_slips, v_slipMany, .int md1_86, v_queue, v_depth, v_by, v_from, v_come, v_offOf, v_parent, v_best, v_trees, v_least, v_sums, v_toward, v_kept, v_isKept, v_keptAt, v_isWriting])), (a_maps, .inl (gI G, 6, .inl fm)), (a_kinds, .inl (gI G, 4, .inl fk)), (a_part, .inl (gI G, 6, .inl fp))]) [2, 0, 1, 3] (by decide) rfl)
                  have hc9 := cSl_le k (bK x82) nw (manyS k)
                  obtain rfl : r84 = nI (cSl k (bK x82) nw (manyS k)) := w83.1
                  refine lv_istore (lv' := [(9, .int (nI (cSl k (bK x82) nw (manyS k)))), (7, .int (nI ((75 * xx + 74) % 65537))), (8, .int (nI x)), (6, .int (nI nw)), (0, .ref h1), (1, .int (nI j_p0)), (2, .int (nI j_p1)), (3, .int (nI j_p2)), (4, .int (nI j_p3)), (5, .int (nI j_p4))]) hx hb dX10_drawn_123 hl (by decide) rfl (fun ls hl => ?_)
                  refine lv_iload hx hb dX10_drawn_125 (lv_at hl 0 rfl) ?_
                  refine lv_if_le (tgt := 154) hx hb dX10_drawn_127 (by decide) (fun c87 => ?_) (fun c87 => ?_)
                  · have c87 : (cSl k (bK x82) nw (manyS k)) ≤ 0 := (nI_leI (a := (cSl k (bK x82) nw (manyS k))) (b := 0) (by omega) (by omega)).mp c87
                    obtain ⟨x88, ex88⟩ : ∃ yy_ : Int32, yy_ = (nI x) + 1 := ⟨_, rfl⟩
                    refine lv_iinc (v := x88) (lv' := [(8, .int x88), (9, .int (nI (cSl k (bK x82) nw (manyS k)))), (7, .int (nI ((75 * xx + 74) % 65537))), (6, .int (nI nw)), (0, .ref h1), (1, .int (nI j_p0)), (2, .int (nI j_p1)), (3, .int (nI j_p2)), (4, .int (nI j_p3)), (5, .int (nI j_p4))]) hx hb dX10_drawn_154 hl (k := 2) rfl (by rw [ex88]; rfl) (by decide) rfl (fun ls hl => ?_)
                    obtain rfl : x88 = nI (x + 1) := by rw [ex88]; exact nI_add x 1
                    refine lv_goto (tgt := 84) hx hb dX10_drawn_157 (by decide) ?_
                    refine ih84 ((x + 1), nw, ((75 * xx + 74) % 65537), md1_86) ⟨?_, ?_, ?_⟩ (by first | omega | (dsimp only; omega)) H locs ls (hP.sub [0, 1, 2, 3] rfl) (hD.sub [0, 1, 2, 3] (by decide) rfl) hS (lv_sub hl [0, 2, 3, 4, 5, 6, 7, 8, 9] rfl)
                    · try dsimp only
                      omega
                    · try dsimp only
                      omega
                    · try dsimp only
                      omega
                  · have c87 : ¬ (cSl k (bK x82) nw (manyS k)) ≤ 0 := fun h9_ => c87 ((nI_leI (a := (cSl k (bK x82) nw (manyS k))) (b := 0) (by omega) (by omega)).mpr h9_)
                    refine lv_aload_n hx hb dX10_drawn_130 rfl (lv_at hl 4 rfl) ?_
                    refine lv_iload hx hb dX10_drawn_131 (lv_at hl 3 rfl) ?_
                    refine lv_aload_n hx hb dX10_drawn_133 rfl (lv_at hl 4 rfl) ?_
                    refine va_get (D := G.1) (ci := 6) (v := .ref a_kinds) (C := RX10) (T := TX10) (N := 28) hx hb hts (fun _ h => List.mem_cons_of_mem _ (List.mem_append_right _ h)) hown E.K hP 0 rfl rfl 3 (by decide) (hts (.fieldLink RX10 13 "LastMapModel" "kinds" "[I") (by decide +kernel)) (fun _ h9 => h9) rfl dX10_drawn_134 ?_
                    refine lv_iload_n hx hb dX10_drawn_137 rfl (lv_at hl 7 rfl) ?_
                    refine va_iald hx hb E.K hP 2 1 rfl rfl (i := nI j_p2) (vp_in_nI (by omega) (by decide)) dX10_drawn_138 ?_
                    refine lv_topi (fun x89 ex89 => ?_)
                    refine lv_iload hx hb dX10_drawn_139 (lv_at hl 1 rfl) ?_
                    refine lv_iload hx hb dX10_drawn_141 (lv_at hl 0 rfl) ?_
                    refine lv_irem hx hb dX10_drawn_143 (nI_ne0 (by omega) (by omega)) ?_
                    refine lv_topi (fun x90 ex90 => ?_)
                    obtain rfl : x90 = nI ((75 * xx + 74) % 65537 % cSl k (bK x82) nw (manyS k)) := by rw [ex90]; exact pk_rem (by omega) (by omega) (by omega)
                    refine ca_i (wr := [(a_maps, .inl (gI G, 6, .inl fm)), (a_kinds, .inl (gI G, 4, .inl fk))]) (va_runV (As := [.int (nI nw), .int x89, .int (nI ((75 * xx + 74) % 65537 % cSl k (bK x82) nw (manyS k)))]) (rest := []) ⟨hx, hb, hml, hown, hts⟩ (m_slipsFrom l G H.size h1 (.ref a_maps) (.int told) (.ref a_kinds) v_land v_spades v_pad v_padMany v_slips v_slipMany v_queue v_depth v_by v_from v_come v_offOf v_parent v_best v_trees v_least v_sums v_toward v_kept v_isKept v_keptAt v_isWriting a_part fp k nw md1_86 x89 (nI ((75 * xx + 74) % 65537 % cSl k (bK x82) nw (manyS k))) hk2 hk6 hp (by omega)) (cwV 3 hts gX10_drawn_X10_slipsFrom rfl rfl rfl (by decide +kernel) ⟨by decide +kernel, by decide +kernel⟩) (pre_V E hP hD hS hA [0, 3] (by decide) rfl 0 6 rfl rfl) rfl rfl hl.1 rfl (lv_room (Nat.le_of_ble_eq_true rfl)) dX10_drawn_144 ⟨by decide +kernel, by decide +kernel⟩) hS hP hD hA [0, 3] [1, 2] rfl rfl (by decide) (by decide) (fun r92 u93 H locs w91 hP hD hS => ?_)
                    obtain ⟨md1_94, rfl⟩ : ∃ z, z = u93 := ⟨_, rfl⟩
                    try dsimp only at w91 hP hD
                    have hP := (hP.sub (ws' := [(h1, .inr (6, [.int (nI k), .ref a_maps, .int told, .ref a_kinds, v_land, v_spades, .ref a_part, v_pad, v_padMany, v_slips, v_slipMany, .int md1_94, v_queue, v_depth, v_by, v_from, v_come, v_offOf, v_parent, v_best, v_trees, v_least, v_sums, v_toward, v_kept, v_isKept, v_keptAt, v_isWriting])), (a_maps, .inl (gI G, 6, .inl fm)), (a_kinds, .inl (gI G, 4, .inl fk)), (a_part, .inl (gI G, 6, .inl fp))]) [2, 0, 1, 3] rfl)
                    have hD := (hD.sub (ws' := [(h1, .inr (6, [.int (nI k), .ref a_maps, .int told, .ref a_kinds, v_land, v_spades, .ref a_part, v_pad, v_padMany, v_slips, v_slipMany, .int md1_94, v_queue, v_depth, v_by, v_from, v_come, v_offOf, v_parent, v_best, v_trees, v_least, v_sums, v_toward, v_kept, v_isKept, v_keptAt, v_isWriting])), (a_maps, .inl (gI G, 6, .inl fm)), (a_kinds, .inl (gI G, 4, .inl fk)), (a_part, .inl (gI G, 6, .inl fp))]) [2, 0, 1, 3] (by decide) rfl)
                    refine lv_pop hx hb dX10_drawn_147 rfl ?_
                    refine lv_aload_n hx hb dX10_drawn_148 rfl (lv_at hl 4 rfl) ?_
                    refine va_get (D := G.1) (ci := 6) (v := .int md1_94) (C := RX10) (T := TX10) (N := 28) hx hb hts (fun _ h => List.mem_cons_of_mem _ (List.mem_append_right _ h)) hown E.K hP 0 rfl rfl 11 (by decide) (hts (.fieldLink RX10 149 "LastMapModel" "made" "I") (by decide +kernel)) (fun _ h9 => h9) rfl dX10_drawn_149 ?_
                    obtain ⟨nw9, hnw9, enw9⟩ := w91.2 _ rfl (by rw [show x89 = x82 by rw [ex89, ex82]]; exact Nat.mod_lt _ (by omega))
                    refine W.eq (g2 := F0 m 152 ls [.int (nI nw9)]) (by rw [enw9]) ?_
                    refine lv_istore (lv' := [(6, .int (nI nw9)), (9, .int (nI (cSl k (bK x82) nw (manyS k)))), (7, .int (nI ((75 * xx + 74) % 65537))), (8, .int (nI x)), (0, .ref h1), (1, .int (nI j_p0)), (2, .int (nI j_p1)), (3, .int (nI j_p2)), (4, .int (nI j_p3)), (5, .int (nI j_p4))]) hx hb dX10_drawn_152 hl (by decide) rfl (fun ls hl => ?_)
                    obtain ⟨x95, ex95⟩ : ∃ yy_ : Int32, yy_ = (nI x) + 1 := ⟨_, rfl⟩
                    refine lv_iinc (v := x95) (lv' := [(8, .int x95), (6, .int (nI nw9)), (9, .int (nI (cSl k (bK x82) nw (manyS k)))), (7, .int (nI ((75 * xx + 74) % 65537))), (0, .ref h1), (1, .int (nI j_p0)), (2, .int (nI j_p1)), (3, .int (nI j_p2)), (4, .int (nI j_p3)), (5, .int (nI j_p4))]) hx hb dX10_drawn_154 hl (k := 3) rfl (by rw [ex95]; rfl) (by decide) rfl (fun ls hl => ?_)
                    obtain rfl : x95 = nI (x + 1) := by rw [ex95]; exact nI_add x 1
                    refine lv_goto (tgt := 84) hx hb dX10_drawn_157 (by decide) ?_
                    refine ih84 ((x + 1), nw9, ((75 * xx + 74) % 65537), md1_94) ⟨?_, ?_, ?_⟩ (by first | omega | (dsimp only; omega)) H locs ls (hP.sub [0, 1, 2, 3] rfl) (hD.sub [0, 1, 2, 3] (by decide) rfl) hS (lv_sub hl [0, 3, 1, 4, 5, 6, 7, 8, 9] rfl)
                    · try dsimp only
                      omega
                    · try dsimp only
                      omega
                    · try dsimp only
                      omega
              · refine lv_if_ne (tgt := 70) hx hb dX10_drawn_64 (by decide) (fun c96 => False.elim (by revert c96; decide)) (fun _ => ?_)
                refine lv_bipush (v := (-3)) hx hb dX10_drawn_67 (by decide) ?_
                have hP9 := (hP.sub (ws' := [(h1, .inr (6, [.int (nI k), .ref a_maps, .int told, .ref a_kinds, v_land, v_spades, .ref a_part, v_pad, v_padMany, v_slips, v_slipMany, .int md0, v_queue, v_depth, v_by, v_from, v_come, v_offOf, v_parent, v_best, v_trees, v_least, v_sums, v_toward, v_kept, v_isKept, v_keptAt, v_isWriting])), (a_maps, .inl (gI G, 6, .inl fm)), (a_kinds, .inl (gI G, 4, .inl fk)), (a_part, .inl (gI G, 6, .inl fp))]) [0, 1, 2, 3] rfl)
                have hD9 := (hD.sub (ws' := [(h1, .inr (6, [.int (nI k), .ref a_maps, .int told, .ref a_kinds, v_land, v_spades, .ref a_part, v_pad, v_padMany, v_slips, v_slipMany, .int md0, v_queue, v_depth, v_by, v_from, v_come, v_offOf, v_parent, v_best, v_trees, v_least, v_sums, v_toward, v_kept, v_isKept, v_keptAt, v_isWriting])), (a_maps, .inl (gI G, 6, .inl fm)), (a_kinds, .inl (gI G, 4, .inl fk)), (a_part, .inl (gI G, 6, .inl fp))]) [0, 1, 2, 3] (by decide) rfl)
                exact W.iret (v := (-3)) hx hb hr (fun t9_ ht9_ hW9_ => ⟨⟨(-3), md0, rfl, trivial, by rw [ht9_]; exact hP9, hD9⟩, hS.F ht9_⟩) hS.2.2 dX10_drawn_69
            · refine lv_if_ne (tgt := 59) hx hb dX10_drawn_53 (by decide) (fun c97 => False.elim (by revert c97; decide)) (fun _ => ?_)
              refine lv_bipush (v := (-2)) hx hb dX10_drawn_56 (by decide) ?_
              have hP9 := (hP.sub (ws' := [(h1, .inr (6, [.int (nI k), .ref a_maps, .int told, .ref a_kinds, v_land, v_spades, .ref a_part, v_pad, v_padMany, v_slips, v_slipMany, .int md0, v_queue, v_depth, v_by, v_from, v_come, v_offOf, v_parent, v_best, v_trees, v_least, v_sums, v_toward, v_kept, v_isKept, v_keptAt, v_isWriting])), (a_maps, .inl (gI G, 6, .inl fm)), (a_kinds, .inl (gI G, 4, .inl fk)), (a_part, .inl (gI G, 6, .inl fp))]) [0, 1, 2, 3] rfl)
              have hD9 := (hD.sub (ws' := [(h1, .inr (6, [.int (nI k), .ref a_maps, .int told, .ref a_kinds, v_land, v_spades, .ref a_part, v_pad, v_padMany, v_slips, v_slipMany, .int md0, v_queue, v_depth, v_by, v_from, v_come, v_offOf, v_parent, v_best, v_trees, v_least, v_sums, v_toward, v_kept, v_isKept, v_keptAt, v_isWriting])), (a_maps, .inl (gI G, 6, .inl fm)), (a_kinds, .inl (gI G, 4, .inl fk)), (a_part, .inl (gI G, 6, .inl fp))]) [0, 1, 2, 3] (by decide) rfl)
              exact W.iret (v := (-2)) hx hb hr (fun t9_ ht9_ hW9_ => ⟨⟨(-2), md0, rfl, trivial, by rw [ht9_]; exact hP9, hD9⟩, hS.F ht9_⟩) hS.2.2 dX10_drawn_58
          · refine lv_if_eq (tgt := 56) hx hb dX10_drawn_40 (by decide) (fun _ => ?_) (fun c98 => False.elim (by revert c98; decide))
            refine lv_bipush (v := (-2)) hx hb dX10_drawn_56 (by decide) ?_
            have hP9 := (hP.sub (ws' := [(h1, .inr (6, [.int (nI k), .ref a_maps, .int told, .ref a_kinds, v_land, v_spades, .ref a_part, v_pad, v_padMany, v_slips, v_slipMany, .int md0, v_queue, v_depth, v_by, v_from, v_come, v_offOf, v_parent, v_best, v_trees, v_least, v_sums, v_toward, v_kept, v_isKept, v_keptAt, v_isWriting])), (a_maps, .inl (gI G, 6, .inl fm)), (a_kinds, .inl (gI G, 4, .inl fk)), (a_part, .inl (gI G, 6, .inl fp))]) [0, 1, 2, 3] rfl)
            have hD9 := (hD.sub (ws' := [(h1, .inr (6, [.int (nI k), .ref a_maps, .int told, .ref a_kinds, v_land, v_spades, .ref a_part, v_pad, v_padMany, v_slips, v_slipMany, .int md0, v_queue, v_depth, v_by, v_from, v_come, v_offOf, v_parent, v_best, v_trees, v_least, v_sums, v_toward, v_kept, v_isKept, v_keptAt, v_isWriting])), (a_maps, .inl (gI G, 6, .inl fm)), (a_kinds, .inl (gI G, 4, .inl fk)), (a_part, .inl (gI G, 6, .inl fp))]) [0, 1, 2, 3] (by decide) rfl)
            exact W.iret (v := (-2)) hx hb hr (fun t9_ ht9_ hW9_ => ⟨⟨(-2), md0, rfl, trivial, by rw [ht9_]; exact hP9, hD9⟩, hS.F ht9_⟩) hS.2.2 dX10_drawn_58
        · refine lv_if_ne (tgt := 31) hx hb dX10_drawn_26 (by decide) (fun c99 => False.elim (by revert c99; decide)) (fun _ => ?_)
          refine lv_iconst (v := (-1)) hx hb dX10_drawn_29 (by decide) ?_
          have hP9 := (hP.sub (ws' := [(h1, .inr (6, [.int (nI k), .ref a_maps, .int told, .ref a_kinds, v_land, v_spades, .ref a_part, v_pad, v_padMany, v_slips, v_slipMany, .int md0, v_queue, v_depth, v_by, v_from, v_come, v_offOf, v_parent, v_best, v_trees, v_least, v_sums, v_toward, v_kept, v_isKept, v_keptAt, v_isWriting])), (a_maps, .inl (gI G, 6, .inl fm)), (a_kinds, .inl (gI G, 4, .inl fk)), (a_part, .inl (gI G, 6, .inl fp))]) [0, 1, 2, 3] rfl)
          have hD9 := (hD.sub (ws' := [(h1, .inr (6, [.int (nI k), .ref a_maps, .int told, .ref a_kinds, v_land, v_spades, .ref a_part, v_pad, v_padMany, v_slips, v_slipMany, .int md0, v_queue, v_depth, v_by, v_from, v_come, v_offOf, v_parent, v_best, v_trees, v_least, v_sums, v_toward, v_kept, v_isKept, v_keptAt, v_isWriting])), (a_maps, .inl (gI G, 6, .inl fm)), (a_kinds, .inl (gI G, 4, .inl fk)), (a_part, .inl (gI G, 6, .inl fp))]) [0, 1, 2, 3] (by decide) rfl)
          exact W.iret (v := (-1)) hx hb hr (fun t9_ ht9_ hW9_ => ⟨⟨(-1), md0, rfl, trivial, by rw [ht9_]; exact hP9, hD9⟩, hS.F ht9_⟩) hS.2.2 dX10_drawn_30
    · refine lv_if_eq (tgt := 29) hx hb dX10_drawn_11 (by decide) (fun _ => ?_) (fun c100 => False.elim (by revert c100; decide))
      refine lv_iconst (v := (-1)) hx hb dX10_drawn_29 (by decide) ?_
      have hP9 := (hP.sub (ws' := [(h1, .inr (6, [.int (nI k), .ref a_maps, .int told, .ref a_kinds, v_land, v_spades, .ref a_part, v_pad, v_padMany, v_slips, v_slipMany, .int md0, v_queue, v_depth, v_by, v_from, v_come, v_offOf, v_parent, v_best, v_trees, v_least, v_sums, v_toward, v_kept, v_isKept, v_keptAt, v_isWriting])), (a_maps, .inl (gI G, 6, .inl fm)), (a_kinds, .inl (gI G, 4, .inl fk)), (a_part, .inl (gI G, 6, .inl fp))]) [0, 1, 2, 3] rfl)
      have hD9 := (hD.sub (ws' := [(h1, .inr (6, [.int (nI k), .ref a_maps, .int told, .ref a_kinds, v_land, v_spades, .ref a_part, v_pad, v_padMany, v_slips, v_slipMany, .int md0, v_queue, v_depth, v_by, v_from, v_come, v_offOf, v_parent, v_best, v_trees, v_least, v_sums, v_toward, v_kept, v_isKept, v_keptAt, v_isWriting])), (a_maps, .inl (gI G, 6, .inl fm)), (a_kinds, .inl (gI G, 4, .inl fk)), (a_part, .inl (gI G, 6, .inl fp))]) [0, 1, 2, 3] (by decide) rfl)
      exact W.iret (v := (-1)) hx hb hr (fun t9_ ht9_ hW9_ => ⟨⟨(-1), md0, rfl, trivial, by rw [ht9_]; exact hP9, hD9⟩, hS.F ht9_⟩) hS.2.2 dX10_drawn_30
  · refine lv_if_eq (tgt := 29) hx hb dX10_drawn_4 (by decide) (fun _ => ?_) (fun c101 => False.elim (by revert c101; decide))
    refine lv_iconst (v := (-1)) hx hb dX10_drawn_29 (by decide) ?_
    have hP9 := (hP.sub (ws' := [(h1, .inr (6, [.int (nI k), .ref a_maps, .int told, .ref a_kinds, v_land, v_spades, .ref a_part, v_pad, v_padMany, v_slips, v_slipMany, .int md0, v_queue, v_depth, v_by, v_from, v_come, v_offOf, v_parent, v_best, v_trees, v_least, v_sums, v_toward, v_kept, v_isKept, v_keptAt, v_isWriting])), (a_maps, .inl (gI G, 6, .inl fm)), (a_kinds, .inl (gI G, 4, .inl fk)), (a_part, .inl (gI G, 6, .inl fp))]) [0, 1, 2, 3] rfl)
    have hD9 := (hD.sub (ws' := [(h1, .inr (6, [.int (nI k), .ref a_maps, .int told, .ref a_kinds, v_land, v_spades, .ref a_part, v_pad, v_padMany, v_slips, v_slipMany, .int md0, v_queue, v_depth, v_by, v_from, v_come, v_offOf, v_parent, v_best, v_trees, v_least, v_sums, v_toward, v_kept, v_isKept, v_keptAt, v_isWriting])), (a_maps, .inl (gI G, 6, .inl fm)), (a_kinds, .inl (gI G, 4, .inl fk)), (a_part, .inl (gI G, 6, .inl fp))]) [0, 1, 2, 3] (by decide) rfl)
    exact W.iret (v := (-1)) hx hb hr (fun t9_ ht9_ hW9_ => ⟨⟨(-1), md0, rfl, trivial, by rw [ht9_]; exact hP9, hD9⟩, hS.F ht9_⟩) hS.2.2 dX10_drawn_30
