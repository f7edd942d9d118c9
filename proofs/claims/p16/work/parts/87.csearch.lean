set_option maxHeartbeats 1000000 in
set_option maxRecDepth 100000 in
theorem h_takeOldest (l : Launch) (G : Gy) (H0 : Heap) (sr : Nat) (rt : Nat) (ru : Nat) (ol : Int32) (ft : Nat → Option Nat) (gu : Nat → Int32) (T : va_W) (hT : PL2 G ft T) : ChR l G yX4_takeOldest wsX4_takeOldest ({ frames := 2, cells := 3, slots := 31257, locals := 32 }) [.ref sr] ([(sr, .inr (2, [.ref rt, .ref ru, .int ol])), (rt, .inl (gT G, 8, .inr (.inr (.inr (.inr ft))))), (ru, .inl (gI G, 15625, .inl gu))] ++ T) H0 (fun (u : Int32 × (Nat → Option Nat) × Nat × Nat × Nat × Int32 × Int32 × Int32 × Int32 × Int32 × (Nat → Int32) × (Nat → Int32) × va_W × Nat) => match u with | (ol1, ft1, t1, ta1, tq1, qd1, se1, go1, ki1, nn1, fs1, fq1, T1, k1) => (TL2 G ft1 (t1, ta1, tq1, qd1, se1, go1, ki1, nn1, fs1, fq1) T1 ∧ tokS (t1, ta1, tq1, qd1, se1, go1, ki1, nn1, fs1, fq1)) ∧ cntS ft1 8 = cntS ft 8 + k1 ∧ k1 ≤ 1) (fun (u : Int32 × (Nat → Option Nat) × Nat × Nat × Nat × Int32 × Int32 × Int32 × Int32 × Int32 × (Nat → Int32) × (Nat → Int32) × va_W × Nat) => match u with | (ol1, ft1, t1, ta1, tq1, qd1, se1, go1, ki1, nn1, fs1, fq1, T1, k1) => t1) (fun (u : Int32 × (Nat → Option Nat) × Nat × Nat × Nat × Int32 × Int32 × Int32 × Int32 × Int32 × (Nat → Int32) × (Nat → Int32) × va_W × Nat) => (match u with | (ol1, ft1, t1, ta1, tq1, qd1, se1, go1, ki1, nn1, fs1, fq1, T1, k1) => [(sr, .inr (2, [.ref rt, .ref ru, .int ol1])), (rt, .inl (gT G, 8, .inr (.inr (.inr (.inr ft1))))), (ru, .inl (gI G, 15625, .inl gu)), (t1, .inr (3, [.ref ta1, .ref tq1, .int qd1, .int se1, .int go1, .int ki1, .int nn1])), (ta1, .inl (gB G, 15625, .inl fs1)), (tq1, .inl (gI G, 15625, .inl fq1))]) ++ (match u with | (ol1, ft1, t1, ta1, tq1, qd1, se1, go1, ki1, nn1, fs1, fq1, T1, k1) => T1)) (fun (u : Int32 × (Nat → Option Nat) × Nat × Nat × Nat × Int32 × Int32 × Int32 × Int32 × Int32 × (Nat → Int32) × (Nat → Int32) × va_W × Nat) => match u with | (ol1, ft1, t1, ta1, tq1, qd1, se1, go1, ki1, nn1, fs1, fq1, T1, k1) => 3 * k1) (fun (u : Int32 × (Nat → Option Nat) × Nat × Nat × Nat × Int32 × Int32 × Int32 × Int32 × Int32 × (Nat → Int32) × (Nat → Int32) × va_W × Nat) => match u with | (ol1, ft1, t1, ta1, tq1, qd1, se1, go1, ki1, nn1, fs1, fq1, T1, k1) => 31257 * k1) 3 31257 := by
  refine Met.ofW (cc := cX4_takeOldest) (maxL := 3) (ret := (some (.object "LastMap$Table"))) (by decide) rfl ?_
  intro p e s m args below meth c s₁ B hml hv
  obtain ⟨rfl, hsz, hP, hD0, E0⟩ := hv
  have hx := B.exec
  have hb := B.bytes
  have hr := B.returns
  have hts := atoms_spec (ws := wsX4_takeOldest) B.pre
  have hown : s.vm.findClass RX4 = some m.cls := findClass_of_methodNamed B.named
  have hlocks := B.notSynchronized
  subst hsz
  have hD := hD0.self (sz := s.heap.size)
  generalize hAe : va_A ([(sr, .inr (2, [.ref rt, .ref ru, .int ol])), (rt, .inl (gT G, 8, .inr (.inr (.inr (.inr ft))))), (ru, .inl (gI G, 15625, .inl gu))] ++ T) s.heap.size = A at hD E0 ⊢
  have E : EV G A s s.heap := E0
  have hA : ∀ q : Nat, s.heap.size ≤ q → A q := fun q h => by rw [← hAe]; exact Or.inr h
  have hS : va_S A s.heap s.heap [] := va_S.rf
  have hl := lv_entry ([.ref sr]) (n := 3) (Nat.le_of_ble_eq_true rfl)
  rw [lg_entry_eq]
  generalize (lg_sl ([.ref sr]) ++ List.replicate (3 - (lg_sl ([.ref sr])).length) Slot.unset).toArray = ls at hl ⊢
  have hl : lv_has ls 3 [(0, .ref sr)] := hl
  have hP : va_P G.1 vwCl ([(sr, .inr (2, [.ref rt, .ref ru, .int ol])), (rt, .inl (gT G, 8, .inr (.inr (.inr (.inr ft))))), (ru, .inl (gI G, 15625, .inl gu))] ++ T) s.heap := hP
  refine lv_aload_n hx hb dX4_takeOldest_0 rfl (lv_at hl 0 rfl) ?_
  refine va_get (D := G.1) (ci := 2) (v := .int ol) (C := RX4) (T := TX4) (N := 3) hx hb hts (fun _ h => List.mem_cons_of_mem _ (List.mem_append_left _ (List.mem_append_right _ h))) hown E.K hP 0 rfl rfl 2 (by decide) (hts (.fieldLink RX4 35 "LastMap$Search" "oldest" "I") (by decide +kernel)) (fun _ h9 => h9) rfl dX4_takeOldest_1 ?_
  refine lv_if_lt (tgt := 26) hx hb dX4_takeOldest_4 (by decide) (fun c1 => ?_) (fun c1 => ?_)
  · refine lv_iconst (v := 0) hx hb dX4_takeOldest_26 (by decide) ?_
    refine lv_istore_n (lv' := [(1, .int 0), (0, .ref sr)]) hx hb dX4_takeOldest_27 rfl hl (by decide) rfl (fun ls hl => ?_)
    refine lv_aload_n hx hb dX4_takeOldest_28 rfl (lv_at hl 1 rfl) ?_
    refine lv_iload_n hx hb dX4_takeOldest_29 rfl (lv_at hl 0 rfl) ?_
    refine lv_iconst (v := 1) hx hb dX4_takeOldest_30 (by decide) ?_
    refine lv_iadd hx hb dX4_takeOldest_31 ?_
    refine lv_topi (fun x2 ex2 => ?_)
    obtain rfl : x2 = 1 := by rw [ex2]; decide
    refine va_put (D := G.1) (ci := 2) (v := .int 1) (ty := .int) (C := RX4) (T := TX4) (N := 3) hx hb hts (fun _ h => List.mem_cons_of_mem _ (List.mem_append_left _ (List.mem_append_right _ h))) tyX4 tyX4_ok nmX4 hown E.K hP hD hS 0 rfl rfl 2 (by decide) (hts (.fieldLink RX4 35 "LastMap$Search" "oldest" "I") (by decide +kernel)) (fun _ h9 => h9) rfl (by decide +kernel) rfl rfl (Nat.le_of_ble_eq_true rfl) dX4_takeOldest_32 (fun H locs hP hD hS => ?_)
    have hP : va_P G.1 vwCl ([(sr, .inr (2, [.ref rt, .ref ru, .int 1])), (rt, .inl (gT G, 8, .inr (.inr (.inr (.inr ft))))), (ru, .inl (gI G, 15625, .inl gu))] ++ T) H := hP
    have hD : va_D A ([(sr, .inr (2, [.ref rt, .ref ru, .int 1])), (rt, .inl (gT G, 8, .inr (.inr (.inr (.inr ft))))), (ru, .inl (gI G, 15625, .inl gu))] ++ T) := hD
    refine lv_aload_n hx hb dX4_takeOldest_35 rfl (lv_at hl 1 rfl) ?_
    refine va_get (D := G.1) (ci := 2) (v := .ref rt) (C := RX4) (T := TX4) (N := 3) hx hb hts (fun _ h => List.mem_cons_of_mem _ (List.mem_append_left _ (List.mem_append_right _ h))) hown E.K hP 0 rfl rfl 0 (by decide) (hts (.fieldLink RX4 13 "LastMap$Search" "tables" "[LLastMap$Table;") (by decide +kernel)) (fun _ h9 => h9) rfl dX4_takeOldest_36 ?_
    refine lv_iload_n hx hb dX4_takeOldest_39 rfl (lv_at hl 0 rfl) ?_
    refine va_aldq hx hb E.K hP 1 4 rfl rfl (i := 0) (by unfold vp_in; decide) dX4_takeOldest_40 ?_
    obtain ⟨o_, ho⟩ : ∃ o_, o_ = ft (0 : Int32).toNatClampNeg := ⟨_, rfl⟩
    rw [← ho]
    rcases o_ with _ | t0
    · refine lv_astore_nN (lv' := [(2, .null), (1, .int 0), (0, .ref sr)]) hx hb dX4_takeOldest_41 rfl hl (by decide) rfl (fun ls hl => ?_)
      refine lv_aload_nN hx hb dX4_takeOldest_42 rfl (lv_at hl 0 rfl) ?_
      refine lv_ifnonnullN hx hb dX4_takeOldest_43 ?_
      refine va_new (ci := 3) (fs := [.null, .null, .int 0, .int 0, .int 0, .int 0, .int 0]) (C := RX7) (T := TX7) (N := 7) hx hb hts (fun _ h => List.mem_cons_of_mem _ (List.mem_append_right _ h)) tyX7 tyX7_ok hown (hts (.classLink RX4 11 RX7) (by decide +kernel)) (hts (.instantiable RX7 7) (by decide +kernel)) (hts (.initialized RX7) (by decide +kernel)) E.K hP hD hS hA rfl (by decide +kernel) (by decide +kernel) (by decide +kernel) dX4_takeOldest_46 (fun q9z3 H hP hD hS => ?_)
      have hP := P_perm (perm_snoc _ _ _) hP
      have hD := D_perm (perm_snoc _ _ _) hD
      have hP : va_P G.1 vwCl ([(sr, .inr (2, [.ref rt, .ref ru, .int 1])), (rt, .inl (gT G, 8, .inr (.inr (.inr (.inr ft))))), (ru, .inl (gI G, 15625, .inl gu)), (q9z3, .inr (3, [.null, .null, .int 0, .int 0, .int 0, .int 0, .int 0]))] ++ T) H := hP
      have hD : va_D A ([(sr, .inr (2, [.ref rt, .ref ru, .int 1])), (rt, .inl (gT G, 8, .inr (.inr (.inr (.inr ft))))), (ru, .inl (gI G, 15625, .inl gu)), (q9z3, .inr (3, [.null, .null, .int 0, .int 0, .int 0, .int 0, .int 0]))] ++ T) := hD
      refine lv_dup hx hb dX4_takeOldest_49 rfl ?_
      refine ca_vQ (wr := [(sr, .inr (2, [.ref rt, .ref ru, .int 1])), (rt, .inl (gT G, 8, .inr (.inr (.inr (.inr ft))))), (ru, .inl (gI G, 15625, .inl gu))]) (va_runIN (As := []) (rest := [.ref q9z3]) ⟨hx, hb, hml, hown, hts⟩ (c_Table l G H.size q9z3) ⟨va_cnB 0 hts gX4_takeOldest_X7_init_n39 rfl rfl rfl E.n39 (hts (.initialized RX7) (by decide +kernel)) (by decide +kernel) ⟨by decide +kernel, by decide +kernel⟩, rfl, hts (.instanceMethod yX7_init) (by decide +kernel)⟩ (pre_S E hP hD hS hA [3] (by decide) rfl) rfl rfl hl.1 rfl (lv_room (Nat.le_of_ble_eq_true rfl)) dX4_takeOldest_50 ⟨show 1 + 2 ≤ 3 by omega, show 7 + 31250 ≤ 31257 by omega⟩) hS hP hD hA [3] [0, 1, 2] rfl rfl (by decide) (by decide) (fun u6 H locs w4 hP hD hS => ?_)
      obtain ⟨ta1_7, tq1_8⟩ := u6
      try dsimp only at w4 hP hD
      have hP := (P_subT (X' := [(sr, .inr (2, [.ref rt, .ref ru, .int 1])), (rt, .inl (gT G, 8, .inr (.inr (.inr (.inr ft))))), (ru, .inl (gI G, 15625, .inl gu)), (q9z3, .inr (3, [.ref ta1_7, .ref tq1_8, .int 0, .int 0, .int 0, .int 0, .int 0])), (ta1_7, .inl (gB G, 15625, .inl (fun _ => 0))), (tq1_8, .inl (gI G, 15625, .inl (fun _ => 0)))]) hP [0, 1, 2, 3, 4, 5] rfl)
      have hD := (D_subT (X' := [(sr, .inr (2, [.ref rt, .ref ru, .int 1])), (rt, .inl (gT G, 8, .inr (.inr (.inr (.inr ft))))), (ru, .inl (gI G, 15625, .inl gu)), (q9z3, .inr (3, [.ref ta1_7, .ref tq1_8, .int 0, .int 0, .int 0, .int 0, .int 0])), (ta1_7, .inl (gB G, 15625, .inl (fun _ => 0))), (tq1_8, .inl (gI G, 15625, .inl (fun _ => 0)))]) hD [0, 1, 2, 3, 4, 5] (by decide) rfl)
      refine lv_astore_n (lv' := [(2, .ref q9z3), (1, .int 0), (0, .ref sr)]) hx hb dX4_takeOldest_53 rfl hl (by decide) rfl (fun ls hl => ?_)
      refine lv_aload_n hx hb dX4_takeOldest_54 rfl (lv_at hl 2 rfl) ?_
      refine va_get (D := G.1) (ci := 2) (v := .ref rt) (C := RX4) (T := TX4) (N := 3) hx hb hts (fun _ h => List.mem_cons_of_mem _ (List.mem_append_left _ (List.mem_append_right _ h))) hown E.K hP 0 rfl rfl 0 (by decide) (hts (.fieldLink RX4 13 "LastMap$Search" "tables" "[LLastMap$Table;") (by decide +kernel)) (fun _ h9 => h9) rfl dX4_takeOldest_55 ?_
      refine lv_iload_n hx hb dX4_takeOldest_58 rfl (lv_at hl 1 rfl) ?_
      refine lv_aload_n hx hb dX4_takeOldest_59 rfl (lv_at hl 0 rfl) ?_
      refine va_astq hx hb E.K hP hD hS 1 4 3 3 rfl rfl rfl rfl (i := 0) (by unfold vp_in; decide) dX4_takeOldest_60 (fun H locs hP hD hS => ?_)
      have hP : va_P G.1 vwCl ([(sr, .inr (2, [.ref rt, .ref ru, .int 1])), (rt, .inl (gT G, 8, .inr (.inr (.inr (.inr (va_up ft (0 : Int32).toNatClampNeg (some q9z3))))))), (ru, .inl (gI G, 15625, .inl gu)), (q9z3, .inr (3, [.ref ta1_7, .ref tq1_8, .int 0, .int 0, .int 0, .int 0, .int 0])), (ta1_7, .inl (gB G, 15625, .inl (fun _ => 0))), (tq1_8, .inl (gI G, 15625, .inl (fun _ => 0)))] ++ T) H := hP
      have hD : va_D A ([(sr, .inr (2, [.ref rt, .ref ru, .int 1])), (rt, .inl (gT G, 8, .inr (.inr (.inr (.inr (va_up ft (0 : Int32).toNatClampNeg (some q9z3))))))), (ru, .inl (gI G, 15625, .inl gu)), (q9z3, .inr (3, [.ref ta1_7, .ref tq1_8, .int 0, .int 0, .int 0, .int 0, .int 0])), (ta1_7, .inl (gB G, 15625, .inl (fun _ => 0))), (tq1_8, .inl (gI G, 15625, .inl (fun _ => 0)))] ++ T) := hD
      refine lv_aload_n hx hb dX4_takeOldest_61 rfl (lv_at hl 0 rfl) ?_
      refine W_facts (fun hg => ?_)
      have hg : GF s.heap H (3) (31257) := hg
      refine W.widen (k := 3) (n := 31257) (show 3 ≤ 3 by omega) (show 31257 ≤ 31257 by omega) ?_
      have hP9 := (P_subT (X' := [(sr, .inr (2, [.ref rt, .ref ru, .int 1])), (rt, .inl (gT G, 8, .inr (.inr (.inr (.inr (va_up ft (0 : Int32).toNatClampNeg (some q9z3))))))), (ru, .inl (gI G, 15625, .inl gu)), (q9z3, .inr (3, [.ref ta1_7, .ref tq1_8, .int 0, .int 0, .int 0, .int 0, .int 0])), (ta1_7, .inl (gB G, 15625, .inl (fun _ => 0))), (tq1_8, .inl (gI G, 15625, .inl (fun _ => 0)))]) hP [0, 1, 2, 3, 4, 5] rfl)
      have hD9 := (D_subT (X' := [(sr, .inr (2, [.ref rt, .ref ru, .int 1])), (rt, .inl (gT G, 8, .inr (.inr (.inr (.inr (va_up ft (0 : Int32).toNatClampNeg (some q9z3))))))), (ru, .inl (gI G, 15625, .inl gu)), (q9z3, .inr (3, [.ref ta1_7, .ref tq1_8, .int 0, .int 0, .int 0, .int 0, .int 0])), (ta1_7, .inl (gB G, 15625, .inl (fun _ => 0))), (tq1_8, .inl (gI G, 15625, .inl (fun _ => 0)))]) hD [0, 1, 2, 3, 4, 5] (by decide) rfl)
      exact W.aret (v := .ref q9z3) hx hb hr (Or.inl ⟨_, rfl⟩) (Or.inr ⟨_, rfl⟩) (fun t9_ ht9_ hW9_ => ⟨⟨(1, va_up ft (0 : Int32).toNatClampNeg (some q9z3), q9z3, ta1_7, tq1_8, 0, 0, 0, 0, 0, fun _ => 0, fun _ => 0, T, 1), q9z3, rfl, ⟨⟨pl2_add (d := (q9z3, ta1_7, tq1_8, 0, 0, 0, 0, 0, fun _ => 0, fun _ => 0)) hT (show (0 : Int32).toNatClampNeg < 8 by decide) ho.symm, Or.inl rfl⟩, cntS_add ho.symm 8 (show (0 : Int32).toNatClampNeg < 8 by decide), Nat.le_refl _⟩, rfl, by rw [ht9_]; exact hP9, hD9, by rw [ht9_]; exact (show GF s.heap H (3 * 1) (31257 * 1) from hg.wide (by omega) (by omega))⟩, hS.F ht9_⟩) hS.2.2 dX4_takeOldest_62
    · obtain ⟨d_, T_9, hd1, hd2, hTL, hP, hD⟩ := pl2_take (X := [(sr, .inr (2, [.ref rt, .ref ru, .int 1])), (rt, .inl (gT G, 8, .inr (.inr (.inr (.inr ft))))), (ru, .inl (gI G, 15625, .inl gu))]) hT (show (0 : Int32).toNatClampNeg < 8 by decide) ho.symm hP hD
      obtain ⟨t_9, ta_9, tq_9, qd_9, se_9, go_9, ki_9, nn_9, fs_9, fq_9⟩ := d_
      dsimp only at hd1
      subst hd1
      have hP : va_P G.1 vwCl ([(sr, .inr (2, [.ref rt, .ref ru, .int 1])), (rt, .inl (gT G, 8, .inr (.inr (.inr (.inr ft))))), (ru, .inl (gI G, 15625, .inl gu)), (t_9, .inr (3, [.ref ta_9, .ref tq_9, .int qd_9, .int se_9, .int go_9, .int ki_9, .int nn_9])), (ta_9, .inl (gB G, 15625, .inl fs_9)), (tq_9, .inl (gI G, 15625, .inl fq_9))] ++ T_9) H := hP
      have hD : va_D A ([(sr, .inr (2, [.ref rt, .ref ru, .int 1])), (rt, .inl (gT G, 8, .inr (.inr (.inr (.inr ft))))), (ru, .inl (gI G, 15625, .inl gu)), (t_9, .inr (3, [.ref ta_9, .ref tq_9, .int qd_9, .int se_9, .int go_9, .int ki_9, .int nn_9])), (ta_9, .inl (gB G, 15625, .inl fs_9)), (tq_9, .inl (gI G, 15625, .inl fq_9))] ++ T_9) := hD
      refine lv_astore_n (lv' := [(2, .ref t_9), (1, .int 0), (0, .ref sr)]) hx hb dX4_takeOldest_41 rfl hl (by decide) rfl (fun ls hl => ?_)
      refine lv_aload_n hx hb dX4_takeOldest_42 rfl (lv_at hl 0 rfl) ?_
      refine lv_ifnonnull (tgt := 61) hx hb dX4_takeOldest_43 (by decide) ?_
      refine lv_aload_n hx hb dX4_takeOldest_61 rfl (lv_at hl 0 rfl) ?_
      refine W_facts (fun hg => ?_)
      have hg : GF s.heap H (0) (0) := hg
      refine W.widen (k := 3) (n := 31257) (show 0 ≤ 3 by omega) (show 0 ≤ 31257 by omega) ?_
      have hP9 := (P_subT (X' := [(sr, .inr (2, [.ref rt, .ref ru, .int 1])), (rt, .inl (gT G, 8, .inr (.inr (.inr (.inr ft))))), (ru, .inl (gI G, 15625, .inl gu)), (t_9, .inr (3, [.ref ta_9, .ref tq_9, .int qd_9, .int se_9, .int go_9, .int ki_9, .int nn_9])), (ta_9, .inl (gB G, 15625, .inl fs_9)), (tq_9, .inl (gI G, 15625, .inl fq_9))]) hP [0, 1, 2, 3, 4, 5] rfl)
      have hD9 := (D_subT (X' := [(sr, .inr (2, [.ref rt, .ref ru, .int 1])), (rt, .inl (gT G, 8, .inr (.inr (.inr (.inr ft))))), (ru, .inl (gI G, 15625, .inl gu)), (t_9, .inr (3, [.ref ta_9, .ref tq_9, .int qd_9, .int se_9, .int go_9, .int ki_9, .int nn_9])), (ta_9, .inl (gB G, 15625, .inl fs_9)), (tq_9, .inl (gI G, 15625, .inl fq_9))]) hD [0, 1, 2, 3, 4, 5] (by decide) rfl)
      exact W.aret (v := .ref t_9) hx hb hr (Or.inl ⟨_, rfl⟩) (Or.inr ⟨_, rfl⟩) (fun t9_ ht9_ hW9_ => ⟨⟨(1, ft, t_9, ta_9, tq_9, qd_9, se_9, go_9, ki_9, nn_9, fs_9, fq_9, T_9, 0), t_9, rfl, ⟨⟨hTL, hd2⟩, rfl, Nat.zero_le _⟩, rfl, by rw [ht9_]; exact hP9, hD9, by rw [ht9_]; exact (show GF s.heap H (3 * 0) (31257 * 0) from hg.wide (by omega) (by omega))⟩, hS.F ht9_⟩) hS.2.2 dX4_takeOldest_62
  · refine lv_aload_n hx hb dX4_takeOldest_7 rfl (lv_at hl 0 rfl) ?_
    refine va_get (D := G.1) (ci := 2) (v := .int ol) (C := RX4) (T := TX4) (N := 3) hx hb hts (fun _ h => List.mem_cons_of_mem _ (List.mem_append_left _ (List.mem_append_right _ h))) hown E.K hP 0 rfl rfl 2 (by decide) (hts (.fieldLink RX4 35 "LastMap$Search" "oldest" "I") (by decide +kernel)) (fun _ h9 => h9) rfl dX4_takeOldest_8 ?_
    refine lv_aload_n hx hb dX4_takeOldest_11 rfl (lv_at hl 0 rfl) ?_
    refine va_get (D := G.1) (ci := 2) (v := .ref rt) (C := RX4) (T := TX4) (N := 3) hx hb hts (fun _ h => List.mem_cons_of_mem _ (List.mem_append_left _ (List.mem_append_right _ h))) hown E.K hP 0 rfl rfl 0 (by decide) (hts (.fieldLink RX4 13 "LastMap$Search" "tables" "[LLastMap$Table;") (by decide +kernel)) (fun _ h9 => h9) rfl dX4_takeOldest_12 ?_
    refine va_alen (v := 8) hx hb E.K hP 1 4 rfl rfl rfl dX4_takeOldest_15 ?_
    refine lv_icmp_ge (tgt := 26) hx hb dX4_takeOldest_16 (by decide) (fun c10 => ?_) (fun c10 => ?_)
    · refine lv_iconst (v := 0) hx hb dX4_takeOldest_26 (by decide) ?_
      refine lv_istore_n (lv' := [(1, .int 0), (0, .ref sr)]) hx hb dX4_takeOldest_27 rfl hl (by decide) rfl (fun ls hl => ?_)
      refine lv_aload_n hx hb dX4_takeOldest_28 rfl (lv_at hl 1 rfl) ?_
      refine lv_iload_n hx hb dX4_takeOldest_29 rfl (lv_at hl 0 rfl) ?_
      refine lv_iconst (v := 1) hx hb dX4_takeOldest_30 (by decide) ?_
      refine lv_iadd hx hb dX4_takeOldest_31 ?_
      refine lv_topi (fun x11 ex11 => ?_)
      obtain rfl : x11 = 1 := by rw [ex11]; decide
      refine va_put (D := G.1) (ci := 2) (v := .int 1) (ty := .int) (C := RX4) (T := TX4) (N := 3) hx hb hts (fun _ h => List.mem_cons_of_mem _ (List.mem_append_left _ (List.mem_append_right _ h))) tyX4 tyX4_ok nmX4 hown E.K hP hD hS 0 rfl rfl 2 (by decide) (hts (.fieldLink RX4 35 "LastMap$Search" "oldest" "I") (by decide +kernel)) (fun _ h9 => h9) rfl (by decide +kernel) rfl rfl (Nat.le_of_ble_eq_true rfl) dX4_takeOldest_32 (fun H locs hP hD hS => ?_)
      have hP : va_P G.1 vwCl ([(sr, .inr (2, [.ref rt, .ref ru, .int 1])), (rt, .inl (gT G, 8, .inr (.inr (.inr (.inr ft))))), (ru, .inl (gI G, 15625, .inl gu))] ++ T) H := hP
      have hD : va_D A ([(sr, .inr (2, [.ref rt, .ref ru, .int 1])), (rt, .inl (gT G, 8, .inr (.inr (.inr (.inr ft))))), (ru, .inl (gI G, 15625, .inl gu))] ++ T) := hD
      refine lv_aload_n hx hb dX4_takeOldest_35 rfl (lv_at hl 1 rfl) ?_
      refine va_get (D := G.1) (ci := 2) (v := .ref rt) (C := RX4) (T := TX4) (N := 3) hx hb hts (fun _ h => List.mem_cons_of_mem _ (List.mem_append_left _ (List.mem_append_right _ h))) hown E.K hP 0 rfl rfl 0 (by decide) (hts (.fieldLink RX4 13 "LastMap$Search" "tables" "[LLastMap$Table;") (by decide +kernel)) (fun _ h9 => h9) rfl dX4_takeOldest_36 ?_
      refine lv_iload_n hx hb dX4_takeOldest_39 rfl (lv_at hl 0 rfl) ?_
      refine va_aldq hx hb E.K hP 1 4 rfl rfl (i := 0) (by unfold vp_in; decide) dX4_takeOldest_40 ?_
      obtain ⟨o_, ho⟩ : ∃ o_, o_ = ft (0 : Int32).toNatClampNeg := ⟨_, rfl⟩
      rw [← ho]
      rcases o_ with _ | t0
      · refine lv_astore_nN (lv' := [(2, .null), (1, .int 0), (0, .ref sr)]) hx hb dX4_takeOldest_41 rfl hl (by decide) rfl (fun ls hl => ?_)
        refine lv_aload_nN hx hb dX4_takeOldest_42 rfl (lv_at hl 0 rfl) ?_
        refine lv_ifnonnullN hx hb dX4_takeOldest_43 ?_
        refine va_new (ci := 3) (fs := [.null, .null, .int 0, .int 0, .int 0, .int 0, .int 0]) (C := RX7) (T := TX7) (N := 7) hx hb hts (fun _ h => List.mem_cons_of_mem _ (List.mem_append_right _ h)) tyX7 tyX7_ok hown (hts (.classLink RX4 11 RX7) (by decide +kernel)) (hts (.instantiable RX7 7) (by decide +kernel)) (hts (.initialized RX7) (by decide +kernel)) E.K hP hD hS hA rfl (by decide +kernel) (by decide +kernel) (by decide +kernel) dX4_takeOldest_46 (fun q9z12 H hP hD hS => ?_)
        have hP := P_perm (perm_snoc _ _ _) hP
        have hD := D_perm (perm_snoc _ _ _) hD
        have hP : va_P G.1 vwCl ([(sr, .inr (2, [.ref rt, .ref ru, .int 1])), (rt, .inl (gT G, 8, .inr (.inr (.inr (.inr ft))))), (ru, .inl (gI G, 15625, .inl gu)), (q9z12, .inr (3, [.null, .null, .int 0, .int 0, .int 0, .int 0, .int 0]))] ++ T) H := hP
        have hD : va_D A ([(sr, .inr (2, [.ref rt, .ref ru, .int 1])), (rt, .inl (gT G, 8, .inr (.inr (.inr (.inr ft))))), (ru, .inl (gI G, 15625, .inl gu)), (q9z12, .inr (3, [.null, .null, .int 0, .int 0, .int 0, .int 0, .int 0]))] ++ T) := hD
        refine lv_dup hx hb dX4_takeOldest_49 rfl ?_
        refine ca_vQ (wr := [(sr, .inr (2, [.ref rt, .ref ru, .int 1])), (rt, .inl (gT G, 8, .inr (.inr (.inr (.inr ft))))), (ru, .inl (gI G, 15625, .inl gu))]) (va_runIN (As := []) (rest := [.ref q9z12]) ⟨hx, hb, hml, hown, hts⟩ (c_Table l G H.size q9z12) ⟨va_cnB 0 hts gX4_takeOldest_X7_init_n39 rfl rfl rfl E.n39 (hts (.initialized RX7) (by decide +kernel)) (by decide +kernel) ⟨by decide +kernel, by decide +kernel⟩, rfl, hts (.instanceMethod yX7_init) (by decide +kernel)⟩ (pre_S E hP hD hS hA [3] (by decide) rfl) rfl rfl hl.1 rfl (lv_room (Nat.le_of_ble_eq_true rfl)) dX4_takeOldest_50 ⟨show 1 + 2 ≤ 3 by omega, show 7 + 31250 ≤ 31257 by omega⟩) hS hP hD hA [3] [0, 1, 2] rfl rfl (by decide) (by decide) (fun u15 H locs w13 hP hD hS => ?_)
        obtain ⟨ta1_16, tq1_17⟩ := u15
        try dsimp only at w13 hP hD
        have hP := (P_subT (X' := [(sr, .inr (2, [.ref rt, .ref ru, .int 1])), (rt, .inl (gT G, 8, .inr (.inr (.inr (.inr ft))))), (ru, .inl (gI G, 15625, .inl gu)), (q9z12, .inr (3, [.ref ta1_16, .ref tq1_17, .int 0, .int 0, .int 0, .int 0, .int 0])), (ta1_16, .inl (gB G, 15625, .inl (fun _ => 0))), (tq1_17, .inl (gI G, 15625, .inl (fun _ => 0)))]) hP [0, 1, 2, 3, 4, 5] rfl)
        have hD := (D_subT (X' := [(sr, .inr (2, [.ref rt, .ref ru, .int 1])), (rt, .inl (gT G, 8, .inr (.inr (.inr (.inr ft))))), (ru, .inl (gI G, 15625, .inl gu)), (q9z12, .inr (3, [.ref ta1_16, .ref tq1_17, .int 0, .int 0, .int 0, .int 0, .int 0])), (ta1_16, .inl (gB G, 15625, .inl (fun _ => 0))), (tq1_17, .inl (gI G, 15625, .inl (fun _ => 0)))]) hD [0, 1, 2, 3, 4, 5] (by decide) rfl)
        refine lv_astore_n (lv' := [(2, .ref q9z12), (1, .int 0), (0, .ref sr)]) hx hb dX4_takeOldest_53 rfl hl (by decide) rfl (fun ls hl => ?_)
        refine lv_aload_n hx hb dX4_takeOldest_54 rfl (lv_at hl 2 rfl) ?_
        refine va_get (D := G.1) (ci := 2) (v := .ref rt) (C := RX4) (T := TX4) (N := 3) hx hb hts (fun _ h => List.mem_cons_of_mem _ (List.mem_append_left _ (List.mem_append_right _ h))) hown E.K hP 0 rfl rfl 0 (by decide) (hts (.fieldLink RX4 13 "LastMap$Search" "tables" "[LLastMap$Table;") (by decide +kernel)) (fun _ h9 => h9) rfl dX4_takeOldest_55 ?_
        refine lv_iload_n hx hb dX4_takeOldest_58 rfl (lv_at hl 1 rfl) ?_
        refine lv_aload_n hx hb dX4_takeOldest_59 rfl (lv_at hl 0 rfl) ?_
        refine va_astq hx hb E.K hP hD hS 1 4 3 3 rfl rfl rfl rfl (i := 0) (by unfold vp_in; decide) dX4_takeOldest_60 (fun H locs hP hD hS => ?_)
        have hP : va_P G.1 vwCl ([(sr, .inr (2, [.ref rt, .ref ru, .int 1])), (rt, .inl (gT G, 8, .inr (.inr (.inr (.inr (va_up ft (0 : Int32).toNatClampNeg (some q9z12))))))), (ru, .inl (gI G, 15625, .inl gu)), (q9z12, .inr (3, [.ref ta1_16, .ref tq1_17, .int 0, .int 0, .int 0, .int 0, .int 0])), (ta1_16, .inl (gB G, 15625, .inl (fun _ => 0))), (tq1_17, .inl (gI G, 15625, .inl (fun _ => 0)))] ++ T) H := hP
        have hD : va_D A ([(sr, .inr (2, [.ref rt, .ref ru, .int 1])), (rt, .inl (gT G, 8, .inr (.inr (.inr (.inr (va_up ft (0 : Int32).toNatClampNeg (some q9z12))))))), (ru, .inl (gI G, 15625, .inl gu)), (q9z12, .inr (3, [.ref ta1_16, .ref tq1_17, .int 0, .int 0, .int 0, .int 0, .int 0])), (ta1_16, .inl (gB G, 15625, .inl (fun _ => 0))), (tq1_17, .inl (gI G, 15625, .inl (fun _ => 0)))] ++ T) := hD
        refine lv_aload_n hx hb dX4_takeOldest_61 rfl (lv_at hl 0 rfl) ?_
        refine W_facts (fun hg => ?_)
        have hg : GF s.heap H (3) (31257) := hg
        refine W.widen (k := 3) (n := 31257) (show 3 ≤ 3 by omega) (show 31257 ≤ 31257 by omega) ?_
        have hP9 := (P_subT (X' := [(sr, .inr (2, [.ref rt, .ref ru, .int 1])), (rt, .inl (gT G, 8, .inr (.inr (.inr (.inr (va_up ft (0 : Int32).toNatClampNeg (some q9z12))))))), (ru, .inl (gI G, 15625, .inl gu)), (q9z12, .inr (3, [.ref ta1_16, .ref tq1_17, .int 0, .int 0, .int 0, .int 0, .int 0])), (ta1_16, .inl (gB G, 15625, .inl (fun _ => 0))), (tq1_17, .inl (gI G, 15625, .inl (fun _ => 0)))]) hP [0, 1, 2, 3, 4, 5] rfl)
        have hD9 := (D_subT (X' := [(sr, .inr (2, [.ref rt, .ref ru, .int 1])), (rt, .inl (gT G, 8, .inr (.inr (.inr (.inr (va_up ft (0 : Int32).toNatClampNeg (some q9z12))))))), (ru, .inl (gI G, 15625, .inl gu)), (q9z12, .inr (3, [.ref ta1_16, .ref tq1_17, .int 0, .int 0, .int 0, .int 0, .int 0])), (ta1_16, .inl (gB G, 15625, .inl (fun _ => 0))), (tq1_17, .inl (gI G, 15625, .inl (fun _ => 0)))]) hD [0, 1, 2, 3, 4, 5] (by decide) rfl)
        exact W.aret (v := .ref q9z12) hx hb hr (Or.inl ⟨_, rfl⟩) (Or.inr ⟨_, rfl⟩) (fun t9_ ht9_ hW9_ => ⟨⟨(1, va_up ft (0 : Int32).toNatClampNeg (some q9z12), q9z12, ta1_16, tq1_17, 0, 0, 0, 0, 0, fun _ => 0, fun _ => 0, T, 1), q9z12, rfl, ⟨⟨pl2_add (d := (q9z12, ta1_16, tq1_17, 0, 0, 0, 0, 0, fun _ => 0, fun _ => 0)) hT (show (0 : Int32).toNatClampNeg < 8 by decide) ho.symm, Or.inl rfl⟩, cntS_add ho.symm 8 (show (0 : Int32).toNatClampNeg < 8 by decide), Nat.le_refl _⟩, rfl, by rw [ht9_]; exact hP9, hD9, by rw [ht9_]; exact (show GF s.heap H (3 * 1) (31257 * 1) from hg.wide (by omega) (by omega))⟩, hS.F ht9_⟩) hS.2.2 dX4_takeOldest_62
      · obtain ⟨d_, T_18, hd1, hd2, hTL, hP, hD⟩ := pl2_take (X := [(sr, .inr (2, [.ref rt, .ref ru, .int 1])), (rt, .inl (gT G, 8, .inr (.inr (.inr (.inr ft))))), (ru, .inl (gI G, 15625, .inl gu))]) hT (show (0 : Int32).toNatClampNeg < 8 by decide) ho.symm hP hD
        obtain ⟨t_18, ta_18, tq_18, qd_18, se_18, go_18, ki_18, nn_18, fs_18, fq_18⟩ := d_
        dsimp only at hd1
        subst hd1
        have hP : va_P G.1 vwCl ([(sr, .inr (2, [.ref rt, .ref ru, .int 1])), (rt, .inl (gT G, 8, .inr (.inr (.inr (.inr ft))))), (ru, .inl (gI G, 15625, .inl gu)), (t_18, .inr (3, [.ref ta_18, .ref tq_18, .int qd_18, .int se_18, .int go_18, .int ki_18, .int nn_18])), (ta_18, .inl (gB G, 15625, .inl fs_18)), (tq_18, .inl (gI G, 15625, .inl fq_18))] ++ T_18) H := hP
        have hD : va_D A ([(sr, .inr (2, [.ref rt, .ref ru, .int 1])), (rt, .inl (gT G, 8, .inr (.inr (.inr (.inr ft))))), (ru, .inl (gI G, 15625, .inl gu)), (t_18, .inr (3, [.ref ta_18, .ref tq_18, .int qd_18, .int se_18, .int go_18, .int ki_18, .int nn_18])), (ta_18, .inl (gB G, 15625, .inl fs_18)), (tq_18, .inl (gI G, 15625, .inl fq_18))] ++ T_18) := hD
        refine lv_astore_n (lv' := [(2, .ref t_18), (1, .int 0), (0, .ref sr)]) hx hb dX4_takeOldest_41 rfl hl (by decide) rfl (fun ls hl => ?_)
        refine lv_aload_n hx hb dX4_takeOldest_42 rfl (lv_at hl 0 rfl) ?_
        refine lv_ifnonnull (tgt := 61) hx hb dX4_takeOldest_43 (by decide) ?_
        refine lv_aload_n hx hb dX4_takeOldest_61 rfl (lv_at hl 0 rfl) ?_
        refine W_facts (fun hg => ?_)
        have hg : GF s.heap H (0) (0) := hg
        refine W.widen (k := 3) (n := 31257) (show 0 ≤ 3 by omega) (show 0 ≤ 31257 by omega) ?_
        have hP9 := (P_subT (X' := [(sr, .inr (2, [.ref rt, .ref ru, .int 1])), (rt, .inl (gT G, 8, .inr (.inr (.inr (.inr ft))))), (ru, .inl (gI G, 15625, .inl gu)), (t_18, .inr (3, [.ref ta_18, .ref tq_18, .int qd_18, .int se_18, .int go_18, .int ki_18, .int nn_18])), (ta_18, .inl (gB G, 15625, .inl fs_18)), (tq_18, .inl (gI G, 15625, .inl fq_18))]) hP [0, 1, 2, 3, 4, 5] rfl)
        have hD9 := (D_subT (X' := [(sr, .inr (2, [.ref rt, .ref ru, .int 1])), (rt, .inl (gT G, 8, .inr (.inr (.inr (.inr ft))))), (ru, .inl (gI G, 15625, .inl gu)), (t_18, .inr (3, [.ref ta_18, .ref tq_18, .int qd_18, .int se_18, .int go_18, .int ki_18, .int nn_18])), (ta_18, .inl (gB G, 15625, .inl fs_18)), (tq_18, .inl (gI G, 15625, .inl fq_18))]) hD [0, 1, 2, 3, 4, 5] (by decide) rfl)
        exact W.aret (v := .ref t_18) hx hb hr (Or.inl ⟨_, rfl⟩) (Or.inr ⟨_, rfl⟩) (fun t9_ ht9_ hW9_ => ⟨⟨(1, ft, t_18, ta_18, tq_18, qd_18, se_18, go_18, ki_18, nn_18, fs_18, fq_18, T_18, 0), t_18, rfl, ⟨⟨hTL, hd2⟩, rfl, Nat.zero_le _⟩, rfl, by rw [ht9_]; exact hP9, hD9, by rw [ht9_]; exact (show GF s.heap H (3 * 0) (31257 * 0) from hg.wide (by omega) (by omega))⟩, hS.F ht9_⟩) hS.2.2 dX4_takeOldest_62
    · refine lv_aload_n hx hb dX4_takeOldest_19 rfl (lv_at hl 0 rfl) ?_
      refine va_get (D := G.1) (ci := 2) (v := .int ol) (C := RX4) (T := TX4) (N := 3) hx hb hts (fun _ h => List.mem_cons_of_mem _ (List.mem_append_left _ (List.mem_append_right _ h))) hown E.K hP 0 rfl rfl 2 (by decide) (hts (.fieldLink RX4 35 "LastMap$Search" "oldest" "I") (by decide +kernel)) (fun _ h9 => h9) rfl dX4_takeOldest_20 ?_
      refine lv_goto (tgt := 27) hx hb dX4_takeOldest_23 (by decide) ?_
      refine lv_istore_n (lv' := [(1, .int ol), (0, .ref sr)]) hx hb dX4_takeOldest_27 rfl hl (by decide) rfl (fun ls hl => ?_)
      refine lv_aload_n hx hb dX4_takeOldest_28 rfl (lv_at hl 1 rfl) ?_
      refine lv_iload_n hx hb dX4_takeOldest_29 rfl (lv_at hl 0 rfl) ?_
      refine lv_iconst (v := 1) hx hb dX4_takeOldest_30 (by decide) ?_
      refine lv_iadd hx hb dX4_takeOldest_31 ?_
      refine lv_topi (fun x19 ex19 => ?_)
      refine va_put (D := G.1) (ci := 2) (v := .int x19) (ty := .int) (C := RX4) (T := TX4) (N := 3) hx hb hts (fun _ h => List.mem_cons_of_mem _ (List.mem_append_left _ (List.mem_append_right _ h))) tyX4 tyX4_ok nmX4 hown E.K hP hD hS 0 rfl rfl 2 (by decide) (hts (.fieldLink RX4 35 "LastMap$Search" "oldest" "I") (by decide +kernel)) (fun _ h9 => h9) rfl (by decide +kernel) rfl rfl (Nat.le_of_ble_eq_true rfl) dX4_takeOldest_32 (fun H locs hP hD hS => ?_)
      have hP : va_P G.1 vwCl ([(sr, .inr (2, [.ref rt, .ref ru, .int x19])), (rt, .inl (gT G, 8, .inr (.inr (.inr (.inr ft))))), (ru, .inl (gI G, 15625, .inl gu))] ++ T) H := hP
      have hD : va_D A ([(sr, .inr (2, [.ref rt, .ref ru, .int x19])), (rt, .inl (gT G, 8, .inr (.inr (.inr (.inr ft))))), (ru, .inl (gI G, 15625, .inl gu))] ++ T) := hD
      refine lv_aload_n hx hb dX4_takeOldest_35 rfl (lv_at hl 1 rfl) ?_
      refine va_get (D := G.1) (ci := 2) (v := .ref rt) (C := RX4) (T := TX4) (N := 3) hx hb hts (fun _ h => List.mem_cons_of_mem _ (List.mem_append_left _ (List.mem_append_right _ h))) hown E.K hP 0 rfl rfl 0 (by decide) (hts (.fieldLink RX4 13 "LastMap$Search" "tables" "[LLastMap$Table;") (by decide +kernel)) (fun _ h9 => h9) rfl dX4_takeOldest_36 ?_
      refine lv_iload_n hx hb dX4_takeOldest_39 rfl (lv_at hl 0 rfl) ?_
      refine va_aldq hx hb E.K hP 1 4 rfl rfl (i := ol) (vp_in_iff.mpr (by ((try simp only [inR, inS, i3_lt, i3_le, i3_eq, i6_lt, i6_le, Int32.toInt_toInt64, lg_cmp_lt, lg_cmp_gt, lg_cmp_ge, lg_cmp_le, Int32.reduceToInt, Int64.reduceToInt] at c1 c10 ⊢); omega))) dX4_takeOldest_40 ?_
      obtain ⟨o_, ho⟩ : ∃ o_, o_ = ft ol.toNatClampNeg := ⟨_, rfl⟩
      rw [← ho]
      rcases o_ with _ | t0
      · refine lv_astore_nN (lv' := [(2, .null), (1, .int ol), (0, .ref sr)]) hx hb dX4_takeOldest_41 rfl hl (by decide) rfl (fun ls hl => ?_)
        refine lv_aload_nN hx hb dX4_takeOldest_42 rfl (lv_at hl 0 rfl) ?_
        refine lv_ifnonnullN hx hb dX4_takeOldest_43 ?_
        refine va_new (ci := 3) (fs := [.null, .null, .int 0, .int 0, .int 0, .int 0, .int 0]) (C := RX7) (T := TX7) (N := 7) hx hb hts (fun _ h => List.mem_cons_of_mem _ (List.mem_append_right _ h)) tyX7 tyX7_ok hown (hts (.classLink RX4 11 RX7) (by decide +kernel)) (hts (.instantiable RX7 7) (by decide +kernel)) (hts (.initialized RX7) (by decide +kernel)) E.K hP hD hS hA rfl (by decide +kernel) (by decide +kernel) (by decide +kernel) dX4_takeOldest_46 (fun q9z20 H hP hD hS => ?_)
        have hP := P_perm (perm_snoc _ _ _) hP
        have hD := D_perm (perm_snoc _ _ _) hD
        have hP : va_P G.1 vwCl ([(sr, .inr (2, [.ref rt, .ref ru, .int x19])), (rt, .inl (gT G, 8, .inr (.inr (.inr (.inr ft))))), (ru, .inl (gI G, 15625, .inl gu)), (q9z20, .inr (3, [.null, .null, .int 0, .int 0, .int 0, .int 0, .int 0]))] ++ T) H := hP
        have hD : va_D A ([(sr, .inr (2, [.ref rt, .ref ru, .int x19])), (rt, .inl (gT G, 8, .inr (.inr (.inr (.inr ft))))), (ru, .inl (gI G, 15625, .inl gu)), (q9z20, .inr (3, [.null, .null, .int 0, .int 0, .int 0, .int 0, .int 0]))] ++ T) := hD
        refine lv_dup hx hb dX4_takeOldest_49 rfl ?_
        refine ca_vQ (wr := [(sr, .inr (2, [.ref rt, .ref ru, .int x19])), (rt, .inl (gT G, 8, .inr (.inr (.inr (.inr ft))))), (ru, .inl (gI G, 15625, .inl gu))]) (va_runIN (As := []) (rest := [.ref q9z20]) ⟨hx, hb, hml, hown, hts⟩ (c_Table l G H.size q9z20) ⟨va_cnB 0 hts gX4_takeOldest_X7_init_n39 rfl rfl rfl E.n39 (hts (.initialized RX7) (by decide +kernel)) (by decide +kernel) ⟨by decide +kernel, by decide +kernel⟩, rfl, hts (.instanceMethod yX7_init) (by decide +kernel)⟩ (pre_S E hP hD hS hA [3] (by decide) rfl) rfl rfl hl.1 rfl (lv_room (Nat.le_of_ble_eq_true rfl)) dX4_takeOldest_50 ⟨show 1 + 2 ≤ 3 by omega, show 7 + 31250 ≤ 31257 by omega⟩) hS hP hD hA [3] [0, 1, 2] rfl rfl (by decide) (by decide) (fun u23 H locs w21 hP hD hS => ?_)
        obtain ⟨ta1_24, tq1_25⟩ := u23
        try dsimp only at w21 hP hD
        have hP := (P_subT (X' := [(sr, .inr (2, [.ref rt, .ref ru, .int x19])), (rt, .inl (gT G, 8, .inr (.inr (.inr (.inr ft))))), (ru, .inl (gI G, 15625, .inl gu)), (q9z20, .inr (3, [.ref ta1_24, .ref tq1_25, .int 0, .int 0, .int 0, .int 0, .int 0])), (ta1_24, .inl (gB G, 15625, .inl (fun _ => 0))), (tq1_25, .inl (gI G, 15625, .inl (fun _ => 0)))]) hP [0, 1, 2, 3, 4, 5] rfl)
        have hD := (D_subT (X' := [(sr, .inr (2, [.ref rt, .ref ru, .int x19])), (rt, .inl (gT G, 8, .inr (.inr (.inr (.inr ft))))), (ru, .inl (gI G, 15625, .inl gu)), (q9z20, .inr (3, [.ref ta1_24, .ref tq1_25, .int 0, .int 0, .int 0, .int 0, .int 0])), (ta1_24, .inl (gB G, 15625, .inl (fun _ => 0))), (tq1_25, .inl (gI G, 15625, .inl (fun _ => 0)))]) hD [0, 1, 2, 3, 4, 5] (by decide) rfl)
        refine lv_astore_n (lv' := [(2, .ref q9z20), (1, .int ol), (0, .ref sr)]) hx hb dX4_takeOldest_53 rfl hl (by decide) rfl (fun ls hl => ?_)
        refine lv_aload_n hx hb dX4_takeOldest_54 rfl (lv_at hl 2 rfl) ?_
        refine va_get (D := G.1) (ci := 2) (v := .ref rt) (C := RX4) (T := TX4) (N := 3) hx hb hts (fun _ h => List.mem_cons_of_mem _ (List.mem_append_left _ (List.mem_append_right _ h))) hown E.K hP 0 rfl rfl 0 (by decide) (hts (.fieldLink RX4 13 "LastMap$Search" "tables" "[LLastMap$Table;") (by decide +kernel)) (fun _ h9 => h9) rfl dX4_takeOldest_55 ?_
        refine lv_iload_n hx hb dX4_takeOldest_58 rfl (lv_at hl 1 rfl) ?_
        refine lv_aload_n hx hb dX4_takeOldest_59 rfl (lv_at hl 0 rfl) ?_
        refine va_astq hx hb E.K hP hD hS 1 4 3 3 rfl rfl rfl rfl (i := ol) (vp_in_iff.mpr (by ((try simp only [inR, inS, i3_lt, i3_le, i3_eq, i6_lt, i6_le, Int32.toInt_toInt64, lg_cmp_lt, lg_cmp_gt, lg_cmp_ge, lg_cmp_le, Int32.reduceToInt, Int64.reduceToInt] at c1 c10 ⊢); omega))) dX4_takeOldest_60 (fun H locs hP hD hS => ?_)
        have hP : va_P G.1 vwCl ([(sr, .inr (2, [.ref rt, .ref ru, .int x19])), (rt, .inl (gT G, 8, .inr (.inr (.inr (.inr (va_up ft ol.toNatClampNeg (some q9z20))))))), (ru, .inl (gI G, 15625, .inl gu)), (q9z20, .inr (3, [.ref ta1_24, .ref tq1_25, .int 0, .int 0, .int 0, .int 0, .int 0])), (ta1_24, .inl (gB G, 15625, .inl (fun _ => 0))), (tq1_25, .inl (gI G, 15625, .inl (fun _ => 0)))] ++ T) H := hP
        have hD : va_D A ([(sr, .inr (2, [.ref rt, .ref ru, .int x19])), (rt, .inl (gT G, 8, .inr (.inr (.inr (.inr (va_up ft ol.toNatClampNeg (some q9z20))))))), (ru, .inl (gI G, 15625, .inl gu)), (q9z20, .inr (3, [.ref ta1_24, .ref tq1_25, .int 0, .int 0, .int 0, .int 0, .int 0])), (ta1_24, .inl (gB G, 15625, .inl (fun _ => 0))), (tq1_25, .inl (gI G, 15625, .inl (fun _ => 0)))] ++ T) := hD
        refine lv_aload_n hx hb dX4_takeOldest_61 rfl (lv_at hl 0 rfl) ?_
        refine W_facts (fun hg => ?_)
        have hg : GF s.heap H (3) (31257) := hg
        refine W.widen (k := 3) (n := 31257) (show 3 ≤ 3 by omega) (show 31257 ≤ 31257 by omega) ?_
        have hP9 := (P_subT (X' := [(sr, .inr (2, [.ref rt, .ref ru, .int x19])), (rt, .inl (gT G, 8, .inr (.inr (.inr (.inr (va_up ft ol.toNatClampNeg (some q9z20))))))), (ru, .inl (gI G, 15625, .inl gu)), (q9z20, .inr (3, [.ref ta1_24, .ref tq1_25, .int 0, .int 0, .int 0, .int 0, .int 0])), (ta1_24, .inl (gB G, 15625, .inl (fun _ => 0))), (tq1_25, .inl (gI G, 15625, .inl (fun _ => 0)))]) hP [0, 1, 2, 3, 4, 5] rfl)
        have hD9 := (D_subT (X' := [(sr, .inr (2, [.ref rt, .ref ru, .int x19])), (rt, .inl (gT G, 8, .inr (.inr (.inr (.inr (va_up ft ol.toNatClampNeg (some q9z20))))))), (ru, .inl (gI G, 15625, .inl gu)), (q9z20, .inr (3, [.ref ta1_24, .ref tq1_25, .int 0, .int 0, .int 0, .int 0, .int 0])), (ta1_24, .inl (gB G, 15625, .inl (fun _ => 0))), (tq1_25, .inl (gI G, 15625, .inl (fun _ => 0)))]) hD [0, 1, 2, 3, 4, 5] (by decide) rfl)
        exact W.aret (v := .ref q9z20) hx hb hr (Or.inl ⟨_, rfl⟩) (Or.inr ⟨_, rfl⟩) (fun t9_ ht9_ hW9_ => ⟨⟨(x19, va_up ft ol.toNatClampNeg (some q9z20), q9z20, ta1_24, tq1_25, 0, 0, 0, 0, 0, fun _ => 0, fun _ => 0, T, 1), q9z20, rfl, ⟨⟨pl2_add (d := (q9z20, ta1_24, tq1_25, 0, 0, 0, 0, 0, fun _ => 0, fun _ => 0)) hT (clampR (hi := 7) (by ((try simp only [inR, inS, i3_lt, i3_le, i3_eq, i6_lt, i6_le, Int32.toInt_toInt64, lg_cmp_lt, lg_cmp_gt, lg_cmp_ge, lg_cmp_le, Int32.reduceToInt, Int64.reduceToInt] at c1 c10 ⊢); omega)) (by decide)) ho.symm, Or.inl rfl⟩, cntS_add ho.symm 8 (clampR (hi := 7) (by ((try simp only [inR, inS, i3_lt, i3_le, i3_eq, i6_lt, i6_le, Int32.toInt_toInt64, lg_cmp_lt, lg_cmp_gt, lg_cmp_ge, lg_cmp_le, Int32.reduceToInt, Int64.reduceToInt] at c1 c10 ⊢); omega)) (by decide)), Nat.le_refl _⟩, rfl, by rw [ht9_]; exact hP9, hD9, by rw [ht9_]; exact (show GF s.heap H (3 * 1) (31257 * 1) from hg.wide (by omega) (by omega))⟩, hS.F ht9_⟩) hS.2.2 dX4_takeOldest_62
      · obtain ⟨d_, T_26, hd1, hd2, hTL, hP, hD⟩ := pl2_take (X := [(sr, .inr (2, [.ref rt, .ref ru, .int x19])), (rt, .inl (gT G, 8, .inr (.inr (.inr (.inr ft))))), (ru, .inl (gI G, 15625, .inl gu))]) hT (clampR (hi := 7) (by ((try simp only [inR, inS, i3_lt, i3_le, i3_eq, i6_lt, i6_le, Int32.toInt_toInt64, lg_cmp_lt, lg_cmp_gt, lg_cmp_ge, lg_cmp_le, Int32.reduceToInt, Int64.reduceToInt] at c1 c10 ⊢); omega)) (by decide)) ho.symm hP hD
        obtain ⟨t_26, ta_26, tq_26, qd_26, se_26, go_26, ki_26, nn_26, fs_26, fq_26⟩ := d_
        dsimp only at hd1
        subst hd1
        have hP : va_P G.1 vwCl ([(sr, .inr (2, [.ref rt, .ref ru, .int x19])), (rt, .inl (gT G, 8, .inr (.inr (.inr (.inr ft))))), (ru, .inl (gI G, 15625, .inl gu)), (t_26, .inr (3, [.ref ta_26, .ref tq_26, .int qd_26, .int se_26, .int go_26, .int ki_26, .int nn_26])), (ta_26, .inl (gB G, 15625, .inl fs_26)), (tq_26, .inl (gI G, 15625, .inl fq_26))] ++ T_26) H := hP
        have hD : va_D A ([(sr, .inr (2, [.ref rt, .ref ru, .int x19])), (rt, .inl (gT G, 8, .inr (.inr (.inr (.inr ft))))), (ru, .inl (gI G, 15625, .inl gu)), (t_26, .inr (3, [.ref ta_26, .ref tq_26, .int qd_26, .int se_26, .int go_26, .int ki_26, .int nn_26])), (ta_26, .inl (gB G, 15625, .inl fs_26)), (tq_26, .inl (gI G, 15625, .inl fq_26))] ++ T_26) := hD
        refine lv_astore_n (lv' := [(2, .ref t_26), (1, .int ol), (0, .ref sr)]) hx hb dX4_takeOldest_41 rfl hl (by decide) rfl (fun ls hl => ?_)
        refine lv_aload_n hx hb dX4_takeOldest_42 rfl (lv_at hl 0 rfl) ?_
        refine lv_ifnonnull (tgt := 61) hx hb dX4_takeOldest_43 (by decide) ?_
        refine lv_aload_n hx hb dX4_takeOldest_61 rfl (lv_at hl 0 rfl) ?_
        refine W_facts (fun hg => ?_)
        have hg : GF s.heap H (0) (0) := hg
        refine W.widen (k := 3) (n := 31257) (show 0 ≤ 3 by omega) (show 0 ≤ 31257 by omega) ?_
        have hP9 := (P_subT (X' := [(sr, .inr (2, [.ref rt, .ref ru, .int x19])), (rt, .inl (gT G, 8, .inr (.inr (.inr (.inr ft))))), (ru, .inl (gI G, 15625, .inl gu)), (t_26, .inr (3, [.ref ta_26, .ref tq_26, .int qd_26, .int se_26, .int go_26, .int ki_26, .int nn_26])), (ta_26, .inl (gB G, 15625, .inl fs_26)), (tq_26, .inl (gI G, 15625, .inl fq_26))]) hP [0, 1, 2, 3, 4, 5] rfl)
        have hD9 := (D_subT (X' := [(sr, .inr (2, [.ref rt, .ref ru, .int x19])), (rt, .inl (gT G, 8, .inr (.inr (.inr (.inr ft))))), (ru, .inl (gI G, 15625, .inl gu)), (t_26, .inr (3, [.ref ta_26, .ref tq_26, .int qd_26, .int se_26, .int go_26, .int ki_26, .int nn_26])), (ta_26, .inl (gB G, 15625, .inl fs_26)), (tq_26, .inl (gI G, 15625, .inl fq_26))]) hD [0, 1, 2, 3, 4, 5] (by decide) rfl)
        exact W.aret (v := .ref t_26) hx hb hr (Or.inl ⟨_, rfl⟩) (Or.inr ⟨_, rfl⟩) (fun t9_ ht9_ hW9_ => ⟨⟨(x19, ft, t_26, ta_26, tq_26, qd_26, se_26, go_26, ki_26, nn_26, fs_26, fq_26, T_26, 0), t_26, rfl, ⟨⟨hTL, hd2⟩, rfl, Nat.zero_le _⟩, rfl, by rw [ht9_]; exact hP9, hD9, by rw [ht9_]; exact (show GF s.heap H (3 * 0) (31257 * 0) from hg.wide (by omega) (by omega))⟩, hS.F ht9_⟩) hS.2.2 dX4_takeOldest_62

set_option maxHeartbeats 1000000 in
set_option maxRecDepth 100000 in
theorem h_toward (l : Launch) (G : Gy) (H0 : Heap) (sr : Nat) (rt : Nat) (ru : Nat) (ol : Int32) (ft : Nat → Option Nat) (gu : Nat → Int32) (T : va_W) (k : Nat) (p0 : Int32) (p1 : Int32) (hk2 : 2 ≤ k) (hk6 : k ≤ 6) (hT : PL2 G ft T) : ChR l G yX4_toward wsX4_toward ({ frames := 9, cells := 3, slots := 31257, locals := 213 }) [.ref sr, .int p0, .int p1, .int (nI k)] ([(sr, .inr (2, [.ref rt, .ref ru, .int ol])), (rt, .inl (gT G, 8, .inr (.inr (.inr (.inr ft))))), (ru, .inl (gI G, 15625, .inl gu))] ++ T) H0 (fun (u : Int32 × (Nat → Option Nat) × Nat × Nat × Nat × Int32 × Int32 × Int32 × Int32 × Int32 × (Nat → Int32) × (Nat → Int32) × va_W × Nat) => match u with | (ol1, ft1, t1, ta1, tq1, qd1, se1, go1, ki1, nn1, fs1, fq1, T1, k1) => (TL2 G ft1 (t1, ta1, tq1, qd1, se1, go1, ki1, nn1, fs1, fq1) T1 ∧ tokS (t1, ta1, tq1, qd1, se1, go1, ki1, nn1, fs1, fq1)) ∧ cntS ft1 8 = cntS ft 8 + k1 ∧ k1 ≤ 1 ∧ go1 = p0 ∧ ki1 = p1 ∧ nn1 = nI k) (fun (u : Int32 × (Nat → Option Nat) × Nat × Nat × Nat × Int32 × Int32 × Int32 × Int32 × Int32 × (Nat → Int32) × (Nat → Int32) × va_W × Nat) => match u with | (ol1, ft1, t1, ta1, tq1, qd1, se1, go1, ki1, nn1, fs1, fq1, T1, k1) => t1) (fun (u : Int32 × (Nat → Option Nat) × Nat × Nat × Nat × Int32 × Int32 × Int32 × Int32 × Int32 × (Nat → Int32) × (Nat → Int32) × va_W × Nat) => (match u with | (ol1, ft1, t1, ta1, tq1, qd1, se1, go1, ki1, nn1, fs1, fq1, T1, k1) => [(sr, .inr (2, [.ref rt, .ref ru, .int ol1])), (rt, .inl (gT G, 8, .inr (.inr (.inr (.inr ft1))))), (ru, .inl (gI G, 15625, .inl gu)), (t1, .inr (3, [.ref ta1, .ref tq1, .int qd1, .int se1, .int go1, .int ki1, .int nn1])), (ta1, .inl (gB G, 15625, .inl fs1)), (tq1, .inl (gI G, 15625, .inl fq1))]) ++ (match u with | (ol1, ft1, t1, ta1, tq1, qd1, se1, go1, ki1, nn1, fs1, fq1, T1, k1) => T1)) (fun (u : Int32 × (Nat → Option Nat) × Nat × Nat × Nat × Int32 × Int32 × Int32 × Int32 × Int32 × (Nat → Int32) × (Nat → Int32) × va_W × Nat) => match u with | (ol1, ft1, t1, ta1, tq1, qd1, se1, go1, ki1, nn1, fs1, fq1, T1, k1) => 3 * k1) (fun (u : Int32 × (Nat → Option Nat) × Nat × Nat × Nat × Int32 × Int32 × Int32 × Int32 × Int32 × (Nat → Int32) × (Nat → Int32) × va_W × Nat) => match u with | (ol1, ft1, t1, ta1, tq1, qd1, se1, go1, ki1, nn1, fs1, fq1, T1, k1) => 31257 * k1) 3 31257 := by
  refine Met.ofW (cc := cX4_toward) (maxL := 6) (ret := (some (.object "LastMap$Table"))) (by decide) rfl ?_
  intro p e s m args below meth c s₁ B hml hv
  obtain ⟨rfl, hsz, hP, hD0, E0⟩ := hv
  have hx := B.exec
  have hb := B.bytes
  have hr := B.returns
  have hts := atoms_spec (ws := wsX4_toward) B.pre
  have hown : s.vm.findClass RX4 = some m.cls := findClass_of_methodNamed B.named
  have hlocks := B.notSynchronized
  subst hsz
  have hD := hD0.self (sz := s.heap.size)
  generalize hAe : va_A ([(sr, .inr (2, [.ref rt, .ref ru, .int ol])), (rt, .inl (gT G, 8, .inr (.inr (.inr (.inr ft))))), (ru, .inl (gI G, 15625, .inl gu))] ++ T) s.heap.size = A at hD E0 ⊢
  have E : EV G A s s.heap := E0
  have hA : ∀ q : Nat, s.heap.size ≤ q → A q := fun q h => by rw [← hAe]; exact Or.inr h
  have hS : va_S A s.heap s.heap [] := va_S.rf
  have hl := lv_entry ([.ref sr, .int p0, .int p1, .int (nI k)]) (n := 6) (Nat.le_of_ble_eq_true rfl)
  rw [lg_entry_eq]
  generalize (lg_sl ([.ref sr, .int p0, .int p1, .int (nI k)]) ++ List.replicate (6 - (lg_sl ([.ref sr, .int p0, .int p1, .int (nI k)])).length) Slot.unset).toArray = ls at hl ⊢
  have hl : lv_has ls 6 [(0, .ref sr), (1, .int p0), (2, .int p1), (3, .int (nI k))] := hl
  have hP : va_P G.1 vwCl ([(sr, .inr (2, [.ref rt, .ref ru, .int ol])), (rt, .inl (gT G, 8, .inr (.inr (.inr (.inr ft))))), (ru, .inl (gI G, 15625, .inl gu))] ++ T) s.heap := hP
  refine lv_iconst (v := 0) hx hb dX4_toward_0 (by decide) ?_
  refine lv_istore (lv' := [(4, .int 0), (0, .ref sr), (1, .int p0), (2, .int p1), (3, .int (nI k))]) hx hb dX4_toward_1 hl (by decide) rfl (fun ls hl => ?_)
  refine lp_run (x0 := (0, T)) (fun xx_ : Int32 × va_W => match xx_ with | (x, Tv) => [(sr, .inr (2, [.ref rt, .ref ru, .int ol])), (rt, .inl (gT G, 8, .inr (.inr (.inr (.inr ft))))), (ru, .inl (gI G, 15625, .inl gu))] ++ Tv) (fun xx_ : Int32 × va_W => match xx_ with | (x, Tv) => [(4, .int x), (0, .ref sr), (1, .int p0), (2, .int p1), (3, .int (nI k))]) (fun xx_ : Int32 × va_W => match xx_ with | (x, Tv) => (0 ≤ x.toInt) ∧ (PL2 G ft Tv)) (fun xx_ : Int32 × va_W => match xx_ with | (x, Tv) => ((8 : Int32).toInt - x.toInt).toNat) (P_subT hP [0, 1, 2] rfl) (D_subT hD [0, 1, 2] (by decide) rfl) hS (lv_sub hl [0, 1, 2, 3, 4] rfl) ⟨show (0 : Int) ≤ (0 : Int32).toInt by decide, hT⟩ ?_
  intro xx_ hI ih3 H locs ls hP hD hS hl
  obtain ⟨x, Tv⟩ := xx_
  dsimp only at hI ih3 hP hD hl
  obtain ⟨hx0, hTv⟩ := hI
  have hl : lv_has ls 6 [(4, .int x), (0, .ref sr), (1, .int p0), (2, .int p1), (3, .int (nI k))] := hl
  have hP : va_P G.1 vwCl ([(sr, .inr (2, [.ref rt, .ref ru, .int ol])), (rt, .inl (gT G, 8, .inr (.inr (.inr (.inr ft))))), (ru, .inl (gI G, 15625, .inl gu))] ++ Tv) H := hP
  have hD : va_D A ([(sr, .inr (2, [.ref rt, .ref ru, .int ol])), (rt, .inl (gT G, 8, .inr (.inr (.inr (.inr ft))))), (ru, .inl (gI G, 15625, .inl gu))] ++ Tv) := hD
  refine lv_iload hx hb dX4_toward_3 (lv_at hl 0 rfl) ?_
  refine lv_aload_n hx hb dX4_toward_5 rfl (lv_at hl 1 rfl) ?_
  refine va_get (D := G.1) (ci := 2) (v := .ref rt) (C := RX4) (T := TX4) (N := 3) hx hb hts (fun _ h => List.mem_cons_of_mem _ (List.mem_append_left _ (List.mem_append_right _ h))) hown E.K hP 0 rfl rfl 0 (by decide) (hts (.fieldLink RX4 13 "LastMap$Search" "tables" "[LLastMap$Table;") (by decide +kernel)) (fun _ h9 => h9) rfl dX4_toward_6 ?_
  refine va_alen (v := 8) hx hb E.K hP 1 4 rfl rfl rfl dX4_toward_9 ?_
  refine lv_icmp_ge (tgt := 47) hx hb dX4_toward_10 (by decide) (fun c1 => ?_) (fun c1 => ?_)
  · refine lv_aload_n hx hb dX4_toward_47 rfl (lv_at hl 1 rfl) ?_
    refine W_facts (fun hg => ?_)
    have hg : GF s.heap H (0) (0) := hg
    refine ca_rH (wr := []) hg (va_runV (As := []) (rest := []) ⟨hx, hb, hml, hown, hts⟩ (h_takeOldest l G H sr rt ru ol ft gu Tv hTv) (cwV 0 hts gX4_toward_X4_takeOldest rfl rfl rfl (by decide +kernel) ⟨by decide +kernel, by decide +kernel⟩) (pre_VH E hP hD hS hA [0, 1, 2] (by decide) rfl 0 2 rfl rfl) rfl rfl hl.1 rfl (lv_room (Nat.le_of_ble_eq_true rfl)) dX4_toward_48 ⟨show 0 + 3 ≤ 3 by omega, show 0 + 31257 ≤ 31257 by omega⟩) hS hP hD hA [0, 1, 2] [] rfl rfl (by decide) (by decide) (fun u4 H locs w2 hP hD hS hg => ?_)
    obtain ⟨ol1_5, ft1_6, t1_7, ta1_8, tq1_9, qd1_10, se1_11, go1_12, ki1_13, nn1_14, fs1_15, fq1_16, T1_17, k1_18⟩ := u4
    try dsimp only at w2 hP hD
    have hP := (P_subT (X' := [(sr, .inr (2, [.ref rt, .ref ru, .int ol1_5])), (rt, .inl (gT G, 8, .inr (.inr (.inr (.inr ft1_6))))), (ru, .inl (gI G, 15625, .inl gu)), (t1_7, .inr (3, [.ref ta1_8, .ref tq1_9, .int qd1_10, .int se1_11, .int go1_12, .int ki1_13, .int nn1_14])), (ta1_8, .inl (gB G, 15625, .inl fs1_15)), (tq1_9, .inl (gI G, 15625, .inl fq1_16))]) hP [0, 1, 2, 3, 4, 5] rfl)
    have hD := (D_subT (X' := [(sr, .inr (2, [.ref rt, .ref ru, .int ol1_5])), (rt, .inl (gT G, 8, .inr (.inr (.inr (.inr ft1_6))))), (ru, .inl (gI G, 15625, .inl gu)), (t1_7, .inr (3, [.ref ta1_8, .ref tq1_9, .int qd1_10, .int se1_11, .int go1_12, .int ki1_13, .int nn1_14])), (ta1_8, .inl (gB G, 15625, .inl fs1_15)), (tq1_9, .inl (gI G, 15625, .inl fq1_16))]) hD [0, 1, 2, 3, 4, 5] (by decide) rfl)
    have hkk := w2.2.2
    refine lv_astore (lv' := [(4, .ref t1_7), (0, .ref sr), (1, .int p0), (2, .int p1), (3, .int (nI k))]) hx hb dX4_toward_51 hl (by decide) rfl (fun ls hl => ?_)
    refine lv_aload hx hb dX4_toward_53 (lv_at hl 0 rfl) ?_
    refine lv_iload_n hx hb dX4_toward_55 rfl (lv_at hl 2 rfl) ?_
    refine lv_iload_n hx hb dX4_toward_56 rfl (lv_at hl 3 rfl) ?_
    refine lv_iload_n hx hb dX4_toward_57 rfl (lv_at hl 4 rfl) ?_
    refine ca_vQ (wr := [(sr, .inr (2, [.ref rt, .ref ru, .int ol1_5])), (rt, .inl (gT G, 8, .inr (.inr (.inr (.inr ft1_6))))), (ru, .inl (gI G, 15625, .inl gu))]) (va_runV (As := [.int p0, .int p1, .int (nI k)]) (rest := []) ⟨hx, hb, hml, hown, hts⟩ (n_begin l G H.size t1_7 ta1_8 tq1_9 qd1_10 se1_11 go1_12 ki1_13 nn1_14 fs1_15 fq1_16 k p0 p1 hk2 hk6) (cwV 3 hts gX4_toward_X7_begin rfl rfl rfl (by decide +kernel) ⟨by decide +kernel, by decide +kernel⟩) (pre_V E hP hD hS hA [3, 4, 5] (by decide) rfl 3 3 rfl rfl) rfl rfl hl.1 rfl (lv_room (Nat.le_of_ble_eq_true rfl)) dX4_toward_58 ⟨show 0 + (3 * k1_18) + 0 ≤ 3 by omega, show 0 + (31257 * k1_18) + 0 ≤ 31257 by omega⟩) hS hP hD hA [3, 4, 5] [0, 1, 2] rfl rfl (by decide) (by decide) (fun u21 H locs w19 hP hD hS => ?_)
    obtain ⟨cq1_22, fs1_23, fq1_24⟩ := u21
    try dsimp only at w19 hP hD
    have hP := (P_subT (X' := [(sr, .inr (2, [.ref rt, .ref ru, .int ol1_5])), (rt, .inl (gT G, 8, .inr (.inr (.inr (.inr ft1_6))))), (ru, .inl (gI G, 15625, .inl gu)), (t1_7, .inr (3, [.ref ta1_8, .ref tq1_9, .int (nI cq1_22), .int 0, .int p0, .int p1, .int (nI k)])), (ta1_8, .inl (gB G, 15625, .inl fs1_23)), (tq1_9, .inl (gI G, 15625, .inl fq1_24))]) hP [0, 1, 2, 3, 4, 5] rfl)
    have hD := (D_subT (X' := [(sr, .inr (2, [.ref rt, .ref ru, .int ol1_5])), (rt, .inl (gT G, 8, .inr (.inr (.inr (.inr ft1_6))))), (ru, .inl (gI G, 15625, .inl gu)), (t1_7, .inr (3, [.ref ta1_8, .ref tq1_9, .int (nI cq1_22), .int 0, .int p0, .int p1, .int (nI k)])), (ta1_8, .inl (gB G, 15625, .inl fs1_23)), (tq1_9, .inl (gI G, 15625, .inl fq1_24))]) hD [0, 1, 2, 3, 4, 5] (by decide) rfl)
    refine lv_aload hx hb dX4_toward_61 (lv_at hl 0 rfl) ?_
    refine W_facts (fun hg => ?_)
    have hg : GF s.heap H (0 + (3 * k1_18)) (0 + (31257 * k1_18)) := hg
    refine W.widen (k := 3) (n := 31257) (show 0 + (3 * k1_18) ≤ 3 by omega) (show 0 + (31257 * k1_18) ≤ 31257 by omega) ?_
    have hP9 := (P_subT (X' := [(sr, .inr (2, [.ref rt, .ref ru, .int ol1_5])), (rt, .inl (gT G, 8, .inr (.inr (.inr (.inr ft1_6))))), (ru, .inl (gI G, 15625, .inl gu)), (t1_7, .inr (3, [.ref ta1_8, .ref tq1_9, .int (nI cq1_22), .int 0, .int p0, .int p1, .int (nI k)])), (ta1_8, .inl (gB G, 15625, .inl fs1_23)), (tq1_9, .inl (gI G, 15625, .inl fq1_24))]) hP [0, 1, 2, 3, 4, 5] rfl)
    have hD9 := (D_subT (X' := [(sr, .inr (2, [.ref rt, .ref ru, .int ol1_5])), (rt, .inl (gT G, 8, .inr (.inr (.inr (.inr ft1_6))))), (ru, .inl (gI G, 15625, .inl gu)), (t1_7, .inr (3, [.ref ta1_8, .ref tq1_9, .int (nI cq1_22), .int 0, .int p0, .int p1, .int (nI k)])), (ta1_8, .inl (gB G, 15625, .inl fs1_23)), (tq1_9, .inl (gI G, 15625, .inl fq1_24))]) hD [0, 1, 2, 3, 4, 5] (by decide) rfl)
    exact W.aret (v := .ref t1_7) hx hb hr (Or.inl ⟨_, rfl⟩) (Or.inr ⟨_, rfl⟩) (fun t9_ ht9_ hW9_ => ⟨⟨(ol1_5, ft1_6, t1_7, ta1_8, tq1_9, nI cq1_22, 0, p0, p1, nI k, fs1_23, fq1_24, T1_17, k1_18), t1_7, rfl, ⟨⟨tl2_same w2.1.1 rfl, Or.inr ⟨k, 0, cq1_22, hk2, hk6, rfl, rfl, rfl, w19⟩⟩, w2.2.1, w2.2.2, rfl, rfl, rfl⟩, rfl, by rw [ht9_]; exact hP9, hD9, by rw [ht9_]; exact (show GF s.heap H (3 * k1_18) (31257 * k1_18) from hg.wide (by omega) (by omega))⟩, hS.F ht9_⟩) hS.2.2 dX4_toward_63
  · have hlt3 : x.toInt < (8 : Int32).toInt := by ((try simp only [inR, inS, i3_lt, i3_le, i3_eq, i6_lt, i6_le, Int32.toInt_toInt64, lg_cmp_lt, lg_cmp_gt, lg_cmp_ge, lg_cmp_le, Int32.reduceToInt, Int64.reduceToInt] at c1 ⊢); omega)
    refine lv_aload_n hx hb dX4_toward_13 rfl (lv_at hl 1 rfl) ?_
    refine va_get (D := G.1) (ci := 2) (v := .ref rt) (C := RX4) (T := TX4) (N := 3) hx hb hts (fun _ h => List.mem_cons_of_mem _ (List.mem_append_left _ (List.mem_append_right _ h))) hown E.K hP 0 rfl rfl 0 (by decide) (hts (.fieldLink RX4 13 "LastMap$Search" "tables" "[LLastMap$Table;") (by decide +kernel)) (fun _ h9 => h9) rfl dX4_toward_14 ?_
    refine lv_iload hx hb dX4_toward_17 (lv_at hl 0 rfl) ?_
    refine va_aldq hx hb E.K hP 1 4 rfl rfl (i := x) (vp_in_iff.mpr ⟨hx0, by have q := hlt3; simp only [Int32.reduceToInt] at q; omega⟩) dX4_toward_19 ?_
    obtain ⟨o_, ho⟩ : ∃ o_, o_ = ft x.toNatClampNeg := ⟨_, rfl⟩
    rw [← ho]
    rcases o_ with _ | t0
    · refine lv_astoreN (lv' := [(5, .null), (4, .int x), (0, .ref sr), (1, .int p0), (2, .int p1), (3, .int (nI k))]) hx hb dX4_toward_20 hl (by decide) rfl (fun ls hl => ?_)
      refine lv_aloadN hx hb dX4_toward_22 (lv_at hl 0 rfl) ?_
      refine lv_ifnullN (tgt := 41) hx hb dX4_toward_24 (by decide) ?_
      obtain ⟨x25, ex25⟩ : ∃ yy_ : Int32, yy_ = x + 1 := ⟨_, rfl⟩
      refine lv_iinc (v := x25) (lv' := [(4, .int x25), (5, .null), (0, .ref sr), (1, .int p0), (2, .int p1), (3, .int (nI k))]) hx hb dX4_toward_41 hl (k := 1) rfl (by rw [ex25]; rfl) (by decide) rfl (fun ls hl => ?_)
      refine lv_goto (tgt := 3) hx hb dX4_toward_44 (by decide) ?_
      have hinc3 := inc_lt hlt3 ex25
      refine ih3 (x25, Tv) ⟨?_, ?_⟩ (by first | omega | (dsimp only; omega)) H locs ls (P_subT hP [0, 1, 2] rfl) (D_subT hD [0, 1, 2] (by decide) rfl) hS (lv_sub hl [0, 2, 3, 4, 5] rfl)
      · try dsimp only
        omega
      · try dsimp only
        exact hTv
    · obtain ⟨d_, T_26, hd1, hd2, hTL, hP, hD⟩ := pl2_take (X := [(sr, .inr (2, [.ref rt, .ref ru, .int ol])), (rt, .inl (gT G, 8, .inr (.inr (.inr (.inr ft))))), (ru, .inl (gI G, 15625, .inl gu))]) hTv (show x.toNatClampNeg < 8 by (have q := hlt3; simp only [Int32.reduceToInt] at q; show x.toInt.toNat < 8; omega)) ho.symm hP hD
      obtain ⟨t_26, ta_26, tq_26, qd_26, se_26, go_26, ki_26, nn_26, fs_26, fq_26⟩ := d_
      dsimp only at hd1
      subst hd1
      have hP : va_P G.1 vwCl ([(sr, .inr (2, [.ref rt, .ref ru, .int ol])), (rt, .inl (gT G, 8, .inr (.inr (.inr (.inr ft))))), (ru, .inl (gI G, 15625, .inl gu)), (t_26, .inr (3, [.ref ta_26, .ref tq_26, .int qd_26, .int se_26, .int go_26, .int ki_26, .int nn_26])), (ta_26, .inl (gB G, 15625, .inl fs_26)), (tq_26, .inl (gI G, 15625, .inl fq_26))] ++ T_26) H := hP
      have hD : va_D A ([(sr, .inr (2, [.ref rt, .ref ru, .int ol])), (rt, .inl (gT G, 8, .inr (.inr (.inr (.inr ft))))), (ru, .inl (gI G, 15625, .inl gu)), (t_26, .inr (3, [.ref ta_26, .ref tq_26, .int qd_26, .int se_26, .int go_26, .int ki_26, .int nn_26])), (ta_26, .inl (gB G, 15625, .inl fs_26)), (tq_26, .inl (gI G, 15625, .inl fq_26))] ++ T_26) := hD
      refine lv_astore (lv' := [(5, .ref t_26), (4, .int x), (0, .ref sr), (1, .int p0), (2, .int p1), (3, .int (nI k))]) hx hb dX4_toward_20 hl (by decide) rfl (fun ls hl => ?_)
      refine lv_aload hx hb dX4_toward_22 (lv_at hl 0 rfl) ?_
      refine lv_ifnull hx hb dX4_toward_24 ?_
      refine lv_aload hx hb dX4_toward_27 (lv_at hl 0 rfl) ?_
      refine lv_iload_n hx hb dX4_toward_29 rfl (lv_at hl 3 rfl) ?_
      refine lv_iload_n hx hb dX4_toward_30 rfl (lv_at hl 4 rfl) ?_
      refine lv_iload_n hx hb dX4_toward_31 rfl (lv_at hl 5 rfl) ?_
      refine ca_iR (va_runV (As := [.int p0, .int p1, .int (nI k)]) (rest := []) ⟨hx, hb, hml, hown, hts⟩ (c_isFor l G H.size t_26 ta_26 tq_26 qd_26 se_26 go_26 ki_26 nn_26 fs_26 fq_26 p0 p1 (nI k)) (cwV 3 hts gX4_toward_X7_isFor rfl rfl rfl (by decide +kernel) ⟨by decide +kernel, by decide +kernel⟩) (pre_V E hP hD hS hA [3, 4, 5] (by decide) rfl 3 3 rfl rfl) rfl rfl hl.1 rfl (lv_room (Nat.le_of_ble_eq_true rfl)) dX4_toward_32 ⟨show 0 + 0 ≤ 3 by omega, show 0 + 0 ≤ 31257 by omega⟩) hS hP hD hA [3, 4, 5] rfl (fun r28 _ H locs w27 hP hS => ?_)
      rcases w27 with ⟨rfl, b29⟩ | ⟨rfl, b29⟩
      · refine lv_if_eq (tgt := 41) hx hb dX4_toward_35 (by decide) (fun c30 => False.elim (by revert c30; decide)) (fun _ => ?_)
        refine lv_aload hx hb dX4_toward_38 (lv_at hl 0 rfl) ?_
        refine W_facts (fun hg => ?_)
        have hg : GF s.heap H (0) (0) := hg
        refine W.widen (k := 3) (n := 31257) (show 0 ≤ 3 by omega) (show 0 ≤ 31257 by omega) ?_
        have hP9 := (P_subT (X' := [(sr, .inr (2, [.ref rt, .ref ru, .int ol])), (rt, .inl (gT G, 8, .inr (.inr (.inr (.inr ft))))), (ru, .inl (gI G, 15625, .inl gu)), (t_26, .inr (3, [.ref ta_26, .ref tq_26, .int qd_26, .int se_26, .int go_26, .int ki_26, .int nn_26])), (ta_26, .inl (gB G, 15625, .inl fs_26)), (tq_26, .inl (gI G, 15625, .inl fq_26))]) hP [0, 1, 2, 3, 4, 5] rfl)
        have hD9 := (D_subT (X' := [(sr, .inr (2, [.ref rt, .ref ru, .int ol])), (rt, .inl (gT G, 8, .inr (.inr (.inr (.inr ft))))), (ru, .inl (gI G, 15625, .inl gu)), (t_26, .inr (3, [.ref ta_26, .ref tq_26, .int qd_26, .int se_26, .int go_26, .int ki_26, .int nn_26])), (ta_26, .inl (gB G, 15625, .inl fs_26)), (tq_26, .inl (gI G, 15625, .inl fq_26))]) hD [0, 1, 2, 3, 4, 5] (by decide) rfl)
        exact W.aret (v := .ref t_26) hx hb hr (Or.inl ⟨_, rfl⟩) (Or.inr ⟨_, rfl⟩) (fun t9_ ht9_ hW9_ => ⟨⟨(ol, ft, t_26, ta_26, tq_26, qd_26, se_26, go_26, ki_26, nn_26, fs_26, fq_26, T_26, 0), t_26, rfl, ⟨⟨hTL, hd2⟩, rfl, Nat.zero_le _, b29⟩, rfl, by rw [ht9_]; exact hP9, hD9, by rw [ht9_]; exact (show GF s.heap H (3 * 0) (31257 * 0) from hg.wide (by omega) (by omega))⟩, hS.F ht9_⟩) hS.2.2 dX4_toward_40
      · refine lv_if_eq (tgt := 41) hx hb dX4_toward_35 (by decide) (fun _ => ?_) (fun c31 => False.elim (by revert c31; decide))
        obtain ⟨T9_32, hT9_32, hP, hD⟩ := pl2_put (X := [(sr, .inr (2, [.ref rt, .ref ru, .int ol])), (rt, .inl (gT G, 8, .inr (.inr (.inr (.inr ft))))), (ru, .inl (gI G, 15625, .inl gu))]) (d1 := (t_26, ta_26, tq_26, qd_26, se_26, go_26, ki_26, nn_26, fs_26, fq_26)) hTL rfl hd2 (P_subT hP [0, 1, 2, 3, 4, 5] rfl) (D_subT hD [0, 1, 2, 3, 4, 5] (by decide) rfl)
        have hP : va_P G.1 vwCl ([(sr, .inr (2, [.ref rt, .ref ru, .int ol])), (rt, .inl (gT G, 8, .inr (.inr (.inr (.inr ft))))), (ru, .inl (gI G, 15625, .inl gu))] ++ T9_32) H := hP
        have hD : va_D A ([(sr, .inr (2, [.ref rt, .ref ru, .int ol])), (rt, .inl (gT G, 8, .inr (.inr (.inr (.inr ft))))), (ru, .inl (gI G, 15625, .inl gu))] ++ T9_32) := hD
        obtain ⟨x33, ex33⟩ : ∃ yy_ : Int32, yy_ = x + 1 := ⟨_, rfl⟩
        refine lv_iinc (v := x33) (lv' := [(4, .int x33), (5, .ref t_26), (0, .ref sr), (1, .int p0), (2, .int p1), (3, .int (nI k))]) hx hb dX4_toward_41 hl (k := 1) rfl (by rw [ex33]; rfl) (by decide) rfl (fun ls hl => ?_)
        refine lv_goto (tgt := 3) hx hb dX4_toward_44 (by decide) ?_
        have hinc3 := inc_lt hlt3 ex33
        refine ih3 (x33, T9_32) ⟨?_, ?_⟩ (by first | omega | (dsimp only; omega)) H locs ls (P_subT hP [0, 1, 2] rfl) (D_subT hD [0, 1, 2] (by decide) rfl) hS (lv_sub hl [0, 2, 3, 4, 5] rfl)
        · try dsimp only
          omega
        · try dsimp only
          exact hT9_32

set_option maxHeartbeats 1000000 in
set_option maxRecDepth 100000 in
theorem n_onlyMap (l : Launch) (G : Gy) (sz : Nat) (k : Nat) (a : Nat) (hk2 : 2 ≤ k) (hk6 : k ≤ 6) (ha : a < 5 ^ k) : Ci l G yX0_onlyMap wsX0_onlyMap ({ frames := 2, cells := 0, slots := 0, locals := 42 }) [.int (nI (sc k a)), .int (nI k)] ([]) sz (fun (r : Int32) (_ : Unit) => ∀ j, j < k → gmk r j = nI (dg k a j)) (fun (_ : Unit) => []) 0 0 := by
  refine Met.ofW (cc := cX0_onlyMap) (maxL := 4) (ret := (some .int)) (by decide) rfl ?_
  intro p e s m args below meth c s₁ B hml hv
  obtain ⟨rfl, hsz, hP, hD0, E0⟩ := hv
  have hx := B.exec
  have hb := B.bytes
  have hr := B.returns
  have hts := atoms_spec (ws := wsX0_onlyMap) B.pre
  have hown : s.vm.findClass RX0 = some m.cls := findClass_of_methodNamed B.named
  have hlocks := B.notSynchronized
  subst hsz
  have hD := hD0.self (sz := s.heap.size)
  generalize hAe : va_A ([]) s.heap.size = A at hD E0 ⊢
  have E : EV G A s s.heap := E0
  have hA : ∀ q : Nat, s.heap.size ≤ q → A q := fun q h => by rw [← hAe]; exact Or.inr h
  have hS : va_S A s.heap s.heap [] := va_S.rf
  have hl := lv_entry ([.int (nI (sc k a)), .int (nI k)]) (n := 4) (Nat.le_of_ble_eq_true rfl)
  rw [lg_entry_eq]
  generalize (lg_sl ([.int (nI (sc k a)), .int (nI k)]) ++ List.replicate (4 - (lg_sl ([.int (nI (sc k a)), .int (nI k)])).length) Slot.unset).toArray = ls at hl ⊢
  have hl : lv_has ls 4 [(0, .int (nI (sc k a))), (1, .int (nI k))] := hl
  have hP : va_P G.1 vwCl ([]) s.heap := hP
  refine lv_iconst (v := 0) hx hb dX0_onlyMap_0 (by decide) ?_
  refine lv_istore_n (lv' := [(2, .int 0), (0, .int (nI (sc k a))), (1, .int (nI k))]) hx hb dX0_onlyMap_1 rfl hl (by decide) rfl (fun ls hl => ?_)
  refine lv_iconst (v := 0) hx hb dX0_onlyMap_2 (by decide) ?_
  refine lv_istore_n (lv' := [(3, .int 0), (2, .int 0), (0, .int (nI (sc k a))), (1, .int (nI k))]) hx hb dX0_onlyMap_3 rfl hl (by decide) rfl (fun ls hl => ?_)
  refine lp_run (x0 := (0, 0)) (fun xx_ : Nat × Int32 => match xx_ with | (x, gq) => []) (fun xx_ : Nat × Int32 => match xx_ with | (x, gq) => [(3, .int (nI x)), (2, .int gq), (0, .int (nI (sc k a))), (1, .int (nI k))]) (fun xx_ : Nat × Int32 => match xx_ with | (x, gq) => (x ≤ k) ∧ (∀ j, j < x → gmk gq j = nI (dg k a j)) ∧ (∀ i, 3 * x ≤ i → i < 32 → bt gq i = false)) (fun xx_ : Nat × Int32 => match xx_ with | (x, gq) => k - x) (hP.sub [] rfl) (hD.sub [] (by decide) rfl) hS (lv_sub hl [0, 1, 2, 3] rfl) ⟨(by omega), by intro j hj; omega, fun i _ _ => bt_zero i⟩ ?_
  intro xx_ hI ih4 H locs ls hP hD hS hl
  obtain ⟨x, gq⟩ := xx_
  dsimp only at hI ih4 hP hD hl
  obtain ⟨hx0, hg, hz⟩ := hI
  have hl : lv_has ls 4 [(3, .int (nI x)), (2, .int gq), (0, .int (nI (sc k a))), (1, .int (nI k))] := hl
  have hP : va_P G.1 vwCl ([]) H := hP
  have hD : va_D A ([]) := hD
  refine lv_iload_n hx hb dX0_onlyMap_4 rfl (lv_at hl 0 rfl) ?_
  refine lv_iload_n hx hb dX0_onlyMap_5 rfl (lv_at hl 3 rfl) ?_
  refine lv_icmp_ge (tgt := 26) hx hb dX0_onlyMap_6 (by decide) (fun c1 => ?_) (fun c1 => ?_)
  · have c1 : k ≤ x := (nI_leI (a := k) (b := x) (by omega) (by omega)).mp c1
    refine lv_iload_n hx hb dX0_onlyMap_26 rfl (lv_at hl 1 rfl) ?_
    have hP9 := (hP.sub (ws' := []) [] rfl)
    have hD9 := (hD.sub (ws' := []) [] (by decide) rfl)
    exact W.iret (v := gq) hx hb hr (fun t9_ ht9_ hW9_ => ⟨⟨gq, (), rfl, fun j9 h9 => hg j9 (by omega), by rw [ht9_]; exact hP9, hD9⟩, hS.F ht9_⟩) hS.2.2 dX0_onlyMap_27
  · have c1 : ¬ k ≤ x := fun h9_ => c1 ((nI_leI (a := k) (b := x) (by omega) (by omega)).mpr h9_)
    have hgo := gmk_or (g := gq) (x := x) (d := dg k a x) (by omega) (by have := dg_lt k a x; omega) hz
    refine lv_iload_n hx hb dX0_onlyMap_9 rfl (lv_at hl 1 rfl) ?_
    refine lv_iload_n hx hb dX0_onlyMap_10 rfl (lv_at hl 0 rfl) ?_
    refine lv_iload_n hx hb dX0_onlyMap_11 rfl (lv_at hl 2 rfl) ?_
    refine lv_iload_n hx hb dX0_onlyMap_12 rfl (lv_at hl 0 rfl) ?_
    refine ca_iR (va_runS (As := [.int (nI (sc k a)), .int (nI x)]) (rest := [.int (nI x), .int gq]) ⟨hx, hb, hml, hown, hts⟩ (n_signAt l G H.size (sc k a) x (sc_lt hk6 ha) (by omega)) (va_cwS 2 hts gX0_onlyMap_X1_signAt rfl rfl rfl (by decide +kernel) ⟨by decide +kernel, by decide +kernel⟩) (pre_S E hP hD hS hA [] (by decide) rfl) rfl rfl hl.1 rfl (lv_room (Nat.le_of_ble_eq_true rfl)) dX0_onlyMap_13 ⟨by decide +kernel, by decide +kernel⟩) hS hP hD hA [] rfl (fun r3 _ H locs w2 hP hS => ?_)
    rw [w2]
    refine W.eq (g2 := F0 m 16 ls [.int (nI (dg k a x)), .int (nI x), .int gq]) (by rw [dg_sc hk6 (show x < k by omega)]) ?_
    refine ca_iR (va_runS (As := [.int gq, .int (nI x), .int (nI (dg k a x))]) (rest := []) ⟨hx, hb, hml, hown, hts⟩ (c_goalWith l G H.size gq (nI x) (nI (dg k a x))) (va_cwS 3 hts gX0_onlyMap_X0_with rfl rfl rfl (by decide +kernel) ⟨by decide +kernel, by decide +kernel⟩) (pre_S E hP hD hS hA [] (by decide) rfl) rfl rfl hl.1 rfl (lv_room (Nat.le_of_ble_eq_true rfl)) dX0_onlyMap_16 ⟨by decide +kernel, by decide +kernel⟩) hS hP hD hA [] rfl (fun r5 _ H locs w4 hP hS => ?_)
    have hnw : r5 = gq ||| (nI (dg k a x) <<< ((3 * nI x) &&& 31)) := w4
    refine lv_istore_n (lv' := [(2, .int r5), (3, .int (nI x)), (0, .int (nI (sc k a))), (1, .int (nI k))]) hx hb dX0_onlyMap_19 rfl hl (by decide) rfl (fun ls hl => ?_)
    obtain ⟨x6, ex6⟩ : ∃ yy_ : Int32, yy_ = (nI x) + 1 := ⟨_, rfl⟩
    refine lv_iinc (v := x6) (lv' := [(3, .int x6), (2, .int r5), (0, .int (nI (sc k a))), (1, .int (nI k))]) hx hb dX0_onlyMap_20 hl (k := 1) rfl (by rw [ex6]; rfl) (by decide) rfl (fun ls hl => ?_)
    obtain rfl : x6 = nI (x + 1) := by rw [ex6]; exact nI_add x 1
    refine lv_goto (tgt := 4) hx hb dX0_onlyMap_23 (by decide) ?_
    refine ih4 ((x + 1), r5) ⟨?_, ?_, ?_⟩ (by first | omega | (dsimp only; omega)) H locs ls (hP.sub [] rfl) (hD.sub [] (by decide) rfl) hS (lv_sub hl [0, 1, 2, 3] rfl)
    · try dsimp only
      omega
    · try dsimp only
      intro j hj; rw [hnw]
      by_cases e9 : j = x
      · rw [e9]; exact hgo.2.1
      · rw [hgo.1 j (by omega)]; exact hg j (by omega)
    · try dsimp only
      rw [hnw]; exact hgo.2.2

set_option maxHeartbeats 1000000 in
set_option maxRecDepth 100000 in
theorem h_tableOf_s (l : Launch) (G : Gy) (H0 : Heap) (h0 : Nat) (pad : Nat) (pp : Nat) (im : Nat) (vtr : Value) (ac : Nat) (ak : Nat) (k : Nat) (jt : Nat) (jh : Nat) (told : Int32) (sp : Int32) (gr : Int32) (fc : Nat → Int32) (fk : Nat → Int32) (a : Nat) (sr : Nat) (rt : Nat) (ru : Nat) (ol : Int32) (ft : Nat → Option Nat) (gu : Nat → Int32) (T : va_W) (hk2 : 2 ≤ k) (hk6 : k ≤ 6) (hjt : jt < 6) (hjh : jh < 4) (ha : a < 5 ^ k) (hca : fc jt = nI (sc k a)) (hT : PL2 G ft T) : ChR l G yX9_tableOf wsX9_tableOf ({ frames := 10, cells := 3, slots := 31257, locals := 238 }) [.ref h0, .int (nI jt), .int (nI jh)] ([(h0, .inr (5, [.ref pad, .ref pp, .ref im, .ref sr, vtr])), (pp, .inr (1, [.int (nI k), .int told, .int sp, .int gr, .ref ac, .ref ak])), (ac, .inl (gI G, 6, .inl fc)), (ak, .inl (gI G, 4, .inl fk)), (sr, .inr (2, [.ref rt, .ref ru, .int ol])), (rt, .inl (gT G, 8, .inr (.inr (.inr (.inr ft))))), (ru, .inl (gI G, 15625, .inl gu))] ++ T) H0 (fun (u : Int32 × (Nat → Option Nat) × Nat × Nat × Nat × Int32 × Int32 × Int32 × Int32 × Int32 × (Nat → Int32) × (Nat → Int32) × va_W × Nat) => match u with | (ol1, ft1, t1, ta1, tq1, qd1, se1, go1, ki1, nn1, fs1, fq1, T1, k1) => (TL2 G ft1 (t1, ta1, tq1, qd1, se1, go1, ki1, nn1, fs1, fq1) T1 ∧ tokS (t1, ta1, tq1, qd1, se1, go1, ki1, nn1, fs1, fq1)) ∧ cntS ft1 8 = cntS ft 8 + k1 ∧ k1 ≤ 1 ∧ (∀ j, j < k → gmk go1 j = nI (dg k a j)) ∧ ki1 = fk jh ∧ nn1 = nI k) (fun (u : Int32 × (Nat → Option Nat) × Nat × Nat × Nat × Int32 × Int32 × Int32 × Int32 × Int32 × (Nat → Int32) × (Nat → Int32) × va_W × Nat) => match u with | (ol1, ft1, t1, ta1, tq1, qd1, se1, go1, ki1, nn1, fs1, fq1, T1, k1) => t1) (fun (u : Int32 × (Nat → Option Nat) × Nat × Nat × Nat × Int32 × Int32 × Int32 × Int32 × Int32 × (Nat → Int32) × (Nat → Int32) × va_W × Nat) => (match u with | (ol1, ft1, t1, ta1, tq1, qd1, se1, go1, ki1, nn1, fs1, fq1, T1, k1) => [(h0, .inr (5, [.ref pad, .ref pp, .ref im, .ref sr, vtr])), (pp, .inr (1, [.int (nI k), .int told, .int sp, .int gr, .ref ac, .ref ak])), (ac, .inl (gI G, 6, .inl fc)), (ak, .inl (gI G, 4, .inl fk)), (sr, .inr (2, [.ref rt, .ref ru, .int ol1])), (rt, .inl (gT G, 8, .inr (.inr (.inr (.inr ft1))))), (ru, .inl (gI G, 15625, .inl gu)), (t1, .inr (3, [.ref ta1, .ref tq1, .int qd1, .int se1, .int go1, .int ki1, .int nn1])), (ta1, .inl (gB G, 15625, .inl fs1)), (tq1, .inl (gI G, 15625, .inl fq1))]) ++ (match u with | (ol1, ft1, t1, ta1, tq1, qd1, se1, go1, ki1, nn1, fs1, fq1, T1, k1) => T1)) (fun (u : Int32 × (Nat → Option Nat) × Nat × Nat × Nat × Int32 × Int32 × Int32 × Int32 × Int32 × (Nat → Int32) × (Nat → Int32) × va_W × Nat) => match u with | (ol1, ft1, t1, ta1, tq1, qd1, se1, go1, ki1, nn1, fs1, fq1, T1, k1) => 3 * k1) (fun (u : Int32 × (Nat → Option Nat) × Nat × Nat × Nat × Int32 × Int32 × Int32 × Int32 × Int32 × (Nat → Int32) × (Nat → Int32) × va_W × Nat) => match u with | (ol1, ft1, t1, ta1, tq1, qd1, se1, go1, ki1, nn1, fs1, fq1, T1, k1) => 31257 * k1) 3 31257 := by
  refine Met.ofW (cc := cX9_tableOf) (maxL := 4) (ret := (some (.object "LastMap$Table"))) (by decide) rfl ?_
  intro p e s m args below meth c s₁ B hml hv
  obtain ⟨rfl, hsz, hP, hD0, E0⟩ := hv
  have hx := B.exec
  have hb := B.bytes
  have hr := B.returns
  have hts := atoms_spec (ws := wsX9_tableOf) B.pre
  have hown : s.vm.findClass RX9 = some m.cls := findClass_of_methodNamed B.named
  have hlocks := B.notSynchronized
  subst hsz
  have hD := hD0.self (sz := s.heap.size)
  generalize hAe : va_A ([(h0, .inr (5, [.ref pad, .ref pp, .ref im, .ref sr, vtr])), (pp, .inr (1, [.int (nI k), .int told, .int sp, .int gr, .ref ac, .ref ak])), (ac, .inl (gI G, 6, .inl fc)), (ak, .inl (gI G, 4, .inl fk)), (sr, .inr (2, [.ref rt, .ref ru, .int ol])), (rt, .inl (gT G, 8, .inr (.inr (.inr (.inr ft))))), (ru, .inl (gI G, 15625, .inl gu))] ++ T) s.heap.size = A at hD E0 ⊢
  have E : EV G A s s.heap := E0
  have hA : ∀ q : Nat, s.heap.size ≤ q → A q := fun q h => by rw [← hAe]; exact Or.inr h
  have hS : va_S A s.heap s.heap [] := va_S.rf
  have hl := lv_entry ([.ref h0, .int (nI jt), .int (nI jh)]) (n := 4) (Nat.le_of_ble_eq_true rfl)
  rw [lg_entry_eq]
  generalize (lg_sl ([.ref h0, .int (nI jt), .int (nI jh)]) ++ List.replicate (4 - (lg_sl ([.ref h0, .int (nI jt), .int (nI jh)])).length) Slot.unset).toArray = ls at hl ⊢
  have hl : lv_has ls 4 [(0, .ref h0), (1, .int (nI jt)), (2, .int (nI jh))] := hl
  have hP : va_P G.1 vwCl ([(h0, .inr (5, [.ref pad, .ref pp, .ref im, .ref sr, vtr])), (pp, .inr (1, [.int (nI k), .int told, .int sp, .int gr, .ref ac, .ref ak])), (ac, .inl (gI G, 6, .inl fc)), (ak, .inl (gI G, 4, .inl fk)), (sr, .inr (2, [.ref rt, .ref ru, .int ol])), (rt, .inl (gT G, 8, .inr (.inr (.inr (.inr ft))))), (ru, .inl (gI G, 15625, .inl gu))] ++ T) s.heap := hP
  refine lv_aload_n hx hb dX9_tableOf_0 rfl (lv_at hl 0 rfl) ?_
  refine va_get (D := G.1) (ci := 5) (v := .ref pp) (C := RX9) (T := TX9) (N := 5) hx hb hts (fun _ h => List.mem_cons_of_mem _ (List.mem_append_left _ (List.mem_append_left _ (List.mem_append_left _ (List.mem_append_right _ h))))) hown E.K hP 0 rfl rfl 1 (by decide) (hts (.fieldLink RX9 19 "LastMap" "papers" "LLastMap$Papers;") (by decide +kernel)) (fun _ h9 => h9) rfl dX9_tableOf_1 ?_
  refine lv_iload_n hx hb dX9_tableOf_4 rfl (lv_at hl 1 rfl) ?_
  refine ca_iR (va_runV (As := [.int (nI jt)]) (rest := []) ⟨hx, hb, hml, hown, hts⟩ (n_codeOf l G s.heap.size pp ac ak (nI k) told sp gr fc fk jt hjt) (cwV 1 hts gX9_tableOf_X3_codeOf rfl rfl rfl (by decide +kernel) ⟨by decide +kernel, by decide +kernel⟩) (pre_V E hP hD hS hA [1, 2, 3] (by decide) rfl 1 1 rfl rfl) rfl rfl hl.1 rfl (lv_room (Nat.le_of_ble_eq_true rfl)) dX9_tableOf_5 ⟨show 0 + 0 ≤ 3 by omega, show 0 + 0 ≤ 31257 by omega⟩) hS hP hD hA [1, 2, 3] rfl (fun r2 _ H locs w1 hP hS => ?_)
  obtain rfl : r2 = nI (sc k a) := by rw [w1]; exact hca
  refine lv_aload_n hx hb dX9_tableOf_8 rfl (lv_at hl 0 rfl) ?_
  refine va_get (D := G.1) (ci := 5) (v := .ref pp) (C := RX9) (T := TX9) (N := 5) hx hb hts (fun _ h => List.mem_cons_of_mem _ (List.mem_append_left _ (List.mem_append_left _ (List.mem_append_left _ (List.mem_append_right _ h))))) hown E.K hP 0 rfl rfl 1 (by decide) (hts (.fieldLink RX9 19 "LastMap" "papers" "LLastMap$Papers;") (by decide +kernel)) (fun _ h9 => h9) rfl dX9_tableOf_9 ?_
  refine va_get (D := G.1) (ci := 1) (v := .int (nI k)) (C := RX3) (T := TX3) (N := 6) hx hb hts (fun _ h => List.mem_cons_of_mem _ (List.mem_append_left _ (List.mem_append_left _ (List.mem_append_right _ h)))) hown E.K hP 1 rfl rfl 0 (by decide) (hts (.fieldLink RX9 27 "LastMap$Papers" "siteCount" "I") (by decide +kernel)) (fun _ h9 => h9) rfl dX9_tableOf_12 ?_
  refine ca_iR (va_runS (As := [.int (nI (sc k a)), .int (nI k)]) (rest := []) ⟨hx, hb, hml, hown, hts⟩ (n_onlyMap l G H.size k a hk2 hk6 ha) (va_cwS 2 hts gX9_tableOf_X0_onlyMap rfl rfl rfl (by decide +kernel) ⟨by decide +kernel, by decide +kernel⟩) (pre_S E hP hD hS hA [] (by decide) rfl) rfl rfl hl.1 rfl (lv_room (Nat.le_of_ble_eq_true rfl)) dX9_tableOf_15 ⟨show 0 + 0 ≤ 3 by omega, show 0 + 0 ≤ 31257 by omega⟩) hS hP hD hA [] rfl (fun r4 _ H locs w3 hP hS => ?_)
  refine lv_istore_n (lv' := [(3, .int r4), (0, .ref h0), (1, .int (nI jt)), (2, .int (nI jh))]) hx hb dX9_tableOf_18 rfl hl (by decide) rfl (fun ls hl => ?_)
  refine lv_aload_n hx hb dX9_tableOf_19 rfl (lv_at hl 1 rfl) ?_
  refine W_facts (fun hg => ?_)
  have hg : GF s.heap H (0) (0) := hg
  refine ca_rH (wr := [(pp, .inr (1, [.int (nI k), .int told, .int sp, .int gr, .ref ac, .ref ak])), (ac, .inl (gI G, 6, .inl fc)), (ak, .inl (gI G, 4, .inl fk)), (sr, .inr (2, [.ref rt, .ref ru, .int ol])), (rt, .inl (gT G, 8, .inr (.inr (.inr (.inr ft))))), (ru, .inl (gI G, 15625, .inl gu))]) hg (va_runV (As := []) (rest := []) ⟨hx, hb, hml, hown, hts⟩ (d_ready_s l G H h0 pad pp im vtr sr T) (cwV 0 hts gX9_tableOf_X9_readySearch rfl rfl rfl (by decide +kernel) ⟨by decide +kernel, by decide +kernel⟩) (pre_VH E hP hD hS hA [0] (by decide) rfl 0 5 rfl rfl) rfl rfl hl.1 rfl (lv_room (Nat.le_of_ble_eq_true rfl)) dX9_tableOf_20 ⟨show 0 + 0 ≤ 3 by omega, show 0 + 0 ≤ 31257 by omega⟩) hS hP hD hA [0] [1, 2, 3, 4, 5, 6] rfl rfl (by decide) (by decide) (fun u7 H locs w5 hP hD hS hg => ?_)
  try dsimp only at w5 hP hD
  have hP := (P_subT (X' := [(h0, .inr (5, [.ref pad, .ref pp, .ref im, .ref sr, vtr])), (pp, .inr (1, [.int (nI k), .int told, .int sp, .int gr, .ref ac, .ref ak])), (ac, .inl (gI G, 6, .inl fc)), (ak, .inl (gI G, 4, .inl fk)), (sr, .inr (2, [.ref rt, .ref ru, .int ol])), (rt, .inl (gT G, 8, .inr (.inr (.inr (.inr ft))))), (ru, .inl (gI G, 15625, .inl gu))]) hP [6, 0, 1, 2, 3, 4, 5] rfl)
  have hD := (D_subT (X' := [(h0, .inr (5, [.ref pad, .ref pp, .ref im, .ref sr, vtr])), (pp, .inr (1, [.int (nI k), .int told, .int sp, .int gr, .ref ac, .ref ak])), (ac, .inl (gI G, 6, .inl fc)), (ak, .inl (gI G, 4, .inl fk)), (sr, .inr (2, [.ref rt, .ref ru, .int ol])), (rt, .inl (gT G, 8, .inr (.inr (.inr (.inr ft))))), (ru, .inl (gI G, 15625, .inl gu))]) hD [6, 0, 1, 2, 3, 4, 5] (by decide) rfl)
  refine lv_iload_n hx hb dX9_tableOf_23 rfl (lv_at hl 0 rfl) ?_
  refine lv_aload_n hx hb dX9_tableOf_24 rfl (lv_at hl 1 rfl) ?_
  refine va_get (D := G.1) (ci := 5) (v := .ref pp) (C := RX9) (T := TX9) (N := 5) hx hb hts (fun _ h => List.mem_cons_of_mem _ (List.mem_append_left _ (List.mem_append_left _ (List.mem_append_left _ (List.mem_append_right _ h))))) hown E.K hP 0 rfl rfl 1 (by decide) (hts (.fieldLink RX9 19 "LastMap" "papers" "LLastMap$Papers;") (by decide +kernel)) (fun _ h9 => h9) rfl dX9_tableOf_25 ?_
  refine lv_iload_n hx hb dX9_tableOf_28 rfl (lv_at hl 3 rfl) ?_
  refine ca_iR (va_runV (As := [.int (nI jh)]) (rest := [.int r4, .ref sr]) ⟨hx, hb, hml, hown, hts⟩ (n_kindsOf l G H.size pp ac ak (nI k) told sp gr fc fk jh hjh) (cwV 1 hts gX9_tableOf_X3_kindsOf rfl rfl rfl (by decide +kernel) ⟨by decide +kernel, by decide +kernel⟩) (pre_V E hP hD hS hA [1, 2, 3] (by decide) rfl 1 1 rfl rfl) rfl rfl hl.1 rfl (lv_room (Nat.le_of_ble_eq_true rfl)) dX9_tableOf_29 ⟨show 0 + 0 + 0 ≤ 3 by omega, show 0 + 0 + 0 ≤ 31257 by omega⟩) hS hP hD hA [1, 2, 3] rfl (fun r9 _ H locs w8 hP hS => ?_)
  refine lv_aload_n hx hb dX9_tableOf_32 rfl (lv_at hl 1 rfl) ?_
  refine va_get (D := G.1) (ci := 5) (v := .ref pp) (C := RX9) (T := TX9) (N := 5) hx hb hts (fun _ h => List.mem_cons_of_mem _ (List.mem_append_left _ (List.mem_append_left _ (List.mem_append_left _ (List.mem_append_right _ h))))) hown E.K hP 0 rfl rfl 1 (by decide) (hts (.fieldLink RX9 19 "LastMap" "papers" "LLastMap$Papers;") (by decide +kernel)) (fun _ h9 => h9) rfl dX9_tableOf_33 ?_
  refine va_get (D := G.1) (ci := 1) (v := .int (nI k)) (C := RX3) (T := TX3) (N := 6) hx hb hts (fun _ h => List.mem_cons_of_mem _ (List.mem_append_left _ (List.mem_append_left _ (List.mem_append_right _ h)))) hown E.K hP 1 rfl rfl 0 (by decide) (hts (.fieldLink RX9 27 "LastMap$Papers" "siteCount" "I") (by decide +kernel)) (fun _ h9 => h9) rfl dX9_tableOf_36 ?_
  refine W_facts (fun hg => ?_)
  have hg : GF s.heap H (0 + 0) (0 + 0) := hg
  refine ca_rH (wr := [(h0, .inr (5, [.ref pad, .ref pp, .ref im, .ref sr, vtr])), (pp, .inr (1, [.int (nI k), .int told, .int sp, .int gr, .ref ac, .ref ak])), (ac, .inl (gI G, 6, .inl fc)), (ak, .inl (gI G, 4, .inl fk))]) hg (va_runV (As := [.int r4, .int r9, .int (nI k)]) (rest := []) ⟨hx, hb, hml, hown, hts⟩ (h_toward l G H sr rt ru ol ft gu T k r4 r9 hk2 hk6 hT) (cwV 3 hts gX9_tableOf_X4_toward rfl rfl rfl (by decide +kernel) ⟨by decide +kernel, by decide +kernel⟩) (pre_VH E hP hD hS hA [4, 5, 6] (by decide) rfl 4 2 rfl rfl) rfl rfl hl.1 rfl (lv_room (Nat.le_of_ble_eq_true rfl)) dX9_tableOf_39 ⟨show 0 + 0 + 3 ≤ 3 by omega, show 0 + 0 + 31257 ≤ 31257 by omega⟩) hS hP hD hA [4, 5, 6] [0, 1, 2, 3] rfl rfl (by decide) (by decide) (fun u12 H locs w10 hP hD hS hg => ?_)
  obtain ⟨ol1_13, ft1_14, t1_15, ta1_16, tq1_17, qd1_18, se1_19, go1_20, ki1_21, nn1_22, fs1_23, fq1_24, T1_25, k1_26⟩ := u12
  try dsimp only at w10 hP hD
  have hP := (P_subT (X' := [(h0, .inr (5, [.ref pad, .ref pp, .ref im, .ref sr, vtr])), (pp, .inr (1, [.int (nI k), .int told, .int sp, .int gr, .ref ac, .ref ak])), (ac, .inl (gI G, 6, .inl fc)), (ak, .inl (gI G, 4, .inl fk)), (sr, .inr (2, [.ref rt, .ref ru, .int ol1_13])), (rt, .inl (gT G, 8, .inr (.inr (.inr (.inr ft1_14))))), (ru, .inl (gI G, 15625, .inl gu)), (t1_15, .inr (3, [.ref ta1_16, .ref tq1_17, .int qd1_18, .int se1_19, .int go1_20, .int ki1_21, .int nn1_22])), (ta1_16, .inl (gB G, 15625, .inl fs1_23)), (tq1_17, .inl (gI G, 15625, .inl fq1_24))]) hP [0, 1, 2, 3, 4, 5, 6, 7, 8, 9] rfl)
  have hD := (D_subT (X' := [(h0, .inr (5, [.ref pad, .ref pp, .ref im, .ref sr, vtr])), (pp, .inr (1, [.int (nI k), .int told, .int sp, .int gr, .ref ac, .ref ak])), (ac, .inl (gI G, 6, .inl fc)), (ak, .inl (gI G, 4, .inl fk)), (sr, .inr (2, [.ref rt, .ref ru, .int ol1_13])), (rt, .inl (gT G, 8, .inr (.inr (.inr (.inr ft1_14))))), (ru, .inl (gI G, 15625, .inl gu)), (t1_15, .inr (3, [.ref ta1_16, .ref tq1_17, .int qd1_18, .int se1_19, .int go1_20, .int ki1_21, .int nn1_22])), (ta1_16, .inl (gB G, 15625, .inl fs1_23)), (tq1_17, .inl (gI G, 15625, .inl fq1_24))]) hD [0, 1, 2, 3, 4, 5, 6, 7, 8, 9] (by decide) rfl)
  have hkk := w10.2.2
  refine W_facts (fun hg => ?_)
  have hg : GF s.heap H (0 + 0 + (3 * k1_26)) (0 + 0 + (31257 * k1_26)) := hg
  refine W.widen (k := 3) (n := 31257) (show 0 + 0 + (3 * k1_26) ≤ 3 by omega) (show 0 + 0 + (31257 * k1_26) ≤ 31257 by omega) ?_
  have hP9 := (P_subT (X' := [(h0, .inr (5, [.ref pad, .ref pp, .ref im, .ref sr, vtr])), (pp, .inr (1, [.int (nI k), .int told, .int sp, .int gr, .ref ac, .ref ak])), (ac, .inl (gI G, 6, .inl fc)), (ak, .inl (gI G, 4, .inl fk)), (sr, .inr (2, [.ref rt, .ref ru, .int ol1_13])), (rt, .inl (gT G, 8, .inr (.inr (.inr (.inr ft1_14))))), (ru, .inl (gI G, 15625, .inl gu)), (t1_15, .inr (3, [.ref ta1_16, .ref tq1_17, .int qd1_18, .int se1_19, .int go1_20, .int ki1_21, .int nn1_22])), (ta1_16, .inl (gB G, 15625, .inl fs1_23)), (tq1_17, .inl (gI G, 15625, .inl fq1_24))]) hP [0, 1, 2, 3, 4, 5, 6, 7, 8, 9] rfl)
  have hD9 := (D_subT (X' := [(h0, .inr (5, [.ref pad, .ref pp, .ref im, .ref sr, vtr])), (pp, .inr (1, [.int (nI k), .int told, .int sp, .int gr, .ref ac, .ref ak])), (ac, .inl (gI G, 6, .inl fc)), (ak, .inl (gI G, 4, .inl fk)), (sr, .inr (2, [.ref rt, .ref ru, .int ol1_13])), (rt, .inl (gT G, 8, .inr (.inr (.inr (.inr ft1_14))))), (ru, .inl (gI G, 15625, .inl gu)), (t1_15, .inr (3, [.ref ta1_16, .ref tq1_17, .int qd1_18, .int se1_19, .int go1_20, .int ki1_21, .int nn1_22])), (ta1_16, .inl (gB G, 15625, .inl fs1_23)), (tq1_17, .inl (gI G, 15625, .inl fq1_24))]) hD [0, 1, 2, 3, 4, 5, 6, 7, 8, 9] (by decide) rfl)
  exact W.aret (v := .ref t1_15) hx hb hr (Or.inl ⟨_, rfl⟩) (Or.inr ⟨_, rfl⟩) (fun t9_ ht9_ hW9_ => ⟨⟨(ol1_13, ft1_14, t1_15, ta1_16, tq1_17, qd1_18, se1_19, go1_20, ki1_21, nn1_22, fs1_23, fq1_24, T1_25, k1_26), t1_15, rfl, ⟨w10.1, w10.2.1, w10.2.2.1, w10.2.2.2.1.symm ▸ w3, w10.2.2.2.2.1.trans w8, w10.2.2.2.2.2⟩, rfl, by rw [ht9_]; exact hP9, hD9, by rw [ht9_]; exact (show GF s.heap H (3 * k1_26) (31257 * k1_26) from hg.wide (by omega) (by omega))⟩, hS.F ht9_⟩) hS.2.2 dX9_tableOf_42

set_option maxHeartbeats 1000000 in
set_option maxRecDepth 100000 in
theorem h_tableOf_n (l : Launch) (G : Gy) (H0 : Heap) (h0 : Nat) (pad : Nat) (pp : Nat) (im : Nat) (vtr : Value) (ac : Nat) (ak : Nat) (k : Nat) (jt : Nat) (jh : Nat) (told : Int32) (sp : Int32) (gr : Int32) (fc : Nat → Int32) (fk : Nat → Int32) (a : Nat) (hk2 : 2 ≤ k) (hk6 : k ≤ 6) (hjt : jt < 6) (hjh : jh < 4) (ha : a < 5 ^ k) (hca : fc jt = nI (sc k a)) : ChR l G yX9_tableOf wsX9_tableOf ({ frames := 10, cells := 6, slots := 46893, locals := 238 }) [.ref h0, .int (nI jt), .int (nI jh)] ([(h0, .inr (5, [.ref pad, .ref pp, .ref im, .null, vtr])), (pp, .inr (1, [.int (nI k), .int told, .int sp, .int gr, .ref ac, .ref ak])), (ac, .inl (gI G, 6, .inl fc)), (ak, .inl (gI G, 4, .inl fk))] ++ ([] : va_W)) H0 (fun (u : Nat × Nat × Nat × Int32 × (Nat → Option Nat) × Nat × Nat × Nat × Int32 × Int32 × Int32 × Int32 × Int32 × (Nat → Int32) × (Nat → Int32) × va_W × Nat) => match u with | (sr1, rt1, ru1, ol1, ft1, t1, ta1, tq1, qd1, se1, go1, ki1, nn1, fs1, fq1, T1, k1) => (TL2 G ft1 (t1, ta1, tq1, qd1, se1, go1, ki1, nn1, fs1, fq1) T1 ∧ tokS (t1, ta1, tq1, qd1, se1, go1, ki1, nn1, fs1, fq1)) ∧ 1 + cntS ft1 8 = k1 ∧ k1 ≤ 2 ∧ (∀ j, j < k → gmk go1 j = nI (dg k a j)) ∧ ki1 = fk jh ∧ nn1 = nI k) (fun (u : Nat × Nat × Nat × Int32 × (Nat → Option Nat) × Nat × Nat × Nat × Int32 × Int32 × Int32 × Int32 × Int32 × (Nat → Int32) × (Nat → Int32) × va_W × Nat) => match u with | (sr1, rt1, ru1, ol1, ft1, t1, ta1, tq1, qd1, se1, go1, ki1, nn1, fs1, fq1, T1, k1) => t1) (fun (u : Nat × Nat × Nat × Int32 × (Nat → Option Nat) × Nat × Nat × Nat × Int32 × Int32 × Int32 × Int32 × Int32 × (Nat → Int32) × (Nat → Int32) × va_W × Nat) => (match u with | (sr1, rt1, ru1, ol1, ft1, t1, ta1, tq1, qd1, se1, go1, ki1, nn1, fs1, fq1, T1, k1) => [(h0, .inr (5, [.ref pad, .ref pp, .ref im, .ref sr1, vtr])), (pp, .inr (1, [.int (nI k), .int told, .int sp, .int gr, .ref ac, .ref ak])), (ac, .inl (gI G, 6, .inl fc)), (ak, .inl (gI G, 4, .inl fk)), (sr1, .inr (2, [.ref rt1, .ref ru1, .int ol1])), (rt1, .inl (gT G, 8, .inr (.inr (.inr (.inr ft1))))), (ru1, .inl (gI G, 15625, .inl (fun _ => 0))), (t1, .inr (3, [.ref ta1, .ref tq1, .int qd1, .int se1, .int go1, .int ki1, .int nn1])), (ta1, .inl (gB G, 15625, .inl fs1)), (tq1, .inl (gI G, 15625, .inl fq1))]) ++ (match u with | (sr1, rt1, ru1, ol1, ft1, t1, ta1, tq1, qd1, se1, go1, ki1, nn1, fs1, fq1, T1, k1) => T1)) (fun (u : Nat × Nat × Nat × Int32 × (Nat → Option Nat) × Nat × Nat × Nat × Int32 × Int32 × Int32 × Int32 × Int32 × (Nat → Int32) × (Nat → Int32) × va_W × Nat) => match u with | (sr1, rt1, ru1, ol1, ft1, t1, ta1, tq1, qd1, se1, go1, ki1, nn1, fs1, fq1, T1, k1) => 3 * k1) (fun (u : Nat × Nat × Nat × Int32 × (Nat → Option Nat) × Nat × Nat × Nat × Int32 × Int32 × Int32 × Int32 × Int32 × (Nat → Int32) × (Nat → Int32) × va_W × Nat) => match u with | (sr1, rt1, ru1, ol1, ft1, t1, ta1, tq1, qd1, se1, go1, ki1, nn1, fs1, fq1, T1, k1) => 31257 * k1) 6 46893 := by
  refine Met.ofW (cc := cX9_tableOf) (maxL := 4) (ret := (some (.object "LastMap$Table"))) (by decide) rfl ?_
  intro p e s m args below meth c s₁ B hml hv
  obtain ⟨rfl, hsz, hP, hD0, E0⟩ := hv
  have hx := B.exec
  have hb := B.bytes
  have hr := B.returns
  have hts := atoms_spec (ws := wsX9_tableOf) B.pre
  have hown : s.vm.findClass RX9 = some m.cls := findClass_of_methodNamed B.named
  have hlocks := B.notSynchronized
  subst hsz
  have hD := hD0.self (sz := s.heap.size)
  generalize hAe : va_A ([(h0, .inr (5, [.ref pad, .ref pp, .ref im, .null, vtr])), (pp, .inr (1, [.int (nI k), .int told, .int sp, .int gr, .ref ac, .ref ak])), (ac, .inl (gI G, 6, .inl fc)), (ak, .inl (gI G, 4, .inl fk))] ++ ([] : va_W)) s.heap.size = A at hD E0 ⊢
  have E : EV G A s s.heap := E0
  have hA : ∀ q : Nat, s.heap.size ≤ q → A q := fun q h => by rw [← hAe]; exact Or.inr h
  have hS : va_S A s.heap s.heap [] := va_S.rf
  have hl := lv_entry ([.ref h0, .int (nI jt), .int (nI jh)]) (n := 4) (Nat.le_of_ble_eq_true rfl)
  rw [lg_entry_eq]
  generalize (lg_sl ([.ref h0, .int (nI jt), .int (nI jh)]) ++ List.replicate (4 - (lg_sl ([.ref h0, .int (nI jt), .int (nI jh)])).length) Slot.unset).toArray = ls at hl ⊢
  have hl : lv_has ls 4 [(0, .ref h0), (1, .int (nI jt)), (2, .int (nI jh))] := hl
  have hP : va_P G.1 vwCl ([(h0, .inr (5, [.ref pad, .ref pp, .ref im, .null, vtr])), (pp, .inr (1, [.int (nI k), .int told, .int sp, .int gr, .ref ac, .ref ak])), (ac, .inl (gI G, 6, .inl fc)), (ak, .inl (gI G, 4, .inl fk))] ++ ([] : va_W)) s.heap := hP
  refine lv_aload_n hx hb dX9_tableOf_0 rfl (lv_at hl 0 rfl) ?_
  refine va_get (D := G.1) (ci := 5) (v := .ref pp) (C := RX9) (T := TX9) (N := 5) hx hb hts (fun _ h => List.mem_cons_of_mem _ (List.mem_append_left _ (List.mem_append_left _ (List.mem_append_left _ (List.mem_append_right _ h))))) hown E.K hP 0 rfl rfl 1 (by decide) (hts (.fieldLink RX9 19 "LastMap" "papers" "LLastMap$Papers;") (by decide +kernel)) (fun _ h9 => h9) rfl dX9_tableOf_1 ?_
  refine lv_iload_n hx hb dX9_tableOf_4 rfl (lv_at hl 1 rfl) ?_
  refine ca_iR (va_runV (As := [.int (nI jt)]) (rest := []) ⟨hx, hb, hml, hown, hts⟩ (n_codeOf l G s.heap.size pp ac ak (nI k) told sp gr fc fk jt hjt) (cwV 1 hts gX9_tableOf_X3_codeOf rfl rfl rfl (by decide +kernel) ⟨by decide +kernel, by decide +kernel⟩) (pre_V E hP hD hS hA [1, 2, 3] (by decide) rfl 1 1 rfl rfl) rfl rfl hl.1 rfl (lv_room (Nat.le_of_ble_eq_true rfl)) dX9_tableOf_5 ⟨show 0 + 0 ≤ 6 by omega, show 0 + 0 ≤ 46893 by omega⟩) hS hP hD hA [1, 2, 3] rfl (fun r2 _ H locs w1 hP hS => ?_)
  obtain rfl : r2 = nI (sc k a) := by rw [w1]; exact hca
  refine lv_aload_n hx hb dX9_tableOf_8 rfl (lv_at hl 0 rfl) ?_
  refine va_get (D := G.1) (ci := 5) (v := .ref pp) (C := RX9) (T := TX9) (N := 5) hx hb hts (fun _ h => List.mem_cons_of_mem _ (List.mem_append_left _ (List.mem_append_left _ (List.mem_append_left _ (List.mem_append_right _ h))))) hown E.K hP 0 rfl rfl 1 (by decide) (hts (.fieldLink RX9 19 "LastMap" "papers" "LLastMap$Papers;") (by decide +kernel)) (fun _ h9 => h9) rfl dX9_tableOf_9 ?_
  refine va_get (D := G.1) (ci := 1) (v := .int (nI k)) (C := RX3) (T := TX3) (N := 6) hx hb hts (fun _ h => List.mem_cons_of_mem _ (List.mem_append_left _ (List.mem_append_left _ (List.mem_append_right _ h)))) hown E.K hP 1 rfl rfl 0 (by decide) (hts (.fieldLink RX9 27 "LastMap$Papers" "siteCount" "I") (by decide +kernel)) (fun _ h9 => h9) rfl dX9_tableOf_12 ?_
  refine ca_iR (va_runS (As := [.int (nI (sc k a)), .int (nI k)]) (rest := []) ⟨hx, hb, hml, hown, hts⟩ (n_onlyMap l G H.size k a hk2 hk6 ha) (va_cwS 2 hts gX9_tableOf_X0_onlyMap rfl rfl rfl (by decide +kernel) ⟨by decide +kernel, by decide +kernel⟩) (pre_S E hP hD hS hA [] (by decide) rfl) rfl rfl hl.1 rfl (lv_room (Nat.le_of_ble_eq_true rfl)) dX9_tableOf_15 ⟨show 0 + 0 ≤ 6 by omega, show 0 + 0 ≤ 46893 by omega⟩) hS hP hD hA [] rfl (fun r4 _ H locs w3 hP hS => ?_)
  refine lv_istore_n (lv' := [(3, .int r4), (0, .ref h0), (1, .int (nI jt)), (2, .int (nI jh))]) hx hb dX9_tableOf_18 rfl hl (by decide) rfl (fun ls hl => ?_)
  refine lv_aload_n hx hb dX9_tableOf_19 rfl (lv_at hl 1 rfl) ?_
  refine W_facts (fun hg => ?_)
  have hg : GF s.heap H (0) (0) := hg
  refine ca_rH (wr := [(pp, .inr (1, [.int (nI k), .int told, .int sp, .int gr, .ref ac, .ref ak])), (ac, .inl (gI G, 6, .inl fc)), (ak, .inl (gI G, 4, .inl fk))]) hg (va_runV (As := []) (rest := []) ⟨hx, hb, hml, hown, hts⟩ (d_ready_n l G H h0 pad pp im vtr ([] : va_W)) (cwV 0 hts gX9_tableOf_X9_readySearch rfl rfl rfl (by decide +kernel) ⟨by decide +kernel, by decide +kernel⟩) (pre_VH E hP hD hS hA [0] (by decide) rfl 0 5 rfl rfl) rfl rfl hl.1 rfl (lv_room (Nat.le_of_ble_eq_true rfl)) dX9_tableOf_20 ⟨show 0 + 3 ≤ 6 by omega, show 0 + 15636 ≤ 46893 by omega⟩) hS hP hD hA [0] [1, 2, 3] rfl rfl (by decide) (by decide) (fun u7 H locs w5 hP hD hS hg => ?_)
  obtain ⟨sr1_8, rt1_9, ru1_10⟩ := u7
  try dsimp only at w5 hP hD
  have hP := (P_subT (X' := [(h0, .inr (5, [.ref pad, .ref pp, .ref im, .ref sr1_8, vtr])), (pp, .inr (1, [.int (nI k), .int told, .int sp, .int gr, .ref ac, .ref ak])), (ac, .inl (gI G, 6, .inl fc)), (ak, .inl (gI G, 4, .inl fk)), (sr1_8, .inr (2, [.ref rt1_9, .ref ru1_10, .int 0])), (rt1_9, .inl (gT G, 8, .inr (.inr (.inr (.inr (fun _ => none)))))), (ru1_10, .inl (gI G, 15625, .inl (fun _ => 0)))]) hP [3, 0, 1, 2, 4, 5, 6] rfl)
  have hD := (D_subT (X' := [(h0, .inr (5, [.ref pad, .ref pp, .ref im, .ref sr1_8, vtr])), (pp, .inr (1, [.int (nI k), .int told, .int sp, .int gr, .ref ac, .ref ak])), (ac, .inl (gI G, 6, .inl fc)), (ak, .inl (gI G, 4, .inl fk)), (sr1_8, .inr (2, [.ref rt1_9, .ref ru1_10, .int 0])), (rt1_9, .inl (gT G, 8, .inr (.inr (.inr (.inr (fun _ => none)))))), (ru1_10, .inl (gI G, 15625, .inl (fun _ => 0)))]) hD [3, 0, 1, 2, 4, 5, 6] (by decide) rfl)
  refine lv_iload_n hx hb dX9_tableOf_23 rfl (lv_at hl 0 rfl) ?_
  refine lv_aload_n hx hb dX9_tableOf_24 rfl (lv_at hl 1 rfl) ?_
  refine va_get (D := G.1) (ci := 5) (v := .ref pp) (C := RX9) (T := TX9) (N := 5) hx hb hts (fun _ h => List.mem_cons_of_mem _ (List.mem_append_left _ (List.mem_append_left _ (List.mem_append_left _ (List.mem_append_right _ h))))) hown E.K hP 0 rfl rfl 1 (by decide) (hts (.fieldLink RX9 19 "LastMap" "papers" "LLastMap$Papers;") (by decide +kernel)) (fun _ h9 => h9) rfl dX9_tableOf_25 ?_
  refine lv_iload_n hx hb dX9_tableOf_28 rfl (lv_at hl 3 rfl) ?_
  refine ca_iR (va_runV (As := [.int (nI jh)]) (rest := [.int r4, .ref sr1_8]) ⟨hx, hb, hml, hown, hts⟩ (n_kindsOf l G H.size pp ac ak (nI k) told sp gr fc fk jh hjh) (cwV 1 hts gX9_tableOf_X3_kindsOf rfl rfl rfl (by decide +kernel) ⟨by decide +kernel, by decide +kernel⟩) (pre_V E hP hD hS hA [1, 2, 3] (by decide) rfl 1 1 rfl rfl) rfl rfl hl.1 rfl (lv_room (Nat.le_of_ble_eq_true rfl)) dX9_tableOf_29 ⟨show 0 + 3 + 0 ≤ 6 by omega, show 0 + 15636 + 0 ≤ 46893 by omega⟩) hS hP hD hA [1, 2, 3] rfl (fun r12 _ H locs w11 hP hS => ?_)
  refine lv_aload_n hx hb dX9_tableOf_32 rfl (lv_at hl 1 rfl) ?_
  refine va_get (D := G.1) (ci := 5) (v := .ref pp) (C := RX9) (T := TX9) (N := 5) hx hb hts (fun _ h => List.mem_cons_of_mem _ (List.mem_append_left _ (List.mem_append_left _ (List.mem_append_left _ (List.mem_append_right _ h))))) hown E.K hP 0 rfl rfl 1 (by decide) (hts (.fieldLink RX9 19 "LastMap" "papers" "LLastMap$Papers;") (by decide +kernel)) (fun _ h9 => h9) rfl dX9_tableOf_33 ?_
  refine va_get (D := G.1) (ci := 1) (v := .int (nI k)) (C := RX3) (T := TX3) (N := 6) hx hb hts (fun _ h => List.mem_cons_of_mem _ (List.mem_append_left _ (List.mem_append_left _ (List.mem_append_right _ h)))) hown E.K hP 1 rfl rfl 0 (by decide) (hts (.fieldLink RX9 27 "LastMap$Papers" "siteCount" "I") (by decide +kernel)) (fun _ h9 => h9) rfl dX9_tableOf_36 ?_
  refine W_facts (fun hg => ?_)
  have hg : GF s.heap H (0 + 3) (0 + 15636) := hg
  refine ca_rH (wr := [(h0, .inr (5, [.ref pad, .ref pp, .ref im, .ref sr1_8, vtr])), (pp, .inr (1, [.int (nI k), .int told, .int sp, .int gr, .ref ac, .ref ak])), (ac, .inl (gI G, 6, .inl fc)), (ak, .inl (gI G, 4, .inl fk))]) hg (va_runV (As := [.int r4, .int r12, .int (nI k)]) (rest := []) ⟨hx, hb, hml, hown, hts⟩ (h_toward l G H sr1_8 rt1_9 ru1_10 0 (fun _ => none) (fun _ => 0) ([] : va_W) k r4 r12 hk2 hk6 pl2_none) (cwV 3 hts gX9_tableOf_X4_toward rfl rfl rfl (by decide +kernel) ⟨by decide +kernel, by decide +kernel⟩) (pre_VH E hP hD hS hA [4, 5, 6] (by decide) rfl 4 2 rfl rfl) rfl rfl hl.1 rfl (lv_room (Nat.le_of_ble_eq_true rfl)) dX9_tableOf_39 ⟨show 0 + 3 + 3 ≤ 6 by omega, show 0 + 15636 + 31257 ≤ 46893 by omega⟩) hS hP hD hA [4, 5, 6] [0, 1, 2, 3] rfl rfl (by decide) (by decide) (fun u15 H locs w13 hP hD hS hg => ?_)
  obtain ⟨ol1_16, ft1_17, t1_18, ta1_19, tq1_20, qd1_21, se1_22, go1_23, ki1_24, nn1_25, fs1_26, fq1_27, T1_28, k1_29⟩ := u15
  try dsimp only at w13 hP hD
  have hP := (P_subT (X' := [(h0, .inr (5, [.ref pad, .ref pp, .ref im, .ref sr1_8, vtr])), (pp, .inr (1, [.int (nI k), .int told, .int sp, .int gr, .ref ac, .ref ak])), (ac, .inl (gI G, 6, .inl fc)), (ak, .inl (gI G, 4, .inl fk)), (sr1_8, .inr (2, [.ref rt1_9, .ref ru1_10, .int ol1_16])), (rt1_9, .inl (gT G, 8, .inr (.inr (.inr (.inr ft1_17))))), (ru1_10, .inl (gI G, 15625, .inl (fun _ => 0))), (t1_18, .inr (3, [.ref ta1_19, .ref tq1_20, .int qd1_21, .int se1_22, .int go1_23, .int ki1_24, .int nn1_25])), (ta1_19, .inl (gB G, 15625, .inl fs1_26)), (tq1_20, .inl (gI G, 15625, .inl fq1_27))]) hP [0, 1, 2, 3, 4, 5, 6, 7, 8, 9] rfl)
  have hD := (D_subT (X' := [(h0, .inr (5, [.ref pad, .ref pp, .ref im, .ref sr1_8, vtr])), (pp, .inr (1, [.int (nI k), .int told, .int sp, .int gr, .ref ac, .ref ak])), (ac, .inl (gI G, 6, .inl fc)), (ak, .inl (gI G, 4, .inl fk)), (sr1_8, .inr (2, [.ref rt1_9, .ref ru1_10, .int ol1_16])), (rt1_9, .inl (gT G, 8, .inr (.inr (.inr (.inr ft1_17))))), (ru1_10, .inl (gI G, 15625, .inl (fun _ => 0))), (t1_18, .inr (3, [.ref ta1_19, .ref tq1_20, .int qd1_21, .int se1_22, .int go1_23, .int ki1_24, .int nn1_25])), (ta1_19, .inl (gB G, 15625, .inl fs1_26)), (tq1_20, .inl (gI G, 15625, .inl fq1_27))]) hD [0, 1, 2, 3, 4, 5, 6, 7, 8, 9] (by decide) rfl)
  have hkk := w13.2.2
  refine W_facts (fun hg => ?_)
  have hg : GF s.heap H (0 + 3 + (3 * k1_29)) (0 + 15636 + (31257 * k1_29)) := hg
  refine W.widen (k := 6) (n := 46893) (show 0 + 3 + (3 * k1_29) ≤ 6 by omega) (show 0 + 15636 + (31257 * k1_29) ≤ 46893 by omega) ?_
  have hP9 := (P_subT (X' := [(h0, .inr (5, [.ref pad, .ref pp, .ref im, .ref sr1_8, vtr])), (pp, .inr (1, [.int (nI k), .int told, .int sp, .int gr, .ref ac, .ref ak])), (ac, .inl (gI G, 6, .inl fc)), (ak, .inl (gI G, 4, .inl fk)), (sr1_8, .inr (2, [.ref rt1_9, .ref ru1_10, .int ol1_16])), (rt1_9, .inl (gT G, 8, .inr (.inr (.inr (.inr ft1_17))))), (ru1_10, .inl (gI G, 15625, .inl (fun _ => 0))), (t1_18, .inr (3, [.ref ta1_19, .ref tq1_20, .int qd1_21, .int se1_22, .int go1_23, .int ki1_24, .int nn1_25])), (ta1_19, .inl (gB G, 15625, .inl fs1_26)), (tq1_20, .inl (gI G, 15625, .inl fq1_27))]) hP [0, 1, 2, 3, 4, 5, 6, 7, 8, 9] rfl)
  have hD9 := (D_subT (X' := [(h0, .inr (5, [.ref pad, .ref pp, .ref im, .ref sr1_8, vtr])), (pp, .inr (1, [.int (nI k), .int told, .int sp, .int gr, .ref ac, .ref ak])), (ac, .inl (gI G, 6, .inl fc)), (ak, .inl (gI G, 4, .inl fk)), (sr1_8, .inr (2, [.ref rt1_9, .ref ru1_10, .int ol1_16])), (rt1_9, .inl (gT G, 8, .inr (.inr (.inr (.inr ft1_17))))), (ru1_10, .inl (gI G, 15625, .inl (fun _ => 0))), (t1_18, .inr (3, [.ref ta1_19, .ref tq1_20, .int qd1_21, .int se1_22, .int go1_23, .int ki1_24, .int nn1_25])), (ta1_19, .inl (gB G, 15625, .inl fs1_26)), (tq1_20, .inl (gI G, 15625, .inl fq1_27))]) hD [0, 1, 2, 3, 4, 5, 6, 7, 8, 9] (by decide) rfl)
  exact W.aret (v := .ref t1_18) hx hb hr (Or.inl ⟨_, rfl⟩) (Or.inr ⟨_, rfl⟩) (fun t9_ ht9_ hW9_ => ⟨⟨(sr1_8, rt1_9, ru1_10, ol1_16, ft1_17, t1_18, ta1_19, tq1_20, qd1_21, se1_22, go1_23, ki1_24, nn1_25, fs1_26, fq1_27, T1_28, 1 + k1_29), t1_18, rfl, ⟨w13.1, by have q := w13.2.1; rw [q]; show 1 + (0 + k1_29) = 1 + k1_29; omega, by omega, w13.2.2.2.1.symm ▸ w3, w13.2.2.2.2.1.trans w11, w13.2.2.2.2.2⟩, rfl, by rw [ht9_]; exact hP9, hD9, by rw [ht9_]; exact (show GF s.heap H (3 * (1 + k1_29)) (31257 * (1 + k1_29)) from hg.wide (by omega) (by omega))⟩, hS.F ht9_⟩) hS.2.2 dX9_tableOf_42
