theorem in00 : inR (0 : Int32) 0 15625 := by unfold inR; decide

set_option maxHeartbeats 1000000 in
set_option maxRecDepth 100000 in
theorem c_takeOldest (l : Launch) (G : Gy) (sz : Nat) (sr : Nat) (rt : Nat) (ru : Nat) (ol : Int32) (ft : Nat → Option Nat) (gu : Nat → Int32) (T : va_W) (hT : PL G ft T) : Cr l G yX4_takeOldest wsX4_takeOldest ({ frames := 2, cells := 3, slots := 31257, locals := 32 }) [.ref sr] ([(sr, .inr (2, [.ref rt, .ref ru, .int ol])), (rt, .inl (gT G, 8, .inr (.inr (.inr (.inr ft))))), (ru, .inl (gI G, 15625, .inl gu))] ++ T) sz (fun (u : Int32 × (Nat → Option Nat) × Nat × Nat × Nat × Int32 × Int32 × Int32 × Int32 × Int32 × (Nat → Int32) × (Nat → Int32) × va_W) => match u with | (ol1, ft1, t1, ta1, tq1, qd1, se1, go1, ki1, nn1, fs1, fq1, T1) => TL G ft1 (t1, ta1, tq1, qd1, se1, go1, ki1, nn1, fs1, fq1) T1 ∧ tok (t1, ta1, tq1, qd1, se1, go1, ki1, nn1, fs1, fq1)) (fun (u : Int32 × (Nat → Option Nat) × Nat × Nat × Nat × Int32 × Int32 × Int32 × Int32 × Int32 × (Nat → Int32) × (Nat → Int32) × va_W) => match u with | (ol1, ft1, t1, ta1, tq1, qd1, se1, go1, ki1, nn1, fs1, fq1, T1) => t1) (fun (u : Int32 × (Nat → Option Nat) × Nat × Nat × Nat × Int32 × Int32 × Int32 × Int32 × Int32 × (Nat → Int32) × (Nat → Int32) × va_W) => (match u with | (ol1, ft1, t1, ta1, tq1, qd1, se1, go1, ki1, nn1, fs1, fq1, T1) => [(sr, .inr (2, [.ref rt, .ref ru, .int ol1])), (rt, .inl (gT G, 8, .inr (.inr (.inr (.inr ft1))))), (ru, .inl (gI G, 15625, .inl gu)), (t1, .inr (3, [.ref ta1, .ref tq1, .int qd1, .int se1, .int go1, .int ki1, .int nn1])), (ta1, .inl (gB G, 15625, .inl fs1)), (tq1, .inl (gI G, 15625, .inl fq1))]) ++ (match u with | (ol1, ft1, t1, ta1, tq1, qd1, se1, go1, ki1, nn1, fs1, fq1, T1) => T1)) 3 31257 := by
  refine Met.ofW (cc := cX4_takeOldest) (maxL := 3) (ret := (some (.object "LastMap$Table"))) (by decide) rfl ?_
  intro p e s m args below meth c s₁ B hml hv
  obtain ⟨rfl, hsz, hP, hD0, E0⟩ := hv
  have hx := B.exec
  have hb := B.bytes
  have hr := B.returns
  have hts := atoms_spec (ws := wsX4_takeOldest) B.pre
  have hown : s.vm.findClass RX4 = some m.cls := findClass_of_methodNamed B.named
  have hlocks := B.notSynchronized
  subst hsz
  have hD := hD0.self (sz := s.heap.size)
  generalize hAe : va_A ([(sr, .inr (2, [.ref rt, .ref ru, .int ol])), (rt, .inl (gT G, 8, .inr (.inr (.inr (.inr ft))))), (ru, .inl (gI G, 15625, .inl gu))] ++ T) s.heap.size = A at hD E0 ⊢
  have E : EV G A s s.heap := E0
  have hA : ∀ q : Nat, s.heap.size ≤ q → A q := fun q h => by rw [← hAe]; exact Or.inr h
  have hS : va_S A s.heap s.heap [] := va_S.rf
  have hl := lv_entry ([.ref sr]) (n := 3) (Nat.le_of_ble_eq_true rfl)
  rw [lg_entry_eq]
  generalize (lg_sl ([.ref sr]) ++ List.replicate (3 - (lg_sl ([.ref sr])).length) Slot.unset).toArray = ls at hl ⊢
  have hl : lv_has ls 3 [(0, .ref sr)] := hl
  have hP : va_P G.1 vwCl ([(sr, .inr (2, [.ref rt, .ref ru, .int ol])), (rt, .inl (gT G, 8, .inr (.inr (.inr (.inr ft))))), (ru, .inl (gI G, 15625, .inl gu))] ++ T) s.heap := hP
  refine lv_aload_n hx hb dX4_takeOldest_0 rfl (lv_at hl 0 rfl) ?_
  refine va_get (D := G.1) (ci := 2) (v := .int ol) (C := RX4) (T := TX4) (N := 3) hx hb hts (fun _ h => List.mem_cons_of_mem _ (List.mem_append_left _ (List.mem_append_right _ h))) hown E.K hP 0 rfl rfl 2 (by decide) (hts (.fieldLink RX4 35 "LastMap$Search" "oldest" "I") (by decide +kernel)) (fun _ h9 => h9) rfl dX4_takeOldest_1 ?_
  refine lv_if_lt (tgt := 26) hx hb dX4_takeOldest_4 (by decide) (fun c1 => ?_) (fun c1 => ?_)
  · refine lv_iconst (v := 0) hx hb dX4_takeOldest_26 (by decide) ?_
    refine lv_istore_n (lv' := [(1, .int 0), (0, .ref sr)]) hx hb dX4_takeOldest_27 rfl hl (by decide) rfl (fun ls hl => ?_)
    refine lv_aload_n hx hb dX4_takeOldest_28 rfl (lv_at hl 1 rfl) ?_
    refine lv_iload_n hx hb dX4_takeOldest_29 rfl (lv_at hl 0 rfl) ?_
    refine lv_iconst (v := 1) hx hb dX4_takeOldest_30 (by decide) ?_
    refine lv_iadd hx hb dX4_takeOldest_31 ?_
    refine lv_topi (fun x2 ex2 => ?_)
    obtain rfl : x2 = 1 := by rw [ex2]; decide
    refine va_put (D := G.1) (ci := 2) (v := .int 1) (ty := .int) (C := RX4) (T := TX4) (N := 3) hx hb hts (fun _ h => List.mem_cons_of_mem _ (List.mem_append_left _ (List.mem_append_right _ h))) tyX4 tyX4_ok nmX4 hown E.K hP hD hS 0 rfl rfl 2 (by decide) (hts (.fieldLink RX4 35 "LastMap$Search" "oldest" "I") (by decide +kernel)) (fun _ h9 => h9) rfl (by decide +kernel) rfl rfl (Nat.le_of_ble_eq_true rfl) dX4_takeOldest_32 (fun H locs hP hD hS => ?_)
    have hP : va_P G.1 vwCl ([(sr, .inr (2, [.ref rt, .ref ru, .int 1])), (rt, .inl (gT G, 8, .inr (.inr (.inr (.inr ft))))), (ru, .inl (gI G, 15625, .inl gu))] ++ T) H := hP
    have hD : va_D A ([(sr, .inr (2, [.ref rt, .ref ru, .int 1])), (rt, .inl (gT G, 8, .inr (.inr (.inr (.inr ft))))), (ru, .inl (gI G, 15625, .inl gu))] ++ T) := hD
    refine lv_aload_n hx hb dX4_takeOldest_35 rfl (lv_at hl 1 rfl) ?_
    refine va_get (D := G.1) (ci := 2) (v := .ref rt) (C := RX4) (T := TX4) (N := 3) hx hb hts (fun _ h => List.mem_cons_of_mem _ (List.mem_append_left _ (List.mem_append_right _ h))) hown E.K hP 0 rfl rfl 0 (by decide) (hts (.fieldLink RX4 13 "LastMap$Search" "tables" "[LLastMap$Table;") (by decide +kernel)) (fun _ h9 => h9) rfl dX4_takeOldest_36 ?_
    refine lv_iload_n hx hb dX4_takeOldest_39 rfl (lv_at hl 0 rfl) ?_
    refine va_aldq hx hb E.K hP 1 4 rfl rfl (i := 0) (by unfold vp_in; decide) dX4_takeOldest_40 ?_
    obtain ⟨o_, ho⟩ : ∃ o_, o_ = ft (0 : Int32).toNatClampNeg := ⟨_, rfl⟩
    rw [← ho]
    rcases o_ with _ | t0
    · refine lv_astore_nN (lv' := [(2, .null), (1, .int 0), (0, .ref sr)]) hx hb dX4_takeOldest_41 rfl hl (by decide) rfl (fun ls hl => ?_)
      refine lv_aload_nN hx hb dX4_takeOldest_42 rfl (lv_at hl 0 rfl) ?_
      refine lv_ifnonnullN hx hb dX4_takeOldest_43 ?_
      refine va_new (ci := 3) (fs := [.null, .null, .int 0, .int 0, .int 0, .int 0, .int 0]) (C := RX7) (T := TX7) (N := 7) hx hb hts (fun _ h => List.mem_cons_of_mem _ (List.mem_append_right _ h)) tyX7 tyX7_ok hown (hts (.classLink RX4 11 RX7) (by decide +kernel)) (hts (.instantiable RX7 7) (by decide +kernel)) (hts (.initialized RX7) (by decide +kernel)) E.K hP hD hS hA rfl (by decide +kernel) (by decide +kernel) (by decide +kernel) dX4_takeOldest_46 (fun q3 H hP hD hS => ?_)
      have hP := P_perm (perm_snoc _ _ _) hP
      have hD := D_perm (perm_snoc _ _ _) hD
      have hP : va_P G.1 vwCl ([(sr, .inr (2, [.ref rt, .ref ru, .int 1])), (rt, .inl (gT G, 8, .inr (.inr (.inr (.inr ft))))), (ru, .inl (gI G, 15625, .inl gu)), (q3, .inr (3, [.null, .null, .int 0, .int 0, .int 0, .int 0, .int 0]))] ++ T) H := hP
      have hD : va_D A ([(sr, .inr (2, [.ref rt, .ref ru, .int 1])), (rt, .inl (gT G, 8, .inr (.inr (.inr (.inr ft))))), (ru, .inl (gI G, 15625, .inl gu)), (q3, .inr (3, [.null, .null, .int 0, .int 0, .int 0, .int 0, .int 0]))] ++ T) := hD
      refine W.widen (k := 1) (n := 7) (by decide +kernel) (by decide +kernel) ?_
      refine lv_dup hx hb dX4_takeOldest_49 rfl ?_
      refine ca_vQ (wr := [(sr, .inr (2, [.ref rt, .ref ru, .int 1])), (rt, .inl (gT G, 8, .inr (.inr (.inr (.inr ft))))), (ru, .inl (gI G, 15625, .inl gu))]) (va_runIN (As := []) (rest := [.ref q3]) ⟨hx, hb, hml, hown, hts⟩ (c_Table l G H.size q3) ⟨va_cnB 0 hts gX4_takeOldest_X7_init_n39 rfl rfl rfl E.n39 (hts (.initialized RX7) (by decide +kernel)) (by decide +kernel) ⟨by decide +kernel, by decide +kernel⟩, rfl, hts (.instanceMethod yX7_init) (by decide +kernel)⟩ (pre_S E hP hD hS hA [3] (by decide) rfl) rfl rfl hl.1 rfl (lv_room (Nat.le_of_ble_eq_true rfl)) dX4_takeOldest_50 ⟨by decide +kernel, by decide +kernel⟩) hS hP hD hA [3] [0, 1, 2] rfl rfl (by decide) (by decide) (fun u6 H locs w4 hP hD hS => ?_)
      obtain ⟨ta1_7, tq1_8⟩ := u6
      try dsimp only at w4 hP hD
      have hP := (P_subT (X' := [(sr, .inr (2, [.ref rt, .ref ru, .int 1])), (rt, .inl (gT G, 8, .inr (.inr (.inr (.inr ft))))), (ru, .inl (gI G, 15625, .inl gu)), (q3, .inr (3, [.ref ta1_7, .ref tq1_8, .int 0, .int 0, .int 0, .int 0, .int 0])), (ta1_7, .inl (gB G, 15625, .inl (fun _ => 0))), (tq1_8, .inl (gI G, 15625, .inl (fun _ => 0)))]) hP [0, 1, 2, 3, 4, 5] rfl)
      have hD := (D_subT (X' := [(sr, .inr (2, [.ref rt, .ref ru, .int 1])), (rt, .inl (gT G, 8, .inr (.inr (.inr (.inr ft))))), (ru, .inl (gI G, 15625, .inl gu)), (q3, .inr (3, [.ref ta1_7, .ref tq1_8, .int 0, .int 0, .int 0, .int 0, .int 0])), (ta1_7, .inl (gB G, 15625, .inl (fun _ => 0))), (tq1_8, .inl (gI G, 15625, .inl (fun _ => 0)))]) hD [0, 1, 2, 3, 4, 5] (by decide) rfl)
      refine W.widen (k := 3) (n := 31257) (by decide +kernel) (by decide +kernel) ?_
      refine lv_astore_n (lv' := [(2, .ref q3), (1, .int 0), (0, .ref sr)]) hx hb dX4_takeOldest_53 rfl hl (by decide) rfl (fun ls hl => ?_)
      refine lv_aload_n hx hb dX4_takeOldest_54 rfl (lv_at hl 2 rfl) ?_
      refine va_get (D := G.1) (ci := 2) (v := .ref rt) (C := RX4) (T := TX4) (N := 3) hx hb hts (fun _ h => List.mem_cons_of_mem _ (List.mem_append_left _ (List.mem_append_right _ h))) hown E.K hP 0 rfl rfl 0 (by decide) (hts (.fieldLink RX4 13 "LastMap$Search" "tables" "[LLastMap$Table;") (by decide +kernel)) (fun _ h9 => h9) rfl dX4_takeOldest_55 ?_
      refine lv_iload_n hx hb dX4_takeOldest_58 rfl (lv_at hl 1 rfl) ?_
      refine lv_aload_n hx hb dX4_takeOldest_59 rfl (lv_at hl 0 rfl) ?_
      refine va_astq hx hb E.K hP hD hS 1 4 3 3 rfl rfl rfl rfl (i := 0) (by unfold vp_in; decide) dX4_takeOldest_60 (fun H locs hP hD hS => ?_)
      have hP : va_P G.1 vwCl ([(sr, .inr (2, [.ref rt, .ref ru, .int 1])), (rt, .inl (gT G, 8, .inr (.inr (.inr (.inr (va_up ft (0 : Int32).toNatClampNeg (some q3))))))), (ru, .inl (gI G, 15625, .inl gu)), (q3, .inr (3, [.ref ta1_7, .ref tq1_8, .int 0, .int 0, .int 0, .int 0, .int 0])), (ta1_7, .inl (gB G, 15625, .inl (fun _ => 0))), (tq1_8, .inl (gI G, 15625, .inl (fun _ => 0)))] ++ T) H := hP
      have hD : va_D A ([(sr, .inr (2, [.ref rt, .ref ru, .int 1])), (rt, .inl (gT G, 8, .inr (.inr (.inr (.inr (va_up ft (0 : Int32).toNatClampNeg (some q3))))))), (ru, .inl (gI G, 15625, .inl gu)), (q3, .inr (3, [.ref ta1_7, .ref tq1_8, .int 0, .int 0, .int 0, .int 0, .int 0])), (ta1_7, .inl (gB G, 15625, .inl (fun _ => 0))), (tq1_8, .inl (gI G, 15625, .inl (fun _ => 0)))] ++ T) := hD
      refine lv_aload_n hx hb dX4_takeOldest_61 rfl (lv_at hl 0 rfl) ?_
      have hP9 := (P_subT (X' := [(sr, .inr (2, [.ref rt, .ref ru, .int 1])), (rt, .inl (gT G, 8, .inr (.inr (.inr (.inr (va_up ft (0 : Int32).toNatClampNeg (some q3))))))), (ru, .inl (gI G, 15625, .inl gu)), (q3, .inr (3, [.ref ta1_7, .ref tq1_8, .int 0, .int 0, .int 0, .int 0, .int 0])), (ta1_7, .inl (gB G, 15625, .inl (fun _ => 0))), (tq1_8, .inl (gI G, 15625, .inl (fun _ => 0)))]) hP [0, 1, 2, 3, 4, 5] rfl)
      have hD9 := (D_subT (X' := [(sr, .inr (2, [.ref rt, .ref ru, .int 1])), (rt, .inl (gT G, 8, .inr (.inr (.inr (.inr (va_up ft (0 : Int32).toNatClampNeg (some q3))))))), (ru, .inl (gI G, 15625, .inl gu)), (q3, .inr (3, [.ref ta1_7, .ref tq1_8, .int 0, .int 0, .int 0, .int 0, .int 0])), (ta1_7, .inl (gB G, 15625, .inl (fun _ => 0))), (tq1_8, .inl (gI G, 15625, .inl (fun _ => 0)))]) hD [0, 1, 2, 3, 4, 5] (by decide) rfl)
      exact W.aret (v := .ref q3) hx hb hr (Or.inl ⟨_, rfl⟩) (Or.inr ⟨_, rfl⟩) (fun t_ ht hW => ⟨⟨(1, va_up ft (0 : Int32).toNatClampNeg (some q3), q3, ta1_7, tq1_8, 0, 0, 0, 0, 0, fun _ => 0, fun _ => 0, T), q3, rfl, ⟨pl_add (d := (q3, ta1_7, tq1_8, 0, 0, 0, 0, 0, fun _ => 0, fun _ => 0)) hT (show (0 : Int32).toNatClampNeg < 8 by decide) ho.symm, ⟨in00, in00⟩⟩, rfl, by rw [ht]; exact hP9, hD9⟩, hS.F ht⟩) hS.2.2 dX4_takeOldest_62
    · obtain ⟨d_, T_9, hd1, hd2, hTL, hP, hD⟩ := pl_take (X := [(sr, .inr (2, [.ref rt, .ref ru, .int 1])), (rt, .inl (gT G, 8, .inr (.inr (.inr (.inr ft))))), (ru, .inl (gI G, 15625, .inl gu))]) hT (show (0 : Int32).toNatClampNeg < 8 by decide) ho.symm hP hD
      obtain ⟨t_9, ta_9, tq_9, qd_9, se_9, go_9, ki_9, nn_9, fs_9, fq_9⟩ := d_
      dsimp only at hd1
      subst hd1
      have hP : va_P G.1 vwCl ([(sr, .inr (2, [.ref rt, .ref ru, .int 1])), (rt, .inl (gT G, 8, .inr (.inr (.inr (.inr ft))))), (ru, .inl (gI G, 15625, .inl gu)), (t_9, .inr (3, [.ref ta_9, .ref tq_9, .int qd_9, .int se_9, .int go_9, .int ki_9, .int nn_9])), (ta_9, .inl (gB G, 15625, .inl fs_9)), (tq_9, .inl (gI G, 15625, .inl fq_9))] ++ T_9) H := hP
      have hD : va_D A ([(sr, .inr (2, [.ref rt, .ref ru, .int 1])), (rt, .inl (gT G, 8, .inr (.inr (.inr (.inr ft))))), (ru, .inl (gI G, 15625, .inl gu)), (t_9, .inr (3, [.ref ta_9, .ref tq_9, .int qd_9, .int se_9, .int go_9, .int ki_9, .int nn_9])), (ta_9, .inl (gB G, 15625, .inl fs_9)), (tq_9, .inl (gI G, 15625, .inl fq_9))] ++ T_9) := hD
      refine lv_astore_n (lv' := [(2, .ref t_9), (1, .int 0), (0, .ref sr)]) hx hb dX4_takeOldest_41 rfl hl (by decide) rfl (fun ls hl => ?_)
      refine lv_aload_n hx hb dX4_takeOldest_42 rfl (lv_at hl 0 rfl) ?_
      refine lv_ifnonnull (tgt := 61) hx hb dX4_takeOldest_43 (by decide) ?_
      refine lv_aload_n hx hb dX4_takeOldest_61 rfl (lv_at hl 0 rfl) ?_
      refine W.widen (k := 3) (n := 31257) (by decide +kernel) (by decide +kernel) ?_
      have hP9 := (P_subT (X' := [(sr, .inr (2, [.ref rt, .ref ru, .int 1])), (rt, .inl (gT G, 8, .inr (.inr (.inr (.inr ft))))), (ru, .inl (gI G, 15625, .inl gu)), (t_9, .inr (3, [.ref ta_9, .ref tq_9, .int qd_9, .int se_9, .int go_9, .int ki_9, .int nn_9])), (ta_9, .inl (gB G, 15625, .inl fs_9)), (tq_9, .inl (gI G, 15625, .inl fq_9))]) hP [0, 1, 2, 3, 4, 5] rfl)
      have hD9 := (D_subT (X' := [(sr, .inr (2, [.ref rt, .ref ru, .int 1])), (rt, .inl (gT G, 8, .inr (.inr (.inr (.inr ft))))), (ru, .inl (gI G, 15625, .inl gu)), (t_9, .inr (3, [.ref ta_9, .ref tq_9, .int qd_9, .int se_9, .int go_9, .int ki_9, .int nn_9])), (ta_9, .inl (gB G, 15625, .inl fs_9)), (tq_9, .inl (gI G, 15625, .inl fq_9))]) hD [0, 1, 2, 3, 4, 5] (by decide) rfl)
      exact W.aret (v := .ref t_9) hx hb hr (Or.inl ⟨_, rfl⟩) (Or.inr ⟨_, rfl⟩) (fun t_ ht hW => ⟨⟨(1, ft, t_9, ta_9, tq_9, qd_9, se_9, go_9, ki_9, nn_9, fs_9, fq_9, T_9), t_9, rfl, ⟨hTL, hd2⟩, rfl, by rw [ht]; exact hP9, hD9⟩, hS.F ht⟩) hS.2.2 dX4_takeOldest_62
  · refine lv_aload_n hx hb dX4_takeOldest_7 rfl (lv_at hl 0 rfl) ?_
    refine va_get (D := G.1) (ci := 2) (v := .int ol) (C := RX4) (T := TX4) (N := 3) hx hb hts (fun _ h => List.mem_cons_of_mem _ (List.mem_append_left _ (List.mem_append_right _ h))) hown E.K hP 0 rfl rfl 2 (by decide) (hts (.fieldLink RX4 35 "LastMap$Search" "oldest" "I") (by decide +kernel)) (fun _ h9 => h9) rfl dX4_takeOldest_8 ?_
    refine lv_aload_n hx hb dX4_takeOldest_11 rfl (lv_at hl 0 rfl) ?_
    refine va_get (D := G.1) (ci := 2) (v := .ref rt) (C := RX4) (T := TX4) (N := 3) hx hb hts (fun _ h => List.mem_cons_of_mem _ (List.mem_append_left _ (List.mem_append_right _ h))) hown E.K hP 0 rfl rfl 0 (by decide) (hts (.fieldLink RX4 13 "LastMap$Search" "tables" "[LLastMap$Table;") (by decide +kernel)) (fun _ h9 => h9) rfl dX4_takeOldest_12 ?_
    refine va_alen (v := 8) hx hb E.K hP 1 4 rfl rfl rfl dX4_takeOldest_15 ?_
    refine lv_icmp_ge (tgt := 26) hx hb dX4_takeOldest_16 (by decide) (fun c10 => ?_) (fun c10 => ?_)
    · refine lv_iconst (v := 0) hx hb dX4_takeOldest_26 (by decide) ?_
      refine lv_istore_n (lv' := [(1, .int 0), (0, .ref sr)]) hx hb dX4_takeOldest_27 rfl hl (by decide) rfl (fun ls hl => ?_)
      refine lv_aload_n hx hb dX4_takeOldest_28 rfl (lv_at hl 1 rfl) ?_
      refine lv_iload_n hx hb dX4_takeOldest_29 rfl (lv_at hl 0 rfl) ?_
      refine lv_iconst (v := 1) hx hb dX4_takeOldest_30 (by decide) ?_
      refine lv_iadd hx hb dX4_takeOldest_31 ?_
      refine lv_topi (fun x11 ex11 => ?_)
      obtain rfl : x11 = 1 := by rw [ex11]; decide
      refine va_put (D := G.1) (ci := 2) (v := .int 1) (ty := .int) (C := RX4) (T := TX4) (N := 3) hx hb hts (fun _ h => List.mem_cons_of_mem _ (List.mem_append_left _ (List.mem_append_right _ h))) tyX4 tyX4_ok nmX4 hown E.K hP hD hS 0 rfl rfl 2 (by decide) (hts (.fieldLink RX4 35 "LastMap$Search" "oldest" "I") (by decide +kernel)) (fun _ h9 => h9) rfl (by decide +kernel) rfl rfl (Nat.le_of_ble_eq_true rfl) dX4_takeOldest_32 (fun H locs hP hD hS => ?_)
      have hP : va_P G.1 vwCl ([(sr, .inr (2, [.ref rt, .ref ru, .int 1])), (rt, .inl (gT G, 8, .inr (.inr (.inr (.inr ft))))), (ru, .inl (gI G, 15625, .inl gu))] ++ T) H := hP
      have hD : va_D A ([(sr, .inr (2, [.ref rt, .ref ru, .int 1])), (rt, .inl (gT G, 8, .inr (.inr (.inr (.inr ft))))), (ru, .inl (gI G, 15625, .inl gu))] ++ T) := hD
      refine lv_aload_n hx hb dX4_takeOldest_35 rfl (lv_at hl 1 rfl) ?_
      refine va_get (D := G.1) (ci := 2) (v := .ref rt) (C := RX4) (T := TX4) (N := 3) hx hb hts (fun _ h => List.mem_cons_of_mem _ (List.mem_append_left _ (List.mem_append_right _ h))) hown E.K hP 0 rfl rfl 0 (by decide) (hts (.fieldLink RX4 13 "LastMap$Search" "tables" "[LLastMap$Table;") (by decide +kernel)) (fun _ h9 => h9) rfl dX4_takeOldest_36 ?_
      refine lv_iload_n hx hb dX4_takeOldest_39 rfl (lv_at hl 0 rfl) ?_
      refine va_aldq hx hb E.K hP 1 4 rfl rfl (i := 0) (by unfold vp_in; decide) dX4_takeOldest_40 ?_
      obtain ⟨o_, ho⟩ : ∃ o_, o_ = ft (0 : Int32).toNatClampNeg := ⟨_, rfl⟩
      rw [← ho]
      rcases o_ with _ | t0
      · refine lv_astore_nN (lv' := [(2, .null), (1, .int 0), (0, .ref sr)]) hx hb dX4_takeOldest_41 rfl hl (by decide) rfl (fun ls hl => ?_)
        refine lv_aload_nN hx hb dX4_takeOldest_42 rfl (lv_at hl 0 rfl) ?_
        refine lv_ifnonnullN hx hb dX4_takeOldest_43 ?_
        refine va_new (ci := 3) (fs := [.null, .null, .int 0, .int 0, .int 0, .int 0, .int 0]) (C := RX7) (T := TX7) (N := 7) hx hb hts (fun _ h => List.mem_cons_of_mem _ (List.mem_append_right _ h)) tyX7 tyX7_ok hown (hts (.classLink RX4 11 RX7) (by decide +kernel)) (hts (.instantiable RX7 7) (by decide +kernel)) (hts (.initialized RX7) (by decide +kernel)) E.K hP hD hS hA rfl (by decide +kernel) (by decide +kernel) (by decide +kernel) dX4_takeOldest_46 (fun q12 H hP hD hS => ?_)
        have hP := P_perm (perm_snoc _ _ _) hP
        have hD := D_perm (perm_snoc _ _ _) hD
        have hP : va_P G.1 vwCl ([(sr, .inr (2, [.ref rt, .ref ru, .int 1])), (rt, .inl (gT G, 8, .inr (.inr (.inr (.inr ft))))), (ru, .inl (gI G, 15625, .inl gu)), (q12, .inr (3, [.null, .null, .int 0, .int 0, .int 0, .int 0, .int 0]))] ++ T) H := hP
        have hD : va_D A ([(sr, .inr (2, [.ref rt, .ref ru, .int 1])), (rt, .inl (gT G, 8, .inr (.inr (.inr (.inr ft))))), (ru, .inl (gI G, 15625, .inl gu)), (q12, .inr (3, [.null, .null, .int 0, .int 0, .int 0, .int 0, .int 0]))] ++ T) := hD
        refine W.widen (k := 1) (n := 7) (by decide +kernel) (by decide +kernel) ?_
        refine lv_dup hx hb dX4_takeOldest_49 rfl ?_
        refine ca_vQ (wr := [(sr, .inr (2, [.ref rt, .ref ru, .int 1])), (rt, .inl (gT G, 8, .inr (.inr (.inr (.inr ft))))), (ru, .inl (gI G, 15625, .inl gu))]) (va_runIN (As := []) (rest := [.ref q12]) ⟨hx, hb, hml, hown, hts⟩ (c_Table l G H.size q12) ⟨va_cnB 0 hts gX4_takeOldest_X7_init_n39 rfl rfl rfl E.n39 (hts (.initialized RX7) (by decide +kernel)) (by decide +kernel) ⟨by decide +kernel, by decide +kernel⟩, rfl, hts (.instanceMethod yX7_init) (by decide +kernel)⟩ (pre_S E hP hD hS hA [3] (by decide) rfl) rfl rfl hl.1 rfl (lv_room (Nat.le_of_ble_eq_true rfl)) dX4_takeOldest_50 ⟨by decide +kernel, by decide +kernel⟩) hS hP hD hA [3] [0, 1, 2] rfl rfl (by decide) (by decide) (fun u15 H locs w13 hP hD hS => ?_)
        obtain ⟨ta1_16, tq1_17⟩ := u15
        try dsimp only at w13 hP hD
        have hP := (P_subT (X' := [(sr, .inr (2, [.ref rt, .ref ru, .int 1])), (rt, .inl (gT G, 8, .inr (.inr (.inr (.inr ft))))), (ru, .inl (gI G, 15625, .inl gu)), (q12, .inr (3, [.ref ta1_16, .ref tq1_17, .int 0, .int 0, .int 0, .int 0, .int 0])), (ta1_16, .inl (gB G, 15625, .inl (fun _ => 0))), (tq1_17, .inl (gI G, 15625, .inl (fun _ => 0)))]) hP [0, 1, 2, 3, 4, 5] rfl)
        have hD := (D_subT (X' := [(sr, .inr (2, [.ref rt, .ref ru, .int 1])), (rt, .inl (gT G, 8, .inr (.inr (.inr (.inr ft))))), (ru, .inl (gI G, 15625, .inl gu)), (q12, .inr (3, [.ref ta1_16, .ref tq1_17, .int 0, .int 0, .int 0, .int 0, .int 0])), (ta1_16, .inl (gB G, 15625, .inl (fun _ => 0))), (tq1_17, .inl (gI G, 15625, .inl (fun _ => 0)))]) hD [0, 1, 2, 3, 4, 5] (by decide) rfl)
        refine W.widen (k := 3) (n := 31257) (by decide +kernel) (by decide +kernel) ?_
        refine lv_astore_n (lv' := [(2, .ref q12), (1, .int 0), (0, .ref sr)]) hx hb dX4_takeOldest_53 rfl hl (by decide) rfl (fun ls hl => ?_)
        refine lv_aload_n hx hb dX4_takeOldest_54 rfl (lv_at hl 2 rfl) ?_
        refine va_get (D := G.1) (ci := 2) (v := .ref rt) (C := RX4) (T := TX4) (N := 3) hx hb hts (fun _ h => List.mem_cons_of_mem _ (List.mem_append_left _ (List.mem_append_right _ h))) hown E.K hP 0 rfl rfl 0 (by decide) (hts (.fieldLink RX4 13 "LastMap$Search" "tables" "[LLastMap$Table;") (by decide +kernel)) (fun _ h9 => h9) rfl dX4_takeOldest_55 ?_
        refine lv_iload_n hx hb dX4_takeOldest_58 rfl (lv_at hl 1 rfl) ?_
        refine lv_aload_n hx hb dX4_takeOldest_59 rfl (lv_at hl 0 rfl) ?_
        refine va_astq hx hb E.K hP hD hS 1 4 3 3 rfl rfl rfl rfl (i := 0) (by unfold vp_in; decide) dX4_takeOldest_60 (fun H locs hP hD hS => ?_)
        have hP : va_P G.1 vwCl ([(sr, .inr (2, [.ref rt, .ref ru, .int 1])), (rt, .inl (gT G, 8, .inr (.inr (.inr (.inr (va_up ft (0 : Int32).toNatClampNeg (some q12))))))), (ru, .inl (gI G, 15625, .inl gu)), (q12, .inr (3, [.ref ta1_16, .ref tq1_17, .int 0, .int 0, .int 0, .int 0, .int 0])), (ta1_16, .inl (gB G, 15625, .inl (fun _ => 0))), (tq1_17, .inl (gI G, 15625, .inl (fun _ => 0)))] ++ T) H := hP
        have hD : va_D A ([(sr, .inr (2, [.ref rt, .ref ru, .int 1])), (rt, .inl (gT G, 8, .inr (.inr (.inr (.inr (va_up ft (0 : Int32).toNatClampNeg (some q12))))))), (ru, .inl (gI G, 15625, .inl gu)), (q12, .inr (3, [.ref ta1_16, .ref tq1_17, .int 0, .int 0, .int 0, .int 0, .int 0])), (ta1_16, .inl (gB G, 15625, .inl (fun _ => 0))), (tq1_17, .inl (gI G, 15625, .inl (fun _ => 0)))] ++ T) := hD
        refine lv_aload_n hx hb dX4_takeOldest_61 rfl (lv_at hl 0 rfl) ?_
        have hP9 := (P_subT (X' := [(sr, .inr (2, [.ref rt, .ref ru, .int 1])), (rt, .inl (gT G, 8, .inr (.inr (.inr (.inr (va_up ft (0 : Int32).toNatClampNeg (some q12))))))), (ru, .inl (gI G, 15625, .inl gu)), (q12, .inr (3, [.ref ta1_16, .ref tq1_17, .int 0, .int 0, .int 0, .int 0, .int 0])), (ta1_16, .inl (gB G, 15625, .inl (fun _ => 0))), (tq1_17, .inl (gI G, 15625, .inl (fun _ => 0)))]) hP [0, 1, 2, 3, 4, 5] rfl)
        have hD9 := (D_subT (X' := [(sr, .inr (2, [.ref rt, .ref ru, .int 1])), (rt, .inl (gT G, 8, .inr (.inr (.inr (.inr (va_up ft (0 : Int32).toNatClampNeg (some q12))))))), (ru, .inl (gI G, 15625, .inl gu)), (q12, .inr (3, [.ref ta1_16, .ref tq1_17, .int 0, .int 0, .int 0, .int 0, .int 0])), (ta1_16, .inl (gB G, 15625, .inl (fun _ => 0))), (tq1_17, .inl (gI G, 15625, .inl (fun _ => 0)))]) hD [0, 1, 2, 3, 4, 5] (by decide) rfl)
        exact W.aret (v := .ref q12) hx hb hr (Or.inl ⟨_, rfl⟩) (Or.inr ⟨_, rfl⟩) (fun t_ ht hW => ⟨⟨(1, va_up ft (0 : Int32).toNatClampNeg (some q12), q12, ta1_16, tq1_17, 0, 0, 0, 0, 0, fun _ => 0, fun _ => 0, T), q12, rfl, ⟨pl_add (d := (q12, ta1_16, tq1_17, 0, 0, 0, 0, 0, fun _ => 0, fun _ => 0)) hT (show (0 : Int32).toNatClampNeg < 8 by decide) ho.symm, ⟨in00, in00⟩⟩, rfl, by rw [ht]; exact hP9, hD9⟩, hS.F ht⟩) hS.2.2 dX4_takeOldest_62
      · obtain ⟨d_, T_18, hd1, hd2, hTL, hP, hD⟩ := pl_take (X := [(sr, .inr (2, [.ref rt, .ref ru, .int 1])), (rt, .inl (gT G, 8, .inr (.inr (.inr (.inr ft))))), (ru, .inl (gI G, 15625, .inl gu))]) hT (show (0 : Int32).toNatClampNeg < 8 by decide) ho.symm hP hD
        obtain ⟨t_18, ta_18, tq_18, qd_18, se_18, go_18, ki_18, nn_18, fs_18, fq_18⟩ := d_
        dsimp only at hd1
        subst hd1
        have hP : va_P G.1 vwCl ([(sr, .inr (2, [.ref rt, .ref ru, .int 1])), (rt, .inl (gT G, 8, .inr (.inr (.inr (.inr ft))))), (ru, .inl (gI G, 15625, .inl gu)), (t_18, .inr (3, [.ref ta_18, .ref tq_18, .int qd_18, .int se_18, .int go_18, .int ki_18, .int nn_18])), (ta_18, .inl (gB G, 15625, .inl fs_18)), (tq_18, .inl (gI G, 15625, .inl fq_18))] ++ T_18) H := hP
        have hD : va_D A ([(sr, .inr (2, [.ref rt, .ref ru, .int 1])), (rt, .inl (gT G, 8, .inr (.inr (.inr (.inr ft))))), (ru, .inl (gI G, 15625, .inl gu)), (t_18, .inr (3, [.ref ta_18, .ref tq_18, .int qd_18, .int se_18, .int go_18, .int ki_18, .int nn_18])), (ta_18, .inl (gB G, 15625, .inl fs_18)), (tq_18, .inl (gI G, 15625, .inl fq_18))] ++ T_18) := hD
        refine lv_astore_n (lv' := [(2, .ref t_18), (1, .int 0), (0, .ref sr)]) hx hb dX4_takeOldest_41 rfl hl (by decide) rfl (fun ls hl => ?_)
        refine lv_aload_n hx hb dX4_takeOldest_42 rfl (lv_at hl 0 rfl) ?_
        refine lv_ifnonnull (tgt := 61) hx hb dX4_takeOldest_43 (by decide) ?_
        refine lv_aload_n hx hb dX4_takeOldest_61 rfl (lv_at hl 0 rfl) ?_
        refine W.widen (k := 3) (n := 31257) (by decide +kernel) (by decide +kernel) ?_
        have hP9 := (P_subT (X' := [(sr, .inr (2, [.ref rt, .ref ru, .int 1])), (rt, .inl (gT G, 8, .inr (.inr (.inr (.inr ft))))), (ru, .inl (gI G, 15625, .inl gu)), (t_18, .inr (3, [.ref ta_18, .ref tq_18, .int qd_18, .int se_18, .int go_18, .int ki_18, .int nn_18])), (ta_18, .inl (gB G, 15625, .inl fs_18)), (tq_18, .inl (gI G, 15625, .inl fq_18))]) hP [0, 1, 2, 3, 4, 5] rfl)
        have hD9 := (D_subT (X' := [(sr, .inr (2, [.ref rt, .ref ru, .int 1])), (rt, .inl (gT G, 8, .inr (.inr (.inr (.inr ft))))), (ru, .inl (gI G, 15625, .inl gu)), (t_18, .inr (3, [.ref ta_18, .ref tq_18, .int qd_18, .int se_18, .int go_18, .int ki_18, .int nn_18])), (ta_18, .inl (gB G, 15625, .inl fs_18)), (tq_18, .inl (gI G, 15625, .inl fq_18))]) hD [0, 1, 2, 3, 4, 5] (by decide) rfl)
        exact W.aret (v := .ref t_18) hx hb hr (Or.inl ⟨_, rfl⟩) (Or.inr ⟨_, rfl⟩) (fun t_ ht hW => ⟨⟨(1, ft, t_18, ta_18, tq_18, qd_18, se_18, go_18, ki_18, nn_18, fs_18, fq_18, T_18), t_18, rfl, ⟨hTL, hd2⟩, rfl, by rw [ht]; exact hP9, hD9⟩, hS.F ht⟩) hS.2.2 dX4_takeOldest_62
    · refine lv_aload_n hx hb dX4_takeOldest_19 rfl (lv_at hl 0 rfl) ?_
      refine va_get (D := G.1) (ci := 2) (v := .int ol) (C := RX4) (T := TX4) (N := 3) hx hb hts (fun _ h => List.mem_cons_of_mem _ (List.mem_append_left _ (List.mem_append_right _ h))) hown E.K hP 0 rfl rfl 2 (by decide) (hts (.fieldLink RX4 35 "LastMap$Search" "oldest" "I") (by decide +kernel)) (fun _ h9 => h9) rfl dX4_takeOldest_20 ?_
      refine lv_goto (tgt := 27) hx hb dX4_takeOldest_23 (by decide) ?_
      refine lv_istore_n (lv' := [(1, .int ol), (0, .ref sr)]) hx hb dX4_takeOldest_27 rfl hl (by decide) rfl (fun ls hl => ?_)
      refine lv_aload_n hx hb dX4_takeOldest_28 rfl (lv_at hl 1 rfl) ?_
      refine lv_iload_n hx hb dX4_takeOldest_29 rfl (lv_at hl 0 rfl) ?_
      refine lv_iconst (v := 1) hx hb dX4_takeOldest_30 (by decide) ?_
      refine lv_iadd hx hb dX4_takeOldest_31 ?_
      refine lv_topi (fun x19 ex19 => ?_)
      refine va_put (D := G.1) (ci := 2) (v := .int x19) (ty := .int) (C := RX4) (T := TX4) (N := 3) hx hb hts (fun _ h => List.mem_cons_of_mem _ (List.mem_append_left _ (List.mem_append_right _ h))) tyX4 tyX4_ok nmX4 hown E.K hP hD hS 0 rfl rfl 2 (by decide) (hts (.fieldLink RX4 35 "LastMap$Search" "oldest" "I") (by decide +kernel)) (fun _ h9 => h9) rfl (by decide +kernel) rfl rfl (Nat.le_of_ble_eq_true rfl) dX4_takeOldest_32 (fun H locs hP hD hS => ?_)
      have hP : va_P G.1 vwCl ([(sr, .inr (2, [.ref rt, .ref ru, .int x19])), (rt, .inl (gT G, 8, .inr (.inr (.inr (.inr ft))))), (ru, .inl (gI G, 15625, .inl gu))] ++ T) H := hP
      have hD : va_D A ([(sr, .inr (2, [.ref rt, .ref ru, .int x19])), (rt, .inl (gT G, 8, .inr (.inr (.inr (.inr ft))))), (ru, .inl (gI G, 15625, .inl gu))] ++ T) := hD
      refine lv_aload_n hx hb dX4_takeOldest_35 rfl (lv_at hl 1 rfl) ?_
      refine va_get (D := G.1) (ci := 2) (v := .ref rt) (C := RX4) (T := TX4) (N := 3) hx hb hts (fun _ h => List.mem_cons_of_mem _ (List.mem_append_left _ (List.mem_append_right _ h))) hown E.K hP 0 rfl rfl 0 (by decide) (hts (.fieldLink RX4 13 "LastMap$Search" "tables" "[LLastMap$Table;") (by decide +kernel)) (fun _ h9 => h9) rfl dX4_takeOldest_36 ?_
      refine lv_iload_n hx hb dX4_takeOldest_39 rfl (lv_at hl 0 rfl) ?_
      refine va_aldq hx hb E.K hP 1 4 rfl rfl (i := ol) (vp_in_iff.mpr (by ((try simp only [inR, inS, i3_lt, i3_le, i3_eq, i6_lt, i6_le, Int32.toInt_toInt64, lg_cmp_lt, lg_cmp_gt, lg_cmp_ge, lg_cmp_le, Int32.reduceToInt, Int64.reduceToInt] at c1 c10 ⊢); omega))) dX4_takeOldest_40 ?_
      obtain ⟨o_, ho⟩ : ∃ o_, o_ = ft ol.toNatClampNeg := ⟨_, rfl⟩
      rw [← ho]
      rcases o_ with _ | t0
      · refine lv_astore_nN (lv' := [(2, .null), (1, .int ol), (0, .ref sr)]) hx hb dX4_takeOldest_41 rfl hl (by decide) rfl (fun ls hl => ?_)
        refine lv_aload_nN hx hb dX4_takeOldest_42 rfl (lv_at hl 0 rfl) ?_
        refine lv_ifnonnullN hx hb dX4_takeOldest_43 ?_
        refine va_new (ci := 3) (fs := [.null, .null, .int 0, .int 0, .int 0, .int 0, .int 0]) (C := RX7) (T := TX7) (N := 7) hx hb hts (fun _ h => List.mem_cons_of_mem _ (List.mem_append_right _ h)) tyX7 tyX7_ok hown (hts (.classLink RX4 11 RX7) (by decide +kernel)) (hts (.instantiable RX7 7) (by decide +kernel)) (hts (.initialized RX7) (by decide +kernel)) E.K hP hD hS hA rfl (by decide +kernel) (by decide +kernel) (by decide +kernel) dX4_takeOldest_46 (fun q20 H hP hD hS => ?_)
        have hP := P_perm (perm_snoc _ _ _) hP
        have hD := D_perm (perm_snoc _ _ _) hD
        have hP : va_P G.1 vwCl ([(sr, .inr (2, [.ref rt, .ref ru, .int x19])), (rt, .inl (gT G, 8, .inr (.inr (.inr (.inr ft))))), (ru, .inl (gI G, 15625, .inl gu)), (q20, .inr (3, [.null, .null, .int 0, .int 0, .int 0, .int 0, .int 0]))] ++ T) H := hP
        have hD : va_D A ([(sr, .inr (2, [.ref rt, .ref ru, .int x19])), (rt, .inl (gT G, 8, .inr (.inr (.inr (.inr ft))))), (ru, .inl (gI G, 15625, .inl gu)), (q20, .inr (3, [.null, .null, .int 0, .int 0, .int 0, .int 0, .int 0]))] ++ T) := hD
        refine W.widen (k := 1) (n := 7) (by decide +kernel) (by decide +kernel) ?_
        refine lv_dup hx hb dX4_takeOldest_49 rfl ?_
        refine ca_vQ (wr := [(sr, .inr (2, [.ref rt, .ref ru, .int x19])), (rt, .inl (gT G, 8, .inr (.inr (.inr (.inr ft))))), (ru, .inl (gI G, 15625, .inl gu))]) (va_runIN (As := []) (rest := [.ref q20]) ⟨hx, hb, hml, hown, hts⟩ (c_Table l G H.size q20) ⟨va_cnB 0 hts gX4_takeOldest_X7_init_n39 rfl rfl rfl E.n39 (hts (.initialized RX7) (by decide +kernel)) (by decide +kernel) ⟨by decide +kernel, by decide +kernel⟩, rfl, hts (.instanceMethod yX7_init) (by decide +kernel)⟩ (pre_S E hP hD hS hA [3] (by decide) rfl) rfl rfl hl.1 rfl (lv_room (Nat.le_of_ble_eq_true rfl)) dX4_takeOldest_50 ⟨by decide +kernel, by decide +kernel⟩) hS hP hD hA [3] [0, 1, 2] rfl rfl (by decide) (by decide) (fun u23 H locs w21 hP hD hS => ?_)
        obtain ⟨ta1_24, tq1_25⟩ := u23
        try dsimp only at w21 hP hD
        have hP := (P_subT (X' := [(sr, .inr (2, [.ref rt, .ref ru, .int x19])), (rt, .inl (gT G, 8, .inr (.inr (.inr (.inr ft))))), (ru, .inl (gI G, 15625, .inl gu)), (q20, .inr (3, [.ref ta1_24, .ref tq1_25, .int 0, .int 0, .int 0, .int 0, .int 0])), (ta1_24, .inl (gB G, 15625, .inl (fun _ => 0))), (tq1_25, .inl (gI G, 15625, .inl (fun _ => 0)))]) hP [0, 1, 2, 3, 4, 5] rfl)
        have hD := (D_subT (X' := [(sr, .inr (2, [.ref rt, .ref ru, .int x19])), (rt, .inl (gT G, 8, .inr (.inr (.inr (.inr ft))))), (ru, .inl (gI G, 15625, .inl gu)), (q20, .inr (3, [.ref ta1_24, .ref tq1_25, .int 0, .int 0, .int 0, .int 0, .int 0])), (ta1_24, .inl (gB G, 15625, .inl (fun _ => 0))), (tq1_25, .inl (gI G, 15625, .inl (fun _ => 0)))]) hD [0, 1, 2, 3, 4, 5] (by decide) rfl)
        refine W.widen (k := 3) (n := 31257) (by decide +kernel) (by decide +kernel) ?_
        refine lv_astore_n (lv' := [(2, .ref q20), (1, .int ol), (0, .ref sr)]) hx hb dX4_takeOldest_53 rfl hl (by decide) rfl (fun ls hl => ?_)
        refine lv_aload_n hx hb dX4_takeOldest_54 rfl (lv_at hl 2 rfl) ?_
        refine va_get (D := G.1) (ci := 2) (v := .ref rt) (C := RX4) (T := TX4) (N := 3) hx hb hts (fun _ h => List.mem_cons_of_mem _ (List.mem_append_left _ (List.mem_append_right _ h))) hown E.K hP 0 rfl rfl 0 (by decide) (hts (.fieldLink RX4 13 "LastMap$Search" "tables" "[LLastMap$Table;") (by decide +kernel)) (fun _ h9 => h9) rfl dX4_takeOldest_55 ?_
        refine lv_iload_n hx hb dX4_takeOldest_58 rfl (lv_at hl 1 rfl) ?_
        refine lv_aload_n hx hb dX4_takeOldest_59 rfl (lv_at hl 0 rfl) ?_
        refine va_astq hx hb E.K hP hD hS 1 4 3 3 rfl rfl rfl rfl (i := ol) (vp_in_iff.mpr (by ((try simp only [inR, inS, i3_lt, i3_le, i3_eq, i6_lt, i6_le, Int32.toInt_toInt64, lg_cmp_lt, lg_cmp_gt, lg_cmp_ge, lg_cmp_le, Int32.reduceToInt, Int64.reduceToInt] at c1 c10 ⊢); omega))) dX4_takeOldest_60 (fun H locs hP hD hS => ?_)
        have hP : va_P G.1 vwCl ([(sr, .inr (2, [.ref rt, .ref ru, .int x19])), (rt, .inl (gT G, 8, .inr (.inr (.inr (.inr (va_up ft ol.toNatClampNeg (some q20))))))), (ru, .inl (gI G, 15625, .inl gu)), (q20, .inr (3, [.ref ta1_24, .ref tq1_25, .int 0, .int 0, .int 0, .int 0, .int 0])), (ta1_24, .inl (gB G, 15625, .inl (fun _ => 0))), (tq1_25, .inl (gI G, 15625, .inl (fun _ => 0)))] ++ T) H := hP
        have hD : va_D A ([(sr, .inr (2, [.ref rt, .ref ru, .int x19])), (rt, .inl (gT G, 8, .inr (.inr (.inr (.inr (va_up ft ol.toNatClampNeg (some q20))))))), (ru, .inl (gI G, 15625, .inl gu)), (q20, .inr (3, [.ref ta1_24, .ref tq1_25, .int 0, .int 0, .int 0, .int 0, .int 0])), (ta1_24, .inl (gB G, 15625, .inl (fun _ => 0))), (tq1_25, .inl (gI G, 15625, .inl (fun _ => 0)))] ++ T) := hD
        refine lv_aload_n hx hb dX4_takeOldest_61 rfl (lv_at hl 0 rfl) ?_
        have hP9 := (P_subT (X' := [(sr, .inr (2, [.ref rt, .ref ru, .int x19])), (rt, .inl (gT G, 8, .inr (.inr (.inr (.inr (va_up ft ol.toNatClampNeg (some q20))))))), (ru, .inl (gI G, 15625, .inl gu)), (q20, .inr (3, [.ref ta1_24, .ref tq1_25, .int 0, .int 0, .int 0, .int 0, .int 0])), (ta1_24, .inl (gB G, 15625, .inl (fun _ => 0))), (tq1_25, .inl (gI G, 15625, .inl (fun _ => 0)))]) hP [0, 1, 2, 3, 4, 5] rfl)
        have hD9 := (D_subT (X' := [(sr, .inr (2, [.ref rt, .ref ru, .int x19])), (rt, .inl (gT G, 8, .inr (.inr (.inr (.inr (va_up ft ol.toNatClampNeg (some q20))))))), (ru, .inl (gI G, 15625, .inl gu)), (q20, .inr (3, [.ref ta1_24, .ref tq1_25, .int 0, .int 0, .int 0, .int 0, .int 0])), (ta1_24, .inl (gB G, 15625, .inl (fun _ => 0))), (tq1_25, .inl (gI G, 15625, .inl (fun _ => 0)))]) hD [0, 1, 2, 3, 4, 5] (by decide) rfl)
        exact W.aret (v := .ref q20) hx hb hr (Or.inl ⟨_, rfl⟩) (Or.inr ⟨_, rfl⟩) (fun t_ ht hW => ⟨⟨(x19, va_up ft ol.toNatClampNeg (some q20), q20, ta1_24, tq1_25, 0, 0, 0, 0, 0, fun _ => 0, fun _ => 0, T), q20, rfl, ⟨pl_add (d := (q20, ta1_24, tq1_25, 0, 0, 0, 0, 0, fun _ => 0, fun _ => 0)) hT (clampR (hi := 7) (by ((try simp only [inR, inS, i3_lt, i3_le, i3_eq, i6_lt, i6_le, Int32.toInt_toInt64, lg_cmp_lt, lg_cmp_gt, lg_cmp_ge, lg_cmp_le, Int32.reduceToInt, Int64.reduceToInt] at c1 c10 ⊢); omega)) (by decide)) ho.symm, ⟨in00, in00⟩⟩, rfl, by rw [ht]; exact hP9, hD9⟩, hS.F ht⟩) hS.2.2 dX4_takeOldest_62
      · obtain ⟨d_, T_26, hd1, hd2, hTL, hP, hD⟩ := pl_take (X := [(sr, .inr (2, [.ref rt, .ref ru, .int x19])), (rt, .inl (gT G, 8, .inr (.inr (.inr (.inr ft))))), (ru, .inl (gI G, 15625, .inl gu))]) hT (clampR (hi := 7) (by ((try simp only [inR, inS, i3_lt, i3_le, i3_eq, i6_lt, i6_le, Int32.toInt_toInt64, lg_cmp_lt, lg_cmp_gt, lg_cmp_ge, lg_cmp_le, Int32.reduceToInt, Int64.reduceToInt] at c1 c10 ⊢); omega)) (by decide)) ho.symm hP hD
        obtain ⟨t_26, ta_26, tq_26, qd_26, se_26, go_26, ki_26, nn_26, fs_26, fq_26⟩ := d_
        dsimp only at hd1
        subst hd1
        have hP : va_P G.1 vwCl ([(sr, .inr (2, [.ref rt, .ref ru, .int x19])), (rt, .inl (gT G, 8, .inr (.inr (.inr (.inr ft))))), (ru, .inl (gI G, 15625, .inl gu)), (t_26, .inr (3, [.ref ta_26, .ref tq_26, .int qd_26, .int se_26, .int go_26, .int ki_26, .int nn_26])), (ta_26, .inl (gB G, 15625, .inl fs_26)), (tq_26, .inl (gI G, 15625, .inl fq_26))] ++ T_26) H := hP
        have hD : va_D A ([(sr, .inr (2, [.ref rt, .ref ru, .int x19])), (rt, .inl (gT G, 8, .inr (.inr (.inr (.inr ft))))), (ru, .inl (gI G, 15625, .inl gu)), (t_26, .inr (3, [.ref ta_26, .ref tq_26, .int qd_26, .int se_26, .int go_26, .int ki_26, .int nn_26])), (ta_26, .inl (gB G, 15625, .inl fs_26)), (tq_26, .inl (gI G, 15625, .inl fq_26))] ++ T_26) := hD
        refine lv_astore_n (lv' := [(2, .ref t_26), (1, .int ol), (0, .ref sr)]) hx hb dX4_takeOldest_41 rfl hl (by decide) rfl (fun ls hl => ?_)
        refine lv_aload_n hx hb dX4_takeOldest_42 rfl (lv_at hl 0 rfl) ?_
        refine lv_ifnonnull (tgt := 61) hx hb dX4_takeOldest_43 (by decide) ?_
        refine lv_aload_n hx hb dX4_takeOldest_61 rfl (lv_at hl 0 rfl) ?_
        refine W.widen (k := 3) (n := 31257) (by decide +kernel) (by decide +kernel) ?_
        have hP9 := (P_subT (X' := [(sr, .inr (2, [.ref rt, .ref ru, .int x19])), (rt, .inl (gT G, 8, .inr (.inr (.inr (.inr ft))))), (ru, .inl (gI G, 15625, .inl gu)), (t_26, .inr (3, [.ref ta_26, .ref tq_26, .int qd_26, .int se_26, .int go_26, .int ki_26, .int nn_26])), (ta_26, .inl (gB G, 15625, .inl fs_26)), (tq_26, .inl (gI G, 15625, .inl fq_26))]) hP [0, 1, 2, 3, 4, 5] rfl)
        have hD9 := (D_subT (X' := [(sr, .inr (2, [.ref rt, .ref ru, .int x19])), (rt, .inl (gT G, 8, .inr (.inr (.inr (.inr ft))))), (ru, .inl (gI G, 15625, .inl gu)), (t_26, .inr (3, [.ref ta_26, .ref tq_26, .int qd_26, .int se_26, .int go_26, .int ki_26, .int nn_26])), (ta_26, .inl (gB G, 15625, .inl fs_26)), (tq_26, .inl (gI G, 15625, .inl fq_26))]) hD [0, 1, 2, 3, 4, 5] (by decide) rfl)
        exact W.aret (v := .ref t_26) hx hb hr (Or.inl ⟨_, rfl⟩) (Or.inr ⟨_, rfl⟩) (fun t_ ht hW => ⟨⟨(x19, ft, t_26, ta_26, tq_26, qd_26, se_26, go_26, ki_26, nn_26, fs_26, fq_26, T_26), t_26, rfl, ⟨hTL, hd2⟩, rfl, by rw [ht]; exact hP9, hD9⟩, hS.F ht⟩) hS.2.2 dX4_takeOldest_62

theorem tl_same {G : Gy} {ft : Nat → Option Nat} {d d1 : TD} {T : va_W} (h : TL G ft d T) (e : d1.1 = d.1) : TL G ft d1 T := by
  obtain ⟨D, i, X, Y, h1, h2, h3, h4, h5, h6⟩ := h
  exact ⟨D, i, X, Y, h1, h2, h3, by rw [e]; exact h4, h5, h6⟩

set_option maxHeartbeats 1000000 in
set_option maxRecDepth 100000 in
theorem c_toward (l : Launch) (G : Gy) (sz : Nat) (sr : Nat) (rt : Nat) (ru : Nat) (ol : Int32) (ft : Nat → Option Nat) (gu : Nat → Int32) (T : va_W) (p0 : Int32) (p1 : Int32) (p2 : Int32) (hT : PL G ft T) : Cr l G yX4_toward wsX4_toward ({ frames := 9, cells := 3, slots := 31257, locals := 213 }) [.ref sr, .int p0, .int p1, .int p2] ([(sr, .inr (2, [.ref rt, .ref ru, .int ol])), (rt, .inl (gT G, 8, .inr (.inr (.inr (.inr ft))))), (ru, .inl (gI G, 15625, .inl gu))] ++ T) sz (fun (u : Int32 × (Nat → Option Nat) × Nat × Nat × Nat × Int32 × Int32 × Int32 × Int32 × Int32 × (Nat → Int32) × (Nat → Int32) × va_W) => match u with | (ol1, ft1, t1, ta1, tq1, qd1, se1, go1, ki1, nn1, fs1, fq1, T1) => TL G ft1 (t1, ta1, tq1, qd1, se1, go1, ki1, nn1, fs1, fq1) T1 ∧ tok (t1, ta1, tq1, qd1, se1, go1, ki1, nn1, fs1, fq1)) (fun (u : Int32 × (Nat → Option Nat) × Nat × Nat × Nat × Int32 × Int32 × Int32 × Int32 × Int32 × (Nat → Int32) × (Nat → Int32) × va_W) => match u with | (ol1, ft1, t1, ta1, tq1, qd1, se1, go1, ki1, nn1, fs1, fq1, T1) => t1) (fun (u : Int32 × (Nat → Option Nat) × Nat × Nat × Nat × Int32 × Int32 × Int32 × Int32 × Int32 × (Nat → Int32) × (Nat → Int32) × va_W) => (match u with | (ol1, ft1, t1, ta1, tq1, qd1, se1, go1, ki1, nn1, fs1, fq1, T1) => [(sr, .inr (2, [.ref rt, .ref ru, .int ol1])), (rt, .inl (gT G, 8, .inr (.inr (.inr (.inr ft1))))), (ru, .inl (gI G, 15625, .inl gu)), (t1, .inr (3, [.ref ta1, .ref tq1, .int qd1, .int se1, .int go1, .int ki1, .int nn1])), (ta1, .inl (gB G, 15625, .inl fs1)), (tq1, .inl (gI G, 15625, .inl fq1))]) ++ (match u with | (ol1, ft1, t1, ta1, tq1, qd1, se1, go1, ki1, nn1, fs1, fq1, T1) => T1)) 3 31257 := by
  refine Met.ofW (cc := cX4_toward) (maxL := 6) (ret := (some (.object "LastMap$Table"))) (by decide) rfl ?_
  intro p e s m args below meth c s₁ B hml hv
  obtain ⟨rfl, hsz, hP, hD0, E0⟩ := hv
  have hx := B.exec
  have hb := B.bytes
  have hr := B.returns
  have hts := atoms_spec (ws := wsX4_toward) B.pre
  have hown : s.vm.findClass RX4 = some m.cls := findClass_of_methodNamed B.named
  have hlocks := B.notSynchronized
  subst hsz
  have hD := hD0.self (sz := s.heap.size)
  generalize hAe : va_A ([(sr, .inr (2, [.ref rt, .ref ru, .int ol])), (rt, .inl (gT G, 8, .inr (.inr (.inr (.inr ft))))), (ru, .inl (gI G, 15625, .inl gu))] ++ T) s.heap.size = A at hD E0 ⊢
  have E : EV G A s s.heap := E0
  have hA : ∀ q : Nat, s.heap.size ≤ q → A q := fun q h => by rw [← hAe]; exact Or.inr h
  have hS : va_S A s.heap s.heap [] := va_S.rf
  have hl := lv_entry ([.ref sr, .int p0, .int p1, .int p2]) (n := 6) (Nat.le_of_ble_eq_true rfl)
  rw [lg_entry_eq]
  generalize (lg_sl ([.ref sr, .int p0, .int p1, .int p2]) ++ List.replicate (6 - (lg_sl ([.ref sr, .int p0, .int p1, .int p2])).length) Slot.unset).toArray = ls at hl ⊢
  have hl : lv_has ls 6 [(0, .ref sr), (1, .int p0), (2, .int p1), (3, .int p2)] := hl
  have hP : va_P G.1 vwCl ([(sr, .inr (2, [.ref rt, .ref ru, .int ol])), (rt, .inl (gT G, 8, .inr (.inr (.inr (.inr ft))))), (ru, .inl (gI G, 15625, .inl gu))] ++ T) s.heap := hP
  refine lv_iconst (v := 0) hx hb dX4_toward_0 (by decide) ?_
  refine lv_istore (lv' := [(4, .int 0), (0, .ref sr), (1, .int p0), (2, .int p1), (3, .int p2)]) hx hb dX4_toward_1 hl (by decide) rfl (fun ls hl => ?_)
  refine lp_run (x0 := (0, T)) (fun xx_ : Int32 × va_W => match xx_ with | (x, Tv) => [(sr, .inr (2, [.ref rt, .ref ru, .int ol])), (rt, .inl (gT G, 8, .inr (.inr (.inr (.inr ft))))), (ru, .inl (gI G, 15625, .inl gu))] ++ Tv) (fun xx_ : Int32 × va_W => match xx_ with | (x, Tv) => [(4, .int x), (0, .ref sr), (1, .int p0), (2, .int p1), (3, .int p2)]) (fun xx_ : Int32 × va_W => match xx_ with | (x, Tv) => (0 ≤ x.toInt) ∧ (PL G ft Tv)) (fun xx_ : Int32 × va_W => match xx_ with | (x, Tv) => ((8 : Int32).toInt - x.toInt).toNat) (P_subT hP [0, 1, 2] rfl) (D_subT hD [0, 1, 2] (by decide) rfl) hS (lv_sub hl [0, 1, 2, 3, 4] rfl) ⟨show (0 : Int) ≤ (0 : Int32).toInt by decide, hT⟩ ?_
  intro xx_ hI ih3 H locs ls hP hD hS hl
  obtain ⟨x, Tv⟩ := xx_
  dsimp only at hI ih3 hP hD hl
  obtain ⟨hx0, hTv⟩ := hI
  have hl : lv_has ls 6 [(4, .int x), (0, .ref sr), (1, .int p0), (2, .int p1), (3, .int p2)] := hl
  have hP : va_P G.1 vwCl ([(sr, .inr (2, [.ref rt, .ref ru, .int ol])), (rt, .inl (gT G, 8, .inr (.inr (.inr (.inr ft))))), (ru, .inl (gI G, 15625, .inl gu))] ++ Tv) H := hP
  have hD : va_D A ([(sr, .inr (2, [.ref rt, .ref ru, .int ol])), (rt, .inl (gT G, 8, .inr (.inr (.inr (.inr ft))))), (ru, .inl (gI G, 15625, .inl gu))] ++ Tv) := hD
  refine lv_iload hx hb dX4_toward_3 (lv_at hl 0 rfl) ?_
  refine lv_aload_n hx hb dX4_toward_5 rfl (lv_at hl 1 rfl) ?_
  refine va_get (D := G.1) (ci := 2) (v := .ref rt) (C := RX4) (T := TX4) (N := 3) hx hb hts (fun _ h => List.mem_cons_of_mem _ (List.mem_append_left _ (List.mem_append_right _ h))) hown E.K hP 0 rfl rfl 0 (by decide) (hts (.fieldLink RX4 13 "LastMap$Search" "tables" "[LLastMap$Table;") (by decide +kernel)) (fun _ h9 => h9) rfl dX4_toward_6 ?_
  refine va_alen (v := 8) hx hb E.K hP 1 4 rfl rfl rfl dX4_toward_9 ?_
  refine lv_icmp_ge (tgt := 47) hx hb dX4_toward_10 (by decide) (fun c1 => ?_) (fun c1 => ?_)
  · refine lv_aload_n hx hb dX4_toward_47 rfl (lv_at hl 1 rfl) ?_
    refine ca_rP (wr := []) (va_runV (As := []) (rest := []) ⟨hx, hb, hml, hown, hts⟩ (c_takeOldest l G H.size sr rt ru ol ft gu Tv hTv) (cwV 0 hts gX4_toward_X4_takeOldest rfl rfl rfl (by decide +kernel) ⟨by decide +kernel, by decide +kernel⟩) (pre_VP E hP hD hS hA [0, 1, 2] (by decide) rfl 0 2 rfl rfl) rfl rfl hl.1 rfl (lv_room (Nat.le_of_ble_eq_true rfl)) dX4_toward_48 ⟨by decide +kernel, by decide +kernel⟩) hS hP hD hA [0, 1, 2] [] rfl rfl (by decide) (by decide) (fun u4 H locs w2 hP hD hS => ?_)
    obtain ⟨ol1_5, ft1_6, t1_7, ta1_8, tq1_9, qd1_10, se1_11, go1_12, ki1_13, nn1_14, fs1_15, fq1_16, T1_17⟩ := u4
    try dsimp only at w2 hP hD
    have hP := (P_subT (X' := [(sr, .inr (2, [.ref rt, .ref ru, .int ol1_5])), (rt, .inl (gT G, 8, .inr (.inr (.inr (.inr ft1_6))))), (ru, .inl (gI G, 15625, .inl gu)), (t1_7, .inr (3, [.ref ta1_8, .ref tq1_9, .int qd1_10, .int se1_11, .int go1_12, .int ki1_13, .int nn1_14])), (ta1_8, .inl (gB G, 15625, .inl fs1_15)), (tq1_9, .inl (gI G, 15625, .inl fq1_16))]) hP [0, 1, 2, 3, 4, 5] rfl)
    have hD := (D_subT (X' := [(sr, .inr (2, [.ref rt, .ref ru, .int ol1_5])), (rt, .inl (gT G, 8, .inr (.inr (.inr (.inr ft1_6))))), (ru, .inl (gI G, 15625, .inl gu)), (t1_7, .inr (3, [.ref ta1_8, .ref tq1_9, .int qd1_10, .int se1_11, .int go1_12, .int ki1_13, .int nn1_14])), (ta1_8, .inl (gB G, 15625, .inl fs1_15)), (tq1_9, .inl (gI G, 15625, .inl fq1_16))]) hD [0, 1, 2, 3, 4, 5] (by decide) rfl)
    refine W.widen (k := 3) (n := 31257) (by decide +kernel) (by decide +kernel) ?_
    refine lv_astore (lv' := [(4, .ref t1_7), (0, .ref sr), (1, .int p0), (2, .int p1), (3, .int p2)]) hx hb dX4_toward_51 hl (by decide) rfl (fun ls hl => ?_)
    refine lv_aload hx hb dX4_toward_53 (lv_at hl 0 rfl) ?_
    refine lv_iload_n hx hb dX4_toward_55 rfl (lv_at hl 2 rfl) ?_
    refine lv_iload_n hx hb dX4_toward_56 rfl (lv_at hl 3 rfl) ?_
    refine lv_iload_n hx hb dX4_toward_57 rfl (lv_at hl 4 rfl) ?_
    refine ca_vQ (wr := [(sr, .inr (2, [.ref rt, .ref ru, .int ol1_5])), (rt, .inl (gT G, 8, .inr (.inr (.inr (.inr ft1_6))))), (ru, .inl (gI G, 15625, .inl gu))]) (va_runV (As := [.int p0, .int p1, .int p2]) (rest := []) ⟨hx, hb, hml, hown, hts⟩ (c_begin l G H.size t1_7 ta1_8 tq1_9 qd1_10 se1_11 go1_12 ki1_13 nn1_14 fs1_15 fq1_16 p0 p1 p2) (cwV 3 hts gX4_toward_X7_begin rfl rfl rfl (by decide +kernel) ⟨by decide +kernel, by decide +kernel⟩) (pre_V E hP hD hS hA [3, 4, 5] (by decide) rfl 3 3 rfl rfl) rfl rfl hl.1 rfl (lv_room (Nat.le_of_ble_eq_true rfl)) dX4_toward_58 ⟨by decide +kernel, by decide +kernel⟩) hS hP hD hA [3, 4, 5] [0, 1, 2] rfl rfl (by decide) (by decide) (fun u20 H locs w18 hP hD hS => ?_)
    obtain ⟨qd1_21, fs1_22, fq1_23⟩ := u20
    try dsimp only at w18 hP hD
    have hP := (P_subT (X' := [(sr, .inr (2, [.ref rt, .ref ru, .int ol1_5])), (rt, .inl (gT G, 8, .inr (.inr (.inr (.inr ft1_6))))), (ru, .inl (gI G, 15625, .inl gu)), (t1_7, .inr (3, [.ref ta1_8, .ref tq1_9, .int qd1_21, .int 0, .int p0, .int p1, .int p2])), (ta1_8, .inl (gB G, 15625, .inl fs1_22)), (tq1_9, .inl (gI G, 15625, .inl fq1_23))]) hP [0, 1, 2, 3, 4, 5] rfl)
    have hD := (D_subT (X' := [(sr, .inr (2, [.ref rt, .ref ru, .int ol1_5])), (rt, .inl (gT G, 8, .inr (.inr (.inr (.inr ft1_6))))), (ru, .inl (gI G, 15625, .inl gu)), (t1_7, .inr (3, [.ref ta1_8, .ref tq1_9, .int qd1_21, .int 0, .int p0, .int p1, .int p2])), (ta1_8, .inl (gB G, 15625, .inl fs1_22)), (tq1_9, .inl (gI G, 15625, .inl fq1_23))]) hD [0, 1, 2, 3, 4, 5] (by decide) rfl)
    refine lv_aload hx hb dX4_toward_61 (lv_at hl 0 rfl) ?_
    have hP9 := (P_subT (X' := [(sr, .inr (2, [.ref rt, .ref ru, .int ol1_5])), (rt, .inl (gT G, 8, .inr (.inr (.inr (.inr ft1_6))))), (ru, .inl (gI G, 15625, .inl gu)), (t1_7, .inr (3, [.ref ta1_8, .ref tq1_9, .int qd1_21, .int 0, .int p0, .int p1, .int p2])), (ta1_8, .inl (gB G, 15625, .inl fs1_22)), (tq1_9, .inl (gI G, 15625, .inl fq1_23))]) hP [0, 1, 2, 3, 4, 5] rfl)
    have hD9 := (D_subT (X' := [(sr, .inr (2, [.ref rt, .ref ru, .int ol1_5])), (rt, .inl (gT G, 8, .inr (.inr (.inr (.inr ft1_6))))), (ru, .inl (gI G, 15625, .inl gu)), (t1_7, .inr (3, [.ref ta1_8, .ref tq1_9, .int qd1_21, .int 0, .int p0, .int p1, .int p2])), (ta1_8, .inl (gB G, 15625, .inl fs1_22)), (tq1_9, .inl (gI G, 15625, .inl fq1_23))]) hD [0, 1, 2, 3, 4, 5] (by decide) rfl)
    exact W.aret (v := .ref t1_7) hx hb hr (Or.inl ⟨_, rfl⟩) (Or.inr ⟨_, rfl⟩) (fun t_ ht hW => ⟨⟨(ol1_5, ft1_6, t1_7, ta1_8, tq1_9, qd1_21, 0, p0, p1, p2, fs1_22, fq1_23, T1_17), t1_7, rfl, ⟨tl_same w2.1 rfl, ⟨w18, in00⟩⟩, rfl, by rw [ht]; exact hP9, hD9⟩, hS.F ht⟩) hS.2.2 dX4_toward_63
  · have hlt3 : x.toInt < (8 : Int32).toInt := by ((try simp only [inR, inS, i3_lt, i3_le, i3_eq, i6_lt, i6_le, Int32.toInt_toInt64, lg_cmp_lt, lg_cmp_gt, lg_cmp_ge, lg_cmp_le, Int32.reduceToInt, Int64.reduceToInt] at c1 ⊢); omega)
    refine lv_aload_n hx hb dX4_toward_13 rfl (lv_at hl 1 rfl) ?_
    refine va_get (D := G.1) (ci := 2) (v := .ref rt) (C := RX4) (T := TX4) (N := 3) hx hb hts (fun _ h => List.mem_cons_of_mem _ (List.mem_append_left _ (List.mem_append_right _ h))) hown E.K hP 0 rfl rfl 0 (by decide) (hts (.fieldLink RX4 13 "LastMap$Search" "tables" "[LLastMap$Table;") (by decide +kernel)) (fun _ h9 => h9) rfl dX4_toward_14 ?_
    refine lv_iload hx hb dX4_toward_17 (lv_at hl 0 rfl) ?_
    refine va_aldq hx hb E.K hP 1 4 rfl rfl (i := x) (vp_in_iff.mpr ⟨hx0, by have q := hlt3; simp only [Int32.reduceToInt] at q; omega⟩) dX4_toward_19 ?_
    obtain ⟨o_, ho⟩ : ∃ o_, o_ = ft x.toNatClampNeg := ⟨_, rfl⟩
    rw [← ho]
    rcases o_ with _ | t0
    · refine lv_astoreN (lv' := [(5, .null), (4, .int x), (0, .ref sr), (1, .int p0), (2, .int p1), (3, .int p2)]) hx hb dX4_toward_20 hl (by decide) rfl (fun ls hl => ?_)
      refine lv_aloadN hx hb dX4_toward_22 (lv_at hl 0 rfl) ?_
      refine lv_ifnullN (tgt := 41) hx hb dX4_toward_24 (by decide) ?_
      obtain ⟨x24, ex24⟩ : ∃ yy_ : Int32, yy_ = x + 1 := ⟨_, rfl⟩
      refine lv_iinc (v := x24) (lv' := [(4, .int x24), (5, .null), (0, .ref sr), (1, .int p0), (2, .int p1), (3, .int p2)]) hx hb dX4_toward_41 hl (k := 1) rfl (by rw [ex24]; rfl) (by decide) rfl (fun ls hl => ?_)
      refine lv_goto (tgt := 3) hx hb dX4_toward_44 (by decide) ?_
      have hinc3 := inc_lt hlt3 ex24
      refine ih3 (x24, Tv) ⟨?_, ?_⟩ (by first | omega | (dsimp only; omega)) H locs ls (P_subT hP [0, 1, 2] rfl) (D_subT hD [0, 1, 2] (by decide) rfl) hS (lv_sub hl [0, 2, 3, 4, 5] rfl)
      · try dsimp only
        omega
      · try dsimp only
        exact hTv
    · obtain ⟨d_, T_25, hd1, hd2, hTL, hP, hD⟩ := pl_take (X := [(sr, .inr (2, [.ref rt, .ref ru, .int ol])), (rt, .inl (gT G, 8, .inr (.inr (.inr (.inr ft))))), (ru, .inl (gI G, 15625, .inl gu))]) hTv (show x.toNatClampNeg < 8 by (have q := hlt3; simp only [Int32.reduceToInt] at q; show x.toInt.toNat < 8; omega)) ho.symm hP hD
      obtain ⟨t_25, ta_25, tq_25, qd_25, se_25, go_25, ki_25, nn_25, fs_25, fq_25⟩ := d_
      dsimp only at hd1
      subst hd1
      have hP : va_P G.1 vwCl ([(sr, .inr (2, [.ref rt, .ref ru, .int ol])), (rt, .inl (gT G, 8, .inr (.inr (.inr (.inr ft))))), (ru, .inl (gI G, 15625, .inl gu)), (t_25, .inr (3, [.ref ta_25, .ref tq_25, .int qd_25, .int se_25, .int go_25, .int ki_25, .int nn_25])), (ta_25, .inl (gB G, 15625, .inl fs_25)), (tq_25, .inl (gI G, 15625, .inl fq_25))] ++ T_25) H := hP
      have hD : va_D A ([(sr, .inr (2, [.ref rt, .ref ru, .int ol])), (rt, .inl (gT G, 8, .inr (.inr (.inr (.inr ft))))), (ru, .inl (gI G, 15625, .inl gu)), (t_25, .inr (3, [.ref ta_25, .ref tq_25, .int qd_25, .int se_25, .int go_25, .int ki_25, .int nn_25])), (ta_25, .inl (gB G, 15625, .inl fs_25)), (tq_25, .inl (gI G, 15625, .inl fq_25))] ++ T_25) := hD
      refine lv_astore (lv' := [(5, .ref t_25), (4, .int x), (0, .ref sr), (1, .int p0), (2, .int p1), (3, .int p2)]) hx hb dX4_toward_20 hl (by decide) rfl (fun ls hl => ?_)
      refine lv_aload hx hb dX4_toward_22 (lv_at hl 0 rfl) ?_
      refine lv_ifnull hx hb dX4_toward_24 ?_
      refine lv_aload hx hb dX4_toward_27 (lv_at hl 0 rfl) ?_
      refine lv_iload_n hx hb dX4_toward_29 rfl (lv_at hl 3 rfl) ?_
      refine lv_iload_n hx hb dX4_toward_30 rfl (lv_at hl 4 rfl) ?_
      refine lv_iload_n hx hb dX4_toward_31 rfl (lv_at hl 5 rfl) ?_
      refine ca_iR (va_runV (As := [.int p0, .int p1, .int p2]) (rest := []) ⟨hx, hb, hml, hown, hts⟩ (c_isFor l G H.size t_25 ta_25 tq_25 qd_25 se_25 go_25 ki_25 nn_25 fs_25 fq_25 p0 p1 p2) (cwV 3 hts gX4_toward_X7_isFor rfl rfl rfl (by decide +kernel) ⟨by decide +kernel, by decide +kernel⟩) (pre_V E hP hD hS hA [3, 4, 5] (by decide) rfl 3 3 rfl rfl) rfl rfl hl.1 rfl (lv_room (Nat.le_of_ble_eq_true rfl)) dX4_toward_32 ⟨by decide +kernel, by decide +kernel⟩) hS hP hD hA [3, 4, 5] rfl (fun r27 _ H locs w26 hP hS => ?_)
      rcases w26 with ⟨rfl, b28⟩ | ⟨rfl, b28⟩
      · refine lv_if_eq (tgt := 41) hx hb dX4_toward_35 (by decide) (fun c29 => False.elim (by revert c29; decide)) (fun _ => ?_)
        refine lv_aload hx hb dX4_toward_38 (lv_at hl 0 rfl) ?_
        refine W.widen (k := 3) (n := 31257) (by decide +kernel) (by decide +kernel) ?_
        have hP9 := (P_subT (X' := [(sr, .inr (2, [.ref rt, .ref ru, .int ol])), (rt, .inl (gT G, 8, .inr (.inr (.inr (.inr ft))))), (ru, .inl (gI G, 15625, .inl gu)), (t_25, .inr (3, [.ref ta_25, .ref tq_25, .int qd_25, .int se_25, .int go_25, .int ki_25, .int nn_25])), (ta_25, .inl (gB G, 15625, .inl fs_25)), (tq_25, .inl (gI G, 15625, .inl fq_25))]) hP [0, 1, 2, 3, 4, 5] rfl)
        have hD9 := (D_subT (X' := [(sr, .inr (2, [.ref rt, .ref ru, .int ol])), (rt, .inl (gT G, 8, .inr (.inr (.inr (.inr ft))))), (ru, .inl (gI G, 15625, .inl gu)), (t_25, .inr (3, [.ref ta_25, .ref tq_25, .int qd_25, .int se_25, .int go_25, .int ki_25, .int nn_25])), (ta_25, .inl (gB G, 15625, .inl fs_25)), (tq_25, .inl (gI G, 15625, .inl fq_25))]) hD [0, 1, 2, 3, 4, 5] (by decide) rfl)
        exact W.aret (v := .ref t_25) hx hb hr (Or.inl ⟨_, rfl⟩) (Or.inr ⟨_, rfl⟩) (fun t_ ht hW => ⟨⟨(ol, ft, t_25, ta_25, tq_25, qd_25, se_25, go_25, ki_25, nn_25, fs_25, fq_25, T_25), t_25, rfl, ⟨hTL, hd2⟩, rfl, by rw [ht]; exact hP9, hD9⟩, hS.F ht⟩) hS.2.2 dX4_toward_40
      · refine lv_if_eq (tgt := 41) hx hb dX4_toward_35 (by decide) (fun _ => ?_) (fun c30 => False.elim (by revert c30; decide))
        obtain ⟨T9_31, hT9_31, hP, hD⟩ := pl_put (X := [(sr, .inr (2, [.ref rt, .ref ru, .int ol])), (rt, .inl (gT G, 8, .inr (.inr (.inr (.inr ft))))), (ru, .inl (gI G, 15625, .inl gu))]) (d1 := (t_25, ta_25, tq_25, qd_25, se_25, go_25, ki_25, nn_25, fs_25, fq_25)) hTL rfl hd2 (P_subT hP [0, 1, 2, 3, 4, 5] rfl) (D_subT hD [0, 1, 2, 3, 4, 5] (by decide) rfl)
        have hP : va_P G.1 vwCl ([(sr, .inr (2, [.ref rt, .ref ru, .int ol])), (rt, .inl (gT G, 8, .inr (.inr (.inr (.inr ft))))), (ru, .inl (gI G, 15625, .inl gu))] ++ T9_31) H := hP
        have hD : va_D A ([(sr, .inr (2, [.ref rt, .ref ru, .int ol])), (rt, .inl (gT G, 8, .inr (.inr (.inr (.inr ft))))), (ru, .inl (gI G, 15625, .inl gu))] ++ T9_31) := hD
        obtain ⟨x32, ex32⟩ : ∃ yy_ : Int32, yy_ = x + 1 := ⟨_, rfl⟩
        refine lv_iinc (v := x32) (lv' := [(4, .int x32), (5, .ref t_25), (0, .ref sr), (1, .int p0), (2, .int p1), (3, .int p2)]) hx hb dX4_toward_41 hl (k := 1) rfl (by rw [ex32]; rfl) (by decide) rfl (fun ls hl => ?_)
        refine lv_goto (tgt := 3) hx hb dX4_toward_44 (by decide) ?_
        have hinc3 := inc_lt hlt3 ex32
        refine ih3 (x32, T9_31) ⟨?_, ?_⟩ (by first | omega | (dsimp only; omega)) H locs ls (P_subT hP [0, 1, 2] rfl) (D_subT hD [0, 1, 2] (by decide) rfl) hS (lv_sub hl [0, 2, 3, 4, 5] rfl)
        · try dsimp only
          omega
        · try dsimp only
          exact hT9_31

set_option maxHeartbeats 1000000 in
set_option maxRecDepth 100000 in
theorem c_Search (l : Launch) (G : Gy) (sz : Nat) (sr : Nat)  : Cv l G yX4_init wsX4_init ({ frames := 1, cells := 2, slots := 15633, locals := 12 }) [.ref sr] ([(sr, .inr (2, [.null, .null, .int 0]))]) sz (fun (u : Nat × Nat) => match u with | (rt1, ru1) => True) (fun (u : Nat × Nat) => match u with | (rt1, ru1) => [(sr, .inr (2, [.ref rt1, .ref ru1, .int 0])), (rt1, .inl (gT G, 8, .inr (.inr (.inr (.inr (fun _ => none)))))), (ru1, .inl (gI G, 15625, .inl (fun _ => 0)))]) 2 15633 := by
  refine Met.ofW (cc := cX4_init) (maxL := 1) (ret := none) (by decide) rfl ?_
  intro p e s m args below meth c s₁ B hml hv
  obtain ⟨rfl, hsz, hP, hD0, E0⟩ := hv
  have hx := B.exec
  have hb := B.bytes
  have hr := B.returns
  have hts := atoms_spec (ws := wsX4_init) B.pre
  have hown : s.vm.findClass RX4 = some m.cls := findClass_of_methodNamed B.named
  have hlocks := B.notSynchronized
  have hin : meth.name = "<init>" := (name_of_methodNamed B.named B.method).1
  subst hsz
  have hD := hD0.self (sz := s.heap.size)
  generalize hAe : va_A ([(sr, .inr (2, [.null, .null, .int 0]))]) s.heap.size = A at hD E0 ⊢
  have E : EV G A s s.heap := E0
  have hA : ∀ q : Nat, s.heap.size ≤ q → A q := fun q h => by rw [← hAe]; exact Or.inr h
  have hS : va_S A s.heap s.heap [] := va_S.rf
  have hl := lv_entry ([.ref sr]) (n := 1) (Nat.le_of_ble_eq_true rfl)
  rw [lg_entry_eq]
  generalize (lg_sl ([.ref sr]) ++ List.replicate (1 - (lg_sl ([.ref sr])).length) Slot.unset).toArray = ls at hl ⊢
  have hl : lv_has ls 1 [(0, .ref sr)] := hl
  have hP : va_P G.1 vwCl ([(sr, .inr (2, [.null, .null, .int 0]))]) s.heap := hP
  refine lv_aload_n hx hb dX4_init_0 rfl (lv_at hl 0 rfl) ?_
  refine W.objInit hx hb hown (hts (.methodLink RX4 3 objectInit) (by decide +kernel)) (hts (.instanceMethod objectInit) (by decide +kernel)) (hts (.code objectInit ⟨#[0xb1]⟩ 1 none) (by decide +kernel)) rfl (by rw [hml]; exact hl.1) rfl dX4_init_1 (Nat.le_of_ble_eq_true rfl) (Nat.le_of_ble_eq_true rfl) ?_
  refine W.eq (g2 := F0 m 4 ls []) rfl ?_
  refine lv_aload_n hx hb dX4_init_4 rfl (lv_at hl 0 rfl) ?_
  refine lv_bipush (v := 8) hx hb dX4_init_5 (by decide) ?_
  refine nw_rowq hx hb hown (hts (.classLink RX4 11 RX7) (by decide +kernel)) E.aT E 4 rfl hP hD hS hA (by decide +kernel) (show _ = 8 by decide +kernel) (by decide +kernel) (by decide +kernel) (by decide +kernel) dX4_init_7 (fun q1 H hP hD hS => ?_)
  have hP : va_P G.1 vwCl ([(sr, .inr (2, [.null, .null, .int 0])), (q1, .inl (gT G, 8, .inr (.inr (.inr (.inr (fun _ => none))))))]) H := hP
  have hD : va_D A ([(sr, .inr (2, [.null, .null, .int 0])), (q1, .inl (gT G, 8, .inr (.inr (.inr (.inr (fun _ => none))))))]) := hD
  refine W.widen (k := 1) (n := 8) (by decide +kernel) (by decide +kernel) ?_
  refine va_putF (D := G.1) (ci := 2) (v := .ref q1) (ty := .array (.object "LastMap$Table")) (C := RX4) (T := TX4) (N := 3) hx hb hts (fun _ h => List.mem_cons_of_mem _ (List.mem_append_right _ h)) tyX4 tyX4_ok nmX4 hown E.K hP hD hS 0 rfl rfl 0 (by decide) (hts (.fieldLink RX4 13 "LastMap$Search" "tables" "[LLastMap$Table;") (by decide +kernel)) (fun _ h9 => h9) rfl hin rfl (by decide +kernel) rfl rfl (Nat.le_of_ble_eq_true rfl) dX4_init_10 (fun H locs hP hD hS => ?_)
  have hP : va_P G.1 vwCl ([(sr, .inr (2, [.ref q1, .null, .int 0])), (q1, .inl (gT G, 8, .inr (.inr (.inr (.inr (fun _ => none))))))]) H := hP
  have hD : va_D A ([(sr, .inr (2, [.ref q1, .null, .int 0])), (q1, .inl (gT G, 8, .inr (.inr (.inr (.inr (fun _ => none))))))]) := hD
  refine lv_aload_n hx hb dX4_init_13 rfl (lv_at hl 0 rfl) ?_
  refine lv_sipush (v := 15625) hx hb dX4_init_14 (by decide) ?_
  refine nw_row (atype := .int) (a0 := (15625, .inl (fun _ => 0))) (ty := .int) hx hb (hts (.arrayClass .int) (by decide +kernel)) rfl E 1 rfl (fun _ _ h => h) hP hD hS hA (fun _ => rfl) (by decide +kernel) (by decide +kernel) (by decide +kernel) (by decide +kernel) (by decide +kernel) dX4_init_17 (fun q2 H hP hD hS => ?_)
  have hP : va_P G.1 vwCl ([(sr, .inr (2, [.ref q1, .null, .int 0])), (q1, .inl (gT G, 8, .inr (.inr (.inr (.inr (fun _ => none)))))), (q2, .inl (gI G, 15625, .inl (fun _ => 0)))]) H := hP
  have hD : va_D A ([(sr, .inr (2, [.ref q1, .null, .int 0])), (q1, .inl (gT G, 8, .inr (.inr (.inr (.inr (fun _ => none)))))), (q2, .inl (gI G, 15625, .inl (fun _ => 0)))]) := hD
  refine W.widen (k := 2) (n := 15633) (by decide +kernel) (by decide +kernel) ?_
  refine va_putF (D := G.1) (ci := 2) (v := .ref q2) (ty := .array .int) (C := RX4) (T := TX4) (N := 3) hx hb hts (fun _ h => List.mem_cons_of_mem _ (List.mem_append_right _ h)) tyX4 tyX4_ok nmX4 hown E.K hP hD hS 0 rfl rfl 1 (by decide) (hts (.fieldLink RX4 19 "LastMap$Search" "sums" "[I") (by decide +kernel)) (fun _ h9 => h9) rfl hin rfl (by decide +kernel) rfl rfl (Nat.le_of_ble_eq_true rfl) dX4_init_19 (fun H locs hP hD hS => ?_)
  have hP : va_P G.1 vwCl ([(sr, .inr (2, [.ref q1, .ref q2, .int 0])), (q1, .inl (gT G, 8, .inr (.inr (.inr (.inr (fun _ => none)))))), (q2, .inl (gI G, 15625, .inl (fun _ => 0)))]) H := hP
  have hD : va_D A ([(sr, .inr (2, [.ref q1, .ref q2, .int 0])), (q1, .inl (gT G, 8, .inr (.inr (.inr (.inr (fun _ => none)))))), (q2, .inl (gI G, 15625, .inl (fun _ => 0)))]) := hD
  have hP9 := (hP.sub (ws' := [(sr, .inr (2, [.ref q1, .ref q2, .int 0])), (q1, .inl (gT G, 8, .inr (.inr (.inr (.inr (fun _ => none)))))), (q2, .inl (gI G, 15625, .inl (fun _ => 0)))]) [0, 1, 2] rfl)
  have hD9 := (hD.sub (ws' := [(sr, .inr (2, [.ref q1, .ref q2, .int 0])), (q1, .inl (gT G, 8, .inr (.inr (.inr (.inr (fun _ => none)))))), (q2, .inl (gI G, 15625, .inl (fun _ => 0)))]) [0, 1, 2] (by decide) rfl)
  exact W.vret hx hb hr (fun t ht hW => ⟨⟨(q1, q2), rfl, trivial, by rw [ht]; exact hP9, hD9⟩, hS.F ht⟩) hS.2.2 dX4_init_22
