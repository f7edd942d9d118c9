/-- how many slots of a Search hold a table -/
def cntS (ft : Nat → Option Nat) : Nat → Nat
  | 0 => 0
  | n + 1 => cntS ft n + (if (ft n).isSome then 1 else 0)
theorem cntS_le (ft : Nat → Option Nat) : ∀ n : Nat, cntS ft n ≤ n
  | 0 => Nat.le_refl _
  | n + 1 => by
    show cntS ft n + _ ≤ n + 1
    have := cntS_le ft n
    by_cases h : (ft n).isSome
    · rw [if_pos h]; omega
    · rw [if_neg h]; omega
theorem cntS_up {ft : Nat → Option Nat} {j t : Nat} : ∀ n : Nat, n ≤ j → cntS (va_up ft j (some t)) n = cntS ft n
  | 0, _ => rfl
  | n + 1, h => by
    show cntS (va_up ft j (some t)) n + _ = cntS ft n + _
    rw [cntS_up n (by omega), show va_up ft j (some t) n = ft n from if_neg (by omega)]
theorem cntS_add {ft : Nat → Option Nat} {j t : Nat} (h : ft j = none) : ∀ n : Nat, j < n → cntS (va_up ft j (some t)) n = cntS ft n + 1
  | 0, hj => absurd hj (Nat.not_lt_zero _)
  | n + 1, hj => by
    show cntS (va_up ft j (some t)) n + _ = cntS ft n + _ + 1
    by_cases e : j = n
    · subst e
      rw [cntS_up j (Nat.le_refl _), show va_up ft j (some t) j = some t from if_pos rfl, h]
      rfl
    · rw [cntS_add h n (by omega), show va_up ft j (some t) n = ft n from if_neg (fun q => e q.symm)]
      omega
/-- the field search, the cells behind it, and how many units (a Search, its tables) they are -/
def SK (G : Gy) (v : Value) (T : va_W) (u : Nat) : Prop := (v = .null ∧ T = [] ∧ u = 0) ∨ ∃ (sr rt ru : Nat) (ol : Int32) (ft : Nat → Option Nat) (gu : Nat → Int32) (T2 : va_W), v = .ref sr ∧ PL G ft T2 ∧ T = [(sr, .inr (2, [.ref rt, .ref ru, .int ol])), (rt, .inl (gT G, 8, .inr (.inr (.inr (.inr ft))))), (ru, .inl (gI G, 15625, .inl gu))] ++ T2 ∧ u = 1 + cntS ft 8

set_option maxHeartbeats 1000000 in
set_option maxRecDepth 100000 in
theorem d_takeOldest (l : Launch) (G : Gy) (H0 : Heap) (sr : Nat) (rt : Nat) (ru : Nat) (ol : Int32) (ft : Nat → Option Nat) (gu : Nat → Int32) (T : va_W) (hT : PL G ft T) : ChR l G yX4_takeOldest wsX4_takeOldest ({ frames := 2, cells := 3, slots := 31257, locals := 32 }) [.ref sr] ([(sr, .inr (2, [.ref rt, .ref ru, .int ol])), (rt, .inl (gT G, 8, .inr (.inr (.inr (.inr ft))))), (ru, .inl (gI G, 15625, .inl gu))] ++ T) H0 (fun (u : Int32 × (Nat → Option Nat) × Nat × Nat × Nat × Int32 × Int32 × Int32 × Int32 × Int32 × (Nat → Int32) × (Nat → Int32) × va_W × Nat) => match u with | (ol1, ft1, t1, ta1, tq1, qd1, se1, go1, ki1, nn1, fs1, fq1, T1, k1) => (TL G ft1 (t1, ta1, tq1, qd1, se1, go1, ki1, nn1, fs1, fq1) T1 ∧ tok (t1, ta1, tq1, qd1, se1, go1, ki1, nn1, fs1, fq1)) ∧ cntS ft1 8 = cntS ft 8 + k1 ∧ k1 ≤ 1) (fun (u : Int32 × (Nat → Option Nat) × Nat × Nat × Nat × Int32 × Int32 × Int32 × Int32 × Int32 × (Nat → Int32) × (Nat → Int32) × va_W × Nat) => match u with | (ol1, ft1, t1, ta1, tq1, qd1, se1, go1, ki1, nn1, fs1, fq1, T1, k1) => t1) (fun (u : Int32 × (Nat → Option Nat) × Nat × Nat × Nat × Int32 × Int32 × Int32 × Int32 × Int32 × (Nat → Int32) × (Nat → Int32) × va_W × Nat) => (match u with | (ol1, ft1, t1, ta1, tq1, qd1, se1, go1, ki1, nn1, fs1, fq1, T1, k1) => [(sr, .inr (2, [.ref rt, .ref ru, .int ol1])), (rt, .inl (gT G, 8, .inr (.inr (.inr (.inr ft1))))), (ru, .inl (gI G, 15625, .inl gu)), (t1, .inr (3, [.ref ta1, .ref tq1, .int qd1, .int se1, .int go1, .int ki1, .int nn1])), (ta1, .inl (gB G, 15625, .inl fs1)), (tq1, .inl (gI G, 15625, .inl fq1))]) ++ (match u with | (ol1, ft1, t1, ta1, tq1, qd1, se1, go1, ki1, nn1, fs1, fq1, T1, k1) => T1)) (fun (u : Int32 × (Nat → Option Nat) × Nat × Nat × Nat × Int32 × Int32 × Int32 × Int32 × Int32 × (Nat → Int32) × (Nat → Int32) × va_W × Nat) => match u with | (ol1, ft1, t1, ta1, tq1, qd1, se1, go1, ki1, nn1, fs1, fq1, T1, k1) => 3 * k1) (fun (u : Int32 × (Nat → Option Nat) × Nat × Nat × Nat × Int32 × Int32 × Int32 × Int32 × Int32 × (Nat → Int32) × (Nat → Int32) × va_W × Nat) => match u with | (ol1, ft1, t1, ta1, tq1, qd1, se1, go1, ki1, nn1, fs1, fq1, T1, k1) => 31257 * k1) 3 31257 := by
  refine Met.ofW (cc := cX4_takeOldest) (maxL := 3) (ret := (some (.object "LastMap$Table"))) (by decide) rfl ?_
  intro p e s m args below meth c s₁ B hml hv
  obtain ⟨rfl, hsz, hP, hD0, E0⟩ := hv
  have hx := B.exec
  have hb := B.bytes
  have hr := B.returns
  have hts := atoms_spec (ws := wsX4_takeOldest) B.pre
  have hown : s.vm.findClass RX4 = some m.cls := findClass_of_methodNamed B.named
  have hlocks := B.notSynchronized
  subst hsz
  have hD := hD0.self (sz := s.heap.size)
  generalize hAe : va_A ([(sr, .inr (2, [.ref rt, .ref ru, .int ol])), (rt, .inl (gT G, 8, .inr (.inr (.inr (.inr ft))))), (ru, .inl (gI G, 15625, .inl gu))] ++ T) s.heap.size = A at hD E0 ⊢
  have E : EV G A s s.heap := E0
  have hA : ∀ q : Nat, s.heap.size ≤ q → A q := fun q h => by rw [← hAe]; exact Or.inr h
  have hS : va_S A s.heap s.heap [] := va_S.rf
  have hl := lv_entry ([.ref sr]) (n := 3) (Nat.le_of_ble_eq_true rfl)
  rw [lg_entry_eq]
  generalize (lg_sl ([.ref sr]) ++ List.replicate (3 - (lg_sl ([.ref sr])).length) Slot.unset).toArray = ls at hl ⊢
  have hl : lv_has ls 3 [(0, .ref sr)] := hl
  have hP : va_P G.1 vwCl ([(sr, .inr (2, [.ref rt, .ref ru, .int ol])), (rt, .inl (gT G, 8, .inr (.inr (.inr (.inr ft))))), (ru, .inl (gI G, 15625, .inl gu))] ++ T) s.heap := hP
  refine lv_aload_n hx hb dX4_takeOldest_0 rfl (lv_at hl 0 rfl) ?_
  refine va_get (D := G.1) (ci := 2) (v := .int ol) (C := RX4) (T := TX4) (N := 3) hx hb hts (fun _ h => List.mem_cons_of_mem _ (List.mem_append_left _ (List.mem_append_right _ h))) hown E.K hP 0 rfl rfl 2 (by decide) (hts (.fieldLink RX4 35 "LastMap$Search" "oldest" "I") (by decide +kernel)) (fun _ h9 => h9) rfl dX4_takeOldest_1 ?_
  refine lv_if_lt (tgt := 26) hx hb dX4_takeOldest_4 (by decide) (fun c1 => ?_) (fun c1 => ?_)
  · refine lv_iconst (v := 0) hx hb dX4_takeOldest_26 (by decide) ?_
    refine lv_istore_n (lv' := [(1, .int 0), (0, .ref sr)]) hx hb dX4_takeOldest_27 rfl hl (by decide) rfl (fun ls hl => ?_)
    refine lv_aload_n hx hb dX4_takeOldest_28 rfl (lv_at hl 1 rfl) ?_
    refine lv_iload_n hx hb dX4_takeOldest_29 rfl (lv_at hl 0 rfl) ?_
    refine lv_iconst (v := 1) hx hb dX4_takeOldest_30 (by decide) ?_
    refine lv_iadd hx hb dX4_takeOldest_31 ?_
    refine lv_topi (fun x2 ex2 => ?_)
    obtain rfl : x2 = 1 := by rw [ex2]; decide
    refine va_put (D := G.1) (ci := 2) (v := .int 1) (ty := .int) (C := RX4) (T := TX4) (N := 3) hx hb hts (fun _ h => List.mem_cons_of_mem _ (List.mem_append_left _ (List.mem_append_right _ h))) tyX4 tyX4_ok nmX4 hown E.K hP hD hS 0 rfl rfl 2 (by decide) (hts (.fieldLink RX4 35 "LastMap$Search" "oldest" "I") (by decide +kernel)) (fun _ h9 => h9) rfl (by decide +kernel) rfl rfl (Nat.le_of_ble_eq_true rfl) dX4_takeOldest_32 (fun H locs hP hD hS => ?_)
    have hP : va_P G.1 vwCl ([(sr, .inr (2, [.ref rt, .ref ru, .int 1])), (rt, .inl (gT G, 8, .inr (.inr (.inr (.inr ft))))), (ru, .inl (gI G, 15625, .inl gu))] ++ T) H := hP
    have hD : va_D A ([(sr, .inr (2, [.ref rt, .ref ru, .int 1])), (rt, .inl (gT G, 8, .inr (.inr (.inr (.inr ft))))), (ru, .inl (gI G, 15625, .inl gu))] ++ T) := hD
    refine lv_aload_n hx hb dX4_takeOldest_35 rfl (lv_at hl 1 rfl) ?_
    refine va_get (D := G.1) (ci := 2) (v := .ref rt) (C := RX4) (T := TX4) (N := 3) hx hb hts (fun _ h => List.mem_cons_of_mem _ (List.mem_append_left _ (List.mem_append_right _ h))) hown E.K hP 0 rfl rfl 0 (by decide) (hts (.fieldLink RX4 13 "LastMap$Search" "tables" "[LLastMap$Table;") (by decide +kernel)) (fun _ h9 => h9) rfl dX4_takeOldest_36 ?_
    refine lv_iload_n hx hb dX4_takeOldest_39 rfl (lv_at hl 0 rfl) ?_
    refine va_aldq hx hb E.K hP 1 4 rfl rfl (i := 0) (by unfold vp_in; decide) dX4_takeOldest_40 ?_
    obtain ⟨o_, ho⟩ : ∃ o_, o_ = ft (0 : Int32).toNatClampNeg := ⟨_, rfl⟩
    rw [← ho]
    rcases o_ with _ | t0
    · refine lv_astore_nN (lv' := [(2, .null), (1, .int 0), (0, .ref sr)]) hx hb dX4_takeOldest_41 rfl hl (by decide) rfl (fun ls hl => ?_)
      refine lv_aload_nN hx hb dX4_takeOldest_42 rfl (lv_at hl 0 rfl) ?_
      refine lv_ifnonnullN hx hb dX4_takeOldest_43 ?_
      refine va_new (ci := 3) (fs := [.null, .null, .int 0, .int 0, .int 0, .int 0, .int 0]) (C := RX7) (T := TX7) (N := 7) hx hb hts (fun _ h => List.mem_cons_of_mem _ (List.mem_append_right _ h)) tyX7 tyX7_ok hown (hts (.classLink RX4 11 RX7) (by decide +kernel)) (hts (.instantiable RX7 7) (by decide +kernel)) (hts (.initialized RX7) (by decide +kernel)) E.K hP hD hS hA rfl (by decide +kernel) (by decide +kernel) (by decide +kernel) dX4_takeOldest_46 (fun q3 H hP hD hS => ?_)
      have hP := P_perm (perm_snoc _ _ _) hP
      have hD := D_perm (perm_snoc _ _ _) hD
      have hP : va_P G.1 vwCl ([(sr, .inr (2, [.ref rt, .ref ru, .int 1])), (rt, .inl (gT G, 8, .inr (.inr (.inr (.inr ft))))), (ru, .inl (gI G, 15625, .inl gu)), (q3, .inr (3, [.null, .null, .int 0, .int 0, .int 0, .int 0, .int 0]))] ++ T) H := hP
      have hD : va_D A ([(sr, .inr (2, [.ref rt, .ref ru, .int 1])), (rt, .inl (gT G, 8, .inr (.inr (.inr (.inr ft))))), (ru, .inl (gI G, 15625, .inl gu)), (q3, .inr (3, [.null, .null, .int 0, .int 0, .int 0, .int 0, .int 0]))] ++ T) := hD
      refine lv_dup hx hb dX4_takeOldest_49 rfl ?_
      refine ca_vQ (wr := [(sr, .inr (2, [.ref rt, .ref ru, .int 1])), (rt, .inl (gT G, 8, .inr (.inr (.inr (.inr ft))))), (ru, .inl (gI G, 15625, .inl gu))]) (va_runIN (As := []) (rest := [.ref q3]) ⟨hx, hb, hml, hown, hts⟩ (c_Table l G H.size q3) ⟨va_cnB 0 hts gX4_takeOldest_X7_init_n39 rfl rfl rfl E.n39 (hts (.initialized RX7) (by decide +kernel)) (by decide +kernel) ⟨by decide +kernel, by decide +kernel⟩, rfl, hts (.instanceMethod yX7_init) (by decide +kernel)⟩ (pre_S E hP hD hS hA [3] (by decide) rfl) rfl rfl hl.1 rfl (lv_room (Nat.le_of_ble_eq_true rfl)) dX4_takeOldest_50 ⟨show 1 + 2 ≤ 3 by omega, show 7 + 31250 ≤ 31257 by omega⟩) hS hP hD hA [3] [0, 1, 2] rfl rfl (by decide) (by decide) (fun u6 H locs w4 hP hD hS => ?_)
      obtain ⟨ta1_7, tq1_8⟩ := u6
      try dsimp only at w4 hP hD
      have hP := (P_subT (X' := [(sr, .inr (2, [.ref rt, .ref ru, .int 1])), (rt, .inl (gT G, 8, .inr (.inr (.inr (.inr ft))))), (ru, .inl (gI G, 15625, .inl gu)), (q3, .inr (3, [.ref ta1_7, .ref tq1_8, .int 0, .int 0, .int 0, .int 0, .int 0])), (ta1_7, .inl (gB G, 15625, .inl (fun _ => 0))), (tq1_8, .inl (gI G, 15625, .inl (fun _ => 0)))]) hP [0, 1, 2, 3, 4, 5] rfl)
      have hD := (D_subT (X' := [(sr, .inr (2, [.ref rt, .ref ru, .int 1])), (rt, .inl (gT G, 8, .inr (.inr (.inr (.inr ft))))), (ru, .inl (gI G, 15625, .inl gu)), (q3, .inr (3, [.ref ta1_7, .ref tq1_8, .int 0, .int 0, .int 0, .int 0, .int 0])), (ta1_7, .inl (gB G, 15625, .inl (fun _ => 0))), (tq1_8, .inl (gI G, 15625, .inl (fun _ => 0)))]) hD [0, 1, 2, 3, 4, 5] (by decide) rfl)
      refine lv_astore_n (lv' := [(2, .ref q3), (1, .int 0), (0, .ref sr)]) hx hb dX4_takeOldest_53 rfl hl (by decide) rfl (fun ls hl => ?_)
      refine lv_aload_n hx hb dX4_takeOldest_54 rfl (lv_at hl 2 rfl) ?_
      refine va_get (D := G.1) (ci := 2) (v := .ref rt) (C := RX4) (T := TX4) (N := 3) hx hb hts (fun _ h => List.mem_cons_of_mem _ (List.mem_append_left _ (List.mem_append_right _ h))) hown E.K hP 0 rfl rfl 0 (by decide) (hts (.fieldLink RX4 13 "LastMap$Search" "tables" "[LLastMap$Table;") (by decide +kernel)) (fun _ h9 => h9) rfl dX4_takeOldest_55 ?_
      refine lv_iload_n hx hb dX4_takeOldest_58 rfl (lv_at hl 1 rfl) ?_
      refine lv_aload_n hx hb dX4_takeOldest_59 rfl (lv_at hl 0 rfl) ?_
      refine va_astq hx hb E.K hP hD hS 1 4 3 3 rfl rfl rfl rfl (i := 0) (by unfold vp_in; decide) dX4_takeOldest_60 (fun H locs hP hD hS => ?_)
      have hP : va_P G.1 vwCl ([(sr, .inr (2, [.ref rt, .ref ru, .int 1])), (rt, .inl (gT G, 8, .inr (.inr (.inr (.inr (va_up ft (0 : Int32).toNatClampNeg (some q3))))))), (ru, .inl (gI G, 15625, .inl gu)), (q3, .inr (3, [.ref ta1_7, .ref tq1_8, .int 0, .int 0, .int 0, .int 0, .int 0])), (ta1_7, .inl (gB G, 15625, .inl (fun _ => 0))), (tq1_8, .inl (gI G, 15625, .inl (fun _ => 0)))] ++ T) H := hP
      have hD : va_D A ([(sr, .inr (2, [.ref rt, .ref ru, .int 1])), (rt, .inl (gT G, 8, .inr (.inr (.inr (.inr (va_up ft (0 : Int32).toNatClampNeg (some q3))))))), (ru, .inl (gI G, 15625, .inl gu)), (q3, .inr (3, [.ref ta1_7, .ref tq1_8, .int 0, .int 0, .int 0, .int 0, .int 0])), (ta1_7, .inl (gB G, 15625, .inl (fun _ => 0))), (tq1_8, .inl (gI G, 15625, .inl (fun _ => 0)))] ++ T) := hD
      refine lv_aload_n hx hb dX4_takeOldest_61 rfl (lv_at hl 0 rfl) ?_
      refine W_facts (fun hg => ?_)
      have hg : GF s.heap H (3) (31257) := hg
      refine W.widen (k := 3) (n := 31257) (show 3 ≤ 3 by omega) (show 31257 ≤ 31257 by omega) ?_
      have hP9 := (P_subT (X' := [(sr, .inr (2, [.ref rt, .ref ru, .int 1])), (rt, .inl (gT G, 8, .inr (.inr (.inr (.inr (va_up ft (0 : Int32).toNatClampNeg (some q3))))))), (ru, .inl (gI G, 15625, .inl gu)), (q3, .inr (3, [.ref ta1_7, .ref tq1_8, .int 0, .int 0, .int 0, .int 0, .int 0])), (ta1_7, .inl (gB G, 15625, .inl (fun _ => 0))), (tq1_8, .inl (gI G, 15625, .inl (fun _ => 0)))]) hP [0, 1, 2, 3, 4, 5] rfl)
      have hD9 := (D_subT (X' := [(sr, .inr (2, [.ref rt, .ref ru, .int 1])), (rt, .inl (gT G, 8, .inr (.inr (.inr (.inr (va_up ft (0 : Int32).toNatClampNeg (some q3))))))), (ru, .inl (gI G, 15625, .inl gu)), (q3, .inr (3, [.ref ta1_7, .ref tq1_8, .int 0, .int 0, .int 0, .int 0, .int 0])), (ta1_7, .inl (gB G, 15625, .inl (fun _ => 0))), (tq1_8, .inl (gI G, 15625, .inl (fun _ => 0)))]) hD [0, 1, 2, 3, 4, 5] (by decide) rfl)
      exact W.aret (v := .ref q3) hx hb hr (Or.inl ⟨_, rfl⟩) (Or.inr ⟨_, rfl⟩) (fun t_ ht hW => ⟨⟨(1, va_up ft (0 : Int32).toNatClampNeg (some q3), q3, ta1_7, tq1_8, 0, 0, 0, 0, 0, fun _ => 0, fun _ => 0, T, 1), q3, rfl, ⟨⟨pl_add (d := (q3, ta1_7, tq1_8, 0, 0, 0, 0, 0, fun _ => 0, fun _ => 0)) hT (show (0 : Int32).toNatClampNeg < 8 by decide) ho.symm, ⟨in00, in00⟩⟩, cntS_add ho.symm 8 (show (0 : Int32).toNatClampNeg < 8 by decide), Nat.le_refl _⟩, rfl, by rw [ht]; exact hP9, hD9, by rw [ht]; exact (show GF s.heap H (3 * 1) (31257 * 1) from hg.wide (by omega) (by omega))⟩, hS.F ht⟩) hS.2.2 dX4_takeOldest_62
    · obtain ⟨d_, T_9, hd1, hd2, hTL, hP, hD⟩ := pl_take (X := [(sr, .inr (2, [.ref rt, .ref ru, .int 1])), (rt, .inl (gT G, 8, .inr (.inr (.inr (.inr ft))))), (ru, .inl (gI G, 15625, .inl gu))]) hT (show (0 : Int32).toNatClampNeg < 8 by decide) ho.symm hP hD
      obtain ⟨t_9, ta_9, tq_9, qd_9, se_9, go_9, ki_9, nn_9, fs_9, fq_9⟩ := d_
      dsimp only at hd1
      subst hd1
      have hP : va_P G.1 vwCl ([(sr, .inr (2, [.ref rt, .ref ru, .int 1])), (rt, .inl (gT G, 8, .inr (.inr (.inr (.inr ft))))), (ru, .inl (gI G, 15625, .inl gu)), (t_9, .inr (3, [.ref ta_9, .ref tq_9, .int qd_9, .int se_9, .int go_9, .int ki_9, .int nn_9])), (ta_9, .inl (gB G, 15625, .inl fs_9)), (tq_9, .inl (gI G, 15625, .inl fq_9))] ++ T_9) H := hP
      have hD : va_D A ([(sr, .inr (2, [.ref rt, .ref ru, .int 1])), (rt, .inl (gT G, 8, .inr (.inr (.inr (.inr ft))))), (ru, .inl (gI G, 15625, .inl gu)), (t_9, .inr (3, [.ref ta_9, .ref tq_9, .int qd_9, .int se_9, .int go_9, .int ki_9, .int nn_9])), (ta_9, .inl (gB G, 15625, .inl fs_9)), (tq_9, .inl (gI G, 15625, .inl fq_9))] ++ T_9) := hD
      refine lv_astore_n (lv' := [(2, .ref t_9), (1, .int 0), (0, .ref sr)]) hx hb dX4_takeOldest_41 rfl hl (by decide) rfl (fun ls hl => ?_)
      refine lv_aload_n hx hb dX4_takeOldest_42 rfl (lv_at hl 0 rfl) ?_
      refine lv_ifnonnull (tgt := 61) hx hb dX4_takeOldest_43 (by decide) ?_
      refine lv_aload_n hx hb dX4_takeOldest_61 rfl (lv_at hl 0 rfl) ?_
      refine W_facts (fun hg => ?_)
      have hg : GF s.heap H (0) (0) := hg
      refine W.widen (k := 3) (n := 31257) (show 0 ≤ 3 by omega) (show 0 ≤ 31257 by omega) ?_
      have hP9 := (P_subT (X' := [(sr, .inr (2, [.ref rt, .ref ru, .int 1])), (rt, .inl (gT G, 8, .inr (.inr (.inr (.inr ft))))), (ru, .inl (gI G, 15625, .inl gu)), (t_9, .inr (3, [.ref ta_9, .ref tq_9, .int qd_9, .int se_9, .int go_9, .int ki_9, .int nn_9])), (ta_9, .inl (gB G, 15625, .inl fs_9)), (tq_9, .inl (gI G, 15625, .inl fq_9))]) hP [0, 1, 2, 3, 4, 5] rfl)
      have hD9 := (D_subT (X' := [(sr, .inr (2, [.ref rt, .ref ru, .int 1])), (rt, .inl (gT G, 8, .inr (.inr (.inr (.inr ft))))), (ru, .inl (gI G, 15625, .inl gu)), (t_9, .inr (3, [.ref ta_9, .ref tq_9, .int qd_9, .int se_9, .int go_9, .int ki_9, .int nn_9])), (ta_9, .inl (gB G, 15625, .inl fs_9)), (tq_9, .inl (gI G, 15625, .inl fq_9))]) hD [0, 1, 2, 3, 4, 5] (by decide) rfl)
      exact W.aret (v := .ref t_9) hx hb hr (Or.inl ⟨_, rfl⟩) (Or.inr ⟨_, rfl⟩) (fun t_ ht hW => ⟨⟨(1, ft, t_9, ta_9, tq_9, qd_9, se_9, go_9, ki_9, nn_9, fs_9, fq_9, T_9, 0), t_9, rfl, ⟨⟨hTL, hd2⟩, rfl, Nat.zero_le _⟩, rfl, by rw [ht]; exact hP9, hD9, by rw [ht]; exact (show GF s.heap H (3 * 0) (31257 * 0) from hg.wide (by omega) (by omega))⟩, hS.F ht⟩) hS.2.2 dX4_takeOldest_62
  · refine lv_aload_n hx hb dX4_takeOldest_7 rfl (lv_at hl 0 rfl) ?_
    refine va_get (D := G.1) (ci := 2) (v := .int ol) (C := RX4) (T := TX4) (N := 3) hx hb hts (fun _ h => List.mem_cons_of_mem _ (List.mem_append_left _ (List.mem_append_right _ h))) hown E.K hP 0 rfl rfl 2 (by decide) (hts (.fieldLink RX4 35 "LastMap$Search" "oldest" "I") (by decide +kernel)) (fun _ h9 => h9) rfl dX4_takeOldest_8 ?_
    refine lv_aload_n hx hb dX4_takeOldest_11 rfl (lv_at hl 0 rfl) ?_
    refine va_get (D := G.1) (ci := 2) (v := .ref rt) (C := RX4) (T := TX4) (N := 3) hx hb hts (fun _ h => List.mem_cons_of_mem _ (List.mem_append_left _ (List.mem_append_right _ h))) hown E.K hP 0 rfl rfl 0 (by decide) (hts (.fieldLink RX4 13 "LastMap$Search" "tables" "[LLastMap$Table;") (by decide +kernel)) (fun _ h9 => h9) rfl dX4_takeOldest_12 ?_
    refine va_alen (v := 8) hx hb E.K hP 1 4 rfl rfl rfl dX4_takeOldest_15 ?_
    refine lv_icmp_ge (tgt := 26) hx hb dX4_takeOldest_16 (by decide) (fun c10 => ?_) (fun c10 => ?_)
    · refine lv_iconst (v := 0) hx hb dX4_takeOldest_26 (by decide) ?_
      refine lv_istore_n (lv' := [(1, .int 0), (0, .ref sr)]) hx hb dX4_takeOldest_27 rfl hl (by decide) rfl (fun ls hl => ?_)
      refine lv_aload_n hx hb dX4_takeOldest_28 rfl (lv_at hl 1 rfl) ?_
      refine lv_iload_n hx hb dX4_takeOldest_29 rfl (lv_at hl 0 rfl) ?_
      refine lv_iconst (v := 1) hx hb dX4_takeOldest_30 (by decide) ?_
      refine lv_iadd hx hb dX4_takeOldest_31 ?_
      refine lv_topi (fun x11 ex11 => ?_)
      obtain rfl : x11 = 1 := by rw [ex11]; decide
      refine va_put (D := G.1) (ci := 2) (v := .int 1) (ty := .int) (C := RX4) (T := TX4) (N := 3) hx hb hts (fun _ h => List.mem_cons_of_mem _ (List.mem_append_left _ (List.mem_append_right _ h))) tyX4 tyX4_ok nmX4 hown E.K hP hD hS 0 rfl rfl 2 (by decide) (hts (.fieldLink RX4 35 "LastMap$Search" "oldest" "I") (by decide +kernel)) (fun _ h9 => h9) rfl (by decide +kernel) rfl rfl (Nat.le_of_ble_eq_true rfl) dX4_takeOldest_32 (fun H locs hP hD hS => ?_)
      have hP : va_P G.1 vwCl ([(sr, .inr (2, [.ref rt, .ref ru, .int 1])), (rt, .inl (gT G, 8, .inr (.inr (.inr (.inr ft))))), (ru, .inl (gI G, 15625, .inl gu))] ++ T) H := hP
      have hD : va_D A ([(sr, .inr (2, [.ref rt, .ref ru, .int 1])), (rt, .inl (gT G, 8, .inr (.inr (.inr (.inr ft))))), (ru, .inl (gI G, 15625, .inl gu))] ++ T) := hD
      refine lv_aload_n hx hb dX4_takeOldest_35 rfl (lv_at hl 1 rfl) ?_
      refine va_get (D := G.1) (ci := 2) (v := .ref rt) (C := RX4) (T := TX4) (N := 3) hx hb hts (fun _ h => List.mem_cons_of_mem _ (List.mem_append_left _ (List.mem_append_right _ h))) hown E.K hP 0 rfl rfl 0 (by decide) (hts (.fieldLink RX4 13 "LastMap$Search" "tables" "[LLastMap$Table;") (by decide +kernel)) (fun _ h9 => h9) rfl dX4_takeOldest_36 ?_
      refine lv_iload_n hx hb dX4_takeOldest_39 rfl (lv_at hl 0 rfl) ?_
      refine va_aldq hx hb E.K hP 1 4 rfl rfl (i := 0) (by unfold vp_in; decide) dX4_takeOldest_40 ?_
      obtain ⟨o_, ho⟩ : ∃ o_, o_ = ft (0 : Int32).toNatClampNeg := ⟨_, rfl⟩
      rw [← ho]
      rcases o_ with _ | t0
      · refine lv_astore_nN (lv' := [(2, .null), (1, .int 0), (0, .ref sr)]) hx hb dX4_takeOldest_41 rfl hl (by decide) rfl (fun ls hl => ?_)
        refine lv_aload_nN hx hb dX4_takeOldest_42 rfl (lv_at hl 0 rfl) ?_
        refine lv_ifnonnullN hx hb dX4_takeOldest_43 ?_
        refine va_new (ci := 3) (fs := [.null, .null, .int 0, .int 0, .int 0, .int 0, .int 0]) (C := RX7) (T := TX7) (N := 7) hx hb hts (fun _ h => List.mem_cons_of_mem _ (List.mem_append_right _ h)) tyX7 tyX7_ok hown (hts (.classLink RX4 11 RX7) (by decide +kernel)) (hts (.instantiable RX7 7) (by decide +kernel)) (hts (.initialized RX7) (by decide +kernel)) E.K hP hD hS hA rfl (by decide +kernel) (by decide +kernel) (by decide +kernel) dX4_takeOldest_46 (fun q12 H hP hD hS => ?_)
        have hP := P_perm (perm_snoc _ _ _) hP
        have hD := D_perm (perm_snoc _ _ _) hD
        have hP : va_P G.1 vwCl ([(sr, .inr (2, [.ref rt, .ref ru, .int 1])), (rt, .inl (gT G, 8, .inr (.inr (.inr (.inr ft))))), (ru, .inl (gI G, 15625, .inl gu)), (q12, .inr (3, [.null, .null, .int 0, .int 0, .int 0, .int 0, .int 0]))] ++ T) H := hP
        have hD : va_D A ([(sr, .inr (2, [.ref rt, .ref ru, .int 1])), (rt, .inl (gT G, 8, .inr (.inr (.inr (.inr ft))))), (ru, .inl (gI G, 15625, .inl gu)), (q12, .inr (3, [.null, .null, .int 0, .int 0, .int 0, .int 0, .int 0]))] ++ T) := hD
        refine lv_dup hx hb dX4_takeOldest_49 rfl ?_
        refine ca_vQ (wr := [(sr, .inr (2, [.ref rt, .ref ru, .int 1])), (rt, .inl (gT G, 8, .inr (.inr (.inr (.inr ft))))), (ru, .inl (gI G, 15625, .inl gu))]) (va_runIN (As := []) (rest := [.ref q12]) ⟨hx, hb, hml, hown, hts⟩ (c_Table l G H.size q12) ⟨va_cnB 0 hts gX4_takeOldest_X7_init_n39 rfl rfl rfl E.n39 (hts (.initialized RX7) (by decide +kernel)) (by decide +kernel) ⟨by decide +kernel, by decide +kernel⟩, rfl, hts (.instanceMethod yX7_init) (by decide +kernel)⟩ (pre_S E hP hD hS hA [3] (by decide) rfl) rfl rfl hl.1 rfl (lv_room (Nat.le_of_ble_eq_true rfl)) dX4_takeOldest_50 ⟨show 1 + 2 ≤ 3 by omega, show 7 + 31250 ≤ 31257 by omega⟩) hS hP hD hA [3] [0, 1, 2] rfl rfl (by decide) (by decide) (fun u15 H locs w13 hP hD hS => ?_)
        obtain ⟨ta1_16, tq1_17⟩ := u15
        try dsimp only at w13 hP hD
        have hP := (P_subT (X' := [(sr, .inr (2, [.ref rt, .ref ru, .int 1])), (rt, .inl (gT G, 8, .inr (.inr (.inr (.inr ft))))), (ru, .inl (gI G, 15625, .inl gu)), (q12, .inr (3, [.ref ta1_16, .ref tq1_17, .int 0, .int 0, .int 0, .int 0, .int 0])), (ta1_16, .inl (gB G, 15625, .inl (fun _ => 0))), (tq1_17, .inl (gI G, 15625, .inl (fun _ => 0)))]) hP [0, 1, 2, 3, 4, 5] rfl)
        have hD := (D_subT (X' := [(sr, .inr (2, [.ref rt, .ref ru, .int 1])), (rt, .inl (gT G, 8, .inr (.inr (.inr (.inr ft))))), (ru, .inl (gI G, 15625, .inl gu)), (q12, .inr (3, [.ref ta1_16, .ref tq1_17, .int 0, .int 0, .int 0, .int 0, .int 0])), (ta1_16, .inl (gB G, 15625, .inl (fun _ => 0))), (tq1_17, .inl (gI G, 15625, .inl (fun _ => 0)))]) hD [0, 1, 2, 3, 4, 5] (by decide) rfl)
        refine lv_astore_n (lv' := [(2, .ref q12), (1, .int 0), (0, .ref sr)]) hx hb dX4_takeOldest_53 rfl hl (by decide) rfl (fun ls hl => ?_)
        refine lv_aload_n hx hb dX4_takeOldest_54 rfl (lv_at hl 2 rfl) ?_
        refine va_get (D := G.1) (ci := 2) (v := .ref rt) (C := RX4) (T := TX4) (N := 3) hx hb hts (fun _ h => List.mem_cons_of_mem _ (List.mem_append_left _ (List.mem_append_right _ h))) hown E.K hP 0 rfl rfl 0 (by decide) (hts (.fieldLink RX4 13 "LastMap$Search" "tables" "[LLastMap$Table;") (by decide +kernel)) (fun _ h9 => h9) rfl dX4_takeOldest_55 ?_
        refine lv_iload_n hx hb dX4_takeOldest_58 rfl (lv_at hl 1 rfl) ?_
        refine lv_aload_n hx hb dX4_takeOldest_59 rfl (lv_at hl 0 rfl) ?_
        refine va_astq hx hb E.K hP hD hS 1 4 3 3 rfl rfl rfl rfl (i := 0) (by unfold vp_in; decide) dX4_takeOldest_60 (fun H locs hP hD hS => ?_)
        have hP : va_P G.1 vwCl ([(sr, .inr (2, [.ref rt, .ref ru, .int 1])), (rt, .inl (gT G, 8, .inr (.inr (.inr (.inr (va_up ft (0 : Int32).toNatClampNeg (some q12))))))), (ru, .inl (gI G, 15625, .inl gu)), (q12, .inr (3, [.ref ta1_16, .ref tq1_17, .int 0, .int 0, .int 0, .int 0, .int 0])), (ta1_16, .inl (gB G, 15625, .inl (fun _ => 0))), (tq1_17, .inl (gI G, 15625, .inl (fun _ => 0)))] ++ T) H := hP
        have hD : va_D A ([(sr, .inr (2, [.ref rt, .ref ru, .int 1])), (rt, .inl (gT G, 8, .inr (.inr (.inr (.inr (va_up ft (0 : Int32).toNatClampNeg (some q12))))))), (ru, .inl (gI G, 15625, .inl gu)), (q12, .inr (3, [.ref ta1_16, .ref tq1_17, .int 0, .int 0, .int 0, .int 0, .int 0])), (ta1_16, .inl (gB G, 15625, .inl (fun _ => 0))), (tq1_17, .inl (gI G, 15625, .inl (fun _ => 0)))] ++ T) := hD
        refine lv_aload_n hx hb dX4_takeOldest_61 rfl (lv_at hl 0 rfl) ?_
        refine W_facts (fun hg => ?_)
        have hg : GF s.heap H (3) (31257) := hg
        refine W.widen (k := 3) (n := 31257) (show 3 ≤ 3 by omega) (show 31257 ≤ 31257 by omega) ?_
        have hP9 := (P_subT (X' := [(sr, .inr (2, [.ref rt, .ref ru, .int 1])), (rt, .inl (gT G, 8, .inr (.inr (.inr (.inr (va_up ft (0 : Int32).toNatClampNeg (some q12))))))), (ru, .inl (gI G, 15625, .inl gu)), (q12, .inr (3, [.ref ta1_16, .ref tq1_17, .int 0, .int 0, .int 0, .int 0, .int 0])), (ta1_16, .inl (gB G, 15625, .inl (fun _ => 0))), (tq1_17, .inl (gI G, 15625, .inl (fun _ => 0)))]) hP [0, 1, 2, 3, 4, 5] rfl)
        have hD9 := (D_subT (X' := [(sr, .inr (2, [.ref rt, .ref ru, .int 1])), (rt, .inl (gT G, 8, .inr (.inr (.inr (.inr (va_up ft (0 : Int32).toNatClampNeg (some q12))))))), (ru, .inl (gI G, 15625, .inl gu)), (q12, .inr (3, [.ref ta1_16, .ref tq1_17, .int 0, .int 0, .int 0, .int 0, .int 0])), (ta1_16, .inl (gB G, 15625, .inl (fun _ => 0))), (tq1_17, .inl (gI G, 15625, .inl (fun _ => 0)))]) hD [0, 1, 2, 3, 4, 5] (by decide) rfl)
        exact W.aret (v := .ref q12) hx hb hr (Or.inl ⟨_, rfl⟩) (Or.inr ⟨_, rfl⟩) (fun t_ ht hW => ⟨⟨(1, va_up ft (0 : Int32).toNatClampNeg (some q12), q12, ta1_16, tq1_17, 0, 0, 0, 0, 0, fun _ => 0, fun _ => 0, T, 1), q12, rfl, ⟨⟨pl_add (d := (q12, ta1_16, tq1_17, 0, 0, 0, 0, 0, fun _ => 0, fun _ => 0)) hT (show (0 : Int32).toNatClampNeg < 8 by decide) ho.symm, ⟨in00, in00⟩⟩, cntS_add ho.symm 8 (show (0 : Int32).toNatClampNeg < 8 by decide), Nat.le_refl _⟩, rfl, by rw [ht]; exact hP9, hD9, by rw [ht]; exact (show GF s.heap H (3 * 1) (31257 * 1) from hg.wide (by omega) (by omega))⟩, hS.F ht⟩) hS.2.2 dX4_takeOldest_62
      · obtain ⟨d_, T_18, hd1, hd2, hTL, hP, hD⟩ := pl_take (X := [(sr, .inr (2, [.ref rt, .ref ru, .int 1])), (rt, .inl (gT G, 8, .inr (.inr (.inr (.inr ft))))), (ru, .inl (gI G, 15625, .inl gu))]) hT (show (0 : Int32).toNatClampNeg < 8 by decide) ho.symm hP hD
        obtain ⟨t_18, ta_18, tq_18, qd_18, se_18, go_18, ki_18, nn_18, fs_18, fq_18⟩ := d_
        dsimp only at hd1
        subst hd1
        have hP : va_P G.1 vwCl ([(sr, .inr (2, [.ref rt, .ref ru, .int 1])), (rt, .inl (gT G, 8, .inr (.inr (.inr (.inr ft))))), (ru, .inl (gI G, 15625, .inl gu)), (t_18, .inr (3, [.ref ta_18, .ref tq_18, .int qd_18, .int se_18, .int go_18, .int ki_18, .int nn_18])), (ta_18, .inl (gB G, 15625, .inl fs_18)), (tq_18, .inl (gI G, 15625, .inl fq_18))] ++ T_18) H := hP
        have hD : va_D A ([(sr, .inr (2, [.ref rt, .ref ru, .int 1])), (rt, .inl (gT G, 8, .inr (.inr (.inr (.inr ft))))), (ru, .inl (gI G, 15625, .inl gu)), (t_18, .inr (3, [.ref ta_18, .ref tq_18, .int qd_18, .int se_18, .int go_18, .int ki_18, .int nn_18])), (ta_18, .inl (gB G, 15625, .inl fs_18)), (tq_18, .inl (gI G, 15625, .inl fq_18))] ++ T_18) := hD
        refine lv_astore_n (lv' := [(2, .ref t_18), (1, .int 0), (0, .ref sr)]) hx hb dX4_takeOldest_41 rfl hl (by decide) rfl (fun ls hl => ?_)
        refine lv_aload_n hx hb dX4_takeOldest_42 rfl (lv_at hl 0 rfl) ?_
        refine lv_ifnonnull (tgt := 61) hx hb dX4_takeOldest_43 (by decide) ?_
        refine lv_aload_n hx hb dX4_takeOldest_61 rfl (lv_at hl 0 rfl) ?_
        refine W_facts (fun hg => ?_)
        have hg : GF s.heap H (0) (0) := hg
        refine W.widen (k := 3) (n := 31257) (show 0 ≤ 3 by omega) (show 0 ≤ 31257 by omega) ?_
        have hP9 := (P_subT (X' := [(sr, .inr (2, [.ref rt, .ref ru, .int 1])), (rt, .inl (gT G, 8, .inr (.inr (.inr (.inr ft))))), (ru, .inl (gI G, 15625, .inl gu)), (t_18, .inr (3, [.ref ta_18, .ref tq_18, .int qd_18, .int se_18, .int go_18, .int ki_18, .int nn_18])), (ta_18, .inl (gB G, 15625, .inl fs_18)), (tq_18, .inl (gI G, 15625, .inl fq_18))]) hP [0, 1, 2, 3, 4, 5] rfl)
        have hD9 := (D_subT (X' := [(sr, .inr (2, [.ref rt, .ref ru, .int 1])), (rt, .inl (gT G, 8, .inr (.inr (.inr (.inr ft))))), (ru, .inl (gI G, 15625, .inl gu)), (t_18, .inr (3, [.ref ta_18, .ref tq_18, .int qd_18, .int se_18, .int go_18, .int ki_18, .int nn_18])), (ta_18, .inl (gB G, 15625, .inl fs_18)), (tq_18, .inl (gI G, 15625, .inl fq_18))]) hD [0, 1, 2, 3, 4, 5] (by decide) rfl)
        exact W.aret (v := .ref t_18) hx hb hr (Or.inl ⟨_, rfl⟩) (Or.inr ⟨_, rfl⟩) (fun t_ ht hW => ⟨⟨(1, ft, t_18, ta_18, tq_18, qd_18, se_18, go_18, ki_18, nn_18, fs_18, fq_18, T_18, 0), t_18, rfl, ⟨⟨hTL, hd2⟩, rfl, Nat.zero_le _⟩, rfl, by rw [ht]; exact hP9, hD9, by rw [ht]; exact (show GF s.heap H (3 * 0) (31257 * 0) from hg.wide (by omega) (by omega))⟩, hS.F ht⟩) hS.2.2 dX4_takeOldest_62
    · refine lv_aload_n hx hb dX4_takeOldest_19 rfl (lv_at hl 0 rfl) ?_
      refine va_get (D := G.1) (ci := 2) (v := .int ol) (C := RX4) (T := TX4) (N := 3) hx hb hts (fun _ h => List.mem_cons_of_mem _ (List.mem_append_left _ (List.mem_append_right _ h))) hown E.K hP 0 rfl rfl 2 (by decide) (hts (.fieldLink RX4 35 "LastMap$Search" "oldest" "I") (by decide +kernel)) (fun _ h9 => h9) rfl dX4_takeOldest_20 ?_
      refine lv_goto (tgt := 27) hx hb dX4_takeOldest_23 (by decide) ?_
      refine lv_istore_n (lv' := [(1, .int ol), (0, .ref sr)]) hx hb dX4_takeOldest_27 rfl hl (by decide) rfl (fun ls hl => ?_)
      refine lv_aload_n hx hb dX4_takeOldest_28 rfl (lv_at hl 1 rfl) ?_
      refine lv_iload_n hx hb dX4_takeOldest_29 rfl (lv_at hl 0 rfl) ?_
      refine lv_iconst (v := 1) hx hb dX4_takeOldest_30 (by decide) ?_
      refine lv_iadd hx hb dX4_takeOldest_31 ?_
      refine lv_topi (fun x19 ex19 => ?_)
      refine va_put (D := G.1) (ci := 2) (v := .int x19) (ty := .int) (C := RX4) (T := TX4) (N := 3) hx hb hts (fun _ h => List.mem_cons_of_mem _ (List.mem_append_left _ (List.mem_append_right _ h))) tyX4 tyX4_ok nmX4 hown E.K hP hD hS 0 rfl rfl 2 (by decide) (hts (.fieldLink RX4 35 "LastMap$Search" "oldest" "I") (by decide +kernel)) (fun _ h9 => h9) rfl (by decide +kernel) rfl rfl (Nat.le_of_ble_eq_true rfl) dX4_takeOldest_32 (fun H locs hP hD hS => ?_)
      have hP : va_P G.1 vwCl ([(sr, .inr (2, [.ref rt, .ref ru, .int x19])), (rt, .inl (gT G, 8, .inr (.inr (.inr (.inr ft))))), (ru, .inl (gI G, 15625, .inl gu))] ++ T) H := hP
      have hD : va_D A ([(sr, .inr (2, [.ref rt, .ref ru, .int x19])), (rt, .inl (gT G, 8, .inr (.inr (.inr (.inr ft))))), (ru, .inl (gI G, 15625, .inl gu))] ++ T) := hD
      refine lv_aload_n hx hb dX4_takeOldest_35 rfl (lv_at hl 1 rfl) ?_
      refine va_get (D := G.1) (ci := 2) (v := .ref rt) (C := RX4) (T := TX4) (N := 3) hx hb hts (fun _ h => List.mem_cons_of_mem _ (List.mem_append_left _ (List.mem_append_right _ h))) hown E.K hP 0 rfl rfl 0 (by decide) (hts (.fieldLink RX4 13 "LastMap$Search" "tables" "[LLastMap$Table;") (by decide +kernel)) (fun _ h9 => h9) rfl dX4_takeOldest_36 ?_
      refine lv_iload_n hx hb dX4_takeOldest_39 rfl (lv_at hl 0 rfl) ?_
      refine va_aldq hx hb E.K hP 1 4 rfl rfl (i := ol) (vp_in_iff.mpr (by ((try simp only [inR, inS, i3_lt, i3_le, i3_eq, i6_lt, i6_le, Int32.toInt_toInt64, lg_cmp_lt, lg_cmp_gt, lg_cmp_ge, lg_cmp_le, Int32.reduceToInt, Int64.reduceToInt] at c1 c10 ⊢); omega))) dX4_takeOldest_40 ?_
      obtain ⟨o_, ho⟩ : ∃ o_, o_ = ft ol.toNatClampNeg := ⟨_, rfl⟩
      rw [← ho]
      rcases o_ with _ | t0
      · refine lv_astore_nN (lv' := [(2, .null), (1, .int ol), (0, .ref sr)]) hx hb dX4_takeOldest_41 rfl hl (by decide) rfl (fun ls hl => ?_)
        refine lv_aload_nN hx hb dX4_takeOldest_42 rfl (lv_at hl 0 rfl) ?_
        refine lv_ifnonnullN hx hb dX4_takeOldest_43 ?_
        refine va_new (ci := 3) (fs := [.null, .null, .int 0, .int 0, .int 0, .int 0, .int 0]) (C := RX7) (T := TX7) (N := 7) hx hb hts (fun _ h => List.mem_cons_of_mem _ (List.mem_append_right _ h)) tyX7 tyX7_ok hown (hts (.classLink RX4 11 RX7) (by decide +kernel)) (hts (.instantiable RX7 7) (by decide +kernel)) (hts (.initialized RX7) (by decide +kernel)) E.K hP hD hS hA rfl (by decide +kernel) (by decide +kernel) (by decide +kernel) dX4_takeOldest_46 (fun q20 H hP hD hS => ?_)
        have hP := P_perm (perm_snoc _ _ _) hP
        have hD := D_perm (perm_snoc _ _ _) hD
        have hP : va_P G.1 vwCl ([(sr, .inr (2, [.ref rt, .ref ru, .int x19])), (rt, .inl (gT G, 8, .inr (.inr (.inr (.inr ft))))), (ru, .inl (gI G, 15625, .inl gu)), (q20, .inr (3, [.null, .null, .int 0, .int 0, .int 0, .int 0, .int 0]))] ++ T) H := hP
        have hD : va_D A ([(sr, .inr (2, [.ref rt, .ref ru, .int x19])), (rt, .inl (gT G, 8, .inr (.inr (.inr (.inr ft))))), (ru, .inl (gI G, 15625, .inl gu)), (q20, .inr (3, [.null, .null, .int 0, .int 0, .int 0, .int 0, .int 0]))] ++ T) := hD
        refine lv_dup hx hb dX4_takeOldest_49 rfl ?_
        refine ca_vQ (wr := [(sr, .inr (2, [.ref rt, .ref ru, .int x19])), (rt, .inl (gT G, 8, .inr (.inr (.inr (.inr ft))))), (ru, .inl (gI G, 15625, .inl gu))]) (va_runIN (As := []) (rest := [.ref q20]) ⟨hx, hb, hml, hown, hts⟩ (c_Table l G H.size q20) ⟨va_cnB 0 hts gX4_takeOldest_X7_init_n39 rfl rfl rfl E.n39 (hts (.initialized RX7) (by decide +kernel)) (by decide +kernel) ⟨by decide +kernel, by decide +kernel⟩, rfl, hts (.instanceMethod yX7_init) (by decide +kernel)⟩ (pre_S E hP hD hS hA [3] (by decide) rfl) rfl rfl hl.1 rfl (lv_room (Nat.le_of_ble_eq_true rfl)) dX4_takeOldest_50 ⟨show 1 + 2 ≤ 3 by omega, show 7 + 31250 ≤ 31257 by omega⟩) hS hP hD hA [3] [0, 1, 2] rfl rfl (by decide) (by decide) (fun u23 H locs w21 hP hD hS => ?_)
        obtain ⟨ta1_24, tq1_25⟩ := u23
        try dsimp only at w21 hP hD
        have hP := (P_subT (X' := [(sr, .inr (2, [.ref rt, .ref ru, .int x19])), (rt, .inl (gT G, 8, .inr (.inr (.inr (.inr ft))))), (ru, .inl (gI G, 15625, .inl gu)), (q20, .inr (3, [.ref ta1_24, .ref tq1_25, .int 0, .int 0, .int 0, .int 0, .int 0])), (ta1_24, .inl (gB G, 15625, .inl (fun _ => 0))), (tq1_25, .inl (gI G, 15625, .inl (fun _ => 0)))]) hP [0, 1, 2, 3, 4, 5] rfl)
        have hD := (D_subT (X' := [(sr, .inr (2, [.ref rt, .ref ru, .int x19])), (rt, .inl (gT G, 8, .inr (.inr (.inr (.inr ft))))), (ru, .inl (gI G, 15625, .inl gu)), (q20, .inr (3, [.ref ta1_24, .ref tq1_25, .int 0, .int 0, .int 0, .int 0, .int 0])), (ta1_24, .inl (gB G, 15625, .inl (fun _ => 0))), (tq1_25, .inl (gI G, 15625, .inl (fun _ => 0)))]) hD [0, 1, 2, 3, 4, 5] (by decide) rfl)
        refine lv_astore_n (lv' := [(2, .ref q20), (1, .int ol), (0, .ref sr)]) hx hb dX4_takeOldest_53 rfl hl (by decide) rfl (fun ls hl => ?_)
        refine lv_aload_n hx hb dX4_takeOldest_54 rfl (lv_at hl 2 rfl) ?_
        refine va_get (D := G.1) (ci := 2) (v := .ref rt) (C := RX4) (T := TX4) (N := 3) hx hb hts (fun _ h => List.mem_cons_of_mem _ (List.mem_append_left _ (List.mem_append_right _ h))) hown E.K hP 0 rfl rfl 0 (by decide) (hts (.fieldLink RX4 13 "LastMap$Search" "tables" "[LLastMap$Table;") (by decide +kernel)) (fun _ h9 => h9) rfl dX4_takeOldest_55 ?_
        refine lv_iload_n hx hb dX4_takeOldest_58 rfl (lv_at hl 1 rfl) ?_
        refine lv_aload_n hx hb dX4_takeOldest_59 rfl (lv_at hl 0 rfl) ?_
        refine va_astq hx hb E.K hP hD hS 1 4 3 3 rfl rfl rfl rfl (i := ol) (vp_in_iff.mpr (by ((try simp only [inR, inS, i3_lt, i3_le, i3_eq, i6_lt, i6_le, Int32.toInt_toInt64, lg_cmp_lt, lg_cmp_gt, lg_cmp_ge, lg_cmp_le, Int32.reduceToInt, Int64.reduceToInt] at c1 c10 ⊢); omega))) dX4_takeOldest_60 (fun H locs hP hD hS => ?_)
        have hP : va_P G.1 vwCl ([(sr, .inr (2, [.ref rt, .ref ru, .int x19])), (rt, .inl (gT G, 8, .inr (.inr (.inr (.inr (va_up ft ol.toNatClampNeg (some q20))))))), (ru, .inl (gI G, 15625, .inl gu)), (q20, .inr (3, [.ref ta1_24, .ref tq1_25, .int 0, .int 0, .int 0, .int 0, .int 0])), (ta1_24, .inl (gB G, 15625, .inl (fun _ => 0))), (tq1_25, .inl (gI G, 15625, .inl (fun _ => 0)))] ++ T) H := hP
        have hD : va_D A ([(sr, .inr (2, [.ref rt, .ref ru, .int x19])), (rt, .inl (gT G, 8, .inr (.inr (.inr (.inr (va_up ft ol.toNatClampNeg (some q20))))))), (ru, .inl (gI G, 15625, .inl gu)), (q20, .inr (3, [.ref ta1_24, .ref tq1_25, .int 0, .int 0, .int 0, .int 0, .int 0])), (ta1_24, .inl (gB G, 15625, .inl (fun _ => 0))), (tq1_25, .inl (gI G, 15625, .inl (fun _ => 0)))] ++ T) := hD
        refine lv_aload_n hx hb dX4_takeOldest_61 rfl (lv_at hl 0 rfl) ?_
        refine W_facts (fun hg => ?_)
        have hg : GF s.heap H (3) (31257) := hg
        refine W.widen (k := 3) (n := 31257) (show 3 ≤ 3 by omega) (show 31257 ≤ 31257 by omega) ?_
        have hP9 := (P_subT (X' := [(sr, .inr (2, [.ref rt, .ref ru, .int x19])), (rt, .inl (gT G, 8, .inr (.inr (.inr (.inr (va_up ft ol.toNatClampNeg (some q20))))))), (ru, .inl (gI G, 15625, .inl gu)), (q20, .inr (3, [.ref ta1_24, .ref tq1_25, .int 0, .int 0, .int 0, .int 0, .int 0])), (ta1_24, .inl (gB G, 15625, .inl (fun _ => 0))), (tq1_25, .inl (gI G, 15625, .inl (fun _ => 0)))]) hP [0, 1, 2, 3, 4, 5] rfl)
        have hD9 := (D_subT (X' := [(sr, .inr (2, [.ref rt, .ref ru, .int x19])), (rt, .inl (gT G, 8, .inr (.inr (.inr (.inr (va_up ft ol.toNatClampNeg (some q20))))))), (ru, .inl (gI G, 15625, .inl gu)), (q20, .inr (3, [.ref ta1_24, .ref tq1_25, .int 0, .int 0, .int 0, .int 0, .int 0])), (ta1_24, .inl (gB G, 15625, .inl (fun _ => 0))), (tq1_25, .inl (gI G, 15625, .inl (fun _ => 0)))]) hD [0, 1, 2, 3, 4, 5] (by decide) rfl)
        exact W.aret (v := .ref q20) hx hb hr (Or.inl ⟨_, rfl⟩) (Or.inr ⟨_, rfl⟩) (fun t_ ht hW => ⟨⟨(x19, va_up ft ol.toNatClampNeg (some q20), q20, ta1_24, tq1_25, 0, 0, 0, 0, 0, fun _ => 0, fun _ => 0, T, 1), q20, rfl, ⟨⟨pl_add (d := (q20, ta1_24, tq1_25, 0, 0, 0, 0, 0, fun _ => 0, fun _ => 0)) hT (clampR (hi := 7) (by ((try simp only [inR, inS, i3_lt, i3_le, i3_eq, i6_lt, i6_le, Int32.toInt_toInt64, lg_cmp_lt, lg_cmp_gt, lg_cmp_ge, lg_cmp_le, Int32.reduceToInt, Int64.reduceToInt] at c1 c10 ⊢); omega)) (by decide)) ho.symm, ⟨in00, in00⟩⟩, cntS_add ho.symm 8 (clampR (hi := 7) (by ((try simp only [inR, inS, i3_lt, i3_le, i3_eq, i6_lt, i6_le, Int32.toInt_toInt64, lg_cmp_lt, lg_cmp_gt, lg_cmp_ge, lg_cmp_le, Int32.reduceToInt, Int64.reduceToInt] at c1 c10 ⊢); omega)) (by decide)), Nat.le_refl _⟩, rfl, by rw [ht]; exact hP9, hD9, by rw [ht]; exact (show GF s.heap H (3 * 1) (31257 * 1) from hg.wide (by omega) (by omega))⟩, hS.F ht⟩) hS.2.2 dX4_takeOldest_62
      · obtain ⟨d_, T_26, hd1, hd2, hTL, hP, hD⟩ := pl_take (X := [(sr, .inr (2, [.ref rt, .ref ru, .int x19])), (rt, .inl (gT G, 8, .inr (.inr (.inr (.inr ft))))), (ru, .inl (gI G, 15625, .inl gu))]) hT (clampR (hi := 7) (by ((try simp only [inR, inS, i3_lt, i3_le, i3_eq, i6_lt, i6_le, Int32.toInt_toInt64, lg_cmp_lt, lg_cmp_gt, lg_cmp_ge, lg_cmp_le, Int32.reduceToInt, Int64.reduceToInt] at c1 c10 ⊢); omega)) (by decide)) ho.symm hP hD
        obtain ⟨t_26, ta_26, tq_26, qd_26, se_26, go_26, ki_26, nn_26, fs_26, fq_26⟩ := d_
        dsimp only at hd1
        subst hd1
        have hP : va_P G.1 vwCl ([(sr, .inr (2, [.ref rt, .ref ru, .int x19])), (rt, .inl (gT G, 8, .inr (.inr (.inr (.inr ft))))), (ru, .inl (gI G, 15625, .inl gu)), (t_26, .inr (3, [.ref ta_26, .ref tq_26, .int qd_26, .int se_26, .int go_26, .int ki_26, .int nn_26])), (ta_26, .inl (gB G, 15625, .inl fs_26)), (tq_26, .inl (gI G, 15625, .inl fq_26))] ++ T_26) H := hP
        have hD : va_D A ([(sr, .inr (2, [.ref rt, .ref ru, .int x19])), (rt, .inl (gT G, 8, .inr (.inr (.inr (.inr ft))))), (ru, .inl (gI G, 15625, .inl gu)), (t_26, .inr (3, [.ref ta_26, .ref tq_26, .int qd_26, .int se_26, .int go_26, .int ki_26, .int nn_26])), (ta_26, .inl (gB G, 15625, .inl fs_26)), (tq_26, .inl (gI G, 15625, .inl fq_26))] ++ T_26) := hD
        refine lv_astore_n (lv' := [(2, .ref t_26), (1, .int ol), (0, .ref sr)]) hx hb dX4_takeOldest_41 rfl hl (by decide) rfl (fun ls hl => ?_)
        refine lv_aload_n hx hb dX4_takeOldest_42 rfl (lv_at hl 0 rfl) ?_
        refine lv_ifnonnull (tgt := 61) hx hb dX4_takeOldest_43 (by decide) ?_
        refine lv_aload_n hx hb dX4_takeOldest_61 rfl (lv_at hl 0 rfl) ?_
        refine W_facts (fun hg => ?_)
        have hg : GF s.heap H (0) (0) := hg
        refine W.widen (k := 3) (n := 31257) (show 0 ≤ 3 by omega) (show 0 ≤ 31257 by omega) ?_
        have hP9 := (P_subT (X' := [(sr, .inr (2, [.ref rt, .ref ru, .int x19])), (rt, .inl (gT G, 8, .inr (.inr (.inr (.inr ft))))), (ru, .inl (gI G, 15625, .inl gu)), (t_26, .inr (3, [.ref ta_26, .ref tq_26, .int qd_26, .int se_26, .int go_26, .int ki_26, .int nn_26])), (ta_26, .inl (gB G, 15625, .inl fs_26)), (tq_26, .inl (gI G, 15625, .inl fq_26))]) hP [0, 1, 2, 3, 4, 5] rfl)
        have hD9 := (D_subT (X' := [(sr, .inr (2, [.ref rt, .ref ru, .int x19])), (rt, .inl (gT G, 8, .inr (.inr (.inr (.inr ft))))), (ru, .inl (gI G, 15625, .inl gu)), (t_26, .inr (3, [.ref ta_26, .ref tq_26, .int qd_26, .int se_26, .int go_26, .int ki_26, .int nn_26])), (ta_26, .inl (gB G, 15625, .inl fs_26)), (tq_26, .inl (gI G, 15625, .inl fq_26))]) hD [0, 1, 2, 3, 4, 5] (by decide) rfl)
        exact W.aret (v := .ref t_26) hx hb hr (Or.inl ⟨_, rfl⟩) (Or.inr ⟨_, rfl⟩) (fun t_ ht hW => ⟨⟨(x19, ft, t_26, ta_26, tq_26, qd_26, se_26, go_26, ki_26, nn_26, fs_26, fq_26, T_26, 0), t_26, rfl, ⟨⟨hTL, hd2⟩, rfl, Nat.zero_le _⟩, rfl, by rw [ht]; exact hP9, hD9, by rw [ht]; exact (show GF s.heap H (3 * 0) (31257 * 0) from hg.wide (by omega) (by omega))⟩, hS.F ht⟩) hS.2.2 dX4_takeOldest_62

set_option maxHeartbeats 1000000 in
set_option maxRecDepth 100000 in
theorem d_toward (l : Launch) (G : Gy) (H0 : Heap) (sr : Nat) (rt : Nat) (ru : Nat) (ol : Int32) (ft : Nat → Option Nat) (gu : Nat → Int32) (T : va_W) (p0 : Int32) (p1 : Int32) (p2 : Int32) (hT : PL G ft T) : ChR l G yX4_toward wsX4_toward ({ frames := 9, cells := 3, slots := 31257, locals := 213 }) [.ref sr, .int p0, .int p1, .int p2] ([(sr, .inr (2, [.ref rt, .ref ru, .int ol])), (rt, .inl (gT G, 8, .inr (.inr (.inr (.inr ft))))), (ru, .inl (gI G, 15625, .inl gu))] ++ T) H0 (fun (u : Int32 × (Nat → Option Nat) × Nat × Nat × Nat × Int32 × Int32 × Int32 × Int32 × Int32 × (Nat → Int32) × (Nat → Int32) × va_W × Nat) => match u with | (ol1, ft1, t1, ta1, tq1, qd1, se1, go1, ki1, nn1, fs1, fq1, T1, k1) => (TL G ft1 (t1, ta1, tq1, qd1, se1, go1, ki1, nn1, fs1, fq1) T1 ∧ tok (t1, ta1, tq1, qd1, se1, go1, ki1, nn1, fs1, fq1)) ∧ cntS ft1 8 = cntS ft 8 + k1 ∧ k1 ≤ 1) (fun (u : Int32 × (Nat → Option Nat) × Nat × Nat × Nat × Int32 × Int32 × Int32 × Int32 × Int32 × (Nat → Int32) × (Nat → Int32) × va_W × Nat) => match u with | (ol1, ft1, t1, ta1, tq1, qd1, se1, go1, ki1, nn1, fs1, fq1, T1, k1) => t1) (fun (u : Int32 × (Nat → Option Nat) × Nat × Nat × Nat × Int32 × Int32 × Int32 × Int32 × Int32 × (Nat → Int32) × (Nat → Int32) × va_W × Nat) => (match u with | (ol1, ft1, t1, ta1, tq1, qd1, se1, go1, ki1, nn1, fs1, fq1, T1, k1) => [(sr, .inr (2, [.ref rt, .ref ru, .int ol1])), (rt, .inl (gT G, 8, .inr (.inr (.inr (.inr ft1))))), (ru, .inl (gI G, 15625, .inl gu)), (t1, .inr (3, [.ref ta1, .ref tq1, .int qd1, .int se1, .int go1, .int ki1, .int nn1])), (ta1, .inl (gB G, 15625, .inl fs1)), (tq1, .inl (gI G, 15625, .inl fq1))]) ++ (match u with | (ol1, ft1, t1, ta1, tq1, qd1, se1, go1, ki1, nn1, fs1, fq1, T1, k1) => T1)) (fun (u : Int32 × (Nat → Option Nat) × Nat × Nat × Nat × Int32 × Int32 × Int32 × Int32 × Int32 × (Nat → Int32) × (Nat → Int32) × va_W × Nat) => match u with | (ol1, ft1, t1, ta1, tq1, qd1, se1, go1, ki1, nn1, fs1, fq1, T1, k1) => 3 * k1) (fun (u : Int32 × (Nat → Option Nat) × Nat × Nat × Nat × Int32 × Int32 × Int32 × Int32 × Int32 × (Nat → Int32) × (Nat → Int32) × va_W × Nat) => match u with | (ol1, ft1, t1, ta1, tq1, qd1, se1, go1, ki1, nn1, fs1, fq1, T1, k1) => 31257 * k1) 3 31257 := by
  refine Met.ofW (cc := cX4_toward) (maxL := 6) (ret := (some (.object "LastMap$Table"))) (by decide) rfl ?_
  intro p e s m args below meth c s₁ B hml hv
  obtain ⟨rfl, hsz, hP, hD0, E0⟩ := hv
  have hx := B.exec
  have hb := B.bytes
  have hr := B.returns
  have hts := atoms_spec (ws := wsX4_toward) B.pre
  have hown : s.vm.findClass RX4 = some m.cls := findClass_of_methodNamed B.named
  have hlocks := B.notSynchronized
  subst hsz
  have hD := hD0.self (sz := s.heap.size)
  generalize hAe : va_A ([(sr, .inr (2, [.ref rt, .ref ru, .int ol])), (rt, .inl (gT G, 8, .inr (.inr (.inr (.inr ft))))), (ru, .inl (gI G, 15625, .inl gu))] ++ T) s.heap.size = A at hD E0 ⊢
  have E : EV G A s s.heap := E0
  have hA : ∀ q : Nat, s.heap.size ≤ q → A q := fun q h => by rw [← hAe]; exact Or.inr h
  have hS : va_S A s.heap s.heap [] := va_S.rf
  have hl := lv_entry ([.ref sr, .int p0, .int p1, .int p2]) (n := 6) (Nat.le_of_ble_eq_true rfl)
  rw [lg_entry_eq]
  generalize (lg_sl ([.ref sr, .int p0, .int p1, .int p2]) ++ List.replicate (6 - (lg_sl ([.ref sr, .int p0, .int p1, .int p2])).length) Slot.unset).toArray = ls at hl ⊢
  have hl : lv_has ls 6 [(0, .ref sr), (1, .int p0), (2, .int p1), (3, .int p2)] := hl
  have hP : va_P G.1 vwCl ([(sr, .inr (2, [.ref rt, .ref ru, .int ol])), (rt, .inl (gT G, 8, .inr (.inr (.inr (.inr ft))))), (ru, .inl (gI G, 15625, .inl gu))] ++ T) s.heap := hP
  refine lv_iconst (v := 0) hx hb dX4_toward_0 (by decide) ?_
  refine lv_istore (lv' := [(4, .int 0), (0, .ref sr), (1, .int p0), (2, .int p1), (3, .int p2)]) hx hb dX4_toward_1 hl (by decide) rfl (fun ls hl => ?_)
  refine lp_run (x0 := (0, T)) (fun xx_ : Int32 × va_W => match xx_ with | (x, Tv) => [(sr, .inr (2, [.ref rt, .ref ru, .int ol])), (rt, .inl (gT G, 8, .inr (.inr (.inr (.inr ft))))), (ru, .inl (gI G, 15625, .inl gu))] ++ Tv) (fun xx_ : Int32 × va_W => match xx_ with | (x, Tv) => [(4, .int x), (0, .ref sr), (1, .int p0), (2, .int p1), (3, .int p2)]) (fun xx_ : Int32 × va_W => match xx_ with | (x, Tv) => (0 ≤ x.toInt) ∧ (PL G ft Tv)) (fun xx_ : Int32 × va_W => match xx_ with | (x, Tv) => ((8 : Int32).toInt - x.toInt).toNat) (P_subT hP [0, 1, 2] rfl) (D_subT hD [0, 1, 2] (by decide) rfl) hS (lv_sub hl [0, 1, 2, 3, 4] rfl) ⟨show (0 : Int) ≤ (0 : Int32).toInt by decide, hT⟩ ?_
  intro xx_ hI ih3 H locs ls hP hD hS hl
  obtain ⟨x, Tv⟩ := xx_
  dsimp only at hI ih3 hP hD hl
  obtain ⟨hx0, hTv⟩ := hI
  have hl : lv_has ls 6 [(4, .int x), (0, .ref sr), (1, .int p0), (2, .int p1), (3, .int p2)] := hl
  have hP : va_P G.1 vwCl ([(sr, .inr (2, [.ref rt, .ref ru, .int ol])), (rt, .inl (gT G, 8, .inr (.inr (.inr (.inr ft))))), (ru, .inl (gI G, 15625, .inl gu))] ++ Tv) H := hP
  have hD : va_D A ([(sr, .inr (2, [.ref rt, .ref ru, .int ol])), (rt, .inl (gT G, 8, .inr (.inr (.inr (.inr ft))))), (ru, .inl (gI G, 15625, .inl gu))] ++ Tv) := hD
  refine lv_iload hx hb dX4_toward_3 (lv_at hl 0 rfl) ?_
  refine lv_aload_n hx hb dX4_toward_5 rfl (lv_at hl 1 rfl) ?_
  refine va_get (D := G.1) (ci := 2) (v := .ref rt) (C := RX4) (T := TX4) (N := 3) hx hb hts (fun _ h => List.mem_cons_of_mem _ (List.mem_append_left _ (List.mem_append_right _ h))) hown E.K hP 0 rfl rfl 0 (by decide) (hts (.fieldLink RX4 13 "LastMap$Search" "tables" "[LLastMap$Table;") (by decide +kernel)) (fun _ h9 => h9) rfl dX4_toward_6 ?_
  refine va_alen (v := 8) hx hb E.K hP 1 4 rfl rfl rfl dX4_toward_9 ?_
  refine lv_icmp_ge (tgt := 47) hx hb dX4_toward_10 (by decide) (fun c1 => ?_) (fun c1 => ?_)
  · refine lv_aload_n hx hb dX4_toward_47 rfl (lv_at hl 1 rfl) ?_
    refine W_facts (fun hg => ?_)
    have hg : GF s.heap H (0) (0) := hg
    refine ca_rH (wr := []) hg (va_runV (As := []) (rest := []) ⟨hx, hb, hml, hown, hts⟩ (d_takeOldest l G H sr rt ru ol ft gu Tv hTv) (cwV 0 hts gX4_toward_X4_takeOldest rfl rfl rfl (by decide +kernel) ⟨by decide +kernel, by decide +kernel⟩) (pre_VH E hP hD hS hA [0, 1, 2] (by decide) rfl 0 2 rfl rfl) rfl rfl hl.1 rfl (lv_room (Nat.le_of_ble_eq_true rfl)) dX4_toward_48 ⟨show 0 + 3 ≤ 3 by omega, show 0 + 31257 ≤ 31257 by omega⟩) hS hP hD hA [0, 1, 2] [] rfl rfl (by decide) (by decide) (fun u4 H locs w2 hP hD hS hg => ?_)
    obtain ⟨ol1_5, ft1_6, t1_7, ta1_8, tq1_9, qd1_10, se1_11, go1_12, ki1_13, nn1_14, fs1_15, fq1_16, T1_17, k1_18⟩ := u4
    try dsimp only at w2 hP hD
    have hP := (P_subT (X' := [(sr, .inr (2, [.ref rt, .ref ru, .int ol1_5])), (rt, .inl (gT G, 8, .inr (.inr (.inr (.inr ft1_6))))), (ru, .inl (gI G, 15625, .inl gu)), (t1_7, .inr (3, [.ref ta1_8, .ref tq1_9, .int qd1_10, .int se1_11, .int go1_12, .int ki1_13, .int nn1_14])), (ta1_8, .inl (gB G, 15625, .inl fs1_15)), (tq1_9, .inl (gI G, 15625, .inl fq1_16))]) hP [0, 1, 2, 3, 4, 5] rfl)
    have hD := (D_subT (X' := [(sr, .inr (2, [.ref rt, .ref ru, .int ol1_5])), (rt, .inl (gT G, 8, .inr (.inr (.inr (.inr ft1_6))))), (ru, .inl (gI G, 15625, .inl gu)), (t1_7, .inr (3, [.ref ta1_8, .ref tq1_9, .int qd1_10, .int se1_11, .int go1_12, .int ki1_13, .int nn1_14])), (ta1_8, .inl (gB G, 15625, .inl fs1_15)), (tq1_9, .inl (gI G, 15625, .inl fq1_16))]) hD [0, 1, 2, 3, 4, 5] (by decide) rfl)
    have hkk := w2.2.2
    refine lv_astore (lv' := [(4, .ref t1_7), (0, .ref sr), (1, .int p0), (2, .int p1), (3, .int p2)]) hx hb dX4_toward_51 hl (by decide) rfl (fun ls hl => ?_)
    refine lv_aload hx hb dX4_toward_53 (lv_at hl 0 rfl) ?_
    refine lv_iload_n hx hb dX4_toward_55 rfl (lv_at hl 2 rfl) ?_
    refine lv_iload_n hx hb dX4_toward_56 rfl (lv_at hl 3 rfl) ?_
    refine lv_iload_n hx hb dX4_toward_57 rfl (lv_at hl 4 rfl) ?_
    refine ca_vQ (wr := [(sr, .inr (2, [.ref rt, .ref ru, .int ol1_5])), (rt, .inl (gT G, 8, .inr (.inr (.inr (.inr ft1_6))))), (ru, .inl (gI G, 15625, .inl gu))]) (va_runV (As := [.int p0, .int p1, .int p2]) (rest := []) ⟨hx, hb, hml, hown, hts⟩ (c_begin l G H.size t1_7 ta1_8 tq1_9 qd1_10 se1_11 go1_12 ki1_13 nn1_14 fs1_15 fq1_16 p0 p1 p2) (cwV 3 hts gX4_toward_X7_begin rfl rfl rfl (by decide +kernel) ⟨by decide +kernel, by decide +kernel⟩) (pre_V E hP hD hS hA [3, 4, 5] (by decide) rfl 3 3 rfl rfl) rfl rfl hl.1 rfl (lv_room (Nat.le_of_ble_eq_true rfl)) dX4_toward_58 ⟨show 0 + (3 * k1_18) + 0 ≤ 3 by omega, show 0 + (31257 * k1_18) + 0 ≤ 31257 by omega⟩) hS hP hD hA [3, 4, 5] [0, 1, 2] rfl rfl (by decide) (by decide) (fun u21 H locs w19 hP hD hS => ?_)
    obtain ⟨qd1_22, fs1_23, fq1_24⟩ := u21
    try dsimp only at w19 hP hD
    have hP := (P_subT (X' := [(sr, .inr (2, [.ref rt, .ref ru, .int ol1_5])), (rt, .inl (gT G, 8, .inr (.inr (.inr (.inr ft1_6))))), (ru, .inl (gI G, 15625, .inl gu)), (t1_7, .inr (3, [.ref ta1_8, .ref tq1_9, .int qd1_22, .int 0, .int p0, .int p1, .int p2])), (ta1_8, .inl (gB G, 15625, .inl fs1_23)), (tq1_9, .inl (gI G, 15625, .inl fq1_24))]) hP [0, 1, 2, 3, 4, 5] rfl)
    have hD := (D_subT (X' := [(sr, .inr (2, [.ref rt, .ref ru, .int ol1_5])), (rt, .inl (gT G, 8, .inr (.inr (.inr (.inr ft1_6))))), (ru, .inl (gI G, 15625, .inl gu)), (t1_7, .inr (3, [.ref ta1_8, .ref tq1_9, .int qd1_22, .int 0, .int p0, .int p1, .int p2])), (ta1_8, .inl (gB G, 15625, .inl fs1_23)), (tq1_9, .inl (gI G, 15625, .inl fq1_24))]) hD [0, 1, 2, 3, 4, 5] (by decide) rfl)
    refine lv_aload hx hb dX4_toward_61 (lv_at hl 0 rfl) ?_
    refine W_facts (fun hg => ?_)
    have hg : GF s.heap H (0 + (3 * k1_18)) (0 + (31257 * k1_18)) := hg
    refine W.widen (k := 3) (n := 31257) (show 0 + (3 * k1_18) ≤ 3 by omega) (show 0 + (31257 * k1_18) ≤ 31257 by omega) ?_
    have hP9 := (P_subT (X' := [(sr, .inr (2, [.ref rt, .ref ru, .int ol1_5])), (rt, .inl (gT G, 8, .inr (.inr (.inr (.inr ft1_6))))), (ru, .inl (gI G, 15625, .inl gu)), (t1_7, .inr (3, [.ref ta1_8, .ref tq1_9, .int qd1_22, .int 0, .int p0, .int p1, .int p2])), (ta1_8, .inl (gB G, 15625, .inl fs1_23)), (tq1_9, .inl (gI G, 15625, .inl fq1_24))]) hP [0, 1, 2, 3, 4, 5] rfl)
    have hD9 := (D_subT (X' := [(sr, .inr (2, [.ref rt, .ref ru, .int ol1_5])), (rt, .inl (gT G, 8, .inr (.inr (.inr (.inr ft1_6))))), (ru, .inl (gI G, 15625, .inl gu)), (t1_7, .inr (3, [.ref ta1_8, .ref tq1_9, .int qd1_22, .int 0, .int p0, .int p1, .int p2])), (ta1_8, .inl (gB G, 15625, .inl fs1_23)), (tq1_9, .inl (gI G, 15625, .inl fq1_24))]) hD [0, 1, 2, 3, 4, 5] (by decide) rfl)
    exact W.aret (v := .ref t1_7) hx hb hr (Or.inl ⟨_, rfl⟩) (Or.inr ⟨_, rfl⟩) (fun t_ ht hW => ⟨⟨(ol1_5, ft1_6, t1_7, ta1_8, tq1_9, qd1_22, 0, p0, p1, p2, fs1_23, fq1_24, T1_17, k1_18), t1_7, rfl, ⟨⟨tl_same w2.1.1 rfl, ⟨w19, in00⟩⟩, w2.2⟩, rfl, by rw [ht]; exact hP9, hD9, by rw [ht]; exact (show GF s.heap H (3 * k1_18) (31257 * k1_18) from hg.wide (by omega) (by omega))⟩, hS.F ht⟩) hS.2.2 dX4_toward_63
  · have hlt3 : x.toInt < (8 : Int32).toInt := by ((try simp only [inR, inS, i3_lt, i3_le, i3_eq, i6_lt, i6_le, Int32.toInt_toInt64, lg_cmp_lt, lg_cmp_gt, lg_cmp_ge, lg_cmp_le, Int32.reduceToInt, Int64.reduceToInt] at c1 ⊢); omega)
    refine lv_aload_n hx hb dX4_toward_13 rfl (lv_at hl 1 rfl) ?_
    refine va_get (D := G.1) (ci := 2) (v := .ref rt) (C := RX4) (T := TX4) (N := 3) hx hb hts (fun _ h => List.mem_cons_of_mem _ (List.mem_append_left _ (List.mem_append_right _ h))) hown E.K hP 0 rfl rfl 0 (by decide) (hts (.fieldLink RX4 13 "LastMap$Search" "tables" "[LLastMap$Table;") (by decide +kernel)) (fun _ h9 => h9) rfl dX4_toward_14 ?_
    refine lv_iload hx hb dX4_toward_17 (lv_at hl 0 rfl) ?_
    refine va_aldq hx hb E.K hP 1 4 rfl rfl (i := x) (vp_in_iff.mpr ⟨hx0, by have q := hlt3; simp only [Int32.reduceToInt] at q; omega⟩) dX4_toward_19 ?_
    obtain ⟨o_, ho⟩ : ∃ o_, o_ = ft x.toNatClampNeg := ⟨_, rfl⟩
    rw [← ho]
    rcases o_ with _ | t0
    · refine lv_astoreN (lv' := [(5, .null), (4, .int x), (0, .ref sr), (1, .int p0), (2, .int p1), (3, .int p2)]) hx hb dX4_toward_20 hl (by decide) rfl (fun ls hl => ?_)
      refine lv_aloadN hx hb dX4_toward_22 (lv_at hl 0 rfl) ?_
      refine lv_ifnullN (tgt := 41) hx hb dX4_toward_24 (by decide) ?_
      obtain ⟨x25, ex25⟩ : ∃ yy_ : Int32, yy_ = x + 1 := ⟨_, rfl⟩
      refine lv_iinc (v := x25) (lv' := [(4, .int x25), (5, .null), (0, .ref sr), (1, .int p0), (2, .int p1), (3, .int p2)]) hx hb dX4_toward_41 hl (k := 1) rfl (by rw [ex25]; rfl) (by decide) rfl (fun ls hl => ?_)
      refine lv_goto (tgt := 3) hx hb dX4_toward_44 (by decide) ?_
      have hinc3 := inc_lt hlt3 ex25
      refine ih3 (x25, Tv) ⟨?_, ?_⟩ (by first | omega | (dsimp only; omega)) H locs ls (P_subT hP [0, 1, 2] rfl) (D_subT hD [0, 1, 2] (by decide) rfl) hS (lv_sub hl [0, 2, 3, 4, 5] rfl)
      · try dsimp only
        omega
      · try dsimp only
        exact hTv
    · obtain ⟨d_, T_26, hd1, hd2, hTL, hP, hD⟩ := pl_take (X := [(sr, .inr (2, [.ref rt, .ref ru, .int ol])), (rt, .inl (gT G, 8, .inr (.inr (.inr (.inr ft))))), (ru, .inl (gI G, 15625, .inl gu))]) hTv (show x.toNatClampNeg < 8 by (have q := hlt3; simp only [Int32.reduceToInt] at q; show x.toInt.toNat < 8; omega)) ho.symm hP hD
      obtain ⟨t_26, ta_26, tq_26, qd_26, se_26, go_26, ki_26, nn_26, fs_26, fq_26⟩ := d_
      dsimp only at hd1
      subst hd1
      have hP : va_P G.1 vwCl ([(sr, .inr (2, [.ref rt, .ref ru, .int ol])), (rt, .inl (gT G, 8, .inr (.inr (.inr (.inr ft))))), (ru, .inl (gI G, 15625, .inl gu)), (t_26, .inr (3, [.ref ta_26, .ref tq_26, .int qd_26, .int se_26, .int go_26, .int ki_26, .int nn_26])), (ta_26, .inl (gB G, 15625, .inl fs_26)), (tq_26, .inl (gI G, 15625, .inl fq_26))] ++ T_26) H := hP
      have hD : va_D A ([(sr, .inr (2, [.ref rt, .ref ru, .int ol])), (rt, .inl (gT G, 8, .inr (.inr (.inr (.inr ft))))), (ru, .inl (gI G, 15625, .inl gu)), (t_26, .inr (3, [.ref ta_26, .ref tq_26, .int qd_26, .int se_26, .int go_26, .int ki_26, .int nn_26])), (ta_26, .inl (gB G, 15625, .inl fs_26)), (tq_26, .inl (gI G, 15625, .inl fq_26))] ++ T_26) := hD
      refine lv_astore (lv' := [(5, .ref t_26), (4, .int x), (0, .ref sr), (1, .int p0), (2, .int p1), (3, .int p2)]) hx hb dX4_toward_20 hl (by decide) rfl (fun ls hl => ?_)
      refine lv_aload hx hb dX4_toward_22 (lv_at hl 0 rfl) ?_
      refine lv_ifnull hx hb dX4_toward_24 ?_
      refine lv_aload hx hb dX4_toward_27 (lv_at hl 0 rfl) ?_
      refine lv_iload_n hx hb dX4_toward_29 rfl (lv_at hl 3 rfl) ?_
      refine lv_iload_n hx hb dX4_toward_30 rfl (lv_at hl 4 rfl) ?_
      refine lv_iload_n hx hb dX4_toward_31 rfl (lv_at hl 5 rfl) ?_
      refine ca_iR (va_runV (As := [.int p0, .int p1, .int p2]) (rest := []) ⟨hx, hb, hml, hown, hts⟩ (c_isFor l G H.size t_26 ta_26 tq_26 qd_26 se_26 go_26 ki_26 nn_26 fs_26 fq_26 p0 p1 p2) (cwV 3 hts gX4_toward_X7_isFor rfl rfl rfl (by decide +kernel) ⟨by decide +kernel, by decide +kernel⟩) (pre_V E hP hD hS hA [3, 4, 5] (by decide) rfl 3 3 rfl rfl) rfl rfl hl.1 rfl (lv_room (Nat.le_of_ble_eq_true rfl)) dX4_toward_32 ⟨show 0 + 0 ≤ 3 by omega, show 0 + 0 ≤ 31257 by omega⟩) hS hP hD hA [3, 4, 5] rfl (fun r28 _ H locs w27 hP hS => ?_)
      rcases w27 with ⟨rfl, b29⟩ | ⟨rfl, b29⟩
      · refine lv_if_eq (tgt := 41) hx hb dX4_toward_35 (by decide) (fun c30 => False.elim (by revert c30; decide)) (fun _ => ?_)
        refine lv_aload hx hb dX4_toward_38 (lv_at hl 0 rfl) ?_
        refine W_facts (fun hg => ?_)
        have hg : GF s.heap H (0) (0) := hg
        refine W.widen (k := 3) (n := 31257) (show 0 ≤ 3 by omega) (show 0 ≤ 31257 by omega) ?_
        have hP9 := (P_subT (X' := [(sr, .inr (2, [.ref rt, .ref ru, .int ol])), (rt, .inl (gT G, 8, .inr (.inr (.inr (.inr ft))))), (ru, .inl (gI G, 15625, .inl gu)), (t_26, .inr (3, [.ref ta_26, .ref tq_26, .int qd_26, .int se_26, .int go_26, .int ki_26, .int nn_26])), (ta_26, .inl (gB G, 15625, .inl fs_26)), (tq_26, .inl (gI G, 15625, .inl fq_26))]) hP [0, 1, 2, 3, 4, 5] rfl)
        have hD9 := (D_subT (X' := [(sr, .inr (2, [.ref rt, .ref ru, .int ol])), (rt, .inl (gT G, 8, .inr (.inr (.inr (.inr ft))))), (ru, .inl (gI G, 15625, .inl gu)), (t_26, .inr (3, [.ref ta_26, .ref tq_26, .int qd_26, .int se_26, .int go_26, .int ki_26, .int nn_26])), (ta_26, .inl (gB G, 15625, .inl fs_26)), (tq_26, .inl (gI G, 15625, .inl fq_26))]) hD [0, 1, 2, 3, 4, 5] (by decide) rfl)
        exact W.aret (v := .ref t_26) hx hb hr (Or.inl ⟨_, rfl⟩) (Or.inr ⟨_, rfl⟩) (fun t_ ht hW => ⟨⟨(ol, ft, t_26, ta_26, tq_26, qd_26, se_26, go_26, ki_26, nn_26, fs_26, fq_26, T_26, 0), t_26, rfl, ⟨⟨hTL, hd2⟩, rfl, Nat.zero_le _⟩, rfl, by rw [ht]; exact hP9, hD9, by rw [ht]; exact (show GF s.heap H (3 * 0) (31257 * 0) from hg.wide (by omega) (by omega))⟩, hS.F ht⟩) hS.2.2 dX4_toward_40
      · refine lv_if_eq (tgt := 41) hx hb dX4_toward_35 (by decide) (fun _ => ?_) (fun c31 => False.elim (by revert c31; decide))
        obtain ⟨T9_32, hT9_32, hP, hD⟩ := pl_put (X := [(sr, .inr (2, [.ref rt, .ref ru, .int ol])), (rt, .inl (gT G, 8, .inr (.inr (.inr (.inr ft))))), (ru, .inl (gI G, 15625, .inl gu))]) (d1 := (t_26, ta_26, tq_26, qd_26, se_26, go_26, ki_26, nn_26, fs_26, fq_26)) hTL rfl hd2 (P_subT hP [0, 1, 2, 3, 4, 5] rfl) (D_subT hD [0, 1, 2, 3, 4, 5] (by decide) rfl)
        have hP : va_P G.1 vwCl ([(sr, .inr (2, [.ref rt, .ref ru, .int ol])), (rt, .inl (gT G, 8, .inr (.inr (.inr (.inr ft))))), (ru, .inl (gI G, 15625, .inl gu))] ++ T9_32) H := hP
        have hD : va_D A ([(sr, .inr (2, [.ref rt, .ref ru, .int ol])), (rt, .inl (gT G, 8, .inr (.inr (.inr (.inr ft))))), (ru, .inl (gI G, 15625, .inl gu))] ++ T9_32) := hD
        obtain ⟨x33, ex33⟩ : ∃ yy_ : Int32, yy_ = x + 1 := ⟨_, rfl⟩
        refine lv_iinc (v := x33) (lv' := [(4, .int x33), (5, .ref t_26), (0, .ref sr), (1, .int p0), (2, .int p1), (3, .int p2)]) hx hb dX4_toward_41 hl (k := 1) rfl (by rw [ex33]; rfl) (by decide) rfl (fun ls hl => ?_)
        refine lv_goto (tgt := 3) hx hb dX4_toward_44 (by decide) ?_
        have hinc3 := inc_lt hlt3 ex33
        refine ih3 (x33, T9_32) ⟨?_, ?_⟩ (by first | omega | (dsimp only; omega)) H locs ls (P_subT hP [0, 1, 2] rfl) (D_subT hD [0, 1, 2] (by decide) rfl) hS (lv_sub hl [0, 2, 3, 4, 5] rfl)
        · try dsimp only
          omega
        · try dsimp only
          exact hT9_32

set_option maxHeartbeats 1000000 in
set_option maxRecDepth 100000 in
theorem d_ready_n (l : Launch) (G : Gy) (H0 : Heap) (h0 : Nat) (pad : Nat) (pp : Nat) (im : Nat) (vtr : Value) (T : va_W)  : ChR l G yX9_readySearch wsX9_readySearch ({ frames := 2, cells := 3, slots := 15636, locals := 32 }) [.ref h0] ([(h0, .inr (5, [.ref pad, .ref pp, .ref im, .null, vtr]))] ++ T) H0 (fun (u : Nat × Nat × Nat) => match u with | (sr1, rt1, ru1) => True) (fun (u : Nat × Nat × Nat) => match u with | (sr1, rt1, ru1) => sr1) (fun (u : Nat × Nat × Nat) => (match u with | (sr1, rt1, ru1) => [(h0, .inr (5, [.ref pad, .ref pp, .ref im, .ref sr1, vtr])), (sr1, .inr (2, [.ref rt1, .ref ru1, .int 0])), (rt1, .inl (gT G, 8, .inr (.inr (.inr (.inr (fun _ => none)))))), (ru1, .inl (gI G, 15625, .inl (fun _ => 0)))]) ++ (match u with | (sr1, rt1, ru1) => T)) (fun (u : Nat × Nat × Nat) => match u with | (sr1, rt1, ru1) => 3) (fun (u : Nat × Nat × Nat) => match u with | (sr1, rt1, ru1) => 15636) 3 15636 := by
  refine Met.ofW (cc := cX9_readySearch) (maxL := 1) (ret := (some (.object "LastMap$Search"))) (by decide) rfl ?_
  intro p e s m args below meth c s₁ B hml hv
  obtain ⟨rfl, hsz, hP, hD0, E0⟩ := hv
  have hx := B.exec
  have hb := B.bytes
  have hr := B.returns
  have hts := atoms_spec (ws := wsX9_readySearch) B.pre
  have hown : s.vm.findClass RX9 = some m.cls := findClass_of_methodNamed B.named
  have hlocks := B.notSynchronized
  subst hsz
  have hD := hD0.self (sz := s.heap.size)
  generalize hAe : va_A ([(h0, .inr (5, [.ref pad, .ref pp, .ref im, .null, vtr]))] ++ T) s.heap.size = A at hD E0 ⊢
  have E : EV G A s s.heap := E0
  have hA : ∀ q : Nat, s.heap.size ≤ q → A q := fun q h => by rw [← hAe]; exact Or.inr h
  have hS : va_S A s.heap s.heap [] := va_S.rf
  have hl := lv_entry ([.ref h0]) (n := 1) (Nat.le_of_ble_eq_true rfl)
  rw [lg_entry_eq]
  generalize (lg_sl ([.ref h0]) ++ List.replicate (1 - (lg_sl ([.ref h0])).length) Slot.unset).toArray = ls at hl ⊢
  have hl : lv_has ls 1 [(0, .ref h0)] := hl
  have hP : va_P G.1 vwCl ([(h0, .inr (5, [.ref pad, .ref pp, .ref im, .null, vtr]))] ++ T) s.heap := hP
  refine lv_aload_n hx hb dX9_readySearch_0 rfl (lv_at hl 0 rfl) ?_
  refine va_get (D := G.1) (ci := 5) (v := .null) (C := RX9) (T := TX9) (N := 5) hx hb hts (fun _ h => List.mem_cons_of_mem _ (List.mem_append_left _ (List.mem_append_right _ h))) hown E.K hP 0 rfl rfl 3 (by decide) (hts (.fieldLink RX9 216 "LastMap" "search" "LLastMap$Search;") (by decide +kernel)) (fun _ h9 => h9) rfl dX9_readySearch_1 ?_
  refine lv_ifnonnullN hx hb dX9_readySearch_4 ?_
  refine lv_aload_n hx hb dX9_readySearch_7 rfl (lv_at hl 0 rfl) ?_
  refine va_new (ci := 2) (fs := [.null, .null, .int 0]) (C := RX4) (T := TX4) (N := 3) hx hb hts (fun _ h => List.mem_cons_of_mem _ (List.mem_append_right _ h)) tyX4 tyX4_ok hown (hts (.classLink RX9 151 RX4) (by decide +kernel)) (hts (.instantiable RX4 3) (by decide +kernel)) (hts (.initialized RX4) (by decide +kernel)) E.K hP hD hS hA rfl (by decide +kernel) (by decide +kernel) (by decide +kernel) dX9_readySearch_8 (fun q1 H hP hD hS => ?_)
  have hP := P_perm (perm_snoc _ _ _) hP
  have hD := D_perm (perm_snoc _ _ _) hD
  have hP : va_P G.1 vwCl ([(h0, .inr (5, [.ref pad, .ref pp, .ref im, .null, vtr])), (q1, .inr (2, [.null, .null, .int 0]))] ++ T) H := hP
  have hD : va_D A ([(h0, .inr (5, [.ref pad, .ref pp, .ref im, .null, vtr])), (q1, .inr (2, [.null, .null, .int 0]))] ++ T) := hD
  refine lv_dup hx hb dX9_readySearch_11 rfl ?_
  refine ca_vQ (wr := [(h0, .inr (5, [.ref pad, .ref pp, .ref im, .null, vtr]))]) (va_runIN (As := []) (rest := [.ref q1, .ref h0]) ⟨hx, hb, hml, hown, hts⟩ (c_Search l G H.size q1) ⟨va_cnB 0 hts gX9_readySearch_X4_init_n220 rfl rfl rfl E.n220 (hts (.initialized RX4) (by decide +kernel)) (by decide +kernel) ⟨by decide +kernel, by decide +kernel⟩, rfl, hts (.instanceMethod yX4_init) (by decide +kernel)⟩ (pre_S E hP hD hS hA [1] (by decide) rfl) rfl rfl hl.1 rfl (lv_room (Nat.le_of_ble_eq_true rfl)) dX9_readySearch_12 ⟨show 1 + 2 ≤ 3 by omega, show 3 + 15633 ≤ 15636 by omega⟩) hS hP hD hA [1] [0] rfl rfl (by decide) (by decide) (fun u4 H locs w2 hP hD hS => ?_)
  obtain ⟨rt1_5, ru1_6⟩ := u4
  try dsimp only at w2 hP hD
  have hP := (P_subT (X' := [(h0, .inr (5, [.ref pad, .ref pp, .ref im, .null, vtr])), (q1, .inr (2, [.ref rt1_5, .ref ru1_6, .int 0])), (rt1_5, .inl (gT G, 8, .inr (.inr (.inr (.inr (fun _ => none)))))), (ru1_6, .inl (gI G, 15625, .inl (fun _ => 0)))]) hP [0, 1, 2, 3] rfl)
  have hD := (D_subT (X' := [(h0, .inr (5, [.ref pad, .ref pp, .ref im, .null, vtr])), (q1, .inr (2, [.ref rt1_5, .ref ru1_6, .int 0])), (rt1_5, .inl (gT G, 8, .inr (.inr (.inr (.inr (fun _ => none)))))), (ru1_6, .inl (gI G, 15625, .inl (fun _ => 0)))]) hD [0, 1, 2, 3] (by decide) rfl)
  refine va_put (D := G.1) (ci := 5) (v := .ref q1) (ty := .object "LastMap$Search") (C := RX9) (T := TX9) (N := 5) hx hb hts (fun _ h => List.mem_cons_of_mem _ (List.mem_append_left _ (List.mem_append_right _ h))) tyX9 tyX9_ok nmX9 hown E.K hP hD hS 0 rfl rfl 3 (by decide) (hts (.fieldLink RX9 216 "LastMap" "search" "LLastMap$Search;") (by decide +kernel)) (fun _ h9 => h9) rfl (by decide +kernel) rfl rfl (Nat.le_of_ble_eq_true rfl) dX9_readySearch_15 (fun H locs hP hD hS => ?_)
  have hP : va_P G.1 vwCl ([(h0, .inr (5, [.ref pad, .ref pp, .ref im, .ref q1, vtr])), (q1, .inr (2, [.ref rt1_5, .ref ru1_6, .int 0])), (rt1_5, .inl (gT G, 8, .inr (.inr (.inr (.inr (fun _ => none)))))), (ru1_6, .inl (gI G, 15625, .inl (fun _ => 0)))] ++ T) H := hP
  have hD : va_D A ([(h0, .inr (5, [.ref pad, .ref pp, .ref im, .ref q1, vtr])), (q1, .inr (2, [.ref rt1_5, .ref ru1_6, .int 0])), (rt1_5, .inl (gT G, 8, .inr (.inr (.inr (.inr (fun _ => none)))))), (ru1_6, .inl (gI G, 15625, .inl (fun _ => 0)))] ++ T) := hD
  refine lv_aload_n hx hb dX9_readySearch_18 rfl (lv_at hl 0 rfl) ?_
  refine va_get (D := G.1) (ci := 5) (v := .ref q1) (C := RX9) (T := TX9) (N := 5) hx hb hts (fun _ h => List.mem_cons_of_mem _ (List.mem_append_left _ (List.mem_append_right _ h))) hown E.K hP 0 rfl rfl 3 (by decide) (hts (.fieldLink RX9 216 "LastMap" "search" "LLastMap$Search;") (by decide +kernel)) (fun _ h9 => h9) rfl dX9_readySearch_19 ?_
  refine W_facts (fun hg => ?_)
  have hg : GF s.heap H (3) (15636) := hg
  refine W.widen (k := 3) (n := 15636) (show 3 ≤ 3 by omega) (show 15636 ≤ 15636 by omega) ?_
  have hP9 := (P_subT (X' := [(h0, .inr (5, [.ref pad, .ref pp, .ref im, .ref q1, vtr])), (q1, .inr (2, [.ref rt1_5, .ref ru1_6, .int 0])), (rt1_5, .inl (gT G, 8, .inr (.inr (.inr (.inr (fun _ => none)))))), (ru1_6, .inl (gI G, 15625, .inl (fun _ => 0)))]) hP [0, 1, 2, 3] rfl)
  have hD9 := (D_subT (X' := [(h0, .inr (5, [.ref pad, .ref pp, .ref im, .ref q1, vtr])), (q1, .inr (2, [.ref rt1_5, .ref ru1_6, .int 0])), (rt1_5, .inl (gT G, 8, .inr (.inr (.inr (.inr (fun _ => none)))))), (ru1_6, .inl (gI G, 15625, .inl (fun _ => 0)))]) hD [0, 1, 2, 3] (by decide) rfl)
  exact W.aret (v := .ref q1) hx hb hr (Or.inl ⟨_, rfl⟩) (Or.inr ⟨_, rfl⟩) (fun t_ ht hW => ⟨⟨(q1, rt1_5, ru1_6), q1, rfl, trivial, rfl, by rw [ht]; exact hP9, hD9, by rw [ht]; exact (show GF s.heap H (3) (15636) from hg.wide (by omega) (by omega))⟩, hS.F ht⟩) hS.2.2 dX9_readySearch_22

set_option maxHeartbeats 1000000 in
set_option maxRecDepth 100000 in
theorem d_ready_s (l : Launch) (G : Gy) (H0 : Heap) (h0 : Nat) (pad : Nat) (pp : Nat) (im : Nat) (vtr : Value) (sr : Nat) (T : va_W)  : ChR l G yX9_readySearch wsX9_readySearch ({ frames := 0, cells := 0, slots := 0, locals := 0 }) [.ref h0] ([(h0, .inr (5, [.ref pad, .ref pp, .ref im, .ref sr, vtr]))] ++ T) H0 (fun (_ : Unit) => True) (fun (_ : Unit) => sr) (fun (_ : Unit) => [(h0, .inr (5, [.ref pad, .ref pp, .ref im, .ref sr, vtr]))] ++ T) (fun (_ : Unit) => 0) (fun (_ : Unit) => 0) 0 0 := by
  refine Met.ofW (cc := cX9_readySearch) (maxL := 1) (ret := (some (.object "LastMap$Search"))) (by decide) rfl ?_
  intro p e s m args below meth c s₁ B hml hv
  obtain ⟨rfl, hsz, hP, hD0, E0⟩ := hv
  have hx := B.exec
  have hb := B.bytes
  have hr := B.returns
  have hts := atoms_spec (ws := wsX9_readySearch) B.pre
  have hown : s.vm.findClass RX9 = some m.cls := findClass_of_methodNamed B.named
  have hlocks := B.notSynchronized
  subst hsz
  have hD := hD0.self (sz := s.heap.size)
  generalize hAe : va_A ([(h0, .inr (5, [.ref pad, .ref pp, .ref im, .ref sr, vtr]))] ++ T) s.heap.size = A at hD E0 ⊢
  have E : EV G A s s.heap := E0
  have hA : ∀ q : Nat, s.heap.size ≤ q → A q := fun q h => by rw [← hAe]; exact Or.inr h
  have hS : va_S A s.heap s.heap [] := va_S.rf
  have hl := lv_entry ([.ref h0]) (n := 1) (Nat.le_of_ble_eq_true rfl)
  rw [lg_entry_eq]
  generalize (lg_sl ([.ref h0]) ++ List.replicate (1 - (lg_sl ([.ref h0])).length) Slot.unset).toArray = ls at hl ⊢
  have hl : lv_has ls 1 [(0, .ref h0)] := hl
  have hP : va_P G.1 vwCl ([(h0, .inr (5, [.ref pad, .ref pp, .ref im, .ref sr, vtr]))] ++ T) s.heap := hP
  refine lv_aload_n hx hb dX9_readySearch_0 rfl (lv_at hl 0 rfl) ?_
  refine va_get (D := G.1) (ci := 5) (v := .ref sr) (C := RX9) (T := TX9) (N := 5) hx hb hts (fun _ h => List.mem_cons_of_mem _ (List.mem_append_left _ (List.mem_append_right _ h))) hown E.K hP 0 rfl rfl 3 (by decide) (hts (.fieldLink RX9 216 "LastMap" "search" "LLastMap$Search;") (by decide +kernel)) (fun _ h9 => h9) rfl dX9_readySearch_1 ?_
  refine lv_ifnonnull (tgt := 18) hx hb dX9_readySearch_4 (by decide) ?_
  refine lv_aload_n hx hb dX9_readySearch_18 rfl (lv_at hl 0 rfl) ?_
  refine va_get (D := G.1) (ci := 5) (v := .ref sr) (C := RX9) (T := TX9) (N := 5) hx hb hts (fun _ h => List.mem_cons_of_mem _ (List.mem_append_left _ (List.mem_append_right _ h))) hown E.K hP 0 rfl rfl 3 (by decide) (hts (.fieldLink RX9 216 "LastMap" "search" "LLastMap$Search;") (by decide +kernel)) (fun _ h9 => h9) rfl dX9_readySearch_19 ?_
  refine W_facts (fun hg => ?_)
  have hg : GF s.heap s.heap (0) (0) := hg
  refine W.widen (k := 0) (n := 0) (show 0 ≤ 0 by omega) (show 0 ≤ 0 by omega) ?_
  have hP9 := (P_subT (X' := [(h0, .inr (5, [.ref pad, .ref pp, .ref im, .ref sr, vtr]))]) hP [0] rfl)
  have hD9 := (D_subT (X' := [(h0, .inr (5, [.ref pad, .ref pp, .ref im, .ref sr, vtr]))]) hD [0] (by decide) rfl)
  exact W.aret (v := .ref sr) hx hb hr (Or.inl ⟨_, rfl⟩) (Or.inr ⟨_, rfl⟩) (fun t_ ht hW => ⟨⟨(), sr, rfl, trivial, rfl, by rw [ht]; exact hP9, hD9, by rw [ht]; exact (show GF s.heap s.heap (0) (0) from hg.wide (by omega) (by omega))⟩, hS.F ht⟩) hS.2.2 dX9_readySearch_22

set_option maxHeartbeats 1000000 in
set_option maxRecDepth 100000 in
theorem d_tableOf_s (l : Launch) (G : Gy) (H0 : Heap) (h0 : Nat) (pad : Nat) (pp : Nat) (im : Nat) (vtr : Value) (ac : Nat) (ak : Nat) (n : Int32) (told : Int32) (sp : Int32) (gr : Int32) (fc : Nat → Int32) (fk : Nat → Int32) (sr : Nat) (rt : Nat) (ru : Nat) (ol : Int32) (ft : Nat → Option Nat) (gu : Nat → Int32) (T : va_W) (p0 : Int32) (p1 : Int32) (hT : PL G ft T) : ChR l G yX9_tableOf wsX9_tableOf ({ frames := 10, cells := 3, slots := 31257, locals := 238 }) [.ref h0, .int p0, .int p1] ([(h0, .inr (5, [.ref pad, .ref pp, .ref im, .ref sr, vtr])), (pp, .inr (1, [.int n, .int told, .int sp, .int gr, .ref ac, .ref ak])), (ac, .inl (gI G, 6, .inl fc)), (ak, .inl (gI G, 4, .inl fk)), (sr, .inr (2, [.ref rt, .ref ru, .int ol])), (rt, .inl (gT G, 8, .inr (.inr (.inr (.inr ft))))), (ru, .inl (gI G, 15625, .inl gu))] ++ T) H0 (fun (u : Int32 × (Nat → Option Nat) × Nat × Nat × Nat × Int32 × Int32 × Int32 × Int32 × Int32 × (Nat → Int32) × (Nat → Int32) × va_W × Nat) => match u with | (ol1, ft1, t1, ta1, tq1, qd1, se1, go1, ki1, nn1, fs1, fq1, T1, k1) => (TL G ft1 (t1, ta1, tq1, qd1, se1, go1, ki1, nn1, fs1, fq1) T1 ∧ tok (t1, ta1, tq1, qd1, se1, go1, ki1, nn1, fs1, fq1)) ∧ cntS ft1 8 = cntS ft 8 + k1 ∧ k1 ≤ 1) (fun (u : Int32 × (Nat → Option Nat) × Nat × Nat × Nat × Int32 × Int32 × Int32 × Int32 × Int32 × (Nat → Int32) × (Nat → Int32) × va_W × Nat) => match u with | (ol1, ft1, t1, ta1, tq1, qd1, se1, go1, ki1, nn1, fs1, fq1, T1, k1) => t1) (fun (u : Int32 × (Nat → Option Nat) × Nat × Nat × Nat × Int32 × Int32 × Int32 × Int32 × Int32 × (Nat → Int32) × (Nat → Int32) × va_W × Nat) => (match u with | (ol1, ft1, t1, ta1, tq1, qd1, se1, go1, ki1, nn1, fs1, fq1, T1, k1) => [(h0, .inr (5, [.ref pad, .ref pp, .ref im, .ref sr, vtr])), (pp, .inr (1, [.int n, .int told, .int sp, .int gr, .ref ac, .ref ak])), (ac, .inl (gI G, 6, .inl fc)), (ak, .inl (gI G, 4, .inl fk)), (sr, .inr (2, [.ref rt, .ref ru, .int ol1])), (rt, .inl (gT G, 8, .inr (.inr (.inr (.inr ft1))))), (ru, .inl (gI G, 15625, .inl gu)), (t1, .inr (3, [.ref ta1, .ref tq1, .int qd1, .int se1, .int go1, .int ki1, .int nn1])), (ta1, .inl (gB G, 15625, .inl fs1)), (tq1, .inl (gI G, 15625, .inl fq1))]) ++ (match u with | (ol1, ft1, t1, ta1, tq1, qd1, se1, go1, ki1, nn1, fs1, fq1, T1, k1) => T1)) (fun (u : Int32 × (Nat → Option Nat) × Nat × Nat × Nat × Int32 × Int32 × Int32 × Int32 × Int32 × (Nat → Int32) × (Nat → Int32) × va_W × Nat) => match u with | (ol1, ft1, t1, ta1, tq1, qd1, se1, go1, ki1, nn1, fs1, fq1, T1, k1) => 3 * k1) (fun (u : Int32 × (Nat → Option Nat) × Nat × Nat × Nat × Int32 × Int32 × Int32 × Int32 × Int32 × (Nat → Int32) × (Nat → Int32) × va_W × Nat) => match u with | (ol1, ft1, t1, ta1, tq1, qd1, se1, go1, ki1, nn1, fs1, fq1, T1, k1) => 31257 * k1) 3 31257 := by
  refine Met.ofW (cc := cX9_tableOf) (maxL := 4) (ret := (some (.object "LastMap$Table"))) (by decide) rfl ?_
  intro p e s m args below meth c s₁ B hml hv
  obtain ⟨rfl, hsz, hP, hD0, E0⟩ := hv
  have hx := B.exec
  have hb := B.bytes
  have hr := B.returns
  have hts := atoms_spec (ws := wsX9_tableOf) B.pre
  have hown : s.vm.findClass RX9 = some m.cls := findClass_of_methodNamed B.named
  have hlocks := B.notSynchronized
  subst hsz
  have hD := hD0.self (sz := s.heap.size)
  generalize hAe : va_A ([(h0, .inr (5, [.ref pad, .ref pp, .ref im, .ref sr, vtr])), (pp, .inr (1, [.int n, .int told, .int sp, .int gr, .ref ac, .ref ak])), (ac, .inl (gI G, 6, .inl fc)), (ak, .inl (gI G, 4, .inl fk)), (sr, .inr (2, [.ref rt, .ref ru, .int ol])), (rt, .inl (gT G, 8, .inr (.inr (.inr (.inr ft))))), (ru, .inl (gI G, 15625, .inl gu))] ++ T) s.heap.size = A at hD E0 ⊢
  have E : EV G A s s.heap := E0
  have hA : ∀ q : Nat, s.heap.size ≤ q → A q := fun q h => by rw [← hAe]; exact Or.inr h
  have hS : va_S A s.heap s.heap [] := va_S.rf
  have hl := lv_entry ([.ref h0, .int p0, .int p1]) (n := 4) (Nat.le_of_ble_eq_true rfl)
  rw [lg_entry_eq]
  generalize (lg_sl ([.ref h0, .int p0, .int p1]) ++ List.replicate (4 - (lg_sl ([.ref h0, .int p0, .int p1])).length) Slot.unset).toArray = ls at hl ⊢
  have hl : lv_has ls 4 [(0, .ref h0), (1, .int p0), (2, .int p1)] := hl
  have hP : va_P G.1 vwCl ([(h0, .inr (5, [.ref pad, .ref pp, .ref im, .ref sr, vtr])), (pp, .inr (1, [.int n, .int told, .int sp, .int gr, .ref ac, .ref ak])), (ac, .inl (gI G, 6, .inl fc)), (ak, .inl (gI G, 4, .inl fk)), (sr, .inr (2, [.ref rt, .ref ru, .int ol])), (rt, .inl (gT G, 8, .inr (.inr (.inr (.inr ft))))), (ru, .inl (gI G, 15625, .inl gu))] ++ T) s.heap := hP
  refine lv_aload_n hx hb dX9_tableOf_0 rfl (lv_at hl 0 rfl) ?_
  refine va_get (D := G.1) (ci := 5) (v := .ref pp) (C := RX9) (T := TX9) (N := 5) hx hb hts (fun _ h => List.mem_cons_of_mem _ (List.mem_append_left _ (List.mem_append_left _ (List.mem_append_left _ (List.mem_append_right _ h))))) hown E.K hP 0 rfl rfl 1 (by decide) (hts (.fieldLink RX9 19 "LastMap" "papers" "LLastMap$Papers;") (by decide +kernel)) (fun _ h9 => h9) rfl dX9_tableOf_1 ?_
  refine lv_iload_n hx hb dX9_tableOf_4 rfl (lv_at hl 1 rfl) ?_
  refine ca_iR (va_runV (As := [.int p0]) (rest := []) ⟨hx, hb, hml, hown, hts⟩ (c_codeOf l G s.heap.size pp ac ak n told sp gr fc fk p0) (cwV 1 hts gX9_tableOf_X3_codeOf rfl rfl rfl (by decide +kernel) ⟨by decide +kernel, by decide +kernel⟩) (pre_V E hP hD hS hA [1, 2, 3] (by decide) rfl 1 1 rfl rfl) rfl rfl hl.1 rfl (lv_room (Nat.le_of_ble_eq_true rfl)) dX9_tableOf_5 ⟨show 0 + 0 ≤ 3 by omega, show 0 + 0 ≤ 31257 by omega⟩) hS hP hD hA [1, 2, 3] rfl (fun r2 _ H locs w1 hP hS => ?_)
  refine lv_aload_n hx hb dX9_tableOf_8 rfl (lv_at hl 0 rfl) ?_
  refine va_get (D := G.1) (ci := 5) (v := .ref pp) (C := RX9) (T := TX9) (N := 5) hx hb hts (fun _ h => List.mem_cons_of_mem _ (List.mem_append_left _ (List.mem_append_left _ (List.mem_append_left _ (List.mem_append_right _ h))))) hown E.K hP 0 rfl rfl 1 (by decide) (hts (.fieldLink RX9 19 "LastMap" "papers" "LLastMap$Papers;") (by decide +kernel)) (fun _ h9 => h9) rfl dX9_tableOf_9 ?_
  refine va_get (D := G.1) (ci := 1) (v := .int n) (C := RX3) (T := TX3) (N := 6) hx hb hts (fun _ h => List.mem_cons_of_mem _ (List.mem_append_left _ (List.mem_append_left _ (List.mem_append_right _ h)))) hown E.K hP 1 rfl rfl 0 (by decide) (hts (.fieldLink RX9 27 "LastMap$Papers" "siteCount" "I") (by decide +kernel)) (fun _ h9 => h9) rfl dX9_tableOf_12 ?_
  refine ca_iR (va_runS (As := [.int r2, .int n]) (rest := []) ⟨hx, hb, hml, hown, hts⟩ (c_onlyMap l G H.size r2 n) (va_cwS 2 hts gX9_tableOf_X0_onlyMap rfl rfl rfl (by decide +kernel) ⟨by decide +kernel, by decide +kernel⟩) (pre_S E hP hD hS hA [] (by decide) rfl) rfl rfl hl.1 rfl (lv_room (Nat.le_of_ble_eq_true rfl)) dX9_tableOf_15 ⟨show 0 + 0 ≤ 3 by omega, show 0 + 0 ≤ 31257 by omega⟩) hS hP hD hA [] rfl (fun r4 _ H locs w3 hP hS => ?_)
  refine lv_istore_n (lv' := [(3, .int r4), (0, .ref h0), (1, .int p0), (2, .int p1)]) hx hb dX9_tableOf_18 rfl hl (by decide) rfl (fun ls hl => ?_)
  refine lv_aload_n hx hb dX9_tableOf_19 rfl (lv_at hl 1 rfl) ?_
  refine W_facts (fun hg => ?_)
  have hg : GF s.heap H (0) (0) := hg
  refine ca_rH (wr := [(pp, .inr (1, [.int n, .int told, .int sp, .int gr, .ref ac, .ref ak])), (ac, .inl (gI G, 6, .inl fc)), (ak, .inl (gI G, 4, .inl fk)), (sr, .inr (2, [.ref rt, .ref ru, .int ol])), (rt, .inl (gT G, 8, .inr (.inr (.inr (.inr ft))))), (ru, .inl (gI G, 15625, .inl gu))]) hg (va_runV (As := []) (rest := []) ⟨hx, hb, hml, hown, hts⟩ (d_ready_s l G H h0 pad pp im vtr sr T) (cwV 0 hts gX9_tableOf_X9_readySearch rfl rfl rfl (by decide +kernel) ⟨by decide +kernel, by decide +kernel⟩) (pre_VH E hP hD hS hA [0] (by decide) rfl 0 5 rfl rfl) rfl rfl hl.1 rfl (lv_room (Nat.le_of_ble_eq_true rfl)) dX9_tableOf_20 ⟨show 0 + 0 ≤ 3 by omega, show 0 + 0 ≤ 31257 by omega⟩) hS hP hD hA [0] [1, 2, 3, 4, 5, 6] rfl rfl (by decide) (by decide) (fun u7 H locs w5 hP hD hS hg => ?_)
  try dsimp only at w5 hP hD
  have hP := (P_subT (X' := [(h0, .inr (5, [.ref pad, .ref pp, .ref im, .ref sr, vtr])), (pp, .inr (1, [.int n, .int told, .int sp, .int gr, .ref ac, .ref ak])), (ac, .inl (gI G, 6, .inl fc)), (ak, .inl (gI G, 4, .inl fk)), (sr, .inr (2, [.ref rt, .ref ru, .int ol])), (rt, .inl (gT G, 8, .inr (.inr (.inr (.inr ft))))), (ru, .inl (gI G, 15625, .inl gu))]) hP [6, 0, 1, 2, 3, 4, 5] rfl)
  have hD := (D_subT (X' := [(h0, .inr (5, [.ref pad, .ref pp, .ref im, .ref sr, vtr])), (pp, .inr (1, [.int n, .int told, .int sp, .int gr, .ref ac, .ref ak])), (ac, .inl (gI G, 6, .inl fc)), (ak, .inl (gI G, 4, .inl fk)), (sr, .inr (2, [.ref rt, .ref ru, .int ol])), (rt, .inl (gT G, 8, .inr (.inr (.inr (.inr ft))))), (ru, .inl (gI G, 15625, .inl gu))]) hD [6, 0, 1, 2, 3, 4, 5] (by decide) rfl)
  refine lv_iload_n hx hb dX9_tableOf_23 rfl (lv_at hl 0 rfl) ?_
  refine lv_aload_n hx hb dX9_tableOf_24 rfl (lv_at hl 1 rfl) ?_
  refine va_get (D := G.1) (ci := 5) (v := .ref pp) (C := RX9) (T := TX9) (N := 5) hx hb hts (fun _ h => List.mem_cons_of_mem _ (List.mem_append_left _ (List.mem_append_left _ (List.mem_append_left _ (List.mem_append_right _ h))))) hown E.K hP 0 rfl rfl 1 (by decide) (hts (.fieldLink RX9 19 "LastMap" "papers" "LLastMap$Papers;") (by decide +kernel)) (fun _ h9 => h9) rfl dX9_tableOf_25 ?_
  refine lv_iload_n hx hb dX9_tableOf_28 rfl (lv_at hl 3 rfl) ?_
  refine ca_iR (va_runV (As := [.int p1]) (rest := [.int r4, .ref sr]) ⟨hx, hb, hml, hown, hts⟩ (c_kindsOf l G H.size pp ac ak n told sp gr fc fk p1) (cwV 1 hts gX9_tableOf_X3_kindsOf rfl rfl rfl (by decide +kernel) ⟨by decide +kernel, by decide +kernel⟩) (pre_V E hP hD hS hA [1, 2, 3] (by decide) rfl 1 1 rfl rfl) rfl rfl hl.1 rfl (lv_room (Nat.le_of_ble_eq_true rfl)) dX9_tableOf_29 ⟨show 0 + 0 + 0 ≤ 3 by omega, show 0 + 0 + 0 ≤ 31257 by omega⟩) hS hP hD hA [1, 2, 3] rfl (fun r9 _ H locs w8 hP hS => ?_)
  refine lv_aload_n hx hb dX9_tableOf_32 rfl (lv_at hl 1 rfl) ?_
  refine va_get (D := G.1) (ci := 5) (v := .ref pp) (C := RX9) (T := TX9) (N := 5) hx hb hts (fun _ h => List.mem_cons_of_mem _ (List.mem_append_left _ (List.mem_append_left _ (List.mem_append_left _ (List.mem_append_right _ h))))) hown E.K hP 0 rfl rfl 1 (by decide) (hts (.fieldLink RX9 19 "LastMap" "papers" "LLastMap$Papers;") (by decide +kernel)) (fun _ h9 => h9) rfl dX9_tableOf_33 ?_
  refine va_get (D := G.1) (ci := 1) (v := .int n) (C := RX3) (T := TX3) (N := 6) hx hb hts (fun _ h => List.mem_cons_of_mem _ (List.mem_append_left _ (List.mem_append_left _ (List.mem_append_right _ h)))) hown E.K hP 1 rfl rfl 0 (by decide) (hts (.fieldLink RX9 27 "LastMap$Papers" "siteCount" "I") (by decide +kernel)) (fun _ h9 => h9) rfl dX9_tableOf_36 ?_
  refine W_facts (fun hg => ?_)
  have hg : GF s.heap H (0 + 0) (0 + 0) := hg
  refine ca_rH (wr := [(h0, .inr (5, [.ref pad, .ref pp, .ref im, .ref sr, vtr])), (pp, .inr (1, [.int n, .int told, .int sp, .int gr, .ref ac, .ref ak])), (ac, .inl (gI G, 6, .inl fc)), (ak, .inl (gI G, 4, .inl fk))]) hg (va_runV (As := [.int r4, .int r9, .int n]) (rest := []) ⟨hx, hb, hml, hown, hts⟩ (d_toward l G H sr rt ru ol ft gu T r4 r9 n hT) (cwV 3 hts gX9_tableOf_X4_toward rfl rfl rfl (by decide +kernel) ⟨by decide +kernel, by decide +kernel⟩) (pre_VH E hP hD hS hA [4, 5, 6] (by decide) rfl 4 2 rfl rfl) rfl rfl hl.1 rfl (lv_room (Nat.le_of_ble_eq_true rfl)) dX9_tableOf_39 ⟨show 0 + 0 + 3 ≤ 3 by omega, show 0 + 0 + 31257 ≤ 31257 by omega⟩) hS hP hD hA [4, 5, 6] [0, 1, 2, 3] rfl rfl (by decide) (by decide) (fun u12 H locs w10 hP hD hS hg => ?_)
  obtain ⟨ol1_13, ft1_14, t1_15, ta1_16, tq1_17, qd1_18, se1_19, go1_20, ki1_21, nn1_22, fs1_23, fq1_24, T1_25, k1_26⟩ := u12
  try dsimp only at w10 hP hD
  have hP := (P_subT (X' := [(h0, .inr (5, [.ref pad, .ref pp, .ref im, .ref sr, vtr])), (pp, .inr (1, [.int n, .int told, .int sp, .int gr, .ref ac, .ref ak])), (ac, .inl (gI G, 6, .inl fc)), (ak, .inl (gI G, 4, .inl fk)), (sr, .inr (2, [.ref rt, .ref ru, .int ol1_13])), (rt, .inl (gT G, 8, .inr (.inr (.inr (.inr ft1_14))))), (ru, .inl (gI G, 15625, .inl gu)), (t1_15, .inr (3, [.ref ta1_16, .ref tq1_17, .int qd1_18, .int se1_19, .int go1_20, .int ki1_21, .int nn1_22])), (ta1_16, .inl (gB G, 15625, .inl fs1_23)), (tq1_17, .inl (gI G, 15625, .inl fq1_24))]) hP [0, 1, 2, 3, 4, 5, 6, 7, 8, 9] rfl)
  have hD := (D_subT (X' := [(h0, .inr (5, [.ref pad, .ref pp, .ref im, .ref sr, vtr])), (pp, .inr (1, [.int n, .int told, .int sp, .int gr, .ref ac, .ref ak])), (ac, .inl (gI G, 6, .inl fc)), (ak, .inl (gI G, 4, .inl fk)), (sr, .inr (2, [.ref rt, .ref ru, .int ol1_13])), (rt, .inl (gT G, 8, .inr (.inr (.inr (.inr ft1_14))))), (ru, .inl (gI G, 15625, .inl gu)), (t1_15, .inr (3, [.ref ta1_16, .ref tq1_17, .int qd1_18, .int se1_19, .int go1_20, .int ki1_21, .int nn1_22])), (ta1_16, .inl (gB G, 15625, .inl fs1_23)), (tq1_17, .inl (gI G, 15625, .inl fq1_24))]) hD [0, 1, 2, 3, 4, 5, 6, 7, 8, 9] (by decide) rfl)
  have hkk := w10.2.2
  refine W_facts (fun hg => ?_)
  have hg : GF s.heap H (0 + 0 + (3 * k1_26)) (0 + 0 + (31257 * k1_26)) := hg
  refine W.widen (k := 3) (n := 31257) (show 0 + 0 + (3 * k1_26) ≤ 3 by omega) (show 0 + 0 + (31257 * k1_26) ≤ 31257 by omega) ?_
  have hP9 := (P_subT (X' := [(h0, .inr (5, [.ref pad, .ref pp, .ref im, .ref sr, vtr])), (pp, .inr (1, [.int n, .int told, .int sp, .int gr, .ref ac, .ref ak])), (ac, .inl (gI G, 6, .inl fc)), (ak, .inl (gI G, 4, .inl fk)), (sr, .inr (2, [.ref rt, .ref ru, .int ol1_13])), (rt, .inl (gT G, 8, .inr (.inr (.inr (.inr ft1_14))))), (ru, .inl (gI G, 15625, .inl gu)), (t1_15, .inr (3, [.ref ta1_16, .ref tq1_17, .int qd1_18, .int se1_19, .int go1_20, .int ki1_21, .int nn1_22])), (ta1_16, .inl (gB G, 15625, .inl fs1_23)), (tq1_17, .inl (gI G, 15625, .inl fq1_24))]) hP [0, 1, 2, 3, 4, 5, 6, 7, 8, 9] rfl)
  have hD9 := (D_subT (X' := [(h0, .inr (5, [.ref pad, .ref pp, .ref im, .ref sr, vtr])), (pp, .inr (1, [.int n, .int told, .int sp, .int gr, .ref ac, .ref ak])), (ac, .inl (gI G, 6, .inl fc)), (ak, .inl (gI G, 4, .inl fk)), (sr, .inr (2, [.ref rt, .ref ru, .int ol1_13])), (rt, .inl (gT G, 8, .inr (.inr (.inr (.inr ft1_14))))), (ru, .inl (gI G, 15625, .inl gu)), (t1_15, .inr (3, [.ref ta1_16, .ref tq1_17, .int qd1_18, .int se1_19, .int go1_20, .int ki1_21, .int nn1_22])), (ta1_16, .inl (gB G, 15625, .inl fs1_23)), (tq1_17, .inl (gI G, 15625, .inl fq1_24))]) hD [0, 1, 2, 3, 4, 5, 6, 7, 8, 9] (by decide) rfl)
  exact W.aret (v := .ref t1_15) hx hb hr (Or.inl ⟨_, rfl⟩) (Or.inr ⟨_, rfl⟩) (fun t_ ht hW => ⟨⟨(ol1_13, ft1_14, t1_15, ta1_16, tq1_17, qd1_18, se1_19, go1_20, ki1_21, nn1_22, fs1_23, fq1_24, T1_25, k1_26), t1_15, rfl, w10, rfl, by rw [ht]; exact hP9, hD9, by rw [ht]; exact (show GF s.heap H (3 * k1_26) (31257 * k1_26) from hg.wide (by omega) (by omega))⟩, hS.F ht⟩) hS.2.2 dX9_tableOf_42

set_option maxHeartbeats 1000000 in
set_option maxRecDepth 100000 in
theorem d_tableOf_n (l : Launch) (G : Gy) (H0 : Heap) (h0 : Nat) (pad : Nat) (pp : Nat) (im : Nat) (vtr : Value) (ac : Nat) (ak : Nat) (n : Int32) (told : Int32) (sp : Int32) (gr : Int32) (fc : Nat → Int32) (fk : Nat → Int32) (p0 : Int32) (p1 : Int32)  : ChR l G yX9_tableOf wsX9_tableOf ({ frames := 10, cells := 6, slots := 46893, locals := 238 }) [.ref h0, .int p0, .int p1] ([(h0, .inr (5, [.ref pad, .ref pp, .ref im, .null, vtr])), (pp, .inr (1, [.int n, .int told, .int sp, .int gr, .ref ac, .ref ak])), (ac, .inl (gI G, 6, .inl fc)), (ak, .inl (gI G, 4, .inl fk))] ++ ([] : va_W)) H0 (fun (u : Nat × Nat × Nat × Int32 × (Nat → Option Nat) × Nat × Nat × Nat × Int32 × Int32 × Int32 × Int32 × Int32 × (Nat → Int32) × (Nat → Int32) × va_W × Nat) => match u with | (sr1, rt1, ru1, ol1, ft1, t1, ta1, tq1, qd1, se1, go1, ki1, nn1, fs1, fq1, T1, k1) => (TL G ft1 (t1, ta1, tq1, qd1, se1, go1, ki1, nn1, fs1, fq1) T1 ∧ tok (t1, ta1, tq1, qd1, se1, go1, ki1, nn1, fs1, fq1)) ∧ 1 + cntS ft1 8 = k1 ∧ k1 ≤ 2) (fun (u : Nat × Nat × Nat × Int32 × (Nat → Option Nat) × Nat × Nat × Nat × Int32 × Int32 × Int32 × Int32 × Int32 × (Nat → Int32) × (Nat → Int32) × va_W × Nat) => match u with | (sr1, rt1, ru1, ol1, ft1, t1, ta1, tq1, qd1, se1, go1, ki1, nn1, fs1, fq1, T1, k1) => t1) (fun (u : Nat × Nat × Nat × Int32 × (Nat → Option Nat) × Nat × Nat × Nat × Int32 × Int32 × Int32 × Int32 × Int32 × (Nat → Int32) × (Nat → Int32) × va_W × Nat) => (match u with | (sr1, rt1, ru1, ol1, ft1, t1, ta1, tq1, qd1, se1, go1, ki1, nn1, fs1, fq1, T1, k1) => [(h0, .inr (5, [.ref pad, .ref pp, .ref im, .ref sr1, vtr])), (pp, .inr (1, [.int n, .int told, .int sp, .int gr, .ref ac, .ref ak])), (ac, .inl (gI G, 6, .inl fc)), (ak, .inl (gI G, 4, .inl fk)), (sr1, .inr (2, [.ref rt1, .ref ru1, .int ol1])), (rt1, .inl (gT G, 8, .inr (.inr (.inr (.inr ft1))))), (ru1, .inl (gI G, 15625, .inl (fun _ => 0))), (t1, .inr (3, [.ref ta1, .ref tq1, .int qd1, .int se1, .int go1, .int ki1, .int nn1])), (ta1, .inl (gB G, 15625, .inl fs1)), (tq1, .inl (gI G, 15625, .inl fq1))]) ++ (match u with | (sr1, rt1, ru1, ol1, ft1, t1, ta1, tq1, qd1, se1, go1, ki1, nn1, fs1, fq1, T1, k1) => T1)) (fun (u : Nat × Nat × Nat × Int32 × (Nat → Option Nat) × Nat × Nat × Nat × Int32 × Int32 × Int32 × Int32 × Int32 × (Nat → Int32) × (Nat → Int32) × va_W × Nat) => match u with | (sr1, rt1, ru1, ol1, ft1, t1, ta1, tq1, qd1, se1, go1, ki1, nn1, fs1, fq1, T1, k1) => 3 * k1) (fun (u : Nat × Nat × Nat × Int32 × (Nat → Option Nat) × Nat × Nat × Nat × Int32 × Int32 × Int32 × Int32 × Int32 × (Nat → Int32) × (Nat → Int32) × va_W × Nat) => match u with | (sr1, rt1, ru1, ol1, ft1, t1, ta1, tq1, qd1, se1, go1, ki1, nn1, fs1, fq1, T1, k1) => 31257 * k1) 6 46893 := by
  refine Met.ofW (cc := cX9_tableOf) (maxL := 4) (ret := (some (.object "LastMap$Table"))) (by decide) rfl ?_
  intro p e s m args below meth c s₁ B hml hv
  obtain ⟨rfl, hsz, hP, hD0, E0⟩ := hv
  have hx := B.exec
  have hb := B.bytes
  have hr := B.returns
  have hts := atoms_spec (ws := wsX9_tableOf) B.pre
  have hown : s.vm.findClass RX9 = some m.cls := findClass_of_methodNamed B.named
  have hlocks := B.notSynchronized
  subst hsz
  have hD := hD0.self (sz := s.heap.size)
  generalize hAe : va_A ([(h0, .inr (5, [.ref pad, .ref pp, .ref im, .null, vtr])), (pp, .inr (1, [.int n, .int told, .int sp, .int gr, .ref ac, .ref ak])), (ac, .inl (gI G, 6, .inl fc)), (ak, .inl (gI G, 4, .inl fk))] ++ ([] : va_W)) s.heap.size = A at hD E0 ⊢
  have E : EV G A s s.heap := E0
  have hA : ∀ q : Nat, s.heap.size ≤ q → A q := fun q h => by rw [← hAe]; exact Or.inr h
  have hS : va_S A s.heap s.heap [] := va_S.rf
  have hl := lv_entry ([.ref h0, .int p0, .int p1]) (n := 4) (Nat.le_of_ble_eq_true rfl)
  rw [lg_entry_eq]
  generalize (lg_sl ([.ref h0, .int p0, .int p1]) ++ List.replicate (4 - (lg_sl ([.ref h0, .int p0, .int p1])).length) Slot.unset).toArray = ls at hl ⊢
  have hl : lv_has ls 4 [(0, .ref h0), (1, .int p0), (2, .int p1)] := hl
  have hP : va_P G.1 vwCl ([(h0, .inr (5, [.ref pad, .ref pp, .ref im, .null, vtr])), (pp, .inr (1, [.int n, .int told, .int sp, .int gr, .ref ac, .ref ak])), (ac, .inl (gI G, 6, .inl fc)), (ak, .inl (gI G, 4, .inl fk))] ++ ([] : va_W)) s.heap := hP
  refine lv_aload_n hx hb dX9_tableOf_0 rfl (lv_at hl 0 rfl) ?_
  refine va_get (D := G.1) (ci := 5) (v := .ref pp) (C := RX9) (T := TX9) (N := 5) hx hb hts (fun _ h => List.mem_cons_of_mem _ (List.mem_append_left _ (List.mem_append_left _ (List.mem_append_left _ (List.mem_append_right _ h))))) hown E.K hP 0 rfl rfl 1 (by decide) (hts (.fieldLink RX9 19 "LastMap" "papers" "LLastMap$Papers;") (by decide +kernel)) (fun _ h9 => h9) rfl dX9_tableOf_1 ?_
  refine lv_iload_n hx hb dX9_tableOf_4 rfl (lv_at hl 1 rfl) ?_
  refine ca_iR (va_runV (As := [.int p0]) (rest := []) ⟨hx, hb, hml, hown, hts⟩ (c_codeOf l G s.heap.size pp ac ak n told sp gr fc fk p0) (cwV 1 hts gX9_tableOf_X3_codeOf rfl rfl rfl (by decide +kernel) ⟨by decide +kernel, by decide +kernel⟩) (pre_V E hP hD hS hA [1, 2, 3] (by decide) rfl 1 1 rfl rfl) rfl rfl hl.1 rfl (lv_room (Nat.le_of_ble_eq_true rfl)) dX9_tableOf_5 ⟨show 0 + 0 ≤ 6 by omega, show 0 + 0 ≤ 46893 by omega⟩) hS hP hD hA [1, 2, 3] rfl (fun r2 _ H locs w1 hP hS => ?_)
  refine lv_aload_n hx hb dX9_tableOf_8 rfl (lv_at hl 0 rfl) ?_
  refine va_get (D := G.1) (ci := 5) (v := .ref pp) (C := RX9) (T := TX9) (N := 5) hx hb hts (fun _ h => List.mem_cons_of_mem _ (List.mem_append_left _ (List.mem_append_left _ (List.mem_append_left _ (List.mem_append_right _ h))))) hown E.K hP 0 rfl rfl 1 (by decide) (hts (.fieldLink RX9 19 "LastMap" "papers" "LLastMap$Papers;") (by decide +kernel)) (fun _ h9 => h9) rfl dX9_tableOf_9 ?_
  refine va_get (D := G.1) (ci := 1) (v := .int n) (C := RX3) (T := TX3) (N := 6) hx hb hts (fun _ h => List.mem_cons_of_mem _ (List.mem_append_left _ (List.mem_append_left _ (List.mem_append_right _ h)))) hown E.K hP 1 rfl rfl 0 (by decide) (hts (.fieldLink RX9 27 "LastMap$Papers" "siteCount" "I") (by decide +kernel)) (fun _ h9 => h9) rfl dX9_tableOf_12 ?_
  refine ca_iR (va_runS (As := [.int r2, .int n]) (rest := []) ⟨hx, hb, hml, hown, hts⟩ (c_onlyMap l G H.size r2 n) (va_cwS 2 hts gX9_tableOf_X0_onlyMap rfl rfl rfl (by decide +kernel) ⟨by decide +kernel, by decide +kernel⟩) (pre_S E hP hD hS hA [] (by decide) rfl) rfl rfl hl.1 rfl (lv_room (Nat.le_of_ble_eq_true rfl)) dX9_tableOf_15 ⟨show 0 + 0 ≤ 6 by omega, show 0 + 0 ≤ 46893 by omega⟩) hS hP hD hA [] rfl (fun r4 _ H locs w3 hP hS => ?_)
  refine lv_istore_n (lv' := [(3, .int r4), (0, .ref h0), (1, .int p0), (2, .int p1)]) hx hb dX9_tableOf_18 rfl hl (by decide) rfl (fun ls hl => ?_)
  refine lv_aload_n hx hb dX9_tableOf_19 rfl (lv_at hl 1 rfl) ?_
  refine W_facts (fun hg => ?_)
  have hg : GF s.heap H (0) (0) := hg
  refine ca_rH (wr := [(pp, .inr (1, [.int n, .int told, .int sp, .int gr, .ref ac, .ref ak])), (ac, .inl (gI G, 6, .inl fc)), (ak, .inl (gI G, 4, .inl fk))]) hg (va_runV (As := []) (rest := []) ⟨hx, hb, hml, hown, hts⟩ (d_ready_n l G H h0 pad pp im vtr ([] : va_W)) (cwV 0 hts gX9_tableOf_X9_readySearch rfl rfl rfl (by decide +kernel) ⟨by decide +kernel, by decide +kernel⟩) (pre_VH E hP hD hS hA [0] (by decide) rfl 0 5 rfl rfl) rfl rfl hl.1 rfl (lv_room (Nat.le_of_ble_eq_true rfl)) dX9_tableOf_20 ⟨show 0 + 3 ≤ 6 by omega, show 0 + 15636 ≤ 46893 by omega⟩) hS hP hD hA [0] [1, 2, 3] rfl rfl (by decide) (by decide) (fun u7 H locs w5 hP hD hS hg => ?_)
  obtain ⟨sr1_8, rt1_9, ru1_10⟩ := u7
  try dsimp only at w5 hP hD
  have hP := (P_subT (X' := [(h0, .inr (5, [.ref pad, .ref pp, .ref im, .ref sr1_8, vtr])), (pp, .inr (1, [.int n, .int told, .int sp, .int gr, .ref ac, .ref ak])), (ac, .inl (gI G, 6, .inl fc)), (ak, .inl (gI G, 4, .inl fk)), (sr1_8, .inr (2, [.ref rt1_9, .ref ru1_10, .int 0])), (rt1_9, .inl (gT G, 8, .inr (.inr (.inr (.inr (fun _ => none)))))), (ru1_10, .inl (gI G, 15625, .inl (fun _ => 0)))]) hP [3, 0, 1, 2, 4, 5, 6] rfl)
  have hD := (D_subT (X' := [(h0, .inr (5, [.ref pad, .ref pp, .ref im, .ref sr1_8, vtr])), (pp, .inr (1, [.int n, .int told, .int sp, .int gr, .ref ac, .ref ak])), (ac, .inl (gI G, 6, .inl fc)), (ak, .inl (gI G, 4, .inl fk)), (sr1_8, .inr (2, [.ref rt1_9, .ref ru1_10, .int 0])), (rt1_9, .inl (gT G, 8, .inr (.inr (.inr (.inr (fun _ => none)))))), (ru1_10, .inl (gI G, 15625, .inl (fun _ => 0)))]) hD [3, 0, 1, 2, 4, 5, 6] (by decide) rfl)
  refine lv_iload_n hx hb dX9_tableOf_23 rfl (lv_at hl 0 rfl) ?_
  refine lv_aload_n hx hb dX9_tableOf_24 rfl (lv_at hl 1 rfl) ?_
  refine va_get (D := G.1) (ci := 5) (v := .ref pp) (C := RX9) (T := TX9) (N := 5) hx hb hts (fun _ h => List.mem_cons_of_mem _ (List.mem_append_left _ (List.mem_append_left _ (List.mem_append_left _ (List.mem_append_right _ h))))) hown E.K hP 0 rfl rfl 1 (by decide) (hts (.fieldLink RX9 19 "LastMap" "papers" "LLastMap$Papers;") (by decide +kernel)) (fun _ h9 => h9) rfl dX9_tableOf_25 ?_
  refine lv_iload_n hx hb dX9_tableOf_28 rfl (lv_at hl 3 rfl) ?_
  refine ca_iR (va_runV (As := [.int p1]) (rest := [.int r4, .ref sr1_8]) ⟨hx, hb, hml, hown, hts⟩ (c_kindsOf l G H.size pp ac ak n told sp gr fc fk p1) (cwV 1 hts gX9_tableOf_X3_kindsOf rfl rfl rfl (by decide +kernel) ⟨by decide +kernel, by decide +kernel⟩) (pre_V E hP hD hS hA [1, 2, 3] (by decide) rfl 1 1 rfl rfl) rfl rfl hl.1 rfl (lv_room (Nat.le_of_ble_eq_true rfl)) dX9_tableOf_29 ⟨show 0 + 3 + 0 ≤ 6 by omega, show 0 + 15636 + 0 ≤ 46893 by omega⟩) hS hP hD hA [1, 2, 3] rfl (fun r12 _ H locs w11 hP hS => ?_)
  refine lv_aload_n hx hb dX9_tableOf_32 rfl (lv_at hl 1 rfl) ?_
  refine va_get (D := G.1) (ci := 5) (v := .ref pp) (C := RX9) (T := TX9) (N := 5) hx hb hts (fun _ h => List.mem_cons_of_mem _ (List.mem_append_left _ (List.mem_append_left _ (List.mem_append_left _ (List.mem_append_right _ h))))) hown E.K hP 0 rfl rfl 1 (by decide) (hts (.fieldLink RX9 19 "LastMap" "papers" "LLastMap$Papers;") (by decide +kernel)) (fun _ h9 => h9) rfl dX9_tableOf_33 ?_
  refine va_get (D := G.1) (ci := 1) (v := .int n) (C := RX3) (T := TX3) (N := 6) hx hb hts (fun _ h => List.mem_cons_of_mem _ (List.mem_append_left _ (List.mem_append_left _ (List.mem_append_right _ h)))) hown E.K hP 1 rfl rfl 0 (by decide) (hts (.fieldLink RX9 27 "LastMap$Papers" "siteCount" "I") (by decide +kernel)) (fun _ h9 => h9) rfl dX9_tableOf_36 ?_
  refine W_facts (fun hg => ?_)
  have hg : GF s.heap H (0 + 3) (0 + 15636) := hg
  refine ca_rH (wr := [(h0, .inr (5, [.ref pad, .ref pp, .ref im, .ref sr1_8, vtr])), (pp, .inr (1, [.int n, .int told, .int sp, .int gr, .ref ac, .ref ak])), (ac, .inl (gI G, 6, .inl fc)), (ak, .inl (gI G, 4, .inl fk))]) hg (va_runV (As := [.int r4, .int r12, .int n]) (rest := []) ⟨hx, hb, hml, hown, hts⟩ (d_toward l G H sr1_8 rt1_9 ru1_10 0 (fun _ => none) (fun _ => 0) ([] : va_W) r4 r12 n pl_none) (cwV 3 hts gX9_tableOf_X4_toward rfl rfl rfl (by decide +kernel) ⟨by decide +kernel, by decide +kernel⟩) (pre_VH E hP hD hS hA [4, 5, 6] (by decide) rfl 4 2 rfl rfl) rfl rfl hl.1 rfl (lv_room (Nat.le_of_ble_eq_true rfl)) dX9_tableOf_39 ⟨show 0 + 3 + 3 ≤ 6 by omega, show 0 + 15636 + 31257 ≤ 46893 by omega⟩) hS hP hD hA [4, 5, 6] [0, 1, 2, 3] rfl rfl (by decide) (by decide) (fun u15 H locs w13 hP hD hS hg => ?_)
  obtain ⟨ol1_16, ft1_17, t1_18, ta1_19, tq1_20, qd1_21, se1_22, go1_23, ki1_24, nn1_25, fs1_26, fq1_27, T1_28, k1_29⟩ := u15
  try dsimp only at w13 hP hD
  have hP := (P_subT (X' := [(h0, .inr (5, [.ref pad, .ref pp, .ref im, .ref sr1_8, vtr])), (pp, .inr (1, [.int n, .int told, .int sp, .int gr, .ref ac, .ref ak])), (ac, .inl (gI G, 6, .inl fc)), (ak, .inl (gI G, 4, .inl fk)), (sr1_8, .inr (2, [.ref rt1_9, .ref ru1_10, .int ol1_16])), (rt1_9, .inl (gT G, 8, .inr (.inr (.inr (.inr ft1_17))))), (ru1_10, .inl (gI G, 15625, .inl (fun _ => 0))), (t1_18, .inr (3, [.ref ta1_19, .ref tq1_20, .int qd1_21, .int se1_22, .int go1_23, .int ki1_24, .int nn1_25])), (ta1_19, .inl (gB G, 15625, .inl fs1_26)), (tq1_20, .inl (gI G, 15625, .inl fq1_27))]) hP [0, 1, 2, 3, 4, 5, 6, 7, 8, 9] rfl)
  have hD := (D_subT (X' := [(h0, .inr (5, [.ref pad, .ref pp, .ref im, .ref sr1_8, vtr])), (pp, .inr (1, [.int n, .int told, .int sp, .int gr, .ref ac, .ref ak])), (ac, .inl (gI G, 6, .inl fc)), (ak, .inl (gI G, 4, .inl fk)), (sr1_8, .inr (2, [.ref rt1_9, .ref ru1_10, .int ol1_16])), (rt1_9, .inl (gT G, 8, .inr (.inr (.inr (.inr ft1_17))))), (ru1_10, .inl (gI G, 15625, .inl (fun _ => 0))), (t1_18, .inr (3, [.ref ta1_19, .ref tq1_20, .int qd1_21, .int se1_22, .int go1_23, .int ki1_24, .int nn1_25])), (ta1_19, .inl (gB G, 15625, .inl fs1_26)), (tq1_20, .inl (gI G, 15625, .inl fq1_27))]) hD [0, 1, 2, 3, 4, 5, 6, 7, 8, 9] (by decide) rfl)
  have hkk := w13.2.2
  refine W_facts (fun hg => ?_)
  have hg : GF s.heap H (0 + 3 + (3 * k1_29)) (0 + 15636 + (31257 * k1_29)) := hg
  refine W.widen (k := 6) (n := 46893) (show 0 + 3 + (3 * k1_29) ≤ 6 by omega) (show 0 + 15636 + (31257 * k1_29) ≤ 46893 by omega) ?_
  have hP9 := (P_subT (X' := [(h0, .inr (5, [.ref pad, .ref pp, .ref im, .ref sr1_8, vtr])), (pp, .inr (1, [.int n, .int told, .int sp, .int gr, .ref ac, .ref ak])), (ac, .inl (gI G, 6, .inl fc)), (ak, .inl (gI G, 4, .inl fk)), (sr1_8, .inr (2, [.ref rt1_9, .ref ru1_10, .int ol1_16])), (rt1_9, .inl (gT G, 8, .inr (.inr (.inr (.inr ft1_17))))), (ru1_10, .inl (gI G, 15625, .inl (fun _ => 0))), (t1_18, .inr (3, [.ref ta1_19, .ref tq1_20, .int qd1_21, .int se1_22, .int go1_23, .int ki1_24, .int nn1_25])), (ta1_19, .inl (gB G, 15625, .inl fs1_26)), (tq1_20, .inl (gI G, 15625, .inl fq1_27))]) hP [0, 1, 2, 3, 4, 5, 6, 7, 8, 9] rfl)
  have hD9 := (D_subT (X' := [(h0, .inr (5, [.ref pad, .ref pp, .ref im, .ref sr1_8, vtr])), (pp, .inr (1, [.int n, .int told, .int sp, .int gr, .ref ac, .ref ak])), (ac, .inl (gI G, 6, .inl fc)), (ak, .inl (gI G, 4, .inl fk)), (sr1_8, .inr (2, [.ref rt1_9, .ref ru1_10, .int ol1_16])), (rt1_9, .inl (gT G, 8, .inr (.inr (.inr (.inr ft1_17))))), (ru1_10, .inl (gI G, 15625, .inl (fun _ => 0))), (t1_18, .inr (3, [.ref ta1_19, .ref tq1_20, .int qd1_21, .int se1_22, .int go1_23, .int ki1_24, .int nn1_25])), (ta1_19, .inl (gB G, 15625, .inl fs1_26)), (tq1_20, .inl (gI G, 15625, .inl fq1_27))]) hD [0, 1, 2, 3, 4, 5, 6, 7, 8, 9] (by decide) rfl)
  exact W.aret (v := .ref t1_18) hx hb hr (Or.inl ⟨_, rfl⟩) (Or.inr ⟨_, rfl⟩) (fun t_ ht hW => ⟨⟨(sr1_8, rt1_9, ru1_10, ol1_16, ft1_17, t1_18, ta1_19, tq1_20, qd1_21, se1_22, go1_23, ki1_24, nn1_25, fs1_26, fq1_27, T1_28, 1 + k1_29), t1_18, rfl, ⟨w13.1, by have q := w13.2.1; rw [q]; show 1 + (0 + k1_29) = 1 + k1_29; omega, by omega⟩, rfl, by rw [ht]; exact hP9, hD9, by rw [ht]; exact (show GF s.heap H (3 * (1 + k1_29)) (31257 * (1 + k1_29)) from hg.wide (by omega) (by omega))⟩, hS.F ht⟩) hS.2.2 dX9_tableOf_42
