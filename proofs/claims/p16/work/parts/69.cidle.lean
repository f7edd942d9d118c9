set_option maxHeartbeats 1000000 in
set_option maxRecDepth 100000 in
theorem n_firstIdle (l : Launch) (G : Gy) (sz : Nat) (h0 : Nat) (pad : Nat) (pp : Nat) (im : Nat) (vse : Value) (vtr : Value) (sg : Nat) (sl : Nat) (pm : Nat) (k : Nat) (nn : Nat) (a : Nat) (ca : Nat) (fsg : Nat → Int32) (fsl : Nat → Int32) (hk2 : 2 ≤ k) (hk6 : k ≤ 6) (hpm : pm ≤ 40) (hnn : nn ≤ 10) (hpl : pl fsg nn = pm) (hno : ∀ t : Nat, t < nn → w1 fsg pm k (pl fsg t) = none) (ha : a < 5 ^ k) (hca : ca = sc k a) : Ci l G yX9_firstIdle wsX9_firstIdle ({ frames := 4, cells := 0, slots := 0, locals := 87 }) [.ref h0, .int (nI ca)] ([(h0, .inr (5, [.ref pad, .ref pp, .ref im, vse, vtr])), (pad, .inr (0, [.ref sg, .ref sl, .int (nI pm)])), (sg, .inl (gI G, 40, .inl fsg)), (sl, .inl (gI G, 10, .inl fsl))]) sz (fun (r : Int32) (fsl1 : Nat → Int32) => r = bdF k (fun t => slp fsg (pl fsg t)) nn 0 a) (fun (fsl1 : Nat → Int32) => [(h0, .inr (5, [.ref pad, .ref pp, .ref im, vse, vtr])), (pad, .inr (0, [.ref sg, .ref sl, .int (nI pm)])), (sg, .inl (gI G, 40, .inl fsg)), (sl, .inl (gI G, 10, .inl fsl1))]) 0 0 := by
  refine Met.ofW (cc := cX9_firstIdle) (maxL := 6) (ret := (some .int)) (by decide) rfl ?_
  intro p e s m args below meth c s₁ B hml hv
  obtain ⟨rfl, hsz, hP, hD0, E0⟩ := hv
  have hx := B.exec
  have hb := B.bytes
  have hr := B.returns
  have hts := atoms_spec (ws := wsX9_firstIdle) B.pre
  have hown : s.vm.findClass RX9 = some m.cls := findClass_of_methodNamed B.named
  have hlocks := B.notSynchronized
  subst hsz
  have hD := hD0.self (sz := s.heap.size)
  generalize hAe : va_A ([(h0, .inr (5, [.ref pad, .ref pp, .ref im, vse, vtr])), (pad, .inr (0, [.ref sg, .ref sl, .int (nI pm)])), (sg, .inl (gI G, 40, .inl fsg)), (sl, .inl (gI G, 10, .inl fsl))]) s.heap.size = A at hD E0 ⊢
  have E : EV G A s s.heap := E0
  have hA : ∀ q : Nat, s.heap.size ≤ q → A q := fun q h => by rw [← hAe]; exact Or.inr h
  have hS : va_S A s.heap s.heap [] := va_S.rf
  have hl := lv_entry ([.ref h0, .int (nI ca)]) (n := 6) (Nat.le_of_ble_eq_true rfl)
  rw [lg_entry_eq]
  generalize (lg_sl ([.ref h0, .int (nI ca)]) ++ List.replicate (6 - (lg_sl ([.ref h0, .int (nI ca)])).length) Slot.unset).toArray = ls at hl ⊢
  have hl : lv_has ls 6 [(0, .ref h0), (1, .int (nI ca))] := hl
  have hP : va_P G.1 vwCl ([(h0, .inr (5, [.ref pad, .ref pp, .ref im, vse, vtr])), (pad, .inr (0, [.ref sg, .ref sl, .int (nI pm)])), (sg, .inl (gI G, 40, .inl fsg)), (sl, .inl (gI G, 10, .inl fsl))]) s.heap := hP
  refine lv_aload_n hx hb dX9_firstIdle_0 rfl (lv_at hl 0 rfl) ?_
  refine va_get (D := G.1) (ci := 5) (v := .ref pad) (C := RX9) (T := TX9) (N := 5) hx hb hts (fun _ h => List.mem_cons_of_mem _ (List.mem_append_left _ (List.mem_append_right _ h))) hown E.K hP 0 rfl rfl 0 (by decide) (hts (.fieldLink RX9 10 "LastMap" "pad" "LLastMap$Pad;") (by decide +kernel)) (fun _ h9 => h9) rfl dX9_firstIdle_1 ?_
  refine ca_i (wr := [(h0, .inr (5, [.ref pad, .ref pp, .ref im, vse, vtr]))]) (va_runV (As := []) (rest := []) ⟨hx, hb, hml, hown, hts⟩ (n_readSlips l G s.heap.size pad sg sl pm fsg fsl k nn hk2 hk6 hpm hnn hpl hno) (cwV 0 hts gX9_firstIdle_X2_readSlips rfl rfl rfl (by decide +kernel) ⟨by decide +kernel, by decide +kernel⟩) (pre_V E hP hD hS hA [1, 2, 3] (by decide) rfl 1 0 rfl rfl) rfl rfl hl.1 rfl (lv_room (Nat.le_of_ble_eq_true rfl)) dX9_firstIdle_4 ⟨by decide +kernel, by decide +kernel⟩) hS hP hD hA [1, 2, 3] [0] rfl rfl (by decide) (by decide) (fun r2 u3 H locs w1 hP hD hS => ?_)
  obtain ⟨fsl1_4, rfl⟩ : ∃ z, z = u3 := ⟨_, rfl⟩
  try dsimp only at w1 hP hD
  have hP := (hP.sub (ws' := [(h0, .inr (5, [.ref pad, .ref pp, .ref im, vse, vtr])), (pad, .inr (0, [.ref sg, .ref sl, .int (nI pm)])), (sg, .inl (gI G, 40, .inl fsg)), (sl, .inl (gI G, 10, .inl fsl1_4))]) [0, 1, 2, 3] rfl)
  have hD := (hD.sub (ws' := [(h0, .inr (5, [.ref pad, .ref pp, .ref im, vse, vtr])), (pad, .inr (0, [.ref sg, .ref sl, .int (nI pm)])), (sg, .inl (gI G, 40, .inl fsg)), (sl, .inl (gI G, 10, .inl fsl1_4))]) [0, 1, 2, 3] (by decide) rfl)
  obtain rfl : r2 = nI nn := w1.1
  refine lv_istore_n (lv' := [(2, .int (nI nn)), (0, .ref h0), (1, .int (nI ca))]) hx hb dX9_firstIdle_7 rfl hl (by decide) rfl (fun ls hl => ?_)
  refine lv_iload_n hx hb dX9_firstIdle_8 rfl (lv_at hl 2 rfl) ?_
  refine lv_istore_n (lv' := [(3, .int (nI ca)), (2, .int (nI nn)), (0, .ref h0), (1, .int (nI ca))]) hx hb dX9_firstIdle_9 rfl hl (by decide) rfl (fun ls hl => ?_)
  refine lv_iconst (v := 0) hx hb dX9_firstIdle_10 (by decide) ?_
  refine lv_istore (lv' := [(4, .int 0), (3, .int (nI ca)), (2, .int (nI nn)), (0, .ref h0), (1, .int (nI ca))]) hx hb dX9_firstIdle_11 hl (by decide) rfl (fun ls hl => ?_)
  refine lp_run (x0 := (0, ca)) (fun xx_ : Nat × Nat => match xx_ with | (x, qq) => [(h0, .inr (5, [.ref pad, .ref pp, .ref im, vse, vtr])), (pad, .inr (0, [.ref sg, .ref sl, .int (nI pm)])), (sg, .inl (gI G, 40, .inl fsg)), (sl, .inl (gI G, 10, .inl fsl1_4))]) (fun xx_ : Nat × Nat => match xx_ with | (x, qq) => [(4, .int (nI x)), (3, .int (nI qq)), (2, .int (nI nn)), (0, .ref h0), (1, .int (nI ca))]) (fun xx_ : Nat × Nat => match xx_ with | (x, qq) => (x ≤ nn) ∧ (∃ q, q < 5 ^ k ∧ qq = sc k q ∧ bdF k (fun t => slp fsg (pl fsg t)) nn 0 a = bdF k (fun t => slp fsg (pl fsg t)) (nn - x) x q)) (fun xx_ : Nat × Nat => match xx_ with | (x, qq) => nn - x) (hP.sub [0, 1, 2, 3] rfl) (hD.sub [0, 1, 2, 3] (by decide) rfl) hS (lv_sub hl [0, 1, 2, 3, 4] rfl) ⟨(by omega), ⟨a, ha, hca, by rw [Nat.sub_zero]⟩⟩ ?_
  intro xx_ hI ih13 H locs ls hP hD hS hl
  obtain ⟨x, qq⟩ := xx_
  dsimp only at hI ih13 hP hD hl
  obtain ⟨hx0, hqq⟩ := hI
  have hl : lv_has ls 6 [(4, .int (nI x)), (3, .int (nI qq)), (2, .int (nI nn)), (0, .ref h0), (1, .int (nI ca))] := hl
  have hP : va_P G.1 vwCl ([(h0, .inr (5, [.ref pad, .ref pp, .ref im, vse, vtr])), (pad, .inr (0, [.ref sg, .ref sl, .int (nI pm)])), (sg, .inl (gI G, 40, .inl fsg)), (sl, .inl (gI G, 10, .inl fsl1_4))]) H := hP
  have hD : va_D A ([(h0, .inr (5, [.ref pad, .ref pp, .ref im, vse, vtr])), (pad, .inr (0, [.ref sg, .ref sl, .int (nI pm)])), (sg, .inl (gI G, 40, .inl fsg)), (sl, .inl (gI G, 10, .inl fsl1_4))]) := hD
  refine lv_iload hx hb dX9_firstIdle_13 (lv_at hl 0 rfl) ?_
  refine lv_iload_n hx hb dX9_firstIdle_15 rfl (lv_at hl 2 rfl) ?_
  refine lv_icmp_ge (tgt := 52) hx hb dX9_firstIdle_16 (by decide) (fun c5 => ?_) (fun c5 => ?_)
  · have c5 : nn ≤ x := (nI_leI (a := nn) (b := x) (by omega) (by omega)).mp c5
    refine lv_bipush (v := (-6)) hx hb dX9_firstIdle_52 (by decide) ?_
    have hP9 := (hP.sub (ws' := [(h0, .inr (5, [.ref pad, .ref pp, .ref im, vse, vtr])), (pad, .inr (0, [.ref sg, .ref sl, .int (nI pm)])), (sg, .inl (gI G, 40, .inl fsg)), (sl, .inl (gI G, 10, .inl fsl1_4))]) [0, 1, 2, 3] rfl)
    have hD9 := (hD.sub (ws' := [(h0, .inr (5, [.ref pad, .ref pp, .ref im, vse, vtr])), (pad, .inr (0, [.ref sg, .ref sl, .int (nI pm)])), (sg, .inl (gI G, 40, .inl fsg)), (sl, .inl (gI G, 10, .inl fsl1_4))]) [0, 1, 2, 3] (by decide) rfl)
    exact W.iret (v := (-6)) hx hb hr (fun t9_ ht9_ hW9_ => ⟨⟨(-6), fsl1_4, rfl, by obtain ⟨q, hq, eq, hbd⟩ := hqq; rw [hbd, show nn - x = 0 by omega]; rfl, by rw [ht9_]; exact hP9, hD9⟩, hS.F ht9_⟩) hS.2.2 dX9_firstIdle_54
  · have c5 : ¬ nn ≤ x := fun h9_ => c5 ((nI_leI (a := nn) (b := x) (by omega) (by omega)).mpr h9_)
    obtain ⟨q, hq, eq, hbd⟩ := hqq
    have hs := (w1_ok hk2 hk6 (hno x (by omega))).2.2
    have hmo := mvOf_ok hk6 hs
    have hq6 : qq < 5 ^ 6 := by rw [eq]; exact sc_lt hk6 hq
    refine lv_iload_n hx hb dX9_firstIdle_19 rfl (lv_at hl 1 rfl) ?_
    refine lv_aload_n hx hb dX9_firstIdle_20 rfl (lv_at hl 3 rfl) ?_
    refine va_get (D := G.1) (ci := 5) (v := .ref pad) (C := RX9) (T := TX9) (N := 5) hx hb hts (fun _ h => List.mem_cons_of_mem _ (List.mem_append_left _ (List.mem_append_right _ h))) hown E.K hP 0 rfl rfl 0 (by decide) (hts (.fieldLink RX9 10 "LastMap" "pad" "LLastMap$Pad;") (by decide +kernel)) (fun _ h9 => h9) rfl dX9_firstIdle_21 ?_
    refine lv_iload hx hb dX9_firstIdle_24 (lv_at hl 0 rfl) ?_
    refine ca_iR (va_runV (As := [.int (nI x)]) (rest := [.int (nI qq)]) ⟨hx, hb, hml, hown, hts⟩ (n_slipAt l G H.size pad sg sl (nI pm) fsg fsl1_4 x (by omega)) (cwV 1 hts gX9_firstIdle_X2_slipAt rfl rfl rfl (by decide +kernel) ⟨by decide +kernel, by decide +kernel⟩) (pre_V E hP hD hS hA [1, 2, 3] (by decide) rfl 1 0 rfl rfl) rfl rfl hl.1 rfl (lv_room (Nat.le_of_ble_eq_true rfl)) dX9_firstIdle_26 ⟨by decide +kernel, by decide +kernel⟩) hS hP hD hA [1, 2, 3] rfl (fun r7 _ H locs w6 hP hS => ?_)
    obtain rfl : r7 = nI (100 * (mvOf (slp fsg (pl fsg x))).1 + 10 * (mvOf (slp fsg (pl fsg x))).2.1 + (mvOf (slp fsg (pl fsg x))).2.2) := by rw [w6, w1.2 x (by omega)]; exact hmo.2
    refine ca_iR (va_runS (As := [.int (nI qq), .int (nI (100 * (mvOf (slp fsg (pl fsg x))).1 + 10 * (mvOf (slp fsg (pl fsg x))).2.1 + (mvOf (slp fsg (pl fsg x))).2.2))]) (rest := []) ⟨hx, hb, hml, hown, hts⟩ (n_after l G H.size qq (100 * (mvOf (slp fsg (pl fsg x))).1 + 10 * (mvOf (slp fsg (pl fsg x))).2.1 + (mvOf (slp fsg (pl fsg x))).2.2) ((mvOf (slp fsg (pl fsg x))).1) ((mvOf (slp fsg (pl fsg x))).2.1) ((mvOf (slp fsg (pl fsg x))).2.2) hq6 (okV_six hk6 hmo.1) rfl) (va_cwS 2 hts gX9_firstIdle_X6_after rfl rfl rfl (by decide +kernel) ⟨by decide +kernel, by decide +kernel⟩) (pre_S E hP hD hS hA [] (by decide) rfl) rfl rfl hl.1 rfl (lv_room (Nat.le_of_ble_eq_true rfl)) dX9_firstIdle_29 ⟨by decide +kernel, by decide +kernel⟩) hS hP hD hA [] rfl (fun r9 _ H locs w8 hP hS => ?_)
    rw [w8]
    have e6 : slN 6 qq ((mvOf (slp fsg (pl fsg x))).1, (mvOf (slp fsg (pl fsg x))).2.1, (mvOf (slp fsg (pl fsg x))).2.2) = sc k (slN k q ((mvOf (slp fsg (pl fsg x))).1, (mvOf (slp fsg (pl fsg x))).2.1, (mvOf (slp fsg (pl fsg x))).2.2)) := by rw [eq]; exact slN_sc hk6 hmo.1
    have hb6 : slN 6 qq ((mvOf (slp fsg (pl fsg x))).1, (mvOf (slp fsg (pl fsg x))).2.1, (mvOf (slp fsg (pl fsg x))).2.2) < 5 ^ 6 := by rw [e6]; exact sc_lt hk6 (slN_lt hq hmo.1)
    refine lv_istore (lv' := [(5, .int (nI (slN 6 qq (((mvOf (slp fsg (pl fsg x))).1), ((mvOf (slp fsg (pl fsg x))).2.1), ((mvOf (slp fsg (pl fsg x))).2.2))))), (4, .int (nI x)), (3, .int (nI qq)), (2, .int (nI nn)), (0, .ref h0), (1, .int (nI ca))]) hx hb dX9_firstIdle_32 hl (by decide) rfl (fun ls hl => ?_)
    refine lv_iload hx hb dX9_firstIdle_34 (lv_at hl 0 rfl) ?_
    refine lv_iload_n hx hb dX9_firstIdle_36 rfl (lv_at hl 2 rfl) ?_
    refine lv_icmp_ne (tgt := 43) hx hb dX9_firstIdle_37 (by decide) (fun c10 => ?_) (fun c10 => ?_)
    · have c10 : ¬ (slN 6 qq (((mvOf (slp fsg (pl fsg x))).1), ((mvOf (slp fsg (pl fsg x))).2.1), ((mvOf (slp fsg (pl fsg x))).2.2))) = qq := fun h9_ => c10 ((nI_eq (a := (slN 6 qq (((mvOf (slp fsg (pl fsg x))).1), ((mvOf (slp fsg (pl fsg x))).2.1), ((mvOf (slp fsg (pl fsg x))).2.2)))) (b := qq) (by omega) (by omega)).mpr h9_)
      have hnew : ∃ q2, q2 < 5 ^ k ∧ slN 6 qq ((mvOf (slp fsg (pl fsg x))).1, (mvOf (slp fsg (pl fsg x))).2.1, (mvOf (slp fsg (pl fsg x))).2.2) = sc k q2 ∧ bdF k (fun t => slp fsg (pl fsg t)) nn 0 a = bdF k (fun t => slp fsg (pl fsg t)) (nn - (x + 1)) (x + 1) q2 := ⟨slN k q ((mvOf (slp fsg (pl fsg x))).1, (mvOf (slp fsg (pl fsg x))).2.1, (mvOf (slp fsg (pl fsg x))).2.2), slN_lt hq hmo.1, e6, by rw [hbd, show nn - x = (nn - (x + 1)) + 1 by omega]; exact if_neg (fun q9 => c10 (by rw [e6, show slN k q ((mvOf (slp fsg (pl fsg x))).1, (mvOf (slp fsg (pl fsg x))).2.1, (mvOf (slp fsg (pl fsg x))).2.2) = q from q9, ← eq]))⟩
      refine lv_iload hx hb dX9_firstIdle_43 (lv_at hl 0 rfl) ?_
      refine lv_istore_n (lv' := [(3, .int (nI (slN 6 qq (((mvOf (slp fsg (pl fsg x))).1), ((mvOf (slp fsg (pl fsg x))).2.1), ((mvOf (slp fsg (pl fsg x))).2.2))))), (5, .int (nI (slN 6 qq (((mvOf (slp fsg (pl fsg x))).1), ((mvOf (slp fsg (pl fsg x))).2.1), ((mvOf (slp fsg (pl fsg x))).2.2))))), (4, .int (nI x)), (2, .int (nI nn)), (0, .ref h0), (1, .int (nI ca))]) hx hb dX9_firstIdle_45 rfl hl (by decide) rfl (fun ls hl => ?_)
      obtain ⟨x11, ex11⟩ : ∃ yy_ : Int32, yy_ = (nI x) + 1 := ⟨_, rfl⟩
      refine lv_iinc (v := x11) (lv' := [(4, .int x11), (3, .int (nI (slN 6 qq (((mvOf (slp fsg (pl fsg x))).1), ((mvOf (slp fsg (pl fsg x))).2.1), ((mvOf (slp fsg (pl fsg x))).2.2))))), (5, .int (nI (slN 6 qq (((mvOf (slp fsg (pl fsg x))).1), ((mvOf (slp fsg (pl fsg x))).2.1), ((mvOf (slp fsg (pl fsg x))).2.2))))), (2, .int (nI nn)), (0, .ref h0), (1, .int (nI ca))]) hx hb dX9_firstIdle_46 hl (k := 2) rfl (by rw [ex11]; rfl) (by decide) rfl (fun ls hl => ?_)
      obtain rfl : x11 = nI (x + 1) := by rw [ex11]; exact nI_add x 1
      refine lv_goto (tgt := 13) hx hb dX9_firstIdle_49 (by decide) ?_
      refine ih13 ((x + 1), (slN 6 qq (((mvOf (slp fsg (pl fsg x))).1), ((mvOf (slp fsg (pl fsg x))).2.1), ((mvOf (slp fsg (pl fsg x))).2.2)))) ⟨?_, ?_⟩ (by first | omega | (dsimp only; omega)) H locs ls (hP.sub [0, 1, 2, 3] rfl) (hD.sub [0, 1, 2, 3] (by decide) rfl) hS (lv_sub hl [0, 1, 3, 4, 5] rfl)
      · try dsimp only
        omega
      · try dsimp only
        exact hnew
    · have c10 : (slN 6 qq (((mvOf (slp fsg (pl fsg x))).1), ((mvOf (slp fsg (pl fsg x))).2.1), ((mvOf (slp fsg (pl fsg x))).2.2))) = qq := (nI_eq (a := (slN 6 qq (((mvOf (slp fsg (pl fsg x))).1), ((mvOf (slp fsg (pl fsg x))).2.1), ((mvOf (slp fsg (pl fsg x))).2.2)))) (b := qq) (by omega) (by omega)).mp c10
      refine lv_iload hx hb dX9_firstIdle_40 (lv_at hl 1 rfl) ?_
      have hP9 := (hP.sub (ws' := [(h0, .inr (5, [.ref pad, .ref pp, .ref im, vse, vtr])), (pad, .inr (0, [.ref sg, .ref sl, .int (nI pm)])), (sg, .inl (gI G, 40, .inl fsg)), (sl, .inl (gI G, 10, .inl fsl1_4))]) [0, 1, 2, 3] rfl)
      have hD9 := (hD.sub (ws' := [(h0, .inr (5, [.ref pad, .ref pp, .ref im, vse, vtr])), (pad, .inr (0, [.ref sg, .ref sl, .int (nI pm)])), (sg, .inl (gI G, 40, .inl fsg)), (sl, .inl (gI G, 10, .inl fsl1_4))]) [0, 1, 2, 3] (by decide) rfl)
      exact W.iret (v := (nI x)) hx hb hr (fun t9_ ht9_ hW9_ => ⟨⟨nI x, fsl1_4, rfl, by rw [hbd, show nn - x = (nn - (x + 1)) + 1 by omega]; exact (if_pos (show slN k q ((mvOf (slp fsg (pl fsg x))).1, (mvOf (slp fsg (pl fsg x))).2.1, (mvOf (slp fsg (pl fsg x))).2.2) = q from sc_inj (k := k) (by rw [← e6, ← eq]; exact c10))).symm, by rw [ht9_]; exact hP9, hD9⟩, hS.F ht9_⟩) hS.2.2 dX9_firstIdle_42
