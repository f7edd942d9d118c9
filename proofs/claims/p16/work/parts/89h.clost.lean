set_option maxHeartbeats 1000000 in
set_option maxRecDepth 100000 in
theorem n_clearSums (l : Launch) (G : Gy) (sz : Nat) (sr : Nat) (rt : Nat) (ru : Nat) (ol : Int32) (gu : Nat → Int32)  : Cv l G yX4_clearSums wsX4_clearSums ({ frames := 1, cells := 0, slots := 0, locals := 23 }) [.ref sr] ([(sr, .inr (2, [.ref rt, .ref ru, .int ol])), (ru, .inl (gI G, 15625, .inl gu))]) sz (fun (gu1 : Nat → Int32) => ∀ j : Nat, j < 15625 → gu1 j = 0) (fun (gu1 : Nat → Int32) => [(sr, .inr (2, [.ref rt, .ref ru, .int ol])), (ru, .inl (gI G, 15625, .inl gu1))]) 0 0 := by
  refine Met.ofW (cc := cX4_clearSums) (maxL := 1) (ret := none) (by decide) rfl ?_
  intro p e s m args below meth c s₁ B hml hv
  obtain ⟨rfl, hsz, hP, hD0, E0⟩ := hv
  have hx := B.exec
  have hb := B.bytes
  have hr := B.returns
  have hts := atoms_spec (ws := wsX4_clearSums) B.pre
  have hown : s.vm.findClass RX4 = some m.cls := findClass_of_methodNamed B.named
  have hlocks := B.notSynchronized
  subst hsz
  have hD := hD0.self (sz := s.heap.size)
  generalize hAe : va_A ([(sr, .inr (2, [.ref rt, .ref ru, .int ol])), (ru, .inl (gI G, 15625, .inl gu))]) s.heap.size = A at hD E0 ⊢
  have E : EV G A s s.heap := E0
  have hA : ∀ q : Nat, s.heap.size ≤ q → A q := fun q h => by rw [← hAe]; exact Or.inr h
  have hS : va_S A s.heap s.heap [] := va_S.rf
  have hl := lv_entry ([.ref sr]) (n := 1) (Nat.le_of_ble_eq_true rfl)
  rw [lg_entry_eq]
  generalize (lg_sl ([.ref sr]) ++ List.replicate (1 - (lg_sl ([.ref sr])).length) Slot.unset).toArray = ls at hl ⊢
  have hl : lv_has ls 1 [(0, .ref sr)] := hl
  have hP : va_P G.1 vwCl ([(sr, .inr (2, [.ref rt, .ref ru, .int ol])), (ru, .inl (gI G, 15625, .inl gu))]) s.heap := hP
  refine lv_aload_n hx hb dX4_clearSums_0 rfl (lv_at hl 0 rfl) ?_
  refine va_get (D := G.1) (ci := 2) (v := .ref ru) (C := RX4) (T := TX4) (N := 3) hx hb hts (fun _ h => List.mem_cons_of_mem _ (List.mem_append_right _ h)) hown E.K hP 0 rfl rfl 1 (by decide) (hts (.fieldLink RX4 19 "LastMap$Search" "sums" "[I") (by decide +kernel)) (fun _ h9 => h9) rfl dX4_clearSums_1 ?_
  refine lv_iconst (v := 0) hx hb dX4_clearSums_4 (by decide) ?_
  refine ca_v (wr := [(sr, .inr (2, [.ref rt, .ref ru, .int ol]))]) (va_runS (As := [.ref ru, .int 0]) (rest := []) ⟨hx, hb, hml, hown, hts⟩ (n_fillI l G s.heap.size ru gu 0) (va_cwS 2 hts gX4_clearSums_J7_fill_53178 rfl rfl rfl (by decide +kernel) ⟨by decide +kernel, by decide +kernel⟩) (pre_S E hP hD hS hA [1] (by decide) rfl) rfl rfl hl.1 rfl (lv_room (Nat.le_of_ble_eq_true rfl)) dX4_clearSums_5 ⟨by decide +kernel, by decide +kernel⟩) hS hP hD hA [1] [0] rfl rfl (by decide) (by decide) (fun u3 H locs w1 hP hD hS => ?_)
  obtain ⟨f1_4, rfl⟩ : ∃ z, z = u3 := ⟨_, rfl⟩
  try dsimp only at w1 hP hD
  have hP := (hP.sub (ws' := [(sr, .inr (2, [.ref rt, .ref ru, .int ol])), (ru, .inl (gI G, 15625, .inl f1_4))]) [0, 1] rfl)
  have hD := (hD.sub (ws' := [(sr, .inr (2, [.ref rt, .ref ru, .int ol])), (ru, .inl (gI G, 15625, .inl f1_4))]) [0, 1] (by decide) rfl)
  have hP9 := (hP.sub (ws' := [(sr, .inr (2, [.ref rt, .ref ru, .int ol])), (ru, .inl (gI G, 15625, .inl f1_4))]) [0, 1] rfl)
  have hD9 := (hD.sub (ws' := [(sr, .inr (2, [.ref rt, .ref ru, .int ol])), (ru, .inl (gI G, 15625, .inl f1_4))]) [0, 1] (by decide) rfl)
  exact W.vret hx hb hr (fun t9_ ht9_ hW9_ => ⟨⟨f1_4, rfl, w1, by rw [ht9_]; exact hP9, hD9⟩, hS.F ht9_⟩) hS.2.2 dX4_clearSums_8

set_option maxHeartbeats 1000000 in
set_option maxRecDepth 100000 in
theorem n_sumOf (l : Launch) (G : Gy) (sz : Nat) (sr : Nat) (rt : Nat) (ru : Nat) (ol : Int32) (gu : Nat → Int32) (j : Nat) (hj : j < 15625) : Ci l G yX4_sumOf wsX4_sumOf ({ frames := 0, cells := 0, slots := 0, locals := 0 }) [.ref sr, .int (nI j)] ([(sr, .inr (2, [.ref rt, .ref ru, .int ol])), (ru, .inl (gI G, 15625, .inl gu))]) sz (fun (r : Int32) (_ : Unit) => r = gu j) (fun (_ : Unit) => [(sr, .inr (2, [.ref rt, .ref ru, .int ol])), (ru, .inl (gI G, 15625, .inl gu))]) 0 0 := by
  refine Met.ofW (cc := cX4_sumOf) (maxL := 2) (ret := (some .int)) (by decide) rfl ?_
  intro p e s m args below meth c s₁ B hml hv
  obtain ⟨rfl, hsz, hP, hD0, E0⟩ := hv
  have hx := B.exec
  have hb := B.bytes
  have hr := B.returns
  have hts := atoms_spec (ws := wsX4_sumOf) B.pre
  have hown : s.vm.findClass RX4 = some m.cls := findClass_of_methodNamed B.named
  have hlocks := B.notSynchronized
  subst hsz
  have hD := hD0.self (sz := s.heap.size)
  generalize hAe : va_A ([(sr, .inr (2, [.ref rt, .ref ru, .int ol])), (ru, .inl (gI G, 15625, .inl gu))]) s.heap.size = A at hD E0 ⊢
  have E : EV G A s s.heap := E0
  have hA : ∀ q : Nat, s.heap.size ≤ q → A q := fun q h => by rw [← hAe]; exact Or.inr h
  have hS : va_S A s.heap s.heap [] := va_S.rf
  have hl := lv_entry ([.ref sr, .int (nI j)]) (n := 2) (Nat.le_of_ble_eq_true rfl)
  rw [lg_entry_eq]
  generalize (lg_sl ([.ref sr, .int (nI j)]) ++ List.replicate (2 - (lg_sl ([.ref sr, .int (nI j)])).length) Slot.unset).toArray = ls at hl ⊢
  have hl : lv_has ls 2 [(0, .ref sr), (1, .int (nI j))] := hl
  have hP : va_P G.1 vwCl ([(sr, .inr (2, [.ref rt, .ref ru, .int ol])), (ru, .inl (gI G, 15625, .inl gu))]) s.heap := hP
  refine lv_iload_n hx hb dX4_sumOf_0 rfl (lv_at hl 1 rfl) ?_
  refine lv_if_lt (tgt := 22) hx hb dX4_sumOf_1 (by decide) (fun c1 => absurd c1 (nI_pos (by omega))) (fun c1 => ?_)
  refine lv_iload_n hx hb dX4_sumOf_4 rfl (lv_at hl 1 rfl) ?_
  refine lv_aload_n hx hb dX4_sumOf_5 rfl (lv_at hl 0 rfl) ?_
  refine va_get (D := G.1) (ci := 2) (v := .ref ru) (C := RX4) (T := TX4) (N := 3) hx hb hts (fun _ h => List.mem_cons_of_mem _ (List.mem_append_right _ h)) hown E.K hP 0 rfl rfl 1 (by decide) (hts (.fieldLink RX4 19 "LastMap$Search" "sums" "[I") (by decide +kernel)) (fun _ h9 => h9) rfl dX4_sumOf_6 ?_
  refine va_alen (v := 15625) hx hb E.K hP 1 1 rfl rfl rfl dX4_sumOf_9 ?_
  refine lv_icmp_ge (tgt := 22) hx hb dX4_sumOf_10 (by decide) (fun c2 => False.elim (by have q9 := (nI_leI (a := 15625) (b := j) (by omega) (by omega)).mp c2; omega)) (fun c2 => ?_)
  refine lv_aload_n hx hb dX4_sumOf_13 rfl (lv_at hl 0 rfl) ?_
  refine va_get (D := G.1) (ci := 2) (v := .ref ru) (C := RX4) (T := TX4) (N := 3) hx hb hts (fun _ h => List.mem_cons_of_mem _ (List.mem_append_right _ h)) hown E.K hP 0 rfl rfl 1 (by decide) (hts (.fieldLink RX4 19 "LastMap$Search" "sums" "[I") (by decide +kernel)) (fun _ h9 => h9) rfl dX4_sumOf_14 ?_
  refine lv_iload_n hx hb dX4_sumOf_17 rfl (lv_at hl 1 rfl) ?_
  refine va_iald hx hb E.K hP 1 1 rfl rfl (i := nI j) (vp_in_nI (by omega) (by decide)) dX4_sumOf_18 ?_
  refine lv_topi (fun x3 ex3 => ?_)
  refine lv_goto (tgt := 24) hx hb dX4_sumOf_19 (by decide) ?_
  have hP9 := (hP.sub (ws' := [(sr, .inr (2, [.ref rt, .ref ru, .int ol])), (ru, .inl (gI G, 15625, .inl gu))]) [0, 1] rfl)
  have hD9 := (hD.sub (ws' := [(sr, .inr (2, [.ref rt, .ref ru, .int ol])), (ru, .inl (gI G, 15625, .inl gu))]) [0, 1] (by decide) rfl)
  exact W.iret (v := x3) hx hb hr (fun t9_ ht9_ hW9_ => ⟨⟨x3, (), rfl, by rw [ex3, nI_clamp (by omega)], by rw [ht9_]; exact hP9, hD9⟩, hS.F ht9_⟩) hS.2.2 dX4_sumOf_24

set_option maxHeartbeats 1000000 in
set_option maxRecDepth 100000 in
theorem n_addToSums (l : Launch) (G : Gy) (sz : Nat) (sr : Nat) (rt : Nat) (ru : Nat) (ol : Int32) (gu : Nat → Int32) (t : Nat) (ta : Nat) (tq : Nat) (k : Nat) (cq : Nat) (yq : Nat) (go : Int32) (ki : Int32) (fs : Nat → Int32) (fq : Nat → Int32) (S : Nat → Prop) (hk2 : 2 ≤ k) (hk6 : k ≤ 6) (hbk : BK k (bK ki) S yq cq fs fq) : Cv l G yX4_addToSums wsX4_addToSums ({ frames := 4, cells := 0, slots := 0, locals := 92 }) [.ref sr, .ref t] ([(sr, .inr (2, [.ref rt, .ref ru, .int ol])), (ru, .inl (gI G, 15625, .inl gu)), (t, .inr (3, [.ref ta, .ref tq, .int (nI cq), .int (nI yq), .int go, .int ki, .int (nI k)])), (ta, .inl (gB G, 15625, .inl fs)), (tq, .inl (gI G, 15625, .inl fq))]) sz (fun (u : (Nat → Int32) × Nat × Nat × (Nat → Int32) × (Nat → Int32)) => match u with | (gu1, cq1, yq1, fs1, fq1) => BK k (bK ki) S yq1 cq1 fs1 fq1 ∧ (∀ x, x < 5 ^ k → askd k (bK ki) S fs1 x) ∧ ∀ j : Nat, j < 15625 → gu1 j = adS (fs1 j) (gu j)) (fun (u : (Nat → Int32) × Nat × Nat × (Nat → Int32) × (Nat → Int32)) => match u with | (gu1, cq1, yq1, fs1, fq1) => [(sr, .inr (2, [.ref rt, .ref ru, .int ol])), (ru, .inl (gI G, 15625, .inl gu1)), (t, .inr (3, [.ref ta, .ref tq, .int (nI cq1), .int (nI yq1), .int go, .int ki, .int (nI k)])), (ta, .inl (gB G, 15625, .inl fs1)), (tq, .inl (gI G, 15625, .inl fq1))]) 0 0 := by
  refine Met.ofW (cc := cX4_addToSums) (maxL := 4) (ret := none) (by decide) rfl ?_
  intro p e s m args below meth c s₁ B hml hv
  obtain ⟨rfl, hsz, hP, hD0, E0⟩ := hv
  have hx := B.exec
  have hb := B.bytes
  have hr := B.returns
  have hts := atoms_spec (ws := wsX4_addToSums) B.pre
  have hown : s.vm.findClass RX4 = some m.cls := findClass_of_methodNamed B.named
  have hlocks := B.notSynchronized
  subst hsz
  have hD := hD0.self (sz := s.heap.size)
  generalize hAe : va_A ([(sr, .inr (2, [.ref rt, .ref ru, .int ol])), (ru, .inl (gI G, 15625, .inl gu)), (t, .inr (3, [.ref ta, .ref tq, .int (nI cq), .int (nI yq), .int go, .int ki, .int (nI k)])), (ta, .inl (gB G, 15625, .inl fs)), (tq, .inl (gI G, 15625, .inl fq))]) s.heap.size = A at hD E0 ⊢
  have E : EV G A s s.heap := E0
  have hA : ∀ q : Nat, s.heap.size ≤ q → A q := fun q h => by rw [← hAe]; exact Or.inr h
  have hS : va_S A s.heap s.heap [] := va_S.rf
  have hl := lv_entry ([.ref sr, .ref t]) (n := 4) (Nat.le_of_ble_eq_true rfl)
  rw [lg_entry_eq]
  generalize (lg_sl ([.ref sr, .ref t]) ++ List.replicate (4 - (lg_sl ([.ref sr, .ref t])).length) Slot.unset).toArray = ls at hl ⊢
  have hl : lv_has ls 4 [(0, .ref sr), (1, .ref t)] := hl
  have hP : va_P G.1 vwCl ([(sr, .inr (2, [.ref rt, .ref ru, .int ol])), (ru, .inl (gI G, 15625, .inl gu)), (t, .inr (3, [.ref ta, .ref tq, .int (nI cq), .int (nI yq), .int go, .int ki, .int (nI k)])), (ta, .inl (gB G, 15625, .inl fs)), (tq, .inl (gI G, 15625, .inl fq))]) s.heap := hP
  refine lv_aload_n hx hb dX4_addToSums_0 rfl (lv_at hl 1 rfl) ?_
  refine ca_v (wr := [(sr, .inr (2, [.ref rt, .ref ru, .int ol])), (ru, .inl (gI G, 15625, .inl gu))]) (va_runV (As := []) (rest := []) ⟨hx, hb, hml, hown, hts⟩ (n_searchAll l G s.heap.size t ta tq k cq yq go ki fs fq S hk2 hk6 hbk) (cwV 0 hts gX4_addToSums_X7_searchAll rfl rfl rfl (by decide +kernel) ⟨by decide +kernel, by decide +kernel⟩) (pre_V E hP hD hS hA [2, 3, 4] (by decide) rfl 2 3 rfl rfl) rfl rfl hl.1 rfl (lv_room (Nat.le_of_ble_eq_true rfl)) dX4_addToSums_1 ⟨by decide +kernel, by decide +kernel⟩) hS hP hD hA [2, 3, 4] [0, 1] rfl rfl (by decide) (by decide) (fun u3 H locs w1 hP hD hS => ?_)
  obtain ⟨cq1_4, yq1_5, fs1_6, fq1_7⟩ := u3
  try dsimp only at w1 hP hD
  have hP := (hP.sub (ws' := [(sr, .inr (2, [.ref rt, .ref ru, .int ol])), (ru, .inl (gI G, 15625, .inl gu)), (t, .inr (3, [.ref ta, .ref tq, .int (nI cq1_4), .int (nI yq1_5), .int go, .int ki, .int (nI k)])), (ta, .inl (gB G, 15625, .inl fs1_6)), (tq, .inl (gI G, 15625, .inl fq1_7))]) [0, 1, 2, 3, 4] rfl)
  have hD := (hD.sub (ws' := [(sr, .inr (2, [.ref rt, .ref ru, .int ol])), (ru, .inl (gI G, 15625, .inl gu)), (t, .inr (3, [.ref ta, .ref tq, .int (nI cq1_4), .int (nI yq1_5), .int go, .int ki, .int (nI k)])), (ta, .inl (gB G, 15625, .inl fs1_6)), (tq, .inl (gI G, 15625, .inl fq1_7))]) [0, 1, 2, 3, 4] (by decide) rfl)
  refine lv_iconst (v := 0) hx hb dX4_addToSums_4 (by decide) ?_
  refine lv_istore_n (lv' := [(2, .int 0), (0, .ref sr), (1, .ref t)]) hx hb dX4_addToSums_5 rfl hl (by decide) rfl (fun ls hl => ?_)
  refine lp_run (x0 := (0, gu)) (fun xx_ : Nat × (Nat → Int32) => match xx_ with | (x, gx) => [(sr, .inr (2, [.ref rt, .ref ru, .int ol])), (ru, .inl (gI G, 15625, .inl gx)), (t, .inr (3, [.ref ta, .ref tq, .int (nI cq1_4), .int (nI yq1_5), .int go, .int ki, .int (nI k)])), (ta, .inl (gB G, 15625, .inl fs1_6)), (tq, .inl (gI G, 15625, .inl fq1_7))]) (fun xx_ : Nat × (Nat → Int32) => match xx_ with | (x, gx) => [(2, .int (nI x)), (0, .ref sr), (1, .ref t)]) (fun xx_ : Nat × (Nat → Int32) => match xx_ with | (x, gx) => (x ≤ 15625) ∧ (∀ j : Nat, j < x → gx j = adS (fs1_6 j) (gu j)) ∧ (∀ j : Nat, x ≤ j → gx j = gu j)) (fun xx_ : Nat × (Nat → Int32) => match xx_ with | (x, gx) => 15625 - x) (hP.sub [0, 1, 2, 3, 4] rfl) (hD.sub [0, 1, 2, 3, 4] (by decide) rfl) hS (lv_sub hl [0, 1, 2] rfl) ⟨(by omega), by intro j9 h9; omega, fun _ _ => rfl⟩ ?_
  intro xx_ hI ih6 H locs ls hP hD hS hl
  obtain ⟨x, gx⟩ := xx_
  dsimp only at hI ih6 hP hD hl
  obtain ⟨hx0, hlo, hhi⟩ := hI
  have hl : lv_has ls 4 [(2, .int (nI x)), (0, .ref sr), (1, .ref t)] := hl
  have hP : va_P G.1 vwCl ([(sr, .inr (2, [.ref rt, .ref ru, .int ol])), (ru, .inl (gI G, 15625, .inl gx)), (t, .inr (3, [.ref ta, .ref tq, .int (nI cq1_4), .int (nI yq1_5), .int go, .int ki, .int (nI k)])), (ta, .inl (gB G, 15625, .inl fs1_6)), (tq, .inl (gI G, 15625, .inl fq1_7))]) H := hP
  have hD : va_D A ([(sr, .inr (2, [.ref rt, .ref ru, .int ol])), (ru, .inl (gI G, 15625, .inl gx)), (t, .inr (3, [.ref ta, .ref tq, .int (nI cq1_4), .int (nI yq1_5), .int go, .int ki, .int (nI k)])), (ta, .inl (gB G, 15625, .inl fs1_6)), (tq, .inl (gI G, 15625, .inl fq1_7))]) := hD
  refine lv_iload_n hx hb dX4_addToSums_6 rfl (lv_at hl 0 rfl) ?_
  refine lv_aload_n hx hb dX4_addToSums_7 rfl (lv_at hl 1 rfl) ?_
  refine va_get (D := G.1) (ci := 2) (v := .ref ru) (C := RX4) (T := TX4) (N := 3) hx hb hts (fun _ h => List.mem_cons_of_mem _ (List.mem_append_left _ (List.mem_append_right _ h))) hown E.K hP 0 rfl rfl 1 (by decide) (hts (.fieldLink RX4 19 "LastMap$Search" "sums" "[I") (by decide +kernel)) (fun _ h9 => h9) rfl dX4_addToSums_8 ?_
  refine va_alen (v := 15625) hx hb E.K hP 1 1 rfl rfl rfl dX4_addToSums_11 ?_
  refine lv_icmp_ge (tgt := 59) hx hb dX4_addToSums_12 (by decide) (fun c8 => ?_) (fun c8 => ?_)
  · have c8 : 15625 ≤ x := (nI_leI (a := 15625) (b := x) (by omega) (by omega)).mp c8
    have hP9 := (hP.sub (ws' := [(sr, .inr (2, [.ref rt, .ref ru, .int ol])), (ru, .inl (gI G, 15625, .inl gx)), (t, .inr (3, [.ref ta, .ref tq, .int (nI cq1_4), .int (nI yq1_5), .int go, .int ki, .int (nI k)])), (ta, .inl (gB G, 15625, .inl fs1_6)), (tq, .inl (gI G, 15625, .inl fq1_7))]) [0, 1, 2, 3, 4] rfl)
    have hD9 := (hD.sub (ws' := [(sr, .inr (2, [.ref rt, .ref ru, .int ol])), (ru, .inl (gI G, 15625, .inl gx)), (t, .inr (3, [.ref ta, .ref tq, .int (nI cq1_4), .int (nI yq1_5), .int go, .int ki, .int (nI k)])), (ta, .inl (gB G, 15625, .inl fs1_6)), (tq, .inl (gI G, 15625, .inl fq1_7))]) [0, 1, 2, 3, 4] (by decide) rfl)
    exact W.vret hx hb hr (fun t9_ ht9_ hW9_ => ⟨⟨(gx, cq1_4, yq1_5, fs1_6, fq1_7), rfl, ⟨w1.1, w1.2, fun j9 h9 => hlo j9 (by omega)⟩, by rw [ht9_]; exact hP9, hD9⟩, hS.F ht9_⟩) hS.2.2 dX4_addToSums_59
  · have c8 : ¬ 15625 ≤ x := fun h9_ => c8 ((nI_leI (a := 15625) (b := x) (by omega) (by omega)).mpr h9_)
    refine lv_aload_n hx hb dX4_addToSums_15 rfl (lv_at hl 2 rfl) ?_
    refine lv_iload_n hx hb dX4_addToSums_16 rfl (lv_at hl 0 rfl) ?_
    refine ca_iR (va_runV (As := [.int (nI x)]) (rest := []) ⟨hx, hb, hml, hown, hts⟩ (c_known l G H.size t ta tq (nI cq1_4) (nI yq1_5) go ki (nI k) fs1_6 fq1_7 (nI x)) (cwV 1 hts gX4_addToSums_X7_known rfl rfl rfl (by decide +kernel) ⟨by decide +kernel, by decide +kernel⟩) (pre_V E hP hD hS hA [2, 3, 4] (by decide) rfl 2 3 rfl rfl) rfl rfl hl.1 rfl (lv_room (Nat.le_of_ble_eq_true rfl)) dX4_addToSums_17 ⟨by decide +kernel, by decide +kernel⟩) hS hP hD hA [2, 3, 4] rfl (fun r10 _ H locs w9 hP hS => ?_)
    obtain rfl : r10 = fs1_6 x := by rw [w9]; exact kn_nat (by omega)
    refine lv_istore_n (lv' := [(3, .int (fs1_6 x)), (2, .int (nI x)), (0, .ref sr), (1, .ref t)]) hx hb dX4_addToSums_20 rfl hl (by decide) rfl (fun ls hl => ?_)
    refine lv_aload_n hx hb dX4_addToSums_21 rfl (lv_at hl 2 rfl) ?_
    refine va_get (D := G.1) (ci := 2) (v := .ref ru) (C := RX4) (T := TX4) (N := 3) hx hb hts (fun _ h => List.mem_cons_of_mem _ (List.mem_append_left _ (List.mem_append_right _ h))) hown E.K hP 0 rfl rfl 1 (by decide) (hts (.fieldLink RX4 19 "LastMap$Search" "sums" "[I") (by decide +kernel)) (fun _ h9 => h9) rfl dX4_addToSums_22 ?_
    refine lv_iload_n hx hb dX4_addToSums_25 rfl (lv_at hl 1 rfl) ?_
    refine lv_iload_n hx hb dX4_addToSums_26 rfl (lv_at hl 0 rfl) ?_
    refine lv_if_lt (tgt := 39) hx hb dX4_addToSums_27 (by decide) (fun c11 => ?_) (fun c11 => ?_)
    · refine lv_bipush (v := (-6)) hx hb dX4_addToSums_39 (by decide) ?_
      refine lv_goto (tgt := 52) hx hb dX4_addToSums_41 (by decide) ?_
      refine va_iast hx hb E.K hP hD hS 1 1 rfl rfl (i := nI x) (vp_in_nI (by omega) (by decide)) dX4_addToSums_52 (fun H locs hP hD hS => ?_)
      obtain ⟨f12, ef12⟩ : ∃ yy_ : Nat → Int32, yy_ = upd gx (nI x).toNatClampNeg (-6) := ⟨_, rfl⟩
      have hP : va_P G.1 vwCl ([(sr, .inr (2, [.ref rt, .ref ru, .int ol])), (ru, .inl (gI G, 15625, .inl f12)), (t, .inr (3, [.ref ta, .ref tq, .int (nI cq1_4), .int (nI yq1_5), .int go, .int ki, .int (nI k)])), (ta, .inl (gB G, 15625, .inl fs1_6)), (tq, .inl (gI G, 15625, .inl fq1_7))]) H := by rw [ef12]; exact hP
      have hD : va_D A ([(sr, .inr (2, [.ref rt, .ref ru, .int ol])), (ru, .inl (gI G, 15625, .inl f12)), (t, .inr (3, [.ref ta, .ref tq, .int (nI cq1_4), .int (nI yq1_5), .int go, .int ki, .int (nI k)])), (ta, .inl (gB G, 15625, .inl fs1_6)), (tq, .inl (gI G, 15625, .inl fq1_7))]) := by rw [ef12]; exact hD
      obtain ⟨x13, ex13⟩ : ∃ yy_ : Int32, yy_ = (nI x) + 1 := ⟨_, rfl⟩
      refine lv_iinc (v := x13) (lv' := [(2, .int x13), (3, .int (fs1_6 x)), (0, .ref sr), (1, .ref t)]) hx hb dX4_addToSums_53 hl (k := 1) rfl (by rw [ex13]; rfl) (by decide) rfl (fun ls hl => ?_)
      obtain rfl : x13 = nI (x + 1) := by rw [ex13]; exact nI_add x 1
      refine lv_goto (tgt := 6) hx hb dX4_addToSums_56 (by decide) ?_
      refine ih6 ((x + 1), f12) ⟨?_, ?_, ?_⟩ (by first | omega | (dsimp only; omega)) H locs ls (hP.sub [0, 1, 2, 3, 4] rfl) (hD.sub [0, 1, 2, 3, 4] (by decide) rfl) hS (lv_sub hl [0, 2, 3] rfl)
      · try dsimp only
        omega
      · try dsimp only
        intro j9 h9; rw [ef12, nI_clamp (by omega)]
        by_cases e9 : j9 = x
        · rw [e9, pk_us]; exact (show _ = adS (fs1_6 x) (gu x) from (cIf_t (Or.inl c11)).symm)
        · rw [pk_un e9]; exact hlo j9 (by omega)
      · try dsimp only
        intro j9 h9; rw [ef12, nI_clamp (by omega), pk_un (by omega)]; exact hhi j9 (by omega)
    · refine lv_aload_n hx hb dX4_addToSums_30 rfl (lv_at hl 2 rfl) ?_
      refine va_get (D := G.1) (ci := 2) (v := .ref ru) (C := RX4) (T := TX4) (N := 3) hx hb hts (fun _ h => List.mem_cons_of_mem _ (List.mem_append_left _ (List.mem_append_right _ h))) hown E.K hP 0 rfl rfl 1 (by decide) (hts (.fieldLink RX4 19 "LastMap$Search" "sums" "[I") (by decide +kernel)) (fun _ h9 => h9) rfl dX4_addToSums_31 ?_
      refine lv_iload_n hx hb dX4_addToSums_34 rfl (lv_at hl 1 rfl) ?_
      refine va_iald hx hb E.K hP 1 1 rfl rfl (i := nI x) (vp_in_nI (by omega) (by decide)) dX4_addToSums_35 ?_
      refine lv_topi (fun x14 ex14 => ?_)
      obtain rfl : x14 = gu x := by rw [ex14, nI_clamp (by omega)]; exact hhi x (Nat.le_refl _)
      refine lv_if_ge (tgt := 44) hx hb dX4_addToSums_36 (by decide) (fun c15 => ?_) (fun c15 => ?_)
      · refine lv_aload_n hx hb dX4_addToSums_44 rfl (lv_at hl 2 rfl) ?_
        refine va_get (D := G.1) (ci := 2) (v := .ref ru) (C := RX4) (T := TX4) (N := 3) hx hb hts (fun _ h => List.mem_cons_of_mem _ (List.mem_append_left _ (List.mem_append_right _ h))) hown E.K hP 0 rfl rfl 1 (by decide) (hts (.fieldLink RX4 19 "LastMap$Search" "sums" "[I") (by decide +kernel)) (fun _ h9 => h9) rfl dX4_addToSums_45 ?_
        refine lv_iload_n hx hb dX4_addToSums_48 rfl (lv_at hl 1 rfl) ?_
        refine va_iald hx hb E.K hP 1 1 rfl rfl (i := nI x) (vp_in_nI (by omega) (by decide)) dX4_addToSums_49 ?_
        refine lv_topi (fun x16 ex16 => ?_)
        obtain rfl : x16 = gu x := by rw [ex16, nI_clamp (by omega)]; exact hhi x (Nat.le_refl _)
        refine lv_iload_n hx hb dX4_addToSums_50 rfl (lv_at hl 0 rfl) ?_
        refine lv_iadd hx hb dX4_addToSums_51 ?_
        refine lv_topi (fun x17 ex17 => ?_)
        refine va_iast hx hb E.K hP hD hS 1 1 rfl rfl (i := nI x) (vp_in_nI (by omega) (by decide)) dX4_addToSums_52 (fun H locs hP hD hS => ?_)
        obtain ⟨f18, ef18⟩ : ∃ yy_ : Nat → Int32, yy_ = upd gx (nI x).toNatClampNeg x17 := ⟨_, rfl⟩
        have hP : va_P G.1 vwCl ([(sr, .inr (2, [.ref rt, .ref ru, .int ol])), (ru, .inl (gI G, 15625, .inl f18)), (t, .inr (3, [.ref ta, .ref tq, .int (nI cq1_4), .int (nI yq1_5), .int go, .int ki, .int (nI k)])), (ta, .inl (gB G, 15625, .inl fs1_6)), (tq, .inl (gI G, 15625, .inl fq1_7))]) H := by rw [ef18]; exact hP
        have hD : va_D A ([(sr, .inr (2, [.ref rt, .ref ru, .int ol])), (ru, .inl (gI G, 15625, .inl f18)), (t, .inr (3, [.ref ta, .ref tq, .int (nI cq1_4), .int (nI yq1_5), .int go, .int ki, .int (nI k)])), (ta, .inl (gB G, 15625, .inl fs1_6)), (tq, .inl (gI G, 15625, .inl fq1_7))]) := by rw [ef18]; exact hD
        obtain ⟨x19, ex19⟩ : ∃ yy_ : Int32, yy_ = (nI x) + 1 := ⟨_, rfl⟩
        refine lv_iinc (v := x19) (lv' := [(2, .int x19), (3, .int (fs1_6 x)), (0, .ref sr), (1, .ref t)]) hx hb dX4_addToSums_53 hl (k := 1) rfl (by rw [ex19]; rfl) (by decide) rfl (fun ls hl => ?_)
        obtain rfl : x19 = nI (x + 1) := by rw [ex19]; exact nI_add x 1
        refine lv_goto (tgt := 6) hx hb dX4_addToSums_56 (by decide) ?_
        refine ih6 ((x + 1), f18) ⟨?_, ?_, ?_⟩ (by first | omega | (dsimp only; omega)) H locs ls (hP.sub [0, 1, 2, 3, 4] rfl) (hD.sub [0, 1, 2, 3, 4] (by decide) rfl) hS (lv_sub hl [0, 2, 3] rfl)
        · try dsimp only
          omega
        · try dsimp only
          intro j9 h9; rw [ef18, nI_clamp (by omega)]
          by_cases e9 : j9 = x
          · rw [e9, pk_us]; exact (show _ = adS (fs1_6 x) (gu x) from by rw [ex17]; exact (cIf_f (fun q9 => q9.elim c11 (by have q9 := c15; simp only [i3_le, i3_lt, Int32.reduceToInt] at q9 ⊢; omega))).symm)
          · rw [pk_un e9]; exact hlo j9 (by omega)
        · try dsimp only
          intro j9 h9; rw [ef18, nI_clamp (by omega), pk_un (by omega)]; exact hhi j9 (by omega)
      · refine lv_bipush (v := (-6)) hx hb dX4_addToSums_39 (by decide) ?_
        refine lv_goto (tgt := 52) hx hb dX4_addToSums_41 (by decide) ?_
        refine va_iast hx hb E.K hP hD hS 1 1 rfl rfl (i := nI x) (vp_in_nI (by omega) (by decide)) dX4_addToSums_52 (fun H locs hP hD hS => ?_)
        obtain ⟨f20, ef20⟩ : ∃ yy_ : Nat → Int32, yy_ = upd gx (nI x).toNatClampNeg (-6) := ⟨_, rfl⟩
        have hP : va_P G.1 vwCl ([(sr, .inr (2, [.ref rt, .ref ru, .int ol])), (ru, .inl (gI G, 15625, .inl f20)), (t, .inr (3, [.ref ta, .ref tq, .int (nI cq1_4), .int (nI yq1_5), .int go, .int ki, .int (nI k)])), (ta, .inl (gB G, 15625, .inl fs1_6)), (tq, .inl (gI G, 15625, .inl fq1_7))]) H := by rw [ef20]; exact hP
        have hD : va_D A ([(sr, .inr (2, [.ref rt, .ref ru, .int ol])), (ru, .inl (gI G, 15625, .inl f20)), (t, .inr (3, [.ref ta, .ref tq, .int (nI cq1_4), .int (nI yq1_5), .int go, .int ki, .int (nI k)])), (ta, .inl (gB G, 15625, .inl fs1_6)), (tq, .inl (gI G, 15625, .inl fq1_7))]) := by rw [ef20]; exact hD
        obtain ⟨x21, ex21⟩ : ∃ yy_ : Int32, yy_ = (nI x) + 1 := ⟨_, rfl⟩
        refine lv_iinc (v := x21) (lv' := [(2, .int x21), (3, .int (fs1_6 x)), (0, .ref sr), (1, .ref t)]) hx hb dX4_addToSums_53 hl (k := 1) rfl (by rw [ex21]; rfl) (by decide) rfl (fun ls hl => ?_)
        obtain rfl : x21 = nI (x + 1) := by rw [ex21]; exact nI_add x 1
        refine lv_goto (tgt := 6) hx hb dX4_addToSums_56 (by decide) ?_
        refine ih6 ((x + 1), f20) ⟨?_, ?_, ?_⟩ (by first | omega | (dsimp only; omega)) H locs ls (hP.sub [0, 1, 2, 3, 4] rfl) (hD.sub [0, 1, 2, 3, 4] (by decide) rfl) hS (lv_sub hl [0, 2, 3] rfl)
        · try dsimp only
          omega
        · try dsimp only
          intro j9 h9; rw [ef20, nI_clamp (by omega)]
          by_cases e9 : j9 = x
          · rw [e9, pk_us]; exact (show _ = adS (fs1_6 x) (gu x) from (cIf_t (Or.inr (by have q9 := c15; simp only [i3_le, i3_lt, Int32.reduceToInt] at q9 ⊢; omega))).symm)
          · rw [pk_un e9]; exact hlo j9 (by omega)
        · try dsimp only
          intro j9 h9; rw [ef20, nI_clamp (by omega), pk_un (by omega)]; exact hhi j9 (by omega)

set_option maxHeartbeats 1000000 in
set_option maxRecDepth 100000 in
theorem n_firstOfLeast (l : Launch) (G : Gy) (sz : Nat) (sr : Nat) (rt : Nat) (ru : Nat) (ol : Int32) (gu : Nat → Int32) (k : Nat) (f : Nat → Nat) (hk2 : 2 ≤ k) (hk6 : k ≤ 6) (hgu : ∀ z, z < 5 ^ k → gu (sc k z) = clS (f z)) : Ci l G yX4_firstOfLeastSum wsX4_firstOfLeastSum ({ frames := 1, cells := 0, slots := 0, locals := 21 }) [.ref sr, .int (nI k)] ([(sr, .inr (2, [.ref rt, .ref ru, .int ol])), (ru, .inl (gI G, 15625, .inl gu))]) sz (fun (r : Int32) (_ : Unit) => fsL k f (5 ^ k) r) (fun (_ : Unit) => [(sr, .inr (2, [.ref rt, .ref ru, .int ol])), (ru, .inl (gI G, 15625, .inl gu))]) 0 0 := by
  refine Met.ofW (cc := cX4_firstOfLeastSum) (maxL := 5) (ret := (some .int)) (by decide) rfl ?_
  intro p e s m args below meth c s₁ B hml hv
  obtain ⟨rfl, hsz, hP, hD0, E0⟩ := hv
  have hx := B.exec
  have hb := B.bytes
  have hr := B.returns
  have hts := atoms_spec (ws := wsX4_firstOfLeastSum) B.pre
  have hown : s.vm.findClass RX4 = some m.cls := findClass_of_methodNamed B.named
  have hlocks := B.notSynchronized
  subst hsz
  have hD := hD0.self (sz := s.heap.size)
  generalize hAe : va_A ([(sr, .inr (2, [.ref rt, .ref ru, .int ol])), (ru, .inl (gI G, 15625, .inl gu))]) s.heap.size = A at hD E0 ⊢
  have E : EV G A s s.heap := E0
  have hA : ∀ q : Nat, s.heap.size ≤ q → A q := fun q h => by rw [← hAe]; exact Or.inr h
  have hS : va_S A s.heap s.heap [] := va_S.rf
  have hl := lv_entry ([.ref sr, .int (nI k)]) (n := 5) (Nat.le_of_ble_eq_true rfl)
  rw [lg_entry_eq]
  generalize (lg_sl ([.ref sr, .int (nI k)]) ++ List.replicate (5 - (lg_sl ([.ref sr, .int (nI k)])).length) Slot.unset).toArray = ls at hl ⊢
  have hl : lv_has ls 5 [(0, .ref sr), (1, .int (nI k))] := hl
  have hP : va_P G.1 vwCl ([(sr, .inr (2, [.ref rt, .ref ru, .int ol])), (ru, .inl (gI G, 15625, .inl gu))]) s.heap := hP
  refine lv_bipush (v := (-6)) hx hb dX4_firstOfLeastSum_0 (by decide) ?_
  refine lv_istore_n (lv' := [(2, .int (-6)), (0, .ref sr), (1, .int (nI k))]) hx hb dX4_firstOfLeastSum_2 rfl hl (by decide) rfl (fun ls hl => ?_)
  refine lv_iconst (v := 1) hx hb dX4_firstOfLeastSum_3 (by decide) ?_
  refine lv_iload_n hx hb dX4_firstOfLeastSum_4 rfl (lv_at hl 2 rfl) ?_
  refine lv_iconst (v := 1) hx hb dX4_firstOfLeastSum_5 (by decide) ?_
  refine lv_isub hx hb dX4_firstOfLeastSum_6 ?_
  refine lv_topi (fun x1 ex1 => ?_)
  obtain rfl : x1 = nI (k - 1) := by rw [ex1]; exact pk_sub (show 1 ≤ k by omega)
  refine ca_iR (va_runS (As := [.int (nI (k - 1))]) (rest := [.int 1]) ⟨hx, hb, hml, hown, hts⟩ (n_weight l G s.heap.size (k - 1) (by omega)) (va_cwS 1 hts gX4_firstOfLeastSum_X1_weight rfl rfl rfl (by decide +kernel) ⟨by decide +kernel, by decide +kernel⟩) (pre_S E hP hD hS hA [] (by decide) rfl) rfl rfl hl.1 rfl (lv_room (Nat.le_of_ble_eq_true rfl)) dX4_firstOfLeastSum_7 ⟨by decide +kernel, by decide +kernel⟩) hS hP hD hA [] rfl (fun r3 _ H locs w2 hP hS => ?_)
  rw [w2]
  refine va_mmax (x := 1) (y := nI (5 ^ (6 - 1 - (k - 1)))) hx hb (by rw [hml, hl.1]) hown (hts (.methodLink RX4 56 Lib.Math.max.name) (by decide +kernel)) (hts (.static Lib.Math.max.name) (by decide +kernel)) (hts (.initialized "java/lang/Math") (by decide +kernel)) (hts (.code Lib.Math.max.name Lib.Math.max.code 2 (some .int)) (by decide +kernel)) (by decide +kernel) (by decide +kernel) (by decide +kernel) (by decide +kernel) dX4_firstOfLeastSum_10 ?_
  refine lv_topi (fun x4 ex4 => ?_)
  obtain rfl : x4 = nI (5 ^ (6 - k)) := by rw [ex4, show 6 - 1 - (k - 1) = 6 - k by omega]; exact mx_5 (6 - k) (by omega)
  refine lv_istore_n (lv' := [(3, .int (nI (5 ^ (6 - k)))), (2, .int (-6)), (0, .ref sr), (1, .int (nI k))]) hx hb dX4_firstOfLeastSum_13 rfl hl (by decide) rfl (fun ls hl => ?_)
  refine lv_iconst (v := 0) hx hb dX4_firstOfLeastSum_14 (by decide) ?_
  refine W.eq (g2 := F0 m 15 ls [.int (nI (sc k 0))]) (by rw [sc_zero2]) ?_
  refine lv_istore (lv' := [(4, .int (nI (sc k 0))), (3, .int (nI (5 ^ (6 - k)))), (2, .int (-6)), (0, .ref sr), (1, .int (nI k))]) hx hb dX4_firstOfLeastSum_15 hl (by decide) rfl (fun ls hl => ?_)
  refine lp_run (x0 := (0, (-6))) (fun xx_ : Nat × Int32 => match xx_ with | (x, y) => [(sr, .inr (2, [.ref rt, .ref ru, .int ol])), (ru, .inl (gI G, 15625, .inl gu))]) (fun xx_ : Nat × Int32 => match xx_ with | (x, y) => [(4, .int (nI (sc k x))), (3, .int (nI (5 ^ (6 - k)))), (2, .int y), (0, .ref sr), (1, .int (nI k))]) (fun xx_ : Nat × Int32 => match xx_ with | (x, y) => (x ≤ 5 ^ k) ∧ (fsL k f x y)) (fun xx_ : Nat × Int32 => match xx_ with | (x, y) => 5 ^ k - x) (hP.sub [0, 1] rfl) (hD.sub [0, 1] (by decide) rfl) hS (lv_sub hl [0, 1, 2, 3, 4] rfl) ⟨Nat.zero_le _, Or.inl ⟨rfl, fun z9 h9 => by omega⟩⟩ ?_
  intro xx_ hI ih17 H locs ls hP hD hS hl
  obtain ⟨x, y⟩ := xx_
  dsimp only at hI ih17 hP hD hl
  obtain ⟨hx0, hfl⟩ := hI
  have hl : lv_has ls 5 [(4, .int (nI (sc k x))), (3, .int (nI (5 ^ (6 - k)))), (2, .int y), (0, .ref sr), (1, .int (nI k))] := hl
  have hP : va_P G.1 vwCl ([(sr, .inr (2, [.ref rt, .ref ru, .int ol])), (ru, .inl (gI G, 15625, .inl gu))]) H := hP
  have hD : va_D A ([(sr, .inr (2, [.ref rt, .ref ru, .int ol])), (ru, .inl (gI G, 15625, .inl gu))]) := hD
  refine lv_iload hx hb dX4_firstOfLeastSum_17 (lv_at hl 0 rfl) ?_
  have hsl := sc_le5 hk6 hx0
  refine lv_aload_n hx hb dX4_firstOfLeastSum_19 rfl (lv_at hl 3 rfl) ?_
  refine va_get (D := G.1) (ci := 2) (v := .ref ru) (C := RX4) (T := TX4) (N := 3) hx hb hts (fun _ h => List.mem_cons_of_mem _ (List.mem_append_right _ h)) hown E.K hP 0 rfl rfl 1 (by decide) (hts (.fieldLink RX4 19 "LastMap$Search" "sums" "[I") (by decide +kernel)) (fun _ h9 => h9) rfl dX4_firstOfLeastSum_20 ?_
  refine va_alen (v := 15625) hx hb E.K hP 1 1 rfl rfl rfl dX4_firstOfLeastSum_23 ?_
  refine lv_icmp_ge (tgt := 68) hx hb dX4_firstOfLeastSum_24 (by decide) (fun c5 => ?_) (fun c5 => ?_)
  · have c5 : 15625 ≤ (sc k x) := (nI_leI (a := 15625) (b := (sc k x)) (by omega) (by omega)).mp c5
    refine lv_iload_n hx hb dX4_firstOfLeastSum_68 rfl (lv_at hl 2 rfl) ?_
    have hP9 := (hP.sub (ws' := [(sr, .inr (2, [.ref rt, .ref ru, .int ol])), (ru, .inl (gI G, 15625, .inl gu))]) [0, 1] rfl)
    have hD9 := (hD.sub (ws' := [(sr, .inr (2, [.ref rt, .ref ru, .int ol])), (ru, .inl (gI G, 15625, .inl gu))]) [0, 1] (by decide) rfl)
    exact W.iret (v := y) hx hb hr (fun t9_ ht9_ hW9_ => ⟨⟨y, (), rfl, by rw [← sc_out hk6 hx0 (by omega)]; exact hfl, by rw [ht9_]; exact hP9, hD9⟩, hS.F ht9_⟩) hS.2.2 dX4_firstOfLeastSum_69
  · have c5 : ¬ 15625 ≤ (sc k x) := fun h9_ => c5 ((nI_leI (a := 15625) (b := (sc k x)) (by omega) (by omega)).mpr h9_)
    have hsx : sc k x < 15625 := by omega
    have hxk := sc_in hk6 hx0 hsx
    refine lv_aload_n hx hb dX4_firstOfLeastSum_27 rfl (lv_at hl 3 rfl) ?_
    refine va_get (D := G.1) (ci := 2) (v := .ref ru) (C := RX4) (T := TX4) (N := 3) hx hb hts (fun _ h => List.mem_cons_of_mem _ (List.mem_append_right _ h)) hown E.K hP 0 rfl rfl 1 (by decide) (hts (.fieldLink RX4 19 "LastMap$Search" "sums" "[I") (by decide +kernel)) (fun _ h9 => h9) rfl dX4_firstOfLeastSum_28 ?_
    refine lv_iload hx hb dX4_firstOfLeastSum_31 (lv_at hl 0 rfl) ?_
    refine va_iald hx hb E.K hP 1 1 rfl rfl (i := nI (sc k x)) (vp_in_nI (by omega) (by decide)) dX4_firstOfLeastSum_33 ?_
    refine lv_topi (fun x6 ex6 => ?_)
    obtain rfl : x6 = clS (f x) := by rw [ex6, nI_clamp (by omega)]; exact hgu x hxk
    refine lv_if_lt (tgt := 59) hx hb dX4_firstOfLeastSum_34 (by decide) (fun c7 => ?_) (fun c7 => ?_)
    · refine lv_iload hx hb dX4_firstOfLeastSum_59 (lv_at hl 0 rfl) ?_
      refine lv_iload_n hx hb dX4_firstOfLeastSum_61 rfl (lv_at hl 1 rfl) ?_
      refine lv_iadd hx hb dX4_firstOfLeastSum_62 ?_
      refine lv_topi (fun x8 ex8 => ?_)
      obtain rfl : x8 = nI ((sc k x) + (5 ^ (6 - k))) := by rw [ex8]; exact nI_add (sc k x) (5 ^ (6 - k))
      refine W.eq (g2 := F0 m 63 ls [.int (nI (sc k (x + 1)))]) (by rw [sc_succ]) ?_
      refine lv_istore (lv' := [(4, .int (nI (sc k (x + 1)))), (3, .int (nI (5 ^ (6 - k)))), (2, .int y), (0, .ref sr), (1, .int (nI k))]) hx hb dX4_firstOfLeastSum_63 hl (by decide) rfl (fun ls hl => ?_)
      refine lv_goto (tgt := 17) hx hb dX4_firstOfLeastSum_65 (by decide) ?_
      refine ih17 (x + 1, y) ⟨?_, ?_⟩ (by first | omega | (dsimp only; omega)) H locs ls (hP.sub [0, 1] rfl) (hD.sub [0, 1] (by decide) rfl) hS (lv_sub hl [0, 1, 2, 3, 4] rfl)
      · try dsimp only
        omega
      · try dsimp only
        exact fsL_old hfl (Or.inl (clS_neg c7))
    · have hfx := clS_pos c7
      refine lv_iload_n hx hb dX4_firstOfLeastSum_37 rfl (lv_at hl 2 rfl) ?_
      refine lv_if_lt (tgt := 56) hx hb dX4_firstOfLeastSum_38 (by decide) (fun c9 => ?_) (fun c9 => ?_)
      · refine lv_iload hx hb dX4_firstOfLeastSum_56 (lv_at hl 0 rfl) ?_
        refine lv_istore_n (lv' := [(2, .int (nI (sc k x))), (4, .int (nI (sc k x))), (3, .int (nI (5 ^ (6 - k)))), (0, .ref sr), (1, .int (nI k))]) hx hb dX4_firstOfLeastSum_58 rfl hl (by decide) rfl (fun ls hl => ?_)
        refine lv_iload hx hb dX4_firstOfLeastSum_59 (lv_at hl 1 rfl) ?_
        refine lv_iload_n hx hb dX4_firstOfLeastSum_61 rfl (lv_at hl 2 rfl) ?_
        refine lv_iadd hx hb dX4_firstOfLeastSum_62 ?_
        refine lv_topi (fun x10 ex10 => ?_)
        obtain rfl : x10 = nI ((sc k x) + (5 ^ (6 - k))) := by rw [ex10]; exact nI_add (sc k x) (5 ^ (6 - k))
        refine W.eq (g2 := F0 m 63 ls [.int (nI (sc k (x + 1)))]) (by rw [sc_succ]) ?_
        refine lv_istore (lv' := [(4, .int (nI (sc k (x + 1)))), (2, .int (nI (sc k x))), (3, .int (nI (5 ^ (6 - k)))), (0, .ref sr), (1, .int (nI k))]) hx hb dX4_firstOfLeastSum_63 hl (by decide) rfl (fun ls hl => ?_)
        refine lv_goto (tgt := 17) hx hb dX4_firstOfLeastSum_65 (by decide) ?_
        refine ih17 (x + 1, nI (sc k x)) ⟨?_, ?_⟩ (by first | omega | (dsimp only; omega)) H locs ls (hP.sub [0, 1] rfl) (hD.sub [0, 1] (by decide) rfl) hS (lv_sub hl [0, 2, 1, 3, 4] rfl)
        · try dsimp only
          omega
        · try dsimp only
          exact fsL_new hk6 hxk hfl hfx (Or.inl c9)
      · obtain ⟨F9, hF1, hF2, hF3, hF4⟩ := fsL_pos hfl c9
        have hl : lv_has ls 5 [(4, .int (nI (sc k x))), (3, .int (nI (5 ^ (6 - k)))), (2, .int (nI (sc k F9))), (0, .ref sr), (1, .int (nI k))] := by have q := hl; rw [hF2] at q; exact q
        refine lv_aload_n hx hb dX4_firstOfLeastSum_41 rfl (lv_at hl 3 rfl) ?_
        refine va_get (D := G.1) (ci := 2) (v := .ref ru) (C := RX4) (T := TX4) (N := 3) hx hb hts (fun _ h => List.mem_cons_of_mem _ (List.mem_append_right _ h)) hown E.K hP 0 rfl rfl 1 (by decide) (hts (.fieldLink RX4 19 "LastMap$Search" "sums" "[I") (by decide +kernel)) (fun _ h9 => h9) rfl dX4_firstOfLeastSum_42 ?_
        refine lv_iload hx hb dX4_firstOfLeastSum_45 (lv_at hl 0 rfl) ?_
        refine va_iald hx hb E.K hP 1 1 rfl rfl (i := nI (sc k x)) (vp_in_nI (by omega) (by decide)) dX4_firstOfLeastSum_47 ?_
        refine lv_topi (fun x11 ex11 => ?_)
        obtain rfl : x11 = clS (f x) := by rw [ex11, nI_clamp (by omega)]; exact hgu x hxk
        refine lv_aload_n hx hb dX4_firstOfLeastSum_48 rfl (lv_at hl 3 rfl) ?_
        refine lv_iload_n hx hb dX4_firstOfLeastSum_49 rfl (lv_at hl 2 rfl) ?_
        refine ca_iR (va_runV (As := [.int (nI (sc k F9))]) (rest := [.int (clS (f x))]) ⟨hx, hb, hml, hown, hts⟩ (n_sumOf l G H.size sr rt ru ol gu (sc k F9) (sc_lt5 hk6 (by omega))) (cwV 1 hts gX4_firstOfLeastSum_X4_sumOf rfl rfl rfl (by decide +kernel) ⟨by decide +kernel, by decide +kernel⟩) (pre_V E hP hD hS hA [0, 1] (by decide) rfl 0 2 rfl rfl) rfl rfl hl.1 rfl (lv_room (Nat.le_of_ble_eq_true rfl)) dX4_firstOfLeastSum_50 ⟨by decide +kernel, by decide +kernel⟩) hS hP hD hA [0, 1] rfl (fun r13 _ H locs w12 hP hS => ?_)
        obtain rfl : r13 = clS (f F9) := by rw [w12]; exact hgu F9 (by omega)
        refine lv_icmp_ge (tgt := 59) hx hb dX4_firstOfLeastSum_53 (by decide) (fun c14 => ?_) (fun c14 => ?_)
        · refine lv_iload hx hb dX4_firstOfLeastSum_59 (lv_at hl 0 rfl) ?_
          refine lv_iload_n hx hb dX4_firstOfLeastSum_61 rfl (lv_at hl 1 rfl) ?_
          refine lv_iadd hx hb dX4_firstOfLeastSum_62 ?_
          refine lv_topi (fun x15 ex15 => ?_)
          obtain rfl : x15 = nI ((sc k x) + (5 ^ (6 - k))) := by rw [ex15]; exact nI_add (sc k x) (5 ^ (6 - k))
          refine W.eq (g2 := F0 m 63 ls [.int (nI (sc k (x + 1)))]) (by rw [sc_succ]) ?_
          refine lv_istore (lv' := [(4, .int (nI (sc k (x + 1)))), (3, .int (nI (5 ^ (6 - k)))), (2, .int (nI (sc k F9))), (0, .ref sr), (1, .int (nI k))]) hx hb dX4_firstOfLeastSum_63 hl (by decide) rfl (fun ls hl => ?_)
          refine lv_goto (tgt := 17) hx hb dX4_firstOfLeastSum_65 (by decide) ?_
          refine ih17 (x + 1, nI (sc k F9)) ⟨?_, ?_⟩ (by first | omega | (dsimp only; omega)) H locs ls (hP.sub [0, 1] rfl) (hD.sub [0, 1] (by decide) rfl) hS (lv_sub hl [0, 1, 2, 3, 4] rfl)
          · try dsimp only
            omega
          · try dsimp only
            rw [← hF2]; exact fsL_old hfl (Or.inr ⟨F9, hF1, hF2, hF3, hF4, fun q9 => by have q8 := (clS_le hF3 hfx).mp (by have q9 := c14; simp only [i3_le, i3_lt, Int32.reduceToInt] at q9 ⊢; omega); omega⟩)
        · refine lv_iload hx hb dX4_firstOfLeastSum_56 (lv_at hl 0 rfl) ?_
          refine lv_istore_n (lv' := [(2, .int (nI (sc k x))), (4, .int (nI (sc k x))), (3, .int (nI (5 ^ (6 - k)))), (0, .ref sr), (1, .int (nI k))]) hx hb dX4_firstOfLeastSum_58 rfl hl (by decide) rfl (fun ls hl => ?_)
          refine lv_iload hx hb dX4_firstOfLeastSum_59 (lv_at hl 1 rfl) ?_
          refine lv_iload_n hx hb dX4_firstOfLeastSum_61 rfl (lv_at hl 2 rfl) ?_
          refine lv_iadd hx hb dX4_firstOfLeastSum_62 ?_
          refine lv_topi (fun x16 ex16 => ?_)
          obtain rfl : x16 = nI ((sc k x) + (5 ^ (6 - k))) := by rw [ex16]; exact nI_add (sc k x) (5 ^ (6 - k))
          refine W.eq (g2 := F0 m 63 ls [.int (nI (sc k (x + 1)))]) (by rw [sc_succ]) ?_
          refine lv_istore (lv' := [(4, .int (nI (sc k (x + 1)))), (2, .int (nI (sc k x))), (3, .int (nI (5 ^ (6 - k)))), (0, .ref sr), (1, .int (nI k))]) hx hb dX4_firstOfLeastSum_63 hl (by decide) rfl (fun ls hl => ?_)
          refine lv_goto (tgt := 17) hx hb dX4_firstOfLeastSum_65 (by decide) ?_
          refine ih17 (x + 1, nI (sc k x)) ⟨?_, ?_⟩ (by first | omega | (dsimp only; omega)) H locs ls (hP.sub [0, 1] rfl) (hD.sub [0, 1] (by decide) rfl) hS (lv_sub hl [0, 2, 1, 3, 4] rfl)
          · try dsimp only
            omega
          · try dsimp only
            exact fsL_new hk6 hxk hfl hfx (Or.inr ⟨F9, hF1, hF4, by have q9 : ¬ clS (f F9) ≤ clS (f x) := (by have q9 := c14; simp only [i3_le, i3_lt, Int32.reduceToInt] at q9 ⊢; omega); rw [clS_le hF3 hfx] at q9; omega⟩)

set_option maxHeartbeats 1000000 in
set_option maxRecDepth 100000 in
theorem q_lost (l : Launch) (G : Gy) (H0 : Heap) (h0 : Nat) (pad : Nat) (pp : Nat) (im : Nat) (vse : Value) (vtr : Value) (ac : Nat) (ak : Nat) (sg : Nat) (sl : Nat) (k : Nat) (pm : Nat) (la : Nat) (told : Int32) (sp : Int32) (fc : Nat → Int32) (fk : Nat → Int32) (fsg : Nat → Int32) (fsl : Nat → Int32) (ma : Nat → Nat) (T : va_W) (c0 : Nat) (p0 : Int32) (p1 : Int32) (p2 : Int32) (hk2 : 2 ≤ k) (hk6 : k ≤ 6) (hpm : pm ≤ 40) (hla : la < 5 ^ k) (hcr : CR k told fc ma) (hsp : inR sp 1 6) (hSR : SK2 G vse T c0) : ChI l G yX9_lost wsX9_lost ({ frames := 11, cells := 33, slots := 343827, locals := 261 }) [.ref h0, .int p0, .int p1, .int p2] ([(h0, .inr (5, [.ref pad, .ref pp, .ref im, vse, vtr])), (pad, .inr (0, [.ref sg, .ref sl, .int (nI pm)])), (sg, .inl (gI G, 40, .inl fsg)), (sl, .inl (gI G, 10, .inl fsl)), (pp, .inr (1, [.int (nI k), .int told, .int sp, .int (nI (sc k la)), .ref ac, .ref ak])), (ac, .inl (gI G, 6, .inl fc)), (ak, .inl (gI G, 4, .inl fk))] ++ T) H0 (fun (r : Int32) (u : Value × va_W × Nat) => match u with | (vse1, T1, k1) => SK2 G vse1 T1 (c0 + k1) ∧ r = lsA k told ma fk p0 p1 p2) (fun (u : Value × va_W × Nat) => (match u with | (vse1, T1, k1) => [(h0, .inr (5, [.ref pad, .ref pp, .ref im, vse1, vtr])), (pad, .inr (0, [.ref sg, .ref sl, .int (nI pm)])), (sg, .inl (gI G, 40, .inl fsg)), (sl, .inl (gI G, 10, .inl fsl)), (pp, .inr (1, [.int (nI k), .int told, .int sp, .int (nI (sc k la)), .ref ac, .ref ak])), (ac, .inl (gI G, 6, .inl fc)), (ak, .inl (gI G, 4, .inl fk))]) ++ (match u with | (vse1, T1, k1) => T1)) (fun (u : Value × va_W × Nat) => match u with | (vse1, T1, k1) => 3 * k1) (fun (u : Value × va_W × Nat) => match u with | (vse1, T1, k1) => 31257 * k1) 33 343827 := by
  refine Met.ofW (cc := cX9_lost) (maxL := 6) (ret := (some .int)) (by decide) rfl ?_
  intro p e s m args below meth c s₁ B hml hv
  obtain ⟨rfl, hsz, hP, hD0, E0⟩ := hv
  have hx := B.exec
  have hb := B.bytes
  have hr := B.returns
  have hts := atoms_spec (ws := wsX9_lost) B.pre
  have hown : s.vm.findClass RX9 = some m.cls := findClass_of_methodNamed B.named
  have hlocks := B.notSynchronized
  subst hsz
  have hD := hD0.self (sz := s.heap.size)
  generalize hAe : va_A ([(h0, .inr (5, [.ref pad, .ref pp, .ref im, vse, vtr])), (pad, .inr (0, [.ref sg, .ref sl, .int (nI pm)])), (sg, .inl (gI G, 40, .inl fsg)), (sl, .inl (gI G, 10, .inl fsl)), (pp, .inr (1, [.int (nI k), .int told, .int sp, .int (nI (sc k la)), .ref ac, .ref ak])), (ac, .inl (gI G, 6, .inl fc)), (ak, .inl (gI G, 4, .inl fk))] ++ T) s.heap.size = A at hD E0 ⊢
  have E : EV G A s s.heap := E0
  have hA : ∀ q : Nat, s.heap.size ≤ q → A q := fun q h => by rw [← hAe]; exact Or.inr h
  have hS : va_S A s.heap s.heap [] := va_S.rf
  have hl := lv_entry ([.ref h0, .int p0, .int p1, .int p2]) (n := 6) (Nat.le_of_ble_eq_true rfl)
  rw [lg_entry_eq]
  generalize (lg_sl ([.ref h0, .int p0, .int p1, .int p2]) ++ List.replicate (6 - (lg_sl ([.ref h0, .int p0, .int p1, .int p2])).length) Slot.unset).toArray = ls at hl ⊢
  have hl : lv_has ls 6 [(0, .ref h0), (1, .int p0), (2, .int p1), (3, .int p2)] := hl
  have hP : va_P G.1 vwCl ([(h0, .inr (5, [.ref pad, .ref pp, .ref im, vse, vtr])), (pad, .inr (0, [.ref sg, .ref sl, .int (nI pm)])), (sg, .inl (gI G, 40, .inl fsg)), (sl, .inl (gI G, 10, .inl fsl)), (pp, .inr (1, [.int (nI k), .int told, .int sp, .int (nI (sc k la)), .ref ac, .ref ak])), (ac, .inl (gI G, 6, .inl fc)), (ak, .inl (gI G, 4, .inl fk))] ++ T) s.heap := hP
  refine lv_iload_n hx hb dX9_lost_0 rfl (lv_at hl 2 rfl) ?_
  refine ca_iR (va_runS (As := [.int p1]) (rest := []) ⟨hx, hb, hml, hown, hts⟩ (c_isHand l G s.heap.size p1) (va_cwS 1 hts gX9_lost_X9_isHand rfl rfl rfl (by decide +kernel) ⟨by decide +kernel, by decide +kernel⟩) (pre_S E hP hD hS hA [] (by decide) rfl) rfl rfl hl.1 rfl (lv_room (Nat.le_of_ble_eq_true rfl)) dX9_lost_1 ⟨show 0 + 0 ≤ 33 by omega, show 0 + 0 ≤ 343827 by omega⟩) hS hP hD hA [] rfl (fun r2 _ H locs w1 hP hS => ?_)
  rcases w1 with ⟨rfl, b3⟩ | ⟨rfl, b3⟩
  · refine lv_if_ne (tgt := 9) hx hb dX9_lost_4 (by decide) (fun _ => ?_) (fun c4 => False.elim (by revert c4; decide))
    obtain ⟨j_p1, hj_p1, ej_p1⟩ := inR4 b3
    have hl : lv_has ls 6 [(0, .ref h0), (1, .int p0), (2, .int (nI j_p1)), (3, .int p2)] := by have q := hl; rw [ej_p1] at q; exact q
    refine lv_iload_n hx hb dX9_lost_9 rfl (lv_at hl 1 rfl) ?_
    refine ca_iR (va_runS (As := [.int p0]) (rest := []) ⟨hx, hb, hml, hown, hts⟩ (c_isSet l G H.size p0) (va_cwS 1 hts gX9_lost_X9_isSet rfl rfl rfl (by decide +kernel) ⟨by decide +kernel, by decide +kernel⟩) (pre_S E hP hD hS hA [] (by decide) rfl) rfl rfl hl.1 rfl (lv_room (Nat.le_of_ble_eq_true rfl)) dX9_lost_10 ⟨show 0 + 0 ≤ 33 by omega, show 0 + 0 ≤ 343827 by omega⟩) hS hP hD hA [] rfl (fun r6 _ H locs w5 hP hS => ?_)
    rcases w5 with ⟨rfl, b7⟩ | ⟨rfl, b7⟩
    · refine lv_if_ne (tgt := 19) hx hb dX9_lost_13 (by decide) (fun _ => ?_) (fun c8 => False.elim (by revert c8; decide))
      refine lv_aload_n hx hb dX9_lost_19 rfl (lv_at hl 0 rfl) ?_
      refine lv_iload_n hx hb dX9_lost_20 rfl (lv_at hl 1 rfl) ?_
      refine ca_iR (va_runV (As := [.int p0]) (rest := []) ⟨hx, hb, hml, hown, hts⟩ (c_areTold l G H.size h0 pad pp im vse vtr ac ak (nI k) told sp (nI (sc k la)) p0) (cwV 1 hts gX9_lost_X9_areTold rfl rfl rfl (by decide +kernel) ⟨by decide +kernel, by decide +kernel⟩) (pre_V E hP hD hS hA [0, 4] (by decide) rfl 0 5 rfl rfl) rfl rfl hl.1 rfl (lv_room (Nat.le_of_ble_eq_true rfl)) dX9_lost_21 ⟨show 0 + 0 ≤ 33 by omega, show 0 + 0 ≤ 343827 by omega⟩) hS hP hD hA [0, 4] rfl (fun r10 _ H locs w9 hP hS => ?_)
      rcases w9 with ⟨rfl, b11⟩ | ⟨rfl, b11⟩
      · refine lv_if_ne (tgt := 30) hx hb dX9_lost_24 (by decide) (fun _ => ?_) (fun c12 => False.elim (by revert c12; decide))
        have hset : ∀ i : Nat, i < 6 → tdP p0 (nI i) → tdP told (nI i) := fun i9 h9 t9 => set_told b11 (by omega) t9
        have hmA : ∀ i : Nat, i < 6 → tdP p0 (nI i) → ma i < 5 ^ k := fun i9 h9 t9 => (hcr i9 h9 (hset i9 h9 t9)).1
        refine lv_aload_n hx hb dX9_lost_30 rfl (lv_at hl 0 rfl) ?_
        have hle_13 := SK2.le hSR
        rcases hSR with ⟨hva_13, hvb_13, hvc_13⟩ | ⟨sr_13, rt_13, ru_13, ol_13, ft_13, gu_13, T_13, hva_13, hPL_13, hvb_13, hvc_13⟩
        · have hP : va_P G.1 vwCl ([(h0, .inr (5, [.ref pad, .ref pp, .ref im, .null, vtr])), (pad, .inr (0, [.ref sg, .ref sl, .int (nI pm)])), (sg, .inl (gI G, 40, .inl fsg)), (sl, .inl (gI G, 10, .inl fsl)), (pp, .inr (1, [.int (nI k), .int told, .int sp, .int (nI (sc k la)), .ref ac, .ref ak])), (ac, .inl (gI G, 6, .inl fc)), (ak, .inl (gI G, 4, .inl fk))] ++ ([] : va_W)) H := by rw [hva_13, hvb_13] at hP; exact hP
          have hD : va_D A ([(h0, .inr (5, [.ref pad, .ref pp, .ref im, .null, vtr])), (pad, .inr (0, [.ref sg, .ref sl, .int (nI pm)])), (sg, .inl (gI G, 40, .inl fsg)), (sl, .inl (gI G, 10, .inl fsl)), (pp, .inr (1, [.int (nI k), .int told, .int sp, .int (nI (sc k la)), .ref ac, .ref ak])), (ac, .inl (gI G, 6, .inl fc)), (ak, .inl (gI G, 4, .inl fk))] ++ ([] : va_W)) := by rw [hva_13, hvb_13] at hD; exact hD
          refine W_facts (fun hg => ?_)
          have hg : GF s.heap H (0) (0) := hg
          refine ca_rH (wr := [(pad, .inr (0, [.ref sg, .ref sl, .int (nI pm)])), (sg, .inl (gI G, 40, .inl fsg)), (sl, .inl (gI G, 10, .inl fsl)), (pp, .inr (1, [.int (nI k), .int told, .int sp, .int (nI (sc k la)), .ref ac, .ref ak])), (ac, .inl (gI G, 6, .inl fc)), (ak, .inl (gI G, 4, .inl fk))]) hg (va_runV (As := []) (rest := []) ⟨hx, hb, hml, hown, hts⟩ (d_ready_n l G H h0 pad pp im vtr ([] : va_W)) (cwV 0 hts gX9_lost_X9_readySearch rfl rfl rfl (by decide +kernel) ⟨by decide +kernel, by decide +kernel⟩) (pre_VH E hP hD hS hA [0] (by decide) rfl 0 5 rfl rfl) rfl rfl hl.1 rfl (lv_room (Nat.le_of_ble_eq_true rfl)) dX9_lost_31 ⟨show 0 + 3 ≤ 33 by omega, show 0 + 15636 ≤ 343827 by omega⟩) hS hP hD hA [0] [1, 2, 3, 4, 5, 6] rfl rfl (by decide) (by decide) (fun u16 H locs w14 hP hD hS hg => ?_)
          obtain ⟨sr1_17, rt1_18, ru1_19⟩ := u16
          try dsimp only at w14 hP hD
          have hP := (P_subT (X' := [(h0, .inr (5, [.ref pad, .ref pp, .ref im, .ref sr1_17, vtr])), (pad, .inr (0, [.ref sg, .ref sl, .int (nI pm)])), (sg, .inl (gI G, 40, .inl fsg)), (sl, .inl (gI G, 10, .inl fsl)), (pp, .inr (1, [.int (nI k), .int told, .int sp, .int (nI (sc k la)), .ref ac, .ref ak])), (ac, .inl (gI G, 6, .inl fc)), (ak, .inl (gI G, 4, .inl fk)), (sr1_17, .inr (2, [.ref rt1_18, .ref ru1_19, .int 0])), (rt1_18, .inl (gT G, 8, .inr (.inr (.inr (.inr (fun _ => none)))))), (ru1_19, .inl (gI G, 15625, .inl (fun _ => 0)))]) hP [6, 0, 1, 2, 3, 4, 5, 7, 8, 9] rfl)
          have hD := (D_subT (X' := [(h0, .inr (5, [.ref pad, .ref pp, .ref im, .ref sr1_17, vtr])), (pad, .inr (0, [.ref sg, .ref sl, .int (nI pm)])), (sg, .inl (gI G, 40, .inl fsg)), (sl, .inl (gI G, 10, .inl fsl)), (pp, .inr (1, [.int (nI k), .int told, .int sp, .int (nI (sc k la)), .ref ac, .ref ak])), (ac, .inl (gI G, 6, .inl fc)), (ak, .inl (gI G, 4, .inl fk)), (sr1_17, .inr (2, [.ref rt1_18, .ref ru1_19, .int 0])), (rt1_18, .inl (gT G, 8, .inr (.inr (.inr (.inr (fun _ => none)))))), (ru1_19, .inl (gI G, 15625, .inl (fun _ => 0)))]) hD [6, 0, 1, 2, 3, 4, 5, 7, 8, 9] (by decide) rfl)
          refine lv_astore (lv' := [(4, .ref sr1_17), (0, .ref h0), (1, .int p0), (2, .int (nI j_p1)), (3, .int p2)]) hx hb dX9_lost_34 hl (by decide) rfl (fun ls hl => ?_)
          refine lv_aload hx hb dX9_lost_36 (lv_at hl 0 rfl) ?_
          refine ca_vQ (wr := [(h0, .inr (5, [.ref pad, .ref pp, .ref im, .ref sr1_17, vtr])), (pad, .inr (0, [.ref sg, .ref sl, .int (nI pm)])), (sg, .inl (gI G, 40, .inl fsg)), (sl, .inl (gI G, 10, .inl fsl)), (pp, .inr (1, [.int (nI k), .int told, .int sp, .int (nI (sc k la)), .ref ac, .ref ak])), (ac, .inl (gI G, 6, .inl fc)), (ak, .inl (gI G, 4, .inl fk)), (rt1_18, .inl (gT G, 8, .inr (.inr (.inr (.inr (fun _ => none))))))]) (va_runV (As := []) (rest := []) ⟨hx, hb, hml, hown, hts⟩ (n_clearSums l G H.size sr1_17 rt1_18 ru1_19 0 (fun _ => 0)) (cwV 0 hts gX9_lost_X4_clearSums rfl rfl rfl (by decide +kernel) ⟨by decide +kernel, by decide +kernel⟩) (pre_V E hP hD hS hA [7, 9] (by decide) rfl 7 2 rfl rfl) rfl rfl hl.1 rfl (lv_room (Nat.le_of_ble_eq_true rfl)) dX9_lost_38 ⟨show 0 + 3 + 0 ≤ 33 by omega, show 0 + 15636 + 0 ≤ 343827 by omega⟩) hS hP hD hA [7, 9] [0, 1, 2, 3, 4, 5, 6, 8] rfl rfl (by decide) (by decide) (fun u22 H locs w20 hP hD hS => ?_)
          obtain ⟨gu1_23, rfl⟩ : ∃ z, z = u22 := ⟨_, rfl⟩
          try dsimp only at w20 hP hD
          have hP := (P_subT (X' := [(h0, .inr (5, [.ref pad, .ref pp, .ref im, .ref sr1_17, vtr])), (pad, .inr (0, [.ref sg, .ref sl, .int (nI pm)])), (sg, .inl (gI G, 40, .inl fsg)), (sl, .inl (gI G, 10, .inl fsl)), (pp, .inr (1, [.int (nI k), .int told, .int sp, .int (nI (sc k la)), .ref ac, .ref ak])), (ac, .inl (gI G, 6, .inl fc)), (ak, .inl (gI G, 4, .inl fk)), (sr1_17, .inr (2, [.ref rt1_18, .ref ru1_19, .int 0])), (rt1_18, .inl (gT G, 8, .inr (.inr (.inr (.inr (fun _ => none)))))), (ru1_19, .inl (gI G, 15625, .inl gu1_23))]) hP [0, 1, 2, 3, 4, 5, 6, 8, 7, 9] rfl)
          have hD := (D_subT (X' := [(h0, .inr (5, [.ref pad, .ref pp, .ref im, .ref sr1_17, vtr])), (pad, .inr (0, [.ref sg, .ref sl, .int (nI pm)])), (sg, .inl (gI G, 40, .inl fsg)), (sl, .inl (gI G, 10, .inl fsl)), (pp, .inr (1, [.int (nI k), .int told, .int sp, .int (nI (sc k la)), .ref ac, .ref ak])), (ac, .inl (gI G, 6, .inl fc)), (ak, .inl (gI G, 4, .inl fk)), (sr1_17, .inr (2, [.ref rt1_18, .ref ru1_19, .int 0])), (rt1_18, .inl (gT G, 8, .inr (.inr (.inr (.inr (fun _ => none)))))), (ru1_19, .inl (gI G, 15625, .inl gu1_23))]) hD [0, 1, 2, 3, 4, 5, 6, 8, 7, 9] (by decide) rfl)
          refine lv_iconst (v := 0) hx hb dX9_lost_41 (by decide) ?_
          refine lv_istore (lv' := [(5, .int 0), (4, .ref sr1_17), (0, .ref h0), (1, .int p0), (2, .int (nI j_p1)), (3, .int p2)]) hx hb dX9_lost_42 hl (by decide) rfl (fun ls hl => ?_)
          have hcn0 : c0 + 1 = 1 + cntS (fun _ => none) 8 := by have hz0 : cntS (fun _ => none) 8 = 0 := rfl; omega
          refine W_facts (fun hg => ?_)
          have hg : GF s.heap H (0 + 3) (0 + 15636) := hg
          refine lp_runH (x0 := (0, 0, fun _ => none, gu1_23, ([] : va_W), 1)) (fun xx_ : Nat × Int32 × (Nat → Option Nat) × (Nat → Int32) × va_W × Nat => match xx_ with | (x, ol_, ft_, gu_, Tl, kt) => 3 * kt) (fun xx_ : Nat × Int32 × (Nat → Option Nat) × (Nat → Int32) × va_W × Nat => match xx_ with | (x, ol_, ft_, gu_, Tl, kt) => 31257 * kt) (show GF s.heap H (3 * 1) (31257 * 1) from hg.wide (by omega) (by omega)) (fun xx_ : Nat × Int32 × (Nat → Option Nat) × (Nat → Int32) × va_W × Nat => match xx_ with | (x, ol_, ft_, gu_, Tl, kt) => [(h0, .inr (5, [.ref pad, .ref pp, .ref im, .ref sr1_17, vtr])), (pad, .inr (0, [.ref sg, .ref sl, .int (nI pm)])), (sg, .inl (gI G, 40, .inl fsg)), (sl, .inl (gI G, 10, .inl fsl)), (pp, .inr (1, [.int (nI k), .int told, .int sp, .int (nI (sc k la)), .ref ac, .ref ak])), (ac, .inl (gI G, 6, .inl fc)), (ak, .inl (gI G, 4, .inl fk)), (sr1_17, .inr (2, [.ref rt1_18, .ref ru1_19, .int ol_])), (rt1_18, .inl (gT G, 8, .inr (.inr (.inr (.inr ft_))))), (ru1_19, .inl (gI G, 15625, .inl gu_))] ++ Tl) (fun xx_ : Nat × Int32 × (Nat → Option Nat) × (Nat → Int32) × va_W × Nat => match xx_ with | (x, ol_, ft_, gu_, Tl, kt) => [(5, .int (nI x)), (4, .ref sr1_17), (0, .ref h0), (1, .int p0), (2, .int (nI j_p1)), (3, .int p2)]) (fun xx_ : Nat × Int32 × (Nat → Option Nat) × (Nat → Int32) × va_W × Nat => match xx_ with | (x, ol_, ft_, gu_, Tl, kt) => (x ≤ 6) ∧ (PL2 G ft_ Tl) ∧ (c0 + kt = 1 + cntS ft_ 8) ∧ (∀ z, z < 5 ^ k → gu_ (sc k z) = clS (sumN k (bK (fk j_p1)) p0 ma x z))) (fun xx_ : Nat × Int32 × (Nat → Option Nat) × (Nat → Int32) × va_W × Nat => match xx_ with | (x, ol_, ft_, gu_, Tl, kt) => 6 - x) (P_subT hP [0, 1, 2, 3, 4, 5, 6, 7, 8, 9] rfl) (D_subT hD [0, 1, 2, 3, 4, 5, 6, 7, 8, 9] (by decide) rfl) hS (lv_sub hl [0, 1, 2, 3, 4, 5] rfl) ⟨by omega, pl2_none, hcn0, by intro z9 h9; rw [w20 _ (sc_lt5 hk6 h9)]; exact (clS_t (n := 0) (by decide)).symm⟩ ?_
          intro xx_ hI ih44 H locs ls hP hD hS hl
          obtain ⟨x, ol_, ft_, gu_, Tl, kt⟩ := xx_
          dsimp only at hI ih44 hP hD hl
          obtain ⟨hx0, hPLl, hcn, hsu⟩ := hI
          have hl : lv_has ls 6 [(5, .int (nI x)), (4, .ref sr1_17), (0, .ref h0), (1, .int p0), (2, .int (nI j_p1)), (3, .int p2)] := hl
          have hP : va_P G.1 vwCl ([(h0, .inr (5, [.ref pad, .ref pp, .ref im, .ref sr1_17, vtr])), (pad, .inr (0, [.ref sg, .ref sl, .int (nI pm)])), (sg, .inl (gI G, 40, .inl fsg)), (sl, .inl (gI G, 10, .inl fsl)), (pp, .inr (1, [.int (nI k), .int told, .int sp, .int (nI (sc k la)), .ref ac, .ref ak])), (ac, .inl (gI G, 6, .inl fc)), (ak, .inl (gI G, 4, .inl fk)), (sr1_17, .inr (2, [.ref rt1_18, .ref ru1_19, .int ol_])), (rt1_18, .inl (gT G, 8, .inr (.inr (.inr (.inr ft_))))), (ru1_19, .inl (gI G, 15625, .inl gu_))] ++ Tl) H := hP
          have hD : va_D A ([(h0, .inr (5, [.ref pad, .ref pp, .ref im, .ref sr1_17, vtr])), (pad, .inr (0, [.ref sg, .ref sl, .int (nI pm)])), (sg, .inl (gI G, 40, .inl fsg)), (sl, .inl (gI G, 10, .inl fsl)), (pp, .inr (1, [.int (nI k), .int told, .int sp, .int (nI (sc k la)), .ref ac, .ref ak])), (ac, .inl (gI G, 6, .inl fc)), (ak, .inl (gI G, 4, .inl fk)), (sr1_17, .inr (2, [.ref rt1_18, .ref ru1_19, .int ol_])), (rt1_18, .inl (gT G, 8, .inr (.inr (.inr (.inr ft_))))), (ru1_19, .inl (gI G, 15625, .inl gu_))] ++ Tl) := hD
          have hleK := cntS_le ft_ 8
          refine lv_iload hx hb dX9_lost_44 (lv_at hl 0 rfl) ?_
          refine lv_bipush (v := 6) hx hb dX9_lost_46 (by decide) ?_
          refine lv_icmp_ge (tgt := 78) hx hb dX9_lost_48 (by decide) (fun c24 => ?_) (fun c24 => ?_)
          · have c24 : 6 ≤ x := (nI_leI (a := 6) (b := x) (by omega) (by omega)).mp c24
            have hsu6 : ∀ z, z < 5 ^ k → gu_ (sc k z) = clS (sumN k (bK (fk j_p1)) p0 ma 6 z) := by have q9 := hsu; rw [show x = 6 by omega] at q9; exact q9
            refine lv_aload hx hb dX9_lost_78 (lv_at hl 1 rfl) ?_
            refine lv_aload_n hx hb dX9_lost_80 rfl (lv_at hl 2 rfl) ?_
            refine va_get (D := G.1) (ci := 5) (v := .ref pp) (C := RX9) (T := TX9) (N := 5) hx hb hts (fun _ h => List.mem_cons_of_mem _ (List.mem_append_left _ (List.mem_append_left _ (List.mem_append_left _ (List.mem_append_right _ h))))) hown E.K hP 0 rfl rfl 1 (by decide) (hts (.fieldLink RX9 19 "LastMap" "papers" "LLastMap$Papers;") (by decide +kernel)) (fun _ h9 => h9) rfl dX9_lost_81 ?_
            refine va_get (D := G.1) (ci := 1) (v := .int (nI k)) (C := RX3) (T := TX3) (N := 6) hx hb hts (fun _ h => List.mem_cons_of_mem _ (List.mem_append_left _ (List.mem_append_left _ (List.mem_append_right _ h)))) hown E.K hP 4 rfl rfl 0 (by decide) (hts (.fieldLink RX9 27 "LastMap$Papers" "siteCount" "I") (by decide +kernel)) (fun _ h9 => h9) rfl dX9_lost_84 ?_
            refine ca_iR (va_runV (As := [.int (nI k)]) (rest := []) ⟨hx, hb, hml, hown, hts⟩ (n_firstOfLeast l G H.size sr1_17 rt1_18 ru1_19 ol_ gu_ k (sumN k (bK (fk j_p1)) p0 ma 6) hk2 hk6 hsu6) (cwV 1 hts gX9_lost_X4_firstOfLeastSum rfl rfl rfl (by decide +kernel) ⟨by decide +kernel, by decide +kernel⟩) (pre_V E hP hD hS hA [7, 9] (by decide) rfl 7 2 rfl rfl) rfl rfl hl.1 rfl (lv_room (Nat.le_of_ble_eq_true rfl)) dX9_lost_87 ⟨show 3 * kt + 0 ≤ 33 by omega, show 31257 * kt + 0 ≤ 343827 by omega⟩) hS hP hD hA [7, 9] rfl (fun r26 _ H locs w25 hP hS => ?_)
            refine lv_istore (lv' := [(5, .int r26), (4, .ref sr1_17), (0, .ref h0), (1, .int p0), (2, .int (nI j_p1)), (3, .int p2)]) hx hb dX9_lost_90 hl (by decide) rfl (fun ls hl => ?_)
            refine lv_iload hx hb dX9_lost_92 (lv_at hl 0 rfl) ?_
            refine lv_if_ge (tgt := 100) hx hb dX9_lost_94 (by decide) (fun c27 => ?_) (fun c27 => ?_)
            · obtain ⟨F9, hF1, hF2, hF3, hF4⟩ := fsL_pos w25 (by have q9 := c27; simp only [i3_le, i3_lt, Int32.reduceToInt] at q9 ⊢; omega)
              have hl : lv_has ls 6 [(5, .int (nI (sc k F9))), (4, .ref sr1_17), (0, .ref h0), (1, .int p0), (2, .int (nI j_p1)), (3, .int p2)] := by have q := hl; rw [hF2] at q; exact q
              have hF5 : sumN k (bK (fk j_p1)) p0 ma 6 (amN (sumN k (bK (fk j_p1)) p0 ma 6) (5 ^ k)) < 1000 := by rw [← hF4]; exact hF3
              refine lv_iload_n hx hb dX9_lost_100 rfl (lv_at hl 5 rfl) ?_
              refine lv_iconst (v := (-1)) hx hb dX9_lost_101 (by decide) ?_
              refine lv_icmp_ne (tgt := 113) hx hb dX9_lost_102 (by decide) (fun c28 => ?_) (fun c28 => ?_)
              · refine lv_aload_n hx hb dX9_lost_113 rfl (lv_at hl 2 rfl) ?_
                refine lv_iload_n hx hb dX9_lost_114 rfl (lv_at hl 5 rfl) ?_
                refine ca_iR (va_runV (As := [.int p2]) (rest := []) ⟨hx, hb, hml, hown, hts⟩ (n_isSite l G H.size h0 pad pp im (.ref sr1_17) vtr ac ak k told sp (nI (sc k la)) p2 hk6) (cwV 1 hts gX9_lost_X9_isSite rfl rfl rfl (by decide +kernel) ⟨by decide +kernel, by decide +kernel⟩) (pre_V E hP hD hS hA [0, 4] (by decide) rfl 0 5 rfl rfl) rfl rfl hl.1 rfl (lv_room (Nat.le_of_ble_eq_true rfl)) dX9_lost_115 ⟨show 3 * kt + 0 ≤ 33 by omega, show 31257 * kt + 0 ≤ 343827 by omega⟩) hS hP hD hA [0, 4] rfl (fun r30 _ H locs w29 hP hS => ?_)
                rcases w29 with ⟨rfl, b31⟩ | ⟨rfl, b31⟩
                · refine lv_if_eq (tgt := 133) hx hb dX9_lost_118 (by decide) (fun c32 => False.elim (by revert c32; decide)) (fun _ => ?_)
                  obtain ⟨j_p2, hj_p2, ej_p2⟩ := b31
                  have hl : lv_has ls 6 [(5, .int (nI (sc k F9))), (4, .ref sr1_17), (0, .ref h0), (1, .int p0), (2, .int (nI j_p1)), (3, .int (nI j_p2))] := by have q := hl; rw [ej_p2] at q; exact q
                  refine lv_iload hx hb dX9_lost_121 (lv_at hl 0 rfl) ?_
                  refine lv_iload_n hx hb dX9_lost_123 rfl (lv_at hl 5 rfl) ?_
                  refine ca_iR (va_runS (As := [.int (nI (sc k F9)), .int (nI j_p2)]) (rest := []) ⟨hx, hb, hml, hown, hts⟩ (n_signAt l G H.size (sc k F9) j_p2 (sc_lt hk6 hF1) (by omega)) (va_cwS 2 hts gX9_lost_X1_signAt rfl rfl rfl (by decide +kernel) ⟨by decide +kernel, by decide +kernel⟩) (pre_S E hP hD hS hA [] (by decide) rfl) rfl rfl hl.1 rfl (lv_room (Nat.le_of_ble_eq_true rfl)) dX9_lost_124 ⟨show 3 * kt + 0 ≤ 33 by omega, show 31257 * kt + 0 ≤ 343827 by omega⟩) hS hP hD hA [] rfl (fun r34 _ H locs w33 hP hS => ?_)
                  rw [w33]
                  refine W.eq (g2 := F0 m 127 ls [.int (nI (dg k F9 j_p2))]) (by rw [dg_sc hk6 hj_p2]) ?_
                  refine ca_iR (va_runS (As := [.int (nI (dg k F9 j_p2))]) (rest := []) ⟨hx, hb, hml, hown, hts⟩ (n_written l G H.size (dg k F9 j_p2) (dg_lt _ _ _)) (va_cwS 1 hts gX9_lost_X5_written rfl rfl rfl (by decide +kernel) ⟨by decide +kernel, by decide +kernel⟩) (pre_S E hP hD hS hA [] (by decide) rfl) rfl rfl hl.1 rfl (lv_room (Nat.le_of_ble_eq_true rfl)) dX9_lost_127 ⟨show 3 * kt + 0 ≤ 33 by omega, show 31257 * kt + 0 ≤ 343827 by omega⟩) hS hP hD hA [] rfl (fun r36 _ H locs w35 hP hS => ?_)
                  refine lv_goto (tgt := 135) hx hb dX9_lost_130 (by decide) ?_
                  refine W_facts (fun hg => ?_)
                  have hg : GF s.heap H (3 * kt) (31257 * kt) := hg
                  refine W.widen (k := 33) (n := 343827) (show 3 * kt ≤ 33 by omega) (show 31257 * kt ≤ 343827 by omega) ?_
                  have hP : va_P G.1 vwCl ([(h0, .inr (5, [.ref pad, .ref pp, .ref im, .ref sr1_17, vtr])), (pad, .inr (0, [.ref sg, .ref sl, .int (nI pm)])), (sg, .inl (gI G, 40, .inl fsg)), (sl, .inl (gI G, 10, .inl fsl)), (pp, .inr (1, [.int (nI k), .int told, .int sp, .int (nI (sc k la)), .ref ac, .ref ak])), (ac, .inl (gI G, 6, .inl fc)), (ak, .inl (gI G, 4, .inl fk))] ++ ([(sr1_17, .inr (2, [.ref rt1_18, .ref ru1_19, .int ol_])), (rt1_18, .inl (gT G, 8, .inr (.inr (.inr (.inr ft_))))), (ru1_19, .inl (gI G, 15625, .inl gu_))] ++ Tl)) H := (P_subT (X' := [(h0, .inr (5, [.ref pad, .ref pp, .ref im, .ref sr1_17, vtr])), (pad, .inr (0, [.ref sg, .ref sl, .int (nI pm)])), (sg, .inl (gI G, 40, .inl fsg)), (sl, .inl (gI G, 10, .inl fsl)), (pp, .inr (1, [.int (nI k), .int told, .int sp, .int (nI (sc k la)), .ref ac, .ref ak])), (ac, .inl (gI G, 6, .inl fc)), (ak, .inl (gI G, 4, .inl fk)), (sr1_17, .inr (2, [.ref rt1_18, .ref ru1_19, .int ol_])), (rt1_18, .inl (gT G, 8, .inr (.inr (.inr (.inr ft_))))), (ru1_19, .inl (gI G, 15625, .inl gu_))]) hP [0, 1, 2, 3, 4, 5, 6, 7, 8, 9] rfl)
                  have hD : va_D A ([(h0, .inr (5, [.ref pad, .ref pp, .ref im, .ref sr1_17, vtr])), (pad, .inr (0, [.ref sg, .ref sl, .int (nI pm)])), (sg, .inl (gI G, 40, .inl fsg)), (sl, .inl (gI G, 10, .inl fsl)), (pp, .inr (1, [.int (nI k), .int told, .int sp, .int (nI (sc k la)), .ref ac, .ref ak])), (ac, .inl (gI G, 6, .inl fc)), (ak, .inl (gI G, 4, .inl fk))] ++ ([(sr1_17, .inr (2, [.ref rt1_18, .ref ru1_19, .int ol_])), (rt1_18, .inl (gT G, 8, .inr (.inr (.inr (.inr ft_))))), (ru1_19, .inl (gI G, 15625, .inl gu_))] ++ Tl)) := (D_subT (X' := [(h0, .inr (5, [.ref pad, .ref pp, .ref im, .ref sr1_17, vtr])), (pad, .inr (0, [.ref sg, .ref sl, .int (nI pm)])), (sg, .inl (gI G, 40, .inl fsg)), (sl, .inl (gI G, 10, .inl fsl)), (pp, .inr (1, [.int (nI k), .int told, .int sp, .int (nI (sc k la)), .ref ac, .ref ak])), (ac, .inl (gI G, 6, .inl fc)), (ak, .inl (gI G, 4, .inl fk)), (sr1_17, .inr (2, [.ref rt1_18, .ref ru1_19, .int ol_])), (rt1_18, .inl (gT G, 8, .inr (.inr (.inr (.inr ft_))))), (ru1_19, .inl (gI G, 15625, .inl gu_))]) hD [0, 1, 2, 3, 4, 5, 6, 7, 8, 9] (by decide) rfl)
                  have hP9 := (P_subT (X' := [(h0, .inr (5, [.ref pad, .ref pp, .ref im, .ref sr1_17, vtr])), (pad, .inr (0, [.ref sg, .ref sl, .int (nI pm)])), (sg, .inl (gI G, 40, .inl fsg)), (sl, .inl (gI G, 10, .inl fsl)), (pp, .inr (1, [.int (nI k), .int told, .int sp, .int (nI (sc k la)), .ref ac, .ref ak])), (ac, .inl (gI G, 6, .inl fc)), (ak, .inl (gI G, 4, .inl fk))]) hP [0, 1, 2, 3, 4, 5, 6] rfl)
                  have hD9 := (D_subT (X' := [(h0, .inr (5, [.ref pad, .ref pp, .ref im, .ref sr1_17, vtr])), (pad, .inr (0, [.ref sg, .ref sl, .int (nI pm)])), (sg, .inl (gI G, 40, .inl fsg)), (sl, .inl (gI G, 10, .inl fsl)), (pp, .inr (1, [.int (nI k), .int told, .int sp, .int (nI (sc k la)), .ref ac, .ref ak])), (ac, .inl (gI G, 6, .inl fc)), (ak, .inl (gI G, 4, .inl fk))]) hD [0, 1, 2, 3, 4, 5, 6] (by decide) rfl)
                  exact W.iret (v := r36) hx hb hr (fun t9_ ht9_ hW9_ => ⟨⟨r36, ((.ref sr1_17), ([(sr1_17, .inr (2, [.ref rt1_18, .ref ru1_19, .int ol_])), (rt1_18, .inl (gT G, 8, .inr (.inr (.inr (.inr ft_))))), (ru1_19, .inl (gI G, 15625, .inl gu_))] ++ Tl), kt), rfl, ⟨(Or.inr ⟨sr1_17, rt1_18, ru1_19, ol_, ft_, gu_, Tl, rfl, hPLl, rfl, by omega⟩), by rw [w35, hF4]; exact (lsF_3 hk6 hF5 c28 hj_p2 ej_p2).trans (lsA_4 hj_p1 ej_p1 b7 b11)⟩, by rw [ht9_]; exact hP9, hD9, by rw [ht9_]; exact (show GF s.heap H (3 * kt) (31257 * kt) from hg.wide (by omega) (by omega))⟩, hS.F ht9_⟩) hS.2.2 dX9_lost_135
                · refine lv_if_eq (tgt := 133) hx hb dX9_lost_118 (by decide) (fun _ => ?_) (fun c37 => False.elim (by revert c37; decide))
                  refine lv_bipush (v := (-6)) hx hb dX9_lost_133 (by decide) ?_
                  refine W_facts (fun hg => ?_)
                  have hg : GF s.heap H (3 * kt) (31257 * kt) := hg
                  refine W.widen (k := 33) (n := 343827) (show 3 * kt ≤ 33 by omega) (show 31257 * kt ≤ 343827 by omega) ?_
                  have hP : va_P G.1 vwCl ([(h0, .inr (5, [.ref pad, .ref pp, .ref im, .ref sr1_17, vtr])), (pad, .inr (0, [.ref sg, .ref sl, .int (nI pm)])), (sg, .inl (gI G, 40, .inl fsg)), (sl, .inl (gI G, 10, .inl fsl)), (pp, .inr (1, [.int (nI k), .int told, .int sp, .int (nI (sc k la)), .ref ac, .ref ak])), (ac, .inl (gI G, 6, .inl fc)), (ak, .inl (gI G, 4, .inl fk))] ++ ([(sr1_17, .inr (2, [.ref rt1_18, .ref ru1_19, .int ol_])), (rt1_18, .inl (gT G, 8, .inr (.inr (.inr (.inr ft_))))), (ru1_19, .inl (gI G, 15625, .inl gu_))] ++ Tl)) H := (P_subT (X' := [(h0, .inr (5, [.ref pad, .ref pp, .ref im, .ref sr1_17, vtr])), (pad, .inr (0, [.ref sg, .ref sl, .int (nI pm)])), (sg, .inl (gI G, 40, .inl fsg)), (sl, .inl (gI G, 10, .inl fsl)), (pp, .inr (1, [.int (nI k), .int told, .int sp, .int (nI (sc k la)), .ref ac, .ref ak])), (ac, .inl (gI G, 6, .inl fc)), (ak, .inl (gI G, 4, .inl fk)), (sr1_17, .inr (2, [.ref rt1_18, .ref ru1_19, .int ol_])), (rt1_18, .inl (gT G, 8, .inr (.inr (.inr (.inr ft_))))), (ru1_19, .inl (gI G, 15625, .inl gu_))]) hP [0, 1, 2, 3, 4, 5, 6, 7, 8, 9] rfl)
                  have hD : va_D A ([(h0, .inr (5, [.ref pad, .ref pp, .ref im, .ref sr1_17, vtr])), (pad, .inr (0, [.ref sg, .ref sl, .int (nI pm)])), (sg, .inl (gI G, 40, .inl fsg)), (sl, .inl (gI G, 10, .inl fsl)), (pp, .inr (1, [.int (nI k), .int told, .int sp, .int (nI (sc k la)), .ref ac, .ref ak])), (ac, .inl (gI G, 6, .inl fc)), (ak, .inl (gI G, 4, .inl fk))] ++ ([(sr1_17, .inr (2, [.ref rt1_18, .ref ru1_19, .int ol_])), (rt1_18, .inl (gT G, 8, .inr (.inr (.inr (.inr ft_))))), (ru1_19, .inl (gI G, 15625, .inl gu_))] ++ Tl)) := (D_subT (X' := [(h0, .inr (5, [.ref pad, .ref pp, .ref im, .ref sr1_17, vtr])), (pad, .inr (0, [.ref sg, .ref sl, .int (nI pm)])), (sg, .inl (gI G, 40, .inl fsg)), (sl, .inl (gI G, 10, .inl fsl)), (pp, .inr (1, [.int (nI k), .int told, .int sp, .int (nI (sc k la)), .ref ac, .ref ak])), (ac, .inl (gI G, 6, .inl fc)), (ak, .inl (gI G, 4, .inl fk)), (sr1_17, .inr (2, [.ref rt1_18, .ref ru1_19, .int ol_])), (rt1_18, .inl (gT G, 8, .inr (.inr (.inr (.inr ft_))))), (ru1_19, .inl (gI G, 15625, .inl gu_))]) hD [0, 1, 2, 3, 4, 5, 6, 7, 8, 9] (by decide) rfl)
                  have hP9 := (P_subT (X' := [(h0, .inr (5, [.ref pad, .ref pp, .ref im, .ref sr1_17, vtr])), (pad, .inr (0, [.ref sg, .ref sl, .int (nI pm)])), (sg, .inl (gI G, 40, .inl fsg)), (sl, .inl (gI G, 10, .inl fsl)), (pp, .inr (1, [.int (nI k), .int told, .int sp, .int (nI (sc k la)), .ref ac, .ref ak])), (ac, .inl (gI G, 6, .inl fc)), (ak, .inl (gI G, 4, .inl fk))]) hP [0, 1, 2, 3, 4, 5, 6] rfl)
                  have hD9 := (D_subT (X' := [(h0, .inr (5, [.ref pad, .ref pp, .ref im, .ref sr1_17, vtr])), (pad, .inr (0, [.ref sg, .ref sl, .int (nI pm)])), (sg, .inl (gI G, 40, .inl fsg)), (sl, .inl (gI G, 10, .inl fsl)), (pp, .inr (1, [.int (nI k), .int told, .int sp, .int (nI (sc k la)), .ref ac, .ref ak])), (ac, .inl (gI G, 6, .inl fc)), (ak, .inl (gI G, 4, .inl fk))]) hD [0, 1, 2, 3, 4, 5, 6] (by decide) rfl)
                  exact W.iret (v := (-6)) hx hb hr (fun t9_ ht9_ hW9_ => ⟨⟨(-6), ((.ref sr1_17), ([(sr1_17, .inr (2, [.ref rt1_18, .ref ru1_19, .int ol_])), (rt1_18, .inl (gT G, 8, .inr (.inr (.inr (.inr ft_))))), (ru1_19, .inl (gI G, 15625, .inl gu_))] ++ Tl), kt), rfl, ⟨(Or.inr ⟨sr1_17, rt1_18, ru1_19, ol_, ft_, gu_, Tl, rfl, hPLl, rfl, by omega⟩), (lsF_4 hF5 c28 b31).trans (lsA_4 hj_p1 ej_p1 b7 b11)⟩, by rw [ht9_]; exact hP9, hD9, by rw [ht9_]; exact (show GF s.heap H (3 * kt) (31257 * kt) from hg.wide (by omega) (by omega))⟩, hS.F ht9_⟩) hS.2.2 dX9_lost_135
              · refine lv_aload hx hb dX9_lost_105 (lv_at hl 1 rfl) ?_
                refine lv_iload hx hb dX9_lost_107 (lv_at hl 0 rfl) ?_
                refine ca_iR (va_runV (As := [.int (nI (sc k F9))]) (rest := []) ⟨hx, hb, hml, hown, hts⟩ (n_sumOf l G H.size sr1_17 rt1_18 ru1_19 ol_ gu_ (sc k F9) (sc_lt5 hk6 hF1)) (cwV 1 hts gX9_lost_X4_sumOf rfl rfl rfl (by decide +kernel) ⟨by decide +kernel, by decide +kernel⟩) (pre_V E hP hD hS hA [7, 9] (by decide) rfl 7 2 rfl rfl) rfl rfl hl.1 rfl (lv_room (Nat.le_of_ble_eq_true rfl)) dX9_lost_109 ⟨show 3 * kt + 0 ≤ 33 by omega, show 31257 * kt + 0 ≤ 343827 by omega⟩) hS hP hD hA [7, 9] rfl (fun r39 _ H locs w38 hP hS => ?_)
                refine W_facts (fun hg => ?_)
                have hg : GF s.heap H (3 * kt) (31257 * kt) := hg
                refine W.widen (k := 33) (n := 343827) (show 3 * kt ≤ 33 by omega) (show 31257 * kt ≤ 343827 by omega) ?_
                have hP : va_P G.1 vwCl ([(h0, .inr (5, [.ref pad, .ref pp, .ref im, .ref sr1_17, vtr])), (pad, .inr (0, [.ref sg, .ref sl, .int (nI pm)])), (sg, .inl (gI G, 40, .inl fsg)), (sl, .inl (gI G, 10, .inl fsl)), (pp, .inr (1, [.int (nI k), .int told, .int sp, .int (nI (sc k la)), .ref ac, .ref ak])), (ac, .inl (gI G, 6, .inl fc)), (ak, .inl (gI G, 4, .inl fk))] ++ ([(sr1_17, .inr (2, [.ref rt1_18, .ref ru1_19, .int ol_])), (rt1_18, .inl (gT G, 8, .inr (.inr (.inr (.inr ft_))))), (ru1_19, .inl (gI G, 15625, .inl gu_))] ++ Tl)) H := (P_subT (X' := [(h0, .inr (5, [.ref pad, .ref pp, .ref im, .ref sr1_17, vtr])), (pad, .inr (0, [.ref sg, .ref sl, .int (nI pm)])), (sg, .inl (gI G, 40, .inl fsg)), (sl, .inl (gI G, 10, .inl fsl)), (pp, .inr (1, [.int (nI k), .int told, .int sp, .int (nI (sc k la)), .ref ac, .ref ak])), (ac, .inl (gI G, 6, .inl fc)), (ak, .inl (gI G, 4, .inl fk)), (sr1_17, .inr (2, [.ref rt1_18, .ref ru1_19, .int ol_])), (rt1_18, .inl (gT G, 8, .inr (.inr (.inr (.inr ft_))))), (ru1_19, .inl (gI G, 15625, .inl gu_))]) hP [0, 1, 2, 3, 4, 5, 6, 7, 8, 9] rfl)
                have hD : va_D A ([(h0, .inr (5, [.ref pad, .ref pp, .ref im, .ref sr1_17, vtr])), (pad, .inr (0, [.ref sg, .ref sl, .int (nI pm)])), (sg, .inl (gI G, 40, .inl fsg)), (sl, .inl (gI G, 10, .inl fsl)), (pp, .inr (1, [.int (nI k), .int told, .int sp, .int (nI (sc k la)), .ref ac, .ref ak])), (ac, .inl (gI G, 6, .inl fc)), (ak, .inl (gI G, 4, .inl fk))] ++ ([(sr1_17, .inr (2, [.ref rt1_18, .ref ru1_19, .int ol_])), (rt1_18, .inl (gT G, 8, .inr (.inr (.inr (.inr ft_))))), (ru1_19, .inl (gI G, 15625, .inl gu_))] ++ Tl)) := (D_subT (X' := [(h0, .inr (5, [.ref pad, .ref pp, .ref im, .ref sr1_17, vtr])), (pad, .inr (0, [.ref sg, .ref sl, .int (nI pm)])), (sg, .inl (gI G, 40, .inl fsg)), (sl, .inl (gI G, 10, .inl fsl)), (pp, .inr (1, [.int (nI k), .int told, .int sp, .int (nI (sc k la)), .ref ac, .ref ak])), (ac, .inl (gI G, 6, .inl fc)), (ak, .inl (gI G, 4, .inl fk)), (sr1_17, .inr (2, [.ref rt1_18, .ref ru1_19, .int ol_])), (rt1_18, .inl (gT G, 8, .inr (.inr (.inr (.inr ft_))))), (ru1_19, .inl (gI G, 15625, .inl gu_))]) hD [0, 1, 2, 3, 4, 5, 6, 7, 8, 9] (by decide) rfl)
                have hP9 := (P_subT (X' := [(h0, .inr (5, [.ref pad, .ref pp, .ref im, .ref sr1_17, vtr])), (pad, .inr (0, [.ref sg, .ref sl, .int (nI pm)])), (sg, .inl (gI G, 40, .inl fsg)), (sl, .inl (gI G, 10, .inl fsl)), (pp, .inr (1, [.int (nI k), .int told, .int sp, .int (nI (sc k la)), .ref ac, .ref ak])), (ac, .inl (gI G, 6, .inl fc)), (ak, .inl (gI G, 4, .inl fk))]) hP [0, 1, 2, 3, 4, 5, 6] rfl)
                have hD9 := (D_subT (X' := [(h0, .inr (5, [.ref pad, .ref pp, .ref im, .ref sr1_17, vtr])), (pad, .inr (0, [.ref sg, .ref sl, .int (nI pm)])), (sg, .inl (gI G, 40, .inl fsg)), (sl, .inl (gI G, 10, .inl fsl)), (pp, .inr (1, [.int (nI k), .int told, .int sp, .int (nI (sc k la)), .ref ac, .ref ak])), (ac, .inl (gI G, 6, .inl fc)), (ak, .inl (gI G, 4, .inl fk))]) hD [0, 1, 2, 3, 4, 5, 6] (by decide) rfl)
                exact W.iret (v := r39) hx hb hr (fun t9_ ht9_ hW9_ => ⟨⟨r39, ((.ref sr1_17), ([(sr1_17, .inr (2, [.ref rt1_18, .ref ru1_19, .int ol_])), (rt1_18, .inl (gT G, 8, .inr (.inr (.inr (.inr ft_))))), (ru1_19, .inl (gI G, 15625, .inl gu_))] ++ Tl), kt), rfl, ⟨(Or.inr ⟨sr1_17, rt1_18, ru1_19, ol_, ft_, gu_, Tl, rfl, hPLl, rfl, by omega⟩), by rw [w38, hsu6 F9 hF1, clS_t hF3, hF4]; exact (lsF_2 hF5 c28).trans (lsA_4 hj_p1 ej_p1 b7 b11)⟩, by rw [ht9_]; exact hP9, hD9, by rw [ht9_]; exact (show GF s.heap H (3 * kt) (31257 * kt) from hg.wide (by omega) (by omega))⟩, hS.F ht9_⟩) hS.2.2 dX9_lost_112
            · refine lv_bipush (v := (-6)) hx hb dX9_lost_97 (by decide) ?_
              refine W_facts (fun hg => ?_)
              have hg : GF s.heap H (3 * kt) (31257 * kt) := hg
              refine W.widen (k := 33) (n := 343827) (show 3 * kt ≤ 33 by omega) (show 31257 * kt ≤ 343827 by omega) ?_
              have hP : va_P G.1 vwCl ([(h0, .inr (5, [.ref pad, .ref pp, .ref im, .ref sr1_17, vtr])), (pad, .inr (0, [.ref sg, .ref sl, .int (nI pm)])), (sg, .inl (gI G, 40, .inl fsg)), (sl, .inl (gI G, 10, .inl fsl)), (pp, .inr (1, [.int (nI k), .int told, .int sp, .int (nI (sc k la)), .ref ac, .ref ak])), (ac, .inl (gI G, 6, .inl fc)), (ak, .inl (gI G, 4, .inl fk))] ++ ([(sr1_17, .inr (2, [.ref rt1_18, .ref ru1_19, .int ol_])), (rt1_18, .inl (gT G, 8, .inr (.inr (.inr (.inr ft_))))), (ru1_19, .inl (gI G, 15625, .inl gu_))] ++ Tl)) H := (P_subT (X' := [(h0, .inr (5, [.ref pad, .ref pp, .ref im, .ref sr1_17, vtr])), (pad, .inr (0, [.ref sg, .ref sl, .int (nI pm)])), (sg, .inl (gI G, 40, .inl fsg)), (sl, .inl (gI G, 10, .inl fsl)), (pp, .inr (1, [.int (nI k), .int told, .int sp, .int (nI (sc k la)), .ref ac, .ref ak])), (ac, .inl (gI G, 6, .inl fc)), (ak, .inl (gI G, 4, .inl fk)), (sr1_17, .inr (2, [.ref rt1_18, .ref ru1_19, .int ol_])), (rt1_18, .inl (gT G, 8, .inr (.inr (.inr (.inr ft_))))), (ru1_19, .inl (gI G, 15625, .inl gu_))]) hP [0, 1, 2, 3, 4, 5, 6, 7, 8, 9] rfl)
              have hD : va_D A ([(h0, .inr (5, [.ref pad, .ref pp, .ref im, .ref sr1_17, vtr])), (pad, .inr (0, [.ref sg, .ref sl, .int (nI pm)])), (sg, .inl (gI G, 40, .inl fsg)), (sl, .inl (gI G, 10, .inl fsl)), (pp, .inr (1, [.int (nI k), .int told, .int sp, .int (nI (sc k la)), .ref ac, .ref ak])), (ac, .inl (gI G, 6, .inl fc)), (ak, .inl (gI G, 4, .inl fk))] ++ ([(sr1_17, .inr (2, [.ref rt1_18, .ref ru1_19, .int ol_])), (rt1_18, .inl (gT G, 8, .inr (.inr (.inr (.inr ft_))))), (ru1_19, .inl (gI G, 15625, .inl gu_))] ++ Tl)) := (D_subT (X' := [(h0, .inr (5, [.ref pad, .ref pp, .ref im, .ref sr1_17, vtr])), (pad, .inr (0, [.ref sg, .ref sl, .int (nI pm)])), (sg, .inl (gI G, 40, .inl fsg)), (sl, .inl (gI G, 10, .inl fsl)), (pp, .inr (1, [.int (nI k), .int told, .int sp, .int (nI (sc k la)), .ref ac, .ref ak])), (ac, .inl (gI G, 6, .inl fc)), (ak, .inl (gI G, 4, .inl fk)), (sr1_17, .inr (2, [.ref rt1_18, .ref ru1_19, .int ol_])), (rt1_18, .inl (gT G, 8, .inr (.inr (.inr (.inr ft_))))), (ru1_19, .inl (gI G, 15625, .inl gu_))]) hD [0, 1, 2, 3, 4, 5, 6, 7, 8, 9] (by decide) rfl)
              have hP9 := (P_subT (X' := [(h0, .inr (5, [.ref pad, .ref pp, .ref im, .ref sr1_17, vtr])), (pad, .inr (0, [.ref sg, .ref sl, .int (nI pm)])), (sg, .inl (gI G, 40, .inl fsg)), (sl, .inl (gI G, 10, .inl fsl)), (pp, .inr (1, [.int (nI k), .int told, .int sp, .int (nI (sc k la)), .ref ac, .ref ak])), (ac, .inl (gI G, 6, .inl fc)), (ak, .inl (gI G, 4, .inl fk))]) hP [0, 1, 2, 3, 4, 5, 6] rfl)
              have hD9 := (D_subT (X' := [(h0, .inr (5, [.ref pad, .ref pp, .ref im, .ref sr1_17, vtr])), (pad, .inr (0, [.ref sg, .ref sl, .int (nI pm)])), (sg, .inl (gI G, 40, .inl fsg)), (sl, .inl (gI G, 10, .inl fsl)), (pp, .inr (1, [.int (nI k), .int told, .int sp, .int (nI (sc k la)), .ref ac, .ref ak])), (ac, .inl (gI G, 6, .inl fc)), (ak, .inl (gI G, 4, .inl fk))]) hD [0, 1, 2, 3, 4, 5, 6] (by decide) rfl)
              exact W.iret (v := (-6)) hx hb hr (fun t9_ ht9_ hW9_ => ⟨⟨(-6), ((.ref sr1_17), ([(sr1_17, .inr (2, [.ref rt1_18, .ref ru1_19, .int ol_])), (rt1_18, .inl (gT G, 8, .inr (.inr (.inr (.inr ft_))))), (ru1_19, .inl (gI G, 15625, .inl gu_))] ++ Tl), kt), rfl, ⟨(Or.inr ⟨sr1_17, rt1_18, ru1_19, ol_, ft_, gu_, Tl, rfl, hPLl, rfl, by omega⟩), (lsF_1 (fsL_neg hk6 (Nat.le_refl _) (p5pos k) w25 (by have q9 := c27; simp only [i3_le, i3_lt, Int32.reduceToInt] at q9 ⊢; omega))).trans (lsA_4 hj_p1 ej_p1 b7 b11)⟩, by rw [ht9_]; exact hP9, hD9, by rw [ht9_]; exact (show GF s.heap H (3 * kt) (31257 * kt) from hg.wide (by omega) (by omega))⟩, hS.F ht9_⟩) hS.2.2 dX9_lost_99
          · have c24 : ¬ 6 ≤ x := fun h9_ => c24 ((nI_leI (a := 6) (b := x) (by omega) (by omega)).mpr h9_)
            refine lv_iload_n hx hb dX9_lost_51 rfl (lv_at hl 3 rfl) ?_
            refine lv_iload hx hb dX9_lost_52 (lv_at hl 0 rfl) ?_
            refine ca_iR (va_runS (As := [.int p0, .int (nI x)]) (rest := []) ⟨hx, hb, hml, hown, hts⟩ (n_isOf l G H.size p0 (nI x)) (va_cwS 2 hts gX9_lost_X9_isOf rfl rfl rfl (by decide +kernel) ⟨by decide +kernel, by decide +kernel⟩) (pre_S E hP hD hS hA [] (by decide) rfl) rfl rfl hl.1 rfl (lv_room (Nat.le_of_ble_eq_true rfl)) dX9_lost_54 ⟨show 3 * kt + 0 ≤ 33 by omega, show 31257 * kt + 0 ≤ 343827 by omega⟩) hS hP hD hA [] rfl (fun r41 _ H locs w40 hP hS => ?_)
            rcases w40 with ⟨rfl, b42⟩ | ⟨rfl, b42⟩
            · refine lv_if_eq (tgt := 72) hx hb dX9_lost_57 (by decide) (fun c43 => False.elim (by revert c43; decide)) (fun _ => ?_)
              have htd := b42.2
              have hcx := hcr x (by omega) (hset x (by omega) htd)
              have hct : ma x < 5 ^ k ∧ fc x = nI (sc k (ma x)) ∧ x < 6 := ⟨hcx.1, hcx.2, by omega⟩
              refine lv_aload hx hb dX9_lost_60 (lv_at hl 1 rfl) ?_
              refine lv_aload_n hx hb dX9_lost_62 rfl (lv_at hl 2 rfl) ?_
              refine lv_iload hx hb dX9_lost_63 (lv_at hl 0 rfl) ?_
              refine lv_iload_n hx hb dX9_lost_65 rfl (lv_at hl 4 rfl) ?_
              refine W_facts (fun hg => ?_)
              have hg : GF s.heap H (3 * kt) (31257 * kt) := hg
              refine ca_rH (wr := [(pad, .inr (0, [.ref sg, .ref sl, .int (nI pm)])), (sg, .inl (gI G, 40, .inl fsg)), (sl, .inl (gI G, 10, .inl fsl))]) hg (va_runV (As := [.int (nI x), .int (nI j_p1)]) (rest := [.ref sr1_17]) ⟨hx, hb, hml, hown, hts⟩ (h_tableOf_s l G H h0 pad pp im vtr ac ak k x j_p1 told sp (nI (sc k la)) fc fk (ma x) sr1_17 rt1_18 ru1_19 ol_ ft_ gu_ Tl hk2 hk6 hct.2.2 hj_p1 hct.1 hct.2.1 hPLl) (cwV 2 hts gX9_lost_X9_tableOf rfl rfl rfl (by decide +kernel) ⟨by decide +kernel, by decide +kernel⟩) (pre_VH E hP hD hS hA [0, 4, 5, 6, 7, 8, 9] (by decide) rfl 0 5 rfl rfl) rfl rfl hl.1 rfl (lv_room (Nat.le_of_ble_eq_true rfl)) dX9_lost_66 ⟨show 3 * kt + 3 ≤ 33 by omega, show 31257 * kt + 31257 ≤ 343827 by omega⟩) hS hP hD hA [0, 4, 5, 6, 7, 8, 9] [1, 2, 3] rfl rfl (by decide) (by decide) (fun u46 H locs w44 hP hD hS hg => ?_)
              obtain ⟨ol1_47, ft1_48, t1_49, ta1_50, tq1_51, qd1_52, se1_53, go1_54, ki1_55, nn1_56, fs1_57, fq1_58, T1_59, k1_60⟩ := u46
              try dsimp only at w44 hP hD
              have hP := (P_subT (X' := [(h0, .inr (5, [.ref pad, .ref pp, .ref im, .ref sr1_17, vtr])), (pad, .inr (0, [.ref sg, .ref sl, .int (nI pm)])), (sg, .inl (gI G, 40, .inl fsg)), (sl, .inl (gI G, 10, .inl fsl)), (pp, .inr (1, [.int (nI k), .int told, .int sp, .int (nI (sc k la)), .ref ac, .ref ak])), (ac, .inl (gI G, 6, .inl fc)), (ak, .inl (gI G, 4, .inl fk)), (sr1_17, .inr (2, [.ref rt1_18, .ref ru1_19, .int ol1_47])), (rt1_18, .inl (gT G, 8, .inr (.inr (.inr (.inr ft1_48))))), (ru1_19, .inl (gI G, 15625, .inl gu_)), (t1_49, .inr (3, [.ref ta1_50, .ref tq1_51, .int qd1_52, .int se1_53, .int go1_54, .int ki1_55, .int nn1_56])), (ta1_50, .inl (gB G, 15625, .inl fs1_57)), (tq1_51, .inl (gI G, 15625, .inl fq1_58))]) hP [3, 0, 1, 2, 4, 5, 6, 7, 8, 9, 10, 11, 12] rfl)
              have hD := (D_subT (X' := [(h0, .inr (5, [.ref pad, .ref pp, .ref im, .ref sr1_17, vtr])), (pad, .inr (0, [.ref sg, .ref sl, .int (nI pm)])), (sg, .inl (gI G, 40, .inl fsg)), (sl, .inl (gI G, 10, .inl fsl)), (pp, .inr (1, [.int (nI k), .int told, .int sp, .int (nI (sc k la)), .ref ac, .ref ak])), (ac, .inl (gI G, 6, .inl fc)), (ak, .inl (gI G, 4, .inl fk)), (sr1_17, .inr (2, [.ref rt1_18, .ref ru1_19, .int ol1_47])), (rt1_18, .inl (gT G, 8, .inr (.inr (.inr (.inr ft1_48))))), (ru1_19, .inl (gI G, 15625, .inl gu_)), (t1_49, .inr (3, [.ref ta1_50, .ref tq1_51, .int qd1_52, .int se1_53, .int go1_54, .int ki1_55, .int nn1_56])), (ta1_50, .inl (gB G, 15625, .inl fs1_57)), (tq1_51, .inl (gI G, 15625, .inl fq1_58))]) hD [3, 0, 1, 2, 4, 5, 6, 7, 8, 9, 10, 11, 12] (by decide) rfl)
              have hTL := w44.1.1
              have hd2 := w44.1.2
              have hkn := w44.2.1
              have hkm := w44.2.2.1
              have hmk := w44.2.2.2.1
              obtain rfl : ki1_55 = fk j_p1 := w44.2.2.2.2.1
              obtain rfl : nn1_56 = nI k := w44.2.2.2.2.2
              obtain ⟨yv9, cv9, ecv9, eyv9, hbk9⟩ := tok_get hd2 rfl hk2 hk6
              obtain rfl := ecv9
              obtain rfl := eyv9
              have hP : va_P G.1 vwCl ([(h0, .inr (5, [.ref pad, .ref pp, .ref im, .ref sr1_17, vtr])), (pad, .inr (0, [.ref sg, .ref sl, .int (nI pm)])), (sg, .inl (gI G, 40, .inl fsg)), (sl, .inl (gI G, 10, .inl fsl)), (pp, .inr (1, [.int (nI k), .int told, .int sp, .int (nI (sc k la)), .ref ac, .ref ak])), (ac, .inl (gI G, 6, .inl fc)), (ak, .inl (gI G, 4, .inl fk)), (sr1_17, .inr (2, [.ref rt1_18, .ref ru1_19, .int ol1_47])), (rt1_18, .inl (gT G, 8, .inr (.inr (.inr (.inr ft1_48))))), (ru1_19, .inl (gI G, 15625, .inl gu_)), (t1_49, .inr (3, [.ref ta1_50, .ref tq1_51, .int (nI cv9), .int (nI yv9), .int go1_54, .int (fk j_p1), .int (nI k)])), (ta1_50, .inl (gB G, 15625, .inl fs1_57)), (tq1_51, .inl (gI G, 15625, .inl fq1_58))] ++ T1_59) H := hP
              have hD : va_D A ([(h0, .inr (5, [.ref pad, .ref pp, .ref im, .ref sr1_17, vtr])), (pad, .inr (0, [.ref sg, .ref sl, .int (nI pm)])), (sg, .inl (gI G, 40, .inl fsg)), (sl, .inl (gI G, 10, .inl fsl)), (pp, .inr (1, [.int (nI k), .int told, .int sp, .int (nI (sc k la)), .ref ac, .ref ak])), (ac, .inl (gI G, 6, .inl fc)), (ak, .inl (gI G, 4, .inl fk)), (sr1_17, .inr (2, [.ref rt1_18, .ref ru1_19, .int ol1_47])), (rt1_18, .inl (gT G, 8, .inr (.inr (.inr (.inr ft1_48))))), (ru1_19, .inl (gI G, 15625, .inl gu_)), (t1_49, .inr (3, [.ref ta1_50, .ref tq1_51, .int (nI cv9), .int (nI yv9), .int go1_54, .int (fk j_p1), .int (nI k)])), (ta1_50, .inl (gB G, 15625, .inl fs1_57)), (tq1_51, .inl (gI G, 15625, .inl fq1_58))] ++ T1_59) := hD
              refine ca_vQ (wr := [(h0, .inr (5, [.ref pad, .ref pp, .ref im, .ref sr1_17, vtr])), (pad, .inr (0, [.ref sg, .ref sl, .int (nI pm)])), (sg, .inl (gI G, 40, .inl fsg)), (sl, .inl (gI G, 10, .inl fsl)), (pp, .inr (1, [.int (nI k), .int told, .int sp, .int (nI (sc k la)), .ref ac, .ref ak])), (ac, .inl (gI G, 6, .inl fc)), (ak, .inl (gI G, 4, .inl fk)), (rt1_18, .inl (gT G, 8, .inr (.inr (.inr (.inr ft1_48)))))]) (va_runV (As := [.ref t1_49]) (rest := []) ⟨hx, hb, hml, hown, hts⟩ (n_addToSums l G H.size sr1_17 rt1_18 ru1_19 ol1_47 gu_ t1_49 ta1_50 tq1_51 k cv9 yv9 go1_54 (fk j_p1) fs1_57 fq1_58 (gS k go1_54) hk2 hk6 hbk9) (cwV 1 hts gX9_lost_X4_addToSums rfl rfl rfl (by decide +kernel) ⟨by decide +kernel, by decide +kernel⟩) (pre_V E hP hD hS hA [7, 9, 10, 11, 12] (by decide) rfl 7 2 rfl rfl) rfl rfl hl.1 rfl (lv_room (Nat.le_of_ble_eq_true rfl)) dX9_lost_69 ⟨show 3 * kt + (3 * k1_60) + 0 ≤ 33 by omega, show 31257 * kt + (31257 * k1_60) + 0 ≤ 343827 by omega⟩) hS hP hD hA [7, 9, 10, 11, 12] [0, 1, 2, 3, 4, 5, 6, 8] rfl rfl (by decide) (by decide) (fun u63 H locs w61 hP hD hS => ?_)
              obtain ⟨gu1_64, cq1_65, yq1_66, fs1_67, fq1_68⟩ := u63
              try dsimp only at w61 hP hD
              have hP := (P_subT (X' := [(h0, .inr (5, [.ref pad, .ref pp, .ref im, .ref sr1_17, vtr])), (pad, .inr (0, [.ref sg, .ref sl, .int (nI pm)])), (sg, .inl (gI G, 40, .inl fsg)), (sl, .inl (gI G, 10, .inl fsl)), (pp, .inr (1, [.int (nI k), .int told, .int sp, .int (nI (sc k la)), .ref ac, .ref ak])), (ac, .inl (gI G, 6, .inl fc)), (ak, .inl (gI G, 4, .inl fk)), (sr1_17, .inr (2, [.ref rt1_18, .ref ru1_19, .int ol1_47])), (rt1_18, .inl (gT G, 8, .inr (.inr (.inr (.inr ft1_48))))), (ru1_19, .inl (gI G, 15625, .inl gu1_64)), (t1_49, .inr (3, [.ref ta1_50, .ref tq1_51, .int (nI cq1_65), .int (nI yq1_66), .int go1_54, .int (fk j_p1), .int (nI k)])), (ta1_50, .inl (gB G, 15625, .inl fs1_67)), (tq1_51, .inl (gI G, 15625, .inl fq1_68))]) hP [0, 1, 2, 3, 4, 5, 6, 8, 7, 9, 10, 11, 12] rfl)
              have hD := (D_subT (X' := [(h0, .inr (5, [.ref pad, .ref pp, .ref im, .ref sr1_17, vtr])), (pad, .inr (0, [.ref sg, .ref sl, .int (nI pm)])), (sg, .inl (gI G, 40, .inl fsg)), (sl, .inl (gI G, 10, .inl fsl)), (pp, .inr (1, [.int (nI k), .int told, .int sp, .int (nI (sc k la)), .ref ac, .ref ak])), (ac, .inl (gI G, 6, .inl fc)), (ak, .inl (gI G, 4, .inl fk)), (sr1_17, .inr (2, [.ref rt1_18, .ref ru1_19, .int ol1_47])), (rt1_18, .inl (gT G, 8, .inr (.inr (.inr (.inr ft1_48))))), (ru1_19, .inl (gI G, 15625, .inl gu1_64)), (t1_49, .inr (3, [.ref ta1_50, .ref tq1_51, .int (nI cq1_65), .int (nI yq1_66), .int go1_54, .int (fk j_p1), .int (nI k)])), (ta1_50, .inl (gB G, 15625, .inl fs1_67)), (tq1_51, .inl (gI G, 15625, .inl fq1_68))]) hD [0, 1, 2, 3, 4, 5, 6, 8, 7, 9, 10, 11, 12] (by decide) rfl)
              obtain ⟨x69, ex69⟩ : ∃ yy_ : Int32, yy_ = (nI x) + 1 := ⟨_, rfl⟩
              refine lv_iinc (v := x69) (lv' := [(5, .int x69), (4, .ref sr1_17), (0, .ref h0), (1, .int p0), (2, .int (nI j_p1)), (3, .int p2)]) hx hb dX9_lost_72 hl (k := 0) rfl (by rw [ex69]; rfl) (by decide) rfl (fun ls hl => ?_)
              obtain rfl : x69 = nI (x + 1) := by rw [ex69]; exact nI_add x 1
              refine lv_goto (tgt := 44) hx hb dX9_lost_75 (by decide) ?_
              obtain ⟨T8_70, hT8_70, hP, hD⟩ := pl2_put (X := [(h0, .inr (5, [.ref pad, .ref pp, .ref im, .ref sr1_17, vtr])), (pad, .inr (0, [.ref sg, .ref sl, .int (nI pm)])), (sg, .inl (gI G, 40, .inl fsg)), (sl, .inl (gI G, 10, .inl fsl)), (pp, .inr (1, [.int (nI k), .int told, .int sp, .int (nI (sc k la)), .ref ac, .ref ak])), (ac, .inl (gI G, 6, .inl fc)), (ak, .inl (gI G, 4, .inl fk)), (sr1_17, .inr (2, [.ref rt1_18, .ref ru1_19, .int ol1_47])), (rt1_18, .inl (gT G, 8, .inr (.inr (.inr (.inr ft1_48))))), (ru1_19, .inl (gI G, 15625, .inl gu1_64))]) (d1 := (t1_49, ta1_50, tq1_51, nI cq1_65, nI yq1_66, go1_54, fk j_p1, nI k, fs1_67, fq1_68)) hTL rfl (Or.inr ⟨k, yq1_66, cq1_65, hk2, hk6, rfl, rfl, rfl, w61.1⟩) (P_subT hP [0, 1, 2, 3, 4, 5, 6, 7, 8, 9, 10, 11, 12] rfl) (D_subT hD [0, 1, 2, 3, 4, 5, 6, 7, 8, 9, 10, 11, 12] (by decide) rfl)
              have hP : va_P G.1 vwCl ([(h0, .inr (5, [.ref pad, .ref pp, .ref im, .ref sr1_17, vtr])), (pad, .inr (0, [.ref sg, .ref sl, .int (nI pm)])), (sg, .inl (gI G, 40, .inl fsg)), (sl, .inl (gI G, 10, .inl fsl)), (pp, .inr (1, [.int (nI k), .int told, .int sp, .int (nI (sc k la)), .ref ac, .ref ak])), (ac, .inl (gI G, 6, .inl fc)), (ak, .inl (gI G, 4, .inl fk)), (sr1_17, .inr (2, [.ref rt1_18, .ref ru1_19, .int ol1_47])), (rt1_18, .inl (gT G, 8, .inr (.inr (.inr (.inr ft1_48))))), (ru1_19, .inl (gI G, 15625, .inl gu1_64))] ++ T8_70) H := hP
              have hD : va_D A ([(h0, .inr (5, [.ref pad, .ref pp, .ref im, .ref sr1_17, vtr])), (pad, .inr (0, [.ref sg, .ref sl, .int (nI pm)])), (sg, .inl (gI G, 40, .inl fsg)), (sl, .inl (gI G, 10, .inl fsl)), (pp, .inr (1, [.int (nI k), .int told, .int sp, .int (nI (sc k la)), .ref ac, .ref ak])), (ac, .inl (gI G, 6, .inl fc)), (ak, .inl (gI G, 4, .inl fk)), (sr1_17, .inr (2, [.ref rt1_18, .ref ru1_19, .int ol1_47])), (rt1_18, .inl (gT G, 8, .inr (.inr (.inr (.inr ft1_48))))), (ru1_19, .inl (gI G, 15625, .inl gu1_64))] ++ T8_70) := hD
              refine W_facts (fun hg => ?_)
              have hg : GF s.heap H (3 * kt + (3 * k1_60)) (31257 * kt + (31257 * k1_60)) := hg
              refine W_lower (k := 3 * (kt + k1_60)) (n := 31257 * (kt + k1_60)) (hg.wide (by omega) (by omega)) ?_
              refine ih44 ((x + 1), ol1_47, ft1_48, gu1_64, T8_70, kt + k1_60) ⟨?_, ?_, ?_, ?_⟩ (by first | omega | (dsimp only; omega)) H locs ls (P_subT hP [0, 1, 2, 3, 4, 5, 6, 7, 8, 9] rfl) (D_subT hD [0, 1, 2, 3, 4, 5, 6, 7, 8, 9] (by decide) rfl) hS (lv_sub hl [0, 1, 2, 3, 4, 5] rfl)
              · try dsimp only
                omega
              · try dsimp only
                exact hT8_70
              · try dsimp only
                omega
              · try dsimp only
                intro z9 h9; rw [w61.2.2 _ (sc_lt5 hk6 h9), hsu z9 h9, sumN_t htd]; exact ls_step hct.1 (w61.2.1 z9 h9) (fun x9 h8 => gS_one hct.1 hmk h8) (j := x) (by have q9 := sumN_or (b := bK (fk j_p1)) (p0 := p0) (ma := ma) hk6 h9 hmA x (by omega); omega) (by omega)
            · refine lv_if_eq (tgt := 72) hx hb dX9_lost_57 (by decide) (fun _ => ?_) (fun c71 => False.elim (by revert c71; decide))
              have hntd : ¬ tdP p0 (nI x) := fun q9 => b42 ⟨inR05 (by omega), q9⟩
              obtain ⟨x72, ex72⟩ : ∃ yy_ : Int32, yy_ = (nI x) + 1 := ⟨_, rfl⟩
              refine lv_iinc (v := x72) (lv' := [(5, .int x72), (4, .ref sr1_17), (0, .ref h0), (1, .int p0), (2, .int (nI j_p1)), (3, .int p2)]) hx hb dX9_lost_72 hl (k := 0) rfl (by rw [ex72]; rfl) (by decide) rfl (fun ls hl => ?_)
              obtain rfl : x72 = nI (x + 1) := by rw [ex72]; exact nI_add x 1
              refine lv_goto (tgt := 44) hx hb dX9_lost_75 (by decide) ?_
              refine W_facts (fun hg => ?_)
              have hg : GF s.heap H (3 * kt) (31257 * kt) := hg
              refine W_lower (k := 3 * kt) (n := 31257 * kt) (hg.wide (by omega) (by omega)) ?_
              refine ih44 ((x + 1), ol_, ft_, gu_, Tl, kt) ⟨?_, ?_, ?_, ?_⟩ (by first | omega | (dsimp only; omega)) H locs ls (P_subT hP [0, 1, 2, 3, 4, 5, 6, 7, 8, 9] rfl) (D_subT hD [0, 1, 2, 3, 4, 5, 6, 7, 8, 9] (by decide) rfl) hS (lv_sub hl [0, 1, 2, 3, 4, 5] rfl)
              · try dsimp only
                omega
              · try dsimp only
                exact hPLl
              · try dsimp only
                omega
              · try dsimp only
                intro z9 h9; rw [sumN_f hntd]; exact hsu z9 h9
        · have hP : va_P G.1 vwCl ([(h0, .inr (5, [.ref pad, .ref pp, .ref im, .ref sr_13, vtr])), (pad, .inr (0, [.ref sg, .ref sl, .int (nI pm)])), (sg, .inl (gI G, 40, .inl fsg)), (sl, .inl (gI G, 10, .inl fsl)), (pp, .inr (1, [.int (nI k), .int told, .int sp, .int (nI (sc k la)), .ref ac, .ref ak])), (ac, .inl (gI G, 6, .inl fc)), (ak, .inl (gI G, 4, .inl fk)), (sr_13, .inr (2, [.ref rt_13, .ref ru_13, .int ol_13])), (rt_13, .inl (gT G, 8, .inr (.inr (.inr (.inr ft_13))))), (ru_13, .inl (gI G, 15625, .inl gu_13))] ++ T_13) H := by rw [hva_13, hvb_13] at hP; exact hP
          have hD : va_D A ([(h0, .inr (5, [.ref pad, .ref pp, .ref im, .ref sr_13, vtr])), (pad, .inr (0, [.ref sg, .ref sl, .int (nI pm)])), (sg, .inl (gI G, 40, .inl fsg)), (sl, .inl (gI G, 10, .inl fsl)), (pp, .inr (1, [.int (nI k), .int told, .int sp, .int (nI (sc k la)), .ref ac, .ref ak])), (ac, .inl (gI G, 6, .inl fc)), (ak, .inl (gI G, 4, .inl fk)), (sr_13, .inr (2, [.ref rt_13, .ref ru_13, .int ol_13])), (rt_13, .inl (gT G, 8, .inr (.inr (.inr (.inr ft_13))))), (ru_13, .inl (gI G, 15625, .inl gu_13))] ++ T_13) := by rw [hva_13, hvb_13] at hD; exact hD
          refine W_facts (fun hg => ?_)
          have hg : GF s.heap H (0) (0) := hg
          refine ca_rH (wr := [(pad, .inr (0, [.ref sg, .ref sl, .int (nI pm)])), (sg, .inl (gI G, 40, .inl fsg)), (sl, .inl (gI G, 10, .inl fsl)), (pp, .inr (1, [.int (nI k), .int told, .int sp, .int (nI (sc k la)), .ref ac, .ref ak])), (ac, .inl (gI G, 6, .inl fc)), (ak, .inl (gI G, 4, .inl fk)), (sr_13, .inr (2, [.ref rt_13, .ref ru_13, .int ol_13])), (rt_13, .inl (gT G, 8, .inr (.inr (.inr (.inr ft_13))))), (ru_13, .inl (gI G, 15625, .inl gu_13))]) hg (va_runV (As := []) (rest := []) ⟨hx, hb, hml, hown, hts⟩ (d_ready_s l G H h0 pad pp im vtr sr_13 T_13) (cwV 0 hts gX9_lost_X9_readySearch rfl rfl rfl (by decide +kernel) ⟨by decide +kernel, by decide +kernel⟩) (pre_VH E hP hD hS hA [0] (by decide) rfl 0 5 rfl rfl) rfl rfl hl.1 rfl (lv_room (Nat.le_of_ble_eq_true rfl)) dX9_lost_31 ⟨show 0 + 0 ≤ 33 by omega, show 0 + 0 ≤ 343827 by omega⟩) hS hP hD hA [0] [1, 2, 3, 4, 5, 6, 7, 8, 9] rfl rfl (by decide) (by decide) (fun u75 H locs w73 hP hD hS hg => ?_)
          try dsimp only at w73 hP hD
          have hP := (P_subT (X' := [(h0, .inr (5, [.ref pad, .ref pp, .ref im, .ref sr_13, vtr])), (pad, .inr (0, [.ref sg, .ref sl, .int (nI pm)])), (sg, .inl (gI G, 40, .inl fsg)), (sl, .inl (gI G, 10, .inl fsl)), (pp, .inr (1, [.int (nI k), .int told, .int sp, .int (nI (sc k la)), .ref ac, .ref ak])), (ac, .inl (gI G, 6, .inl fc)), (ak, .inl (gI G, 4, .inl fk)), (sr_13, .inr (2, [.ref rt_13, .ref ru_13, .int ol_13])), (rt_13, .inl (gT G, 8, .inr (.inr (.inr (.inr ft_13))))), (ru_13, .inl (gI G, 15625, .inl gu_13))]) hP [9, 0, 1, 2, 3, 4, 5, 6, 7, 8] rfl)
          have hD := (D_subT (X' := [(h0, .inr (5, [.ref pad, .ref pp, .ref im, .ref sr_13, vtr])), (pad, .inr (0, [.ref sg, .ref sl, .int (nI pm)])), (sg, .inl (gI G, 40, .inl fsg)), (sl, .inl (gI G, 10, .inl fsl)), (pp, .inr (1, [.int (nI k), .int told, .int sp, .int (nI (sc k la)), .ref ac, .ref ak])), (ac, .inl (gI G, 6, .inl fc)), (ak, .inl (gI G, 4, .inl fk)), (sr_13, .inr (2, [.ref rt_13, .ref ru_13, .int ol_13])), (rt_13, .inl (gT G, 8, .inr (.inr (.inr (.inr ft_13))))), (ru_13, .inl (gI G, 15625, .inl gu_13))]) hD [9, 0, 1, 2, 3, 4, 5, 6, 7, 8] (by decide) rfl)
          refine lv_astore (lv' := [(4, .ref sr_13), (0, .ref h0), (1, .int p0), (2, .int (nI j_p1)), (3, .int p2)]) hx hb dX9_lost_34 hl (by decide) rfl (fun ls hl => ?_)
          refine lv_aload hx hb dX9_lost_36 (lv_at hl 0 rfl) ?_
          refine ca_vQ (wr := [(h0, .inr (5, [.ref pad, .ref pp, .ref im, .ref sr_13, vtr])), (pad, .inr (0, [.ref sg, .ref sl, .int (nI pm)])), (sg, .inl (gI G, 40, .inl fsg)), (sl, .inl (gI G, 10, .inl fsl)), (pp, .inr (1, [.int (nI k), .int told, .int sp, .int (nI (sc k la)), .ref ac, .ref ak])), (ac, .inl (gI G, 6, .inl fc)), (ak, .inl (gI G, 4, .inl fk)), (rt_13, .inl (gT G, 8, .inr (.inr (.inr (.inr ft_13)))))]) (va_runV (As := []) (rest := []) ⟨hx, hb, hml, hown, hts⟩ (n_clearSums l G H.size sr_13 rt_13 ru_13 ol_13 gu_13) (cwV 0 hts gX9_lost_X4_clearSums rfl rfl rfl (by decide +kernel) ⟨by decide +kernel, by decide +kernel⟩) (pre_V E hP hD hS hA [7, 9] (by decide) rfl 7 2 rfl rfl) rfl rfl hl.1 rfl (lv_room (Nat.le_of_ble_eq_true rfl)) dX9_lost_38 ⟨show 0 + 0 + 0 ≤ 33 by omega, show 0 + 0 + 0 ≤ 343827 by omega⟩) hS hP hD hA [7, 9] [0, 1, 2, 3, 4, 5, 6, 8] rfl rfl (by decide) (by decide) (fun u78 H locs w76 hP hD hS => ?_)
          obtain ⟨gu1_79, rfl⟩ : ∃ z, z = u78 := ⟨_, rfl⟩
          try dsimp only at w76 hP hD
          have hP := (P_subT (X' := [(h0, .inr (5, [.ref pad, .ref pp, .ref im, .ref sr_13, vtr])), (pad, .inr (0, [.ref sg, .ref sl, .int (nI pm)])), (sg, .inl (gI G, 40, .inl fsg)), (sl, .inl (gI G, 10, .inl fsl)), (pp, .inr (1, [.int (nI k), .int told, .int sp, .int (nI (sc k la)), .ref ac, .ref ak])), (ac, .inl (gI G, 6, .inl fc)), (ak, .inl (gI G, 4, .inl fk)), (sr_13, .inr (2, [.ref rt_13, .ref ru_13, .int ol_13])), (rt_13, .inl (gT G, 8, .inr (.inr (.inr (.inr ft_13))))), (ru_13, .inl (gI G, 15625, .inl gu1_79))]) hP [0, 1, 2, 3, 4, 5, 6, 8, 7, 9] rfl)
          have hD := (D_subT (X' := [(h0, .inr (5, [.ref pad, .ref pp, .ref im, .ref sr_13, vtr])), (pad, .inr (0, [.ref sg, .ref sl, .int (nI pm)])), (sg, .inl (gI G, 40, .inl fsg)), (sl, .inl (gI G, 10, .inl fsl)), (pp, .inr (1, [.int (nI k), .int told, .int sp, .int (nI (sc k la)), .ref ac, .ref ak])), (ac, .inl (gI G, 6, .inl fc)), (ak, .inl (gI G, 4, .inl fk)), (sr_13, .inr (2, [.ref rt_13, .ref ru_13, .int ol_13])), (rt_13, .inl (gT G, 8, .inr (.inr (.inr (.inr ft_13))))), (ru_13, .inl (gI G, 15625, .inl gu1_79))]) hD [0, 1, 2, 3, 4, 5, 6, 8, 7, 9] (by decide) rfl)
          refine lv_iconst (v := 0) hx hb dX9_lost_41 (by decide) ?_
          refine lv_istore (lv' := [(5, .int 0), (4, .ref sr_13), (0, .ref h0), (1, .int p0), (2, .int (nI j_p1)), (3, .int p2)]) hx hb dX9_lost_42 hl (by decide) rfl (fun ls hl => ?_)
          have hcn0 : c0 + 0 = 1 + cntS ft_13 8 := by omega
          refine W_facts (fun hg => ?_)
          have hg : GF s.heap H (0 + 0) (0 + 0) := hg
          refine lp_runH (x0 := (0, ol_13, ft_13, gu1_79, T_13, 0)) (fun xx_ : Nat × Int32 × (Nat → Option Nat) × (Nat → Int32) × va_W × Nat => match xx_ with | (x, ol_, ft_, gu_, Tl, kt) => 3 * kt) (fun xx_ : Nat × Int32 × (Nat → Option Nat) × (Nat → Int32) × va_W × Nat => match xx_ with | (x, ol_, ft_, gu_, Tl, kt) => 31257 * kt) (show GF s.heap H (3 * 0) (31257 * 0) from hg.wide (by omega) (by omega)) (fun xx_ : Nat × Int32 × (Nat → Option Nat) × (Nat → Int32) × va_W × Nat => match xx_ with | (x, ol_, ft_, gu_, Tl, kt) => [(h0, .inr (5, [.ref pad, .ref pp, .ref im, .ref sr_13, vtr])), (pad, .inr (0, [.ref sg, .ref sl, .int (nI pm)])), (sg, .inl (gI G, 40, .inl fsg)), (sl, .inl (gI G, 10, .inl fsl)), (pp, .inr (1, [.int (nI k), .int told, .int sp, .int (nI (sc k la)), .ref ac, .ref ak])), (ac, .inl (gI G, 6, .inl fc)), (ak, .inl (gI G, 4, .inl fk)), (sr_13, .inr (2, [.ref rt_13, .ref ru_13, .int ol_])), (rt_13, .inl (gT G, 8, .inr (.inr (.inr (.inr ft_))))), (ru_13, .inl (gI G, 15625, .inl gu_))] ++ Tl) (fun xx_ : Nat × Int32 × (Nat → Option Nat) × (Nat → Int32) × va_W × Nat => match xx_ with | (x, ol_, ft_, gu_, Tl, kt) => [(5, .int (nI x)), (4, .ref sr_13), (0, .ref h0), (1, .int p0), (2, .int (nI j_p1)), (3, .int p2)]) (fun xx_ : Nat × Int32 × (Nat → Option Nat) × (Nat → Int32) × va_W × Nat => match xx_ with | (x, ol_, ft_, gu_, Tl, kt) => (x ≤ 6) ∧ (PL2 G ft_ Tl) ∧ (c0 + kt = 1 + cntS ft_ 8) ∧ (∀ z, z < 5 ^ k → gu_ (sc k z) = clS (sumN k (bK (fk j_p1)) p0 ma x z))) (fun xx_ : Nat × Int32 × (Nat → Option Nat) × (Nat → Int32) × va_W × Nat => match xx_ with | (x, ol_, ft_, gu_, Tl, kt) => 6 - x) (P_subT hP [0, 1, 2, 3, 4, 5, 6, 7, 8, 9] rfl) (D_subT hD [0, 1, 2, 3, 4, 5, 6, 7, 8, 9] (by decide) rfl) hS (lv_sub hl [0, 1, 2, 3, 4, 5] rfl) ⟨by omega, hPL_13, hcn0, by intro z9 h9; rw [w76 _ (sc_lt5 hk6 h9)]; exact (clS_t (n := 0) (by decide)).symm⟩ ?_
          intro xx_ hI ih44 H locs ls hP hD hS hl
          obtain ⟨x, ol_, ft_, gu_, Tl, kt⟩ := xx_
          dsimp only at hI ih44 hP hD hl
          obtain ⟨hx0, hPLl, hcn, hsu⟩ := hI
          have hl : lv_has ls 6 [(5, .int (nI x)), (4, .ref sr_13), (0, .ref h0), (1, .int p0), (2, .int (nI j_p1)), (3, .int p2)] := hl
          have hP : va_P G.1 vwCl ([(h0, .inr (5, [.ref pad, .ref pp, .ref im, .ref sr_13, vtr])), (pad, .inr (0, [.ref sg, .ref sl, .int (nI pm)])), (sg, .inl (gI G, 40, .inl fsg)), (sl, .inl (gI G, 10, .inl fsl)), (pp, .inr (1, [.int (nI k), .int told, .int sp, .int (nI (sc k la)), .ref ac, .ref ak])), (ac, .inl (gI G, 6, .inl fc)), (ak, .inl (gI G, 4, .inl fk)), (sr_13, .inr (2, [.ref rt_13, .ref ru_13, .int ol_])), (rt_13, .inl (gT G, 8, .inr (.inr (.inr (.inr ft_))))), (ru_13, .inl (gI G, 15625, .inl gu_))] ++ Tl) H := hP
          have hD : va_D A ([(h0, .inr (5, [.ref pad, .ref pp, .ref im, .ref sr_13, vtr])), (pad, .inr (0, [.ref sg, .ref sl, .int (nI pm)])), (sg, .inl (gI G, 40, .inl fsg)), (sl, .inl (gI G, 10, .inl fsl)), (pp, .inr (1, [.int (nI k), .int told, .int sp, .int (nI (sc k la)), .ref ac, .ref ak])), (ac, .inl (gI G, 6, .inl fc)), (ak, .inl (gI G, 4, .inl fk)), (sr_13, .inr (2, [.ref rt_13, .ref ru_13, .int ol_])), (rt_13, .inl (gT G, 8, .inr (.inr (.inr (.inr ft_))))), (ru_13, .inl (gI G, 15625, .inl gu_))] ++ Tl) := hD
          have hleK := cntS_le ft_ 8
          refine lv_iload hx hb dX9_lost_44 (lv_at hl 0 rfl) ?_
          refine lv_bipush (v := 6) hx hb dX9_lost_46 (by decide) ?_
          refine lv_icmp_ge (tgt := 78) hx hb dX9_lost_48 (by decide) (fun c80 => ?_) (fun c80 => ?_)
          · have c80 : 6 ≤ x := (nI_leI (a := 6) (b := x) (by omega) (by omega)).mp c80
            have hsu6 : ∀ z, z < 5 ^ k → gu_ (sc k z) = clS (sumN k (bK (fk j_p1)) p0 ma 6 z) := by have q9 := hsu; rw [show x = 6 by omega] at q9; exact q9
            refine lv_aload hx hb dX9_lost_78 (lv_at hl 1 rfl) ?_
            refine lv_aload_n hx hb dX9_lost_80 rfl (lv_at hl 2 rfl) ?_
            refine va_get (D := G.1) (ci := 5) (v := .ref pp) (C := RX9) (T := TX9) (N := 5) hx hb hts (fun _ h => List.mem_cons_of_mem _ (List.mem_append_left _ (List.mem_append_left _ (List.mem_append_left _ (List.mem_append_right _ h))))) hown E.K hP 0 rfl rfl 1 (by decide) (hts (.fieldLink RX9 19 "LastMap" "papers" "LLastMap$Papers;") (by decide +kernel)) (fun _ h9 => h9) rfl dX9_lost_81 ?_
            refine va_get (D := G.1) (ci := 1) (v := .int (nI k)) (C := RX3) (T := TX3) (N := 6) hx hb hts (fun _ h => List.mem_cons_of_mem _ (List.mem_append_left _ (List.mem_append_left _ (List.mem_append_right _ h)))) hown E.K hP 4 rfl rfl 0 (by decide) (hts (.fieldLink RX9 27 "LastMap$Papers" "siteCount" "I") (by decide +kernel)) (fun _ h9 => h9) rfl dX9_lost_84 ?_
            refine ca_iR (va_runV (As := [.int (nI k)]) (rest := []) ⟨hx, hb, hml, hown, hts⟩ (n_firstOfLeast l G H.size sr_13 rt_13 ru_13 ol_ gu_ k (sumN k (bK (fk j_p1)) p0 ma 6) hk2 hk6 hsu6) (cwV 1 hts gX9_lost_X4_firstOfLeastSum rfl rfl rfl (by decide +kernel) ⟨by decide +kernel, by decide +kernel⟩) (pre_V E hP hD hS hA [7, 9] (by decide) rfl 7 2 rfl rfl) rfl rfl hl.1 rfl (lv_room (Nat.le_of_ble_eq_true rfl)) dX9_lost_87 ⟨show 3 * kt + 0 ≤ 33 by omega, show 31257 * kt + 0 ≤ 343827 by omega⟩) hS hP hD hA [7, 9] rfl (fun r82 _ H locs w81 hP hS => ?_)
            refine lv_istore (lv' := [(5, .int r82), (4, .ref sr_13), (0, .ref h0), (1, .int p0), (2, .int (nI j_p1)), (3, .int p2)]) hx hb dX9_lost_90 hl (by decide) rfl (fun ls hl => ?_)
            refine lv_iload hx hb dX9_lost_92 (lv_at hl 0 rfl) ?_
            refine lv_if_ge (tgt := 100) hx hb dX9_lost_94 (by decide) (fun c83 => ?_) (fun c83 => ?_)
            · obtain ⟨F9, hF1, hF2, hF3, hF4⟩ := fsL_pos w81 (by have q9 := c83; simp only [i3_le, i3_lt, Int32.reduceToInt] at q9 ⊢; omega)
              have hl : lv_has ls 6 [(5, .int (nI (sc k F9))), (4, .ref sr_13), (0, .ref h0), (1, .int p0), (2, .int (nI j_p1)), (3, .int p2)] := by have q := hl; rw [hF2] at q; exact q
              have hF5 : sumN k (bK (fk j_p1)) p0 ma 6 (amN (sumN k (bK (fk j_p1)) p0 ma 6) (5 ^ k)) < 1000 := by rw [← hF4]; exact hF3
              refine lv_iload_n hx hb dX9_lost_100 rfl (lv_at hl 5 rfl) ?_
              refine lv_iconst (v := (-1)) hx hb dX9_lost_101 (by decide) ?_
              refine lv_icmp_ne (tgt := 113) hx hb dX9_lost_102 (by decide) (fun c84 => ?_) (fun c84 => ?_)
              · refine lv_aload_n hx hb dX9_lost_113 rfl (lv_at hl 2 rfl) ?_
                refine lv_iload_n hx hb dX9_lost_114 rfl (lv_at hl 5 rfl) ?_
                refine ca_iR (va_runV (As := [.int p2]) (rest := []) ⟨hx, hb, hml, hown, hts⟩ (n_isSite l G H.size h0 pad pp im (.ref sr_13) vtr ac ak k told sp (nI (sc k la)) p2 hk6) (cwV 1 hts gX9_lost_X9_isSite rfl rfl rfl (by decide +kernel) ⟨by decide +kernel, by decide +kernel⟩) (pre_V E hP hD hS hA [0, 4] (by decide) rfl 0 5 rfl rfl) rfl rfl hl.1 rfl (lv_room (Nat.le_of_ble_eq_true rfl)) dX9_lost_115 ⟨show 3 * kt + 0 ≤ 33 by omega, show 31257 * kt + 0 ≤ 343827 by omega⟩) hS hP hD hA [0, 4] rfl (fun r86 _ H locs w85 hP hS => ?_)
                rcases w85 with ⟨rfl, b87⟩ | ⟨rfl, b87⟩
                · refine lv_if_eq (tgt := 133) hx hb dX9_lost_118 (by decide) (fun c88 => False.elim (by revert c88; decide)) (fun _ => ?_)
                  obtain ⟨j_p2, hj_p2, ej_p2⟩ := b87
                  have hl : lv_has ls 6 [(5, .int (nI (sc k F9))), (4, .ref sr_13), (0, .ref h0), (1, .int p0), (2, .int (nI j_p1)), (3, .int (nI j_p2))] := by have q := hl; rw [ej_p2] at q; exact q
                  refine lv_iload hx hb dX9_lost_121 (lv_at hl 0 rfl) ?_
                  refine lv_iload_n hx hb dX9_lost_123 rfl (lv_at hl 5 rfl) ?_
                  refine ca_iR (va_runS (As := [.int (nI (sc k F9)), .int (nI j_p2)]) (rest := []) ⟨hx, hb, hml, hown, hts⟩ (n_signAt l G H.size (sc k F9) j_p2 (sc_lt hk6 hF1) (by omega)) (va_cwS 2 hts gX9_lost_X1_signAt rfl rfl rfl (by decide +kernel) ⟨by decide +kernel, by decide +kernel⟩) (pre_S E hP hD hS hA [] (by decide) rfl) rfl rfl hl.1 rfl (lv_room (Nat.le_of_ble_eq_true rfl)) dX9_lost_124 ⟨show 3 * kt + 0 ≤ 33 by omega, show 31257 * kt + 0 ≤ 343827 by omega⟩) hS hP hD hA [] rfl (fun r90 _ H locs w89 hP hS => ?_)
                  rw [w89]
                  refine W.eq (g2 := F0 m 127 ls [.int (nI (dg k F9 j_p2))]) (by rw [dg_sc hk6 hj_p2]) ?_
                  refine ca_iR (va_runS (As := [.int (nI (dg k F9 j_p2))]) (rest := []) ⟨hx, hb, hml, hown, hts⟩ (n_written l G H.size (dg k F9 j_p2) (dg_lt _ _ _)) (va_cwS 1 hts gX9_lost_X5_written rfl rfl rfl (by decide +kernel) ⟨by decide +kernel, by decide +kernel⟩) (pre_S E hP hD hS hA [] (by decide) rfl) rfl rfl hl.1 rfl (lv_room (Nat.le_of_ble_eq_true rfl)) dX9_lost_127 ⟨show 3 * kt + 0 ≤ 33 by omega, show 31257 * kt + 0 ≤ 343827 by omega⟩) hS hP hD hA [] rfl (fun r92 _ H locs w91 hP hS => ?_)
                  refine lv_goto (tgt := 135) hx hb dX9_lost_130 (by decide) ?_
                  refine W_facts (fun hg => ?_)
                  have hg : GF s.heap H (3 * kt) (31257 * kt) := hg
                  refine W.widen (k := 33) (n := 343827) (show 3 * kt ≤ 33 by omega) (show 31257 * kt ≤ 343827 by omega) ?_
                  have hP : va_P G.1 vwCl ([(h0, .inr (5, [.ref pad, .ref pp, .ref im, .ref sr_13, vtr])), (pad, .inr (0, [.ref sg, .ref sl, .int (nI pm)])), (sg, .inl (gI G, 40, .inl fsg)), (sl, .inl (gI G, 10, .inl fsl)), (pp, .inr (1, [.int (nI k), .int told, .int sp, .int (nI (sc k la)), .ref ac, .ref ak])), (ac, .inl (gI G, 6, .inl fc)), (ak, .inl (gI G, 4, .inl fk))] ++ ([(sr_13, .inr (2, [.ref rt_13, .ref ru_13, .int ol_])), (rt_13, .inl (gT G, 8, .inr (.inr (.inr (.inr ft_))))), (ru_13, .inl (gI G, 15625, .inl gu_))] ++ Tl)) H := (P_subT (X' := [(h0, .inr (5, [.ref pad, .ref pp, .ref im, .ref sr_13, vtr])), (pad, .inr (0, [.ref sg, .ref sl, .int (nI pm)])), (sg, .inl (gI G, 40, .inl fsg)), (sl, .inl (gI G, 10, .inl fsl)), (pp, .inr (1, [.int (nI k), .int told, .int sp, .int (nI (sc k la)), .ref ac, .ref ak])), (ac, .inl (gI G, 6, .inl fc)), (ak, .inl (gI G, 4, .inl fk)), (sr_13, .inr (2, [.ref rt_13, .ref ru_13, .int ol_])), (rt_13, .inl (gT G, 8, .inr (.inr (.inr (.inr ft_))))), (ru_13, .inl (gI G, 15625, .inl gu_))]) hP [0, 1, 2, 3, 4, 5, 6, 7, 8, 9] rfl)
                  have hD : va_D A ([(h0, .inr (5, [.ref pad, .ref pp, .ref im, .ref sr_13, vtr])), (pad, .inr (0, [.ref sg, .ref sl, .int (nI pm)])), (sg, .inl (gI G, 40, .inl fsg)), (sl, .inl (gI G, 10, .inl fsl)), (pp, .inr (1, [.int (nI k), .int told, .int sp, .int (nI (sc k la)), .ref ac, .ref ak])), (ac, .inl (gI G, 6, .inl fc)), (ak, .inl (gI G, 4, .inl fk))] ++ ([(sr_13, .inr (2, [.ref rt_13, .ref ru_13, .int ol_])), (rt_13, .inl (gT G, 8, .inr (.inr (.inr (.inr ft_))))), (ru_13, .inl (gI G, 15625, .inl gu_))] ++ Tl)) := (D_subT (X' := [(h0, .inr (5, [.ref pad, .ref pp, .ref im, .ref sr_13, vtr])), (pad, .inr (0, [.ref sg, .ref sl, .int (nI pm)])), (sg, .inl (gI G, 40, .inl fsg)), (sl, .inl (gI G, 10, .inl fsl)), (pp, .inr (1, [.int (nI k), .int told, .int sp, .int (nI (sc k la)), .ref ac, .ref ak])), (ac, .inl (gI G, 6, .inl fc)), (ak, .inl (gI G, 4, .inl fk)), (sr_13, .inr (2, [.ref rt_13, .ref ru_13, .int ol_])), (rt_13, .inl (gT G, 8, .inr (.inr (.inr (.inr ft_))))), (ru_13, .inl (gI G, 15625, .inl gu_))]) hD [0, 1, 2, 3, 4, 5, 6, 7, 8, 9] (by decide) rfl)
                  have hP9 := (P_subT (X' := [(h0, .inr (5, [.ref pad, .ref pp, .ref im, .ref sr_13, vtr])), (pad, .inr (0, [.ref sg, .ref sl, .int (nI pm)])), (sg, .inl (gI G, 40, .inl fsg)), (sl, .inl (gI G, 10, .inl fsl)), (pp, .inr (1, [.int (nI k), .int told, .int sp, .int (nI (sc k la)), .ref ac, .ref ak])), (ac, .inl (gI G, 6, .inl fc)), (ak, .inl (gI G, 4, .inl fk))]) hP [0, 1, 2, 3, 4, 5, 6] rfl)
                  have hD9 := (D_subT (X' := [(h0, .inr (5, [.ref pad, .ref pp, .ref im, .ref sr_13, vtr])), (pad, .inr (0, [.ref sg, .ref sl, .int (nI pm)])), (sg, .inl (gI G, 40, .inl fsg)), (sl, .inl (gI G, 10, .inl fsl)), (pp, .inr (1, [.int (nI k), .int told, .int sp, .int (nI (sc k la)), .ref ac, .ref ak])), (ac, .inl (gI G, 6, .inl fc)), (ak, .inl (gI G, 4, .inl fk))]) hD [0, 1, 2, 3, 4, 5, 6] (by decide) rfl)
                  exact W.iret (v := r92) hx hb hr (fun t9_ ht9_ hW9_ => ⟨⟨r92, ((.ref sr_13), ([(sr_13, .inr (2, [.ref rt_13, .ref ru_13, .int ol_])), (rt_13, .inl (gT G, 8, .inr (.inr (.inr (.inr ft_))))), (ru_13, .inl (gI G, 15625, .inl gu_))] ++ Tl), kt), rfl, ⟨(Or.inr ⟨sr_13, rt_13, ru_13, ol_, ft_, gu_, Tl, rfl, hPLl, rfl, by omega⟩), by rw [w91, hF4]; exact (lsF_3 hk6 hF5 c84 hj_p2 ej_p2).trans (lsA_4 hj_p1 ej_p1 b7 b11)⟩, by rw [ht9_]; exact hP9, hD9, by rw [ht9_]; exact (show GF s.heap H (3 * kt) (31257 * kt) from hg.wide (by omega) (by omega))⟩, hS.F ht9_⟩) hS.2.2 dX9_lost_135
                · refine lv_if_eq (tgt := 133) hx hb dX9_lost_118 (by decide) (fun _ => ?_) (fun c93 => False.elim (by revert c93; decide))
                  refine lv_bipush (v := (-6)) hx hb dX9_lost_133 (by decide) ?_
                  refine W_facts (fun hg => ?_)
                  have hg : GF s.heap H (3 * kt) (31257 * kt) := hg
                  refine W.widen (k := 33) (n := 343827) (show 3 * kt ≤ 33 by omega) (show 31257 * kt ≤ 343827 by omega) ?_
                  have hP : va_P G.1 vwCl ([(h0, .inr (5, [.ref pad, .ref pp, .ref im, .ref sr_13, vtr])), (pad, .inr (0, [.ref sg, .ref sl, .int (nI pm)])), (sg, .inl (gI G, 40, .inl fsg)), (sl, .inl (gI G, 10, .inl fsl)), (pp, .inr (1, [.int (nI k), .int told, .int sp, .int (nI (sc k la)), .ref ac, .ref ak])), (ac, .inl (gI G, 6, .inl fc)), (ak, .inl (gI G, 4, .inl fk))] ++ ([(sr_13, .inr (2, [.ref rt_13, .ref ru_13, .int ol_])), (rt_13, .inl (gT G, 8, .inr (.inr (.inr (.inr ft_))))), (ru_13, .inl (gI G, 15625, .inl gu_))] ++ Tl)) H := (P_subT (X' := [(h0, .inr (5, [.ref pad, .ref pp, .ref im, .ref sr_13, vtr])), (pad, .inr (0, [.ref sg, .ref sl, .int (nI pm)])), (sg, .inl (gI G, 40, .inl fsg)), (sl, .inl (gI G, 10, .inl fsl)), (pp, .inr (1, [.int (nI k), .int told, .int sp, .int (nI (sc k la)), .ref ac, .ref ak])), (ac, .inl (gI G, 6, .inl fc)), (ak, .inl (gI G, 4, .inl fk)), (sr_13, .inr (2, [.ref rt_13, .ref ru_13, .int ol_])), (rt_13, .inl (gT G, 8, .inr (.inr (.inr (.inr ft_))))), (ru_13, .inl (gI G, 15625, .inl gu_))]) hP [0, 1, 2, 3, 4, 5, 6, 7, 8, 9] rfl)
                  have hD : va_D A ([(h0, .inr (5, [.ref pad, .ref pp, .ref im, .ref sr_13, vtr])), (pad, .inr (0, [.ref sg, .ref sl, .int (nI pm)])), (sg, .inl (gI G, 40, .inl fsg)), (sl, .inl (gI G, 10, .inl fsl)), (pp, .inr (1, [.int (nI k), .int told, .int sp, .int (nI (sc k la)), .ref ac, .ref ak])), (ac, .inl (gI G, 6, .inl fc)), (ak, .inl (gI G, 4, .inl fk))] ++ ([(sr_13, .inr (2, [.ref rt_13, .ref ru_13, .int ol_])), (rt_13, .inl (gT G, 8, .inr (.inr (.inr (.inr ft_))))), (ru_13, .inl (gI G, 15625, .inl gu_))] ++ Tl)) := (D_subT (X' := [(h0, .inr (5, [.ref pad, .ref pp, .ref im, .ref sr_13, vtr])), (pad, .inr (0, [.ref sg, .ref sl, .int (nI pm)])), (sg, .inl (gI G, 40, .inl fsg)), (sl, .inl (gI G, 10, .inl fsl)), (pp, .inr (1, [.int (nI k), .int told, .int sp, .int (nI (sc k la)), .ref ac, .ref ak])), (ac, .inl (gI G, 6, .inl fc)), (ak, .inl (gI G, 4, .inl fk)), (sr_13, .inr (2, [.ref rt_13, .ref ru_13, .int ol_])), (rt_13, .inl (gT G, 8, .inr (.inr (.inr (.inr ft_))))), (ru_13, .inl (gI G, 15625, .inl gu_))]) hD [0, 1, 2, 3, 4, 5, 6, 7, 8, 9] (by decide) rfl)
                  have hP9 := (P_subT (X' := [(h0, .inr (5, [.ref pad, .ref pp, .ref im, .ref sr_13, vtr])), (pad, .inr (0, [.ref sg, .ref sl, .int (nI pm)])), (sg, .inl (gI G, 40, .inl fsg)), (sl, .inl (gI G, 10, .inl fsl)), (pp, .inr (1, [.int (nI k), .int told, .int sp, .int (nI (sc k la)), .ref ac, .ref ak])), (ac, .inl (gI G, 6, .inl fc)), (ak, .inl (gI G, 4, .inl fk))]) hP [0, 1, 2, 3, 4, 5, 6] rfl)
                  have hD9 := (D_subT (X' := [(h0, .inr (5, [.ref pad, .ref pp, .ref im, .ref sr_13, vtr])), (pad, .inr (0, [.ref sg, .ref sl, .int (nI pm)])), (sg, .inl (gI G, 40, .inl fsg)), (sl, .inl (gI G, 10, .inl fsl)), (pp, .inr (1, [.int (nI k), .int told, .int sp, .int (nI (sc k la)), .ref ac, .ref ak])), (ac, .inl (gI G, 6, .inl fc)), (ak, .inl (gI G, 4, .inl fk))]) hD [0, 1, 2, 3, 4, 5, 6] (by decide) rfl)
                  exact W.iret (v := (-6)) hx hb hr (fun t9_ ht9_ hW9_ => ⟨⟨(-6), ((.ref sr_13), ([(sr_13, .inr (2, [.ref rt_13, .ref ru_13, .int ol_])), (rt_13, .inl (gT G, 8, .inr (.inr (.inr (.inr ft_))))), (ru_13, .inl (gI G, 15625, .inl gu_))] ++ Tl), kt), rfl, ⟨(Or.inr ⟨sr_13, rt_13, ru_13, ol_, ft_, gu_, Tl, rfl, hPLl, rfl, by omega⟩), (lsF_4 hF5 c84 b87).trans (lsA_4 hj_p1 ej_p1 b7 b11)⟩, by rw [ht9_]; exact hP9, hD9, by rw [ht9_]; exact (show GF s.heap H (3 * kt) (31257 * kt) from hg.wide (by omega) (by omega))⟩, hS.F ht9_⟩) hS.2.2 dX9_lost_135
              · refine lv_aload hx hb dX9_lost_105 (lv_at hl 1 rfl) ?_
                refine lv_iload hx hb dX9_lost_107 (lv_at hl 0 rfl) ?_
                refine ca_iR (va_runV (As := [.int (nI (sc k F9))]) (rest := []) ⟨hx, hb, hml, hown, hts⟩ (n_sumOf l G H.size sr_13 rt_13 ru_13 ol_ gu_ (sc k F9) (sc_lt5 hk6 hF1)) (cwV 1 hts gX9_lost_X4_sumOf rfl rfl rfl (by decide +kernel) ⟨by decide +kernel, by decide +kernel⟩) (pre_V E hP hD hS hA [7, 9] (by decide) rfl 7 2 rfl rfl) rfl rfl hl.1 rfl (lv_room (Nat.le_of_ble_eq_true rfl)) dX9_lost_109 ⟨show 3 * kt + 0 ≤ 33 by omega, show 31257 * kt + 0 ≤ 343827 by omega⟩) hS hP hD hA [7, 9] rfl (fun r95 _ H locs w94 hP hS => ?_)
                refine W_facts (fun hg => ?_)
                have hg : GF s.heap H (3 * kt) (31257 * kt) := hg
                refine W.widen (k := 33) (n := 343827) (show 3 * kt ≤ 33 by omega) (show 31257 * kt ≤ 343827 by omega) ?_
                have hP : va_P G.1 vwCl ([(h0, .inr (5, [.ref pad, .ref pp, .ref im, .ref sr_13, vtr])), (pad, .inr (0, [.ref sg, .ref sl, .int (nI pm)])), (sg, .inl (gI G, 40, .inl fsg)), (sl, .inl (gI G, 10, .inl fsl)), (pp, .inr (1, [.int (nI k), .int told, .int sp, .int (nI (sc k la)), .ref ac, .ref ak])), (ac, .inl (gI G, 6, .inl fc)), (ak, .inl (gI G, 4, .inl fk))] ++ ([(sr_13, .inr (2, [.ref rt_13, .ref ru_13, .int ol_])), (rt_13, .inl (gT G, 8, .inr (.inr (.inr (.inr ft_))))), (ru_13, .inl (gI G, 15625, .inl gu_))] ++ Tl)) H := (P_subT (X' := [(h0, .inr (5, [.ref pad, .ref pp, .ref im, .ref sr_13, vtr])), (pad, .inr (0, [.ref sg, .ref sl, .int (nI pm)])), (sg, .inl (gI G, 40, .inl fsg)), (sl, .inl (gI G, 10, .inl fsl)), (pp, .inr (1, [.int (nI k), .int told, .int sp, .int (nI (sc k la)), .ref ac, .ref ak])), (ac, .inl (gI G, 6, .inl fc)), (ak, .inl (gI G, 4, .inl fk)), (sr_13, .inr (2, [.ref rt_13, .ref ru_13, .int ol_])), (rt_13, .inl (gT G, 8, .inr (.inr (.inr (.inr ft_))))), (ru_13, .inl (gI G, 15625, .inl gu_))]) hP [0, 1, 2, 3, 4, 5, 6, 7, 8, 9] rfl)
                have hD : va_D A ([(h0, .inr (5, [.ref pad, .ref pp, .ref im, .ref sr_13, vtr])), (pad, .inr (0, [.ref sg, .ref sl, .int (nI pm)])), (sg, .inl (gI G, 40, .inl fsg)), (sl, .inl (gI G, 10, .inl fsl)), (pp, .inr (1, [.int (nI k), .int told, .int sp, .int (nI (sc k la)), .ref ac, .ref ak])), (ac, .inl (gI G, 6, .inl fc)), (ak, .inl (gI G, 4, .inl fk))] ++ ([(sr_13, .inr (2, [.ref rt_13, .ref ru_13, .int ol_])), (rt_13, .inl (gT G, 8, .inr (.inr (.inr (.inr ft_))))), (ru_13, .inl (gI G, 15625, .inl gu_))] ++ Tl)) := (D_subT (X' := [(h0, .inr (5, [.ref pad, .ref pp, .ref im, .ref sr_13, vtr])), (pad, .inr (0, [.ref sg, .ref sl, .int (nI pm)])), (sg, .inl (gI G, 40, .inl fsg)), (sl, .inl (gI G, 10, .inl fsl)), (pp, .inr (1, [.int (nI k), .int told, .int sp, .int (nI (sc k la)), .ref ac, .ref ak])), (ac, .inl (gI G, 6, .inl fc)), (ak, .inl (gI G, 4, .inl fk)), (sr_13, .inr (2, [.ref rt_13, .ref ru_13, .int ol_])), (rt_13, .inl (gT G, 8, .inr (.inr (.inr (.inr ft_))))), (ru_13, .inl (gI G, 15625, .inl gu_))]) hD [0, 1, 2, 3, 4, 5, 6, 7, 8, 9] (by decide) rfl)
                have hP9 := (P_subT (X' := [(h0, .inr (5, [.ref pad, .ref pp, .ref im, .ref sr_13, vtr])), (pad, .inr (0, [.ref sg, .ref sl, .int (nI pm)])), (sg, .inl (gI G, 40, .inl fsg)), (sl, .inl (gI G, 10, .inl fsl)), (pp, .inr (1, [.int (nI k), .int told, .int sp, .int (nI (sc k la)), .ref ac, .ref ak])), (ac, .inl (gI G, 6, .inl fc)), (ak, .inl (gI G, 4, .inl fk))]) hP [0, 1, 2, 3, 4, 5, 6] rfl)
                have hD9 := (D_subT (X' := [(h0, .inr (5, [.ref pad, .ref pp, .ref im, .ref sr_13, vtr])), (pad, .inr (0, [.ref sg, .ref sl, .int (nI pm)])), (sg, .inl (gI G, 40, .inl fsg)), (sl, .inl (gI G, 10, .inl fsl)), (pp, .inr (1, [.int (nI k), .int told, .int sp, .int (nI (sc k la)), .ref ac, .ref ak])), (ac, .inl (gI G, 6, .inl fc)), (ak, .inl (gI G, 4, .inl fk))]) hD [0, 1, 2, 3, 4, 5, 6] (by decide) rfl)
                exact W.iret (v := r95) hx hb hr (fun t9_ ht9_ hW9_ => ⟨⟨r95, ((.ref sr_13), ([(sr_13, .inr (2, [.ref rt_13, .ref ru_13, .int ol_])), (rt_13, .inl (gT G, 8, .inr (.inr (.inr (.inr ft_))))), (ru_13, .inl (gI G, 15625, .inl gu_))] ++ Tl), kt), rfl, ⟨(Or.inr ⟨sr_13, rt_13, ru_13, ol_, ft_, gu_, Tl, rfl, hPLl, rfl, by omega⟩), by rw [w94, hsu6 F9 hF1, clS_t hF3, hF4]; exact (lsF_2 hF5 c84).trans (lsA_4 hj_p1 ej_p1 b7 b11)⟩, by rw [ht9_]; exact hP9, hD9, by rw [ht9_]; exact (show GF s.heap H (3 * kt) (31257 * kt) from hg.wide (by omega) (by omega))⟩, hS.F ht9_⟩) hS.2.2 dX9_lost_112
            · refine lv_bipush (v := (-6)) hx hb dX9_lost_97 (by decide) ?_
              refine W_facts (fun hg => ?_)
              have hg : GF s.heap H (3 * kt) (31257 * kt) := hg
              refine W.widen (k := 33) (n := 343827) (show 3 * kt ≤ 33 by omega) (show 31257 * kt ≤ 343827 by omega) ?_
              have hP : va_P G.1 vwCl ([(h0, .inr (5, [.ref pad, .ref pp, .ref im, .ref sr_13, vtr])), (pad, .inr (0, [.ref sg, .ref sl, .int (nI pm)])), (sg, .inl (gI G, 40, .inl fsg)), (sl, .inl (gI G, 10, .inl fsl)), (pp, .inr (1, [.int (nI k), .int told, .int sp, .int (nI (sc k la)), .ref ac, .ref ak])), (ac, .inl (gI G, 6, .inl fc)), (ak, .inl (gI G, 4, .inl fk))] ++ ([(sr_13, .inr (2, [.ref rt_13, .ref ru_13, .int ol_])), (rt_13, .inl (gT G, 8, .inr (.inr (.inr (.inr ft_))))), (ru_13, .inl (gI G, 15625, .inl gu_))] ++ Tl)) H := (P_subT (X' := [(h0, .inr (5, [.ref pad, .ref pp, .ref im, .ref sr_13, vtr])), (pad, .inr (0, [.ref sg, .ref sl, .int (nI pm)])), (sg, .inl (gI G, 40, .inl fsg)), (sl, .inl (gI G, 10, .inl fsl)), (pp, .inr (1, [.int (nI k), .int told, .int sp, .int (nI (sc k la)), .ref ac, .ref ak])), (ac, .inl (gI G, 6, .inl fc)), (ak, .inl (gI G, 4, .inl fk)), (sr_13, .inr (2, [.ref rt_13, .ref ru_13, .int ol_])), (rt_13, .inl (gT G, 8, .inr (.inr (.inr (.inr ft_))))), (ru_13, .inl (gI G, 15625, .inl gu_))]) hP [0, 1, 2, 3, 4, 5, 6, 7, 8, 9] rfl)
              have hD : va_D A ([(h0, .inr (5, [.ref pad, .ref pp, .ref im, .ref sr_13, vtr])), (pad, .inr (0, [.ref sg, .ref sl, .int (nI pm)])), (sg, .inl (gI G, 40, .inl fsg)), (sl, .inl (gI G, 10, .inl fsl)), (pp, .inr (1, [.int (nI k), .int told, .int sp, .int (nI (sc k la)), .ref ac, .ref ak])), (ac, .inl (gI G, 6, .inl fc)), (ak, .inl (gI G, 4, .inl fk))] ++ ([(sr_13, .inr (2, [.ref rt_13, .ref ru_13, .int ol_])), (rt_13, .inl (gT G, 8, .inr (.inr (.inr (.inr ft_))))), (ru_13, .inl (gI G, 15625, .inl gu_))] ++ Tl)) := (D_subT (X' := [(h0, .inr (5, [.ref pad, .ref pp, .ref im, .ref sr_13, vtr])), (pad, .inr (0, [.ref sg, .ref sl, .int (nI pm)])), (sg, .inl (gI G, 40, .inl fsg)), (sl, .inl (gI G, 10, .inl fsl)), (pp, .inr (1, [.int (nI k), .int told, .int sp, .int (nI (sc k la)), .ref ac, .ref ak])), (ac, .inl (gI G, 6, .inl fc)), (ak, .inl (gI G, 4, .inl fk)), (sr_13, .inr (2, [.ref rt_13, .ref ru_13, .int ol_])), (rt_13, .inl (gT G, 8, .inr (.inr (.inr (.inr ft_))))), (ru_13, .inl (gI G, 15625, .inl gu_))]) hD [0, 1, 2, 3, 4, 5, 6, 7, 8, 9] (by decide) rfl)
              have hP9 := (P_subT (X' := [(h0, .inr (5, [.ref pad, .ref pp, .ref im, .ref sr_13, vtr])), (pad, .inr (0, [.ref sg, .ref sl, .int (nI pm)])), (sg, .inl (gI G, 40, .inl fsg)), (sl, .inl (gI G, 10, .inl fsl)), (pp, .inr (1, [.int (nI k), .int told, .int sp, .int (nI (sc k la)), .ref ac, .ref ak])), (ac, .inl (gI G, 6, .inl fc)), (ak, .inl (gI G, 4, .inl fk))]) hP [0, 1, 2, 3, 4, 5, 6] rfl)
              have hD9 := (D_subT (X' := [(h0, .inr (5, [.ref pad, .ref pp, .ref im, .ref sr_13, vtr])), (pad, .inr (0, [.ref sg, .ref sl, .int (nI pm)])), (sg, .inl (gI G, 40, .inl fsg)), (sl, .inl (gI G, 10, .inl fsl)), (pp, .inr (1, [.int (nI k), .int told, .int sp, .int (nI (sc k la)), .ref ac, .ref ak])), (ac, .inl (gI G, 6, .inl fc)), (ak, .inl (gI G, 4, .inl fk))]) hD [0, 1, 2, 3, 4, 5, 6] (by decide) rfl)
              exact W.iret (v := (-6)) hx hb hr (fun t9_ ht9_ hW9_ => ⟨⟨(-6), ((.ref sr_13), ([(sr_13, .inr (2, [.ref rt_13, .ref ru_13, .int ol_])), (rt_13, .inl (gT G, 8, .inr (.inr (.inr (.inr ft_))))), (ru_13, .inl (gI G, 15625, .inl gu_))] ++ Tl), kt), rfl, ⟨(Or.inr ⟨sr_13, rt_13, ru_13, ol_, ft_, gu_, Tl, rfl, hPLl, rfl, by omega⟩), (lsF_1 (fsL_neg hk6 (Nat.le_refl _) (p5pos k) w81 (by have q9 := c83; simp only [i3_le, i3_lt, Int32.reduceToInt] at q9 ⊢; omega))).trans (lsA_4 hj_p1 ej_p1 b7 b11)⟩, by rw [ht9_]; exact hP9, hD9, by rw [ht9_]; exact (show GF s.heap H (3 * kt) (31257 * kt) from hg.wide (by omega) (by omega))⟩, hS.F ht9_⟩) hS.2.2 dX9_lost_99
          · have c80 : ¬ 6 ≤ x := fun h9_ => c80 ((nI_leI (a := 6) (b := x) (by omega) (by omega)).mpr h9_)
            refine lv_iload_n hx hb dX9_lost_51 rfl (lv_at hl 3 rfl) ?_
            refine lv_iload hx hb dX9_lost_52 (lv_at hl 0 rfl) ?_
            refine ca_iR (va_runS (As := [.int p0, .int (nI x)]) (rest := []) ⟨hx, hb, hml, hown, hts⟩ (n_isOf l G H.size p0 (nI x)) (va_cwS 2 hts gX9_lost_X9_isOf rfl rfl rfl (by decide +kernel) ⟨by decide +kernel, by decide +kernel⟩) (pre_S E hP hD hS hA [] (by decide) rfl) rfl rfl hl.1 rfl (lv_room (Nat.le_of_ble_eq_true rfl)) dX9_lost_54 ⟨show 3 * kt + 0 ≤ 33 by omega, show 31257 * kt + 0 ≤ 343827 by omega⟩) hS hP hD hA [] rfl (fun r97 _ H locs w96 hP hS => ?_)
            rcases w96 with ⟨rfl, b98⟩ | ⟨rfl, b98⟩
            · refine lv_if_eq (tgt := 72) hx hb dX9_lost_57 (by decide) (fun c99 => False.elim (by revert c99; decide)) (fun _ => ?_)
              have htd := b98.2
              have hcx := hcr x (by omega) (hset x (by omega) htd)
              have hct : ma x < 5 ^ k ∧ fc x = nI (sc k (ma x)) ∧ x < 6 := ⟨hcx.1, hcx.2, by omega⟩
              refine lv_aload hx hb dX9_lost_60 (lv_at hl 1 rfl) ?_
              refine lv_aload_n hx hb dX9_lost_62 rfl (lv_at hl 2 rfl) ?_
              refine lv_iload hx hb dX9_lost_63 (lv_at hl 0 rfl) ?_
              refine lv_iload_n hx hb dX9_lost_65 rfl (lv_at hl 4 rfl) ?_
              refine W_facts (fun hg => ?_)
              have hg : GF s.heap H (3 * kt) (31257 * kt) := hg
              refine ca_rH (wr := [(pad, .inr (0, [.ref sg, .ref sl, .int (nI pm)])), (sg, .inl (gI G, 40, .inl fsg)), (sl, .inl (gI G, 10, .inl fsl))]) hg (va_runV (As := [.int (nI x), .int (nI j_p1)]) (rest := [.ref sr_13]) ⟨hx, hb, hml, hown, hts⟩ (h_tableOf_s l G H h0 pad pp im vtr ac ak k x j_p1 told sp (nI (sc k la)) fc fk (ma x) sr_13 rt_13 ru_13 ol_ ft_ gu_ Tl hk2 hk6 hct.2.2 hj_p1 hct.1 hct.2.1 hPLl) (cwV 2 hts gX9_lost_X9_tableOf rfl rfl rfl (by decide +kernel) ⟨by decide +kernel, by decide +kernel⟩) (pre_VH E hP hD hS hA [0, 4, 5, 6, 7, 8, 9] (by decide) rfl 0 5 rfl rfl) rfl rfl hl.1 rfl (lv_room (Nat.le_of_ble_eq_true rfl)) dX9_lost_66 ⟨show 3 * kt + 3 ≤ 33 by omega, show 31257 * kt + 31257 ≤ 343827 by omega⟩) hS hP hD hA [0, 4, 5, 6, 7, 8, 9] [1, 2, 3] rfl rfl (by decide) (by decide) (fun u102 H locs w100 hP hD hS hg => ?_)
              obtain ⟨ol1_103, ft1_104, t1_105, ta1_106, tq1_107, qd1_108, se1_109, go1_110, ki1_111, nn1_112, fs1_113, fq1_114, T1_115, k1_116⟩ := u102
              try dsimp only at w100 hP hD
              have hP := (P_subT (X' := [(h0, .inr (5, [.ref pad, .ref pp, .ref im, .ref sr_13, vtr])), (pad, .inr (0, [.ref sg, .ref sl, .int (nI pm)])), (sg, .inl (gI G, 40, .inl fsg)), (sl, .inl (gI G, 10, .inl fsl)), (pp, .inr (1, [.int (nI k), .int told, .int sp, .int (nI (sc k la)), .ref ac, .ref ak])), (ac, .inl (gI G, 6, .inl fc)), (ak, .inl (gI G, 4, .inl fk)), (sr_13, .inr (2, [.ref rt_13, .ref ru_13, .int ol1_103])), (rt_13, .inl (gT G, 8, .inr (.inr (.inr (.inr ft1_104))))), (ru_13, .inl (gI G, 15625, .inl gu_)), (t1_105, .inr (3, [.ref ta1_106, .ref tq1_107, .int qd1_108, .int se1_109, .int go1_110, .int ki1_111, .int nn1_112])), (ta1_106, .inl (gB G, 15625, .inl fs1_113)), (tq1_107, .inl (gI G, 15625, .inl fq1_114))]) hP [3, 0, 1, 2, 4, 5, 6, 7, 8, 9, 10, 11, 12] rfl)
              have hD := (D_subT (X' := [(h0, .inr (5, [.ref pad, .ref pp, .ref im, .ref sr_13, vtr])), (pad, .inr (0, [.ref sg, .ref sl, .int (nI pm)])), (sg, .inl (gI G, 40, .inl fsg)), (sl, .inl (gI G, 10, .inl fsl)), (pp, .inr (1, [.int (nI k), .int told, .int sp, .int (nI (sc k la)), .ref ac, .ref ak])), (ac, .inl (gI G, 6, .inl fc)), (ak, .inl (gI G, 4, .inl fk)), (sr_13, .inr (2, [.ref rt_13, .ref ru_13, .int ol1_103])), (rt_13, .inl (gT G, 8, .inr (.inr (.inr (.inr ft1_104))))), (ru_13, .inl (gI G, 15625, .inl gu_)), (t1_105, .inr (3, [.ref ta1_106, .ref tq1_107, .int qd1_108, .int se1_109, .int go1_110, .int ki1_111, .int nn1_112])), (ta1_106, .inl (gB G, 15625, .inl fs1_113)), (tq1_107, .inl (gI G, 15625, .inl fq1_114))]) hD [3, 0, 1, 2, 4, 5, 6, 7, 8, 9, 10, 11, 12] (by decide) rfl)
              have hTL := w100.1.1
              have hd2 := w100.1.2
              have hkn := w100.2.1
              have hkm := w100.2.2.1
              have hmk := w100.2.2.2.1
              obtain rfl : ki1_111 = fk j_p1 := w100.2.2.2.2.1
              obtain rfl : nn1_112 = nI k := w100.2.2.2.2.2
              obtain ⟨yv9, cv9, ecv9, eyv9, hbk9⟩ := tok_get hd2 rfl hk2 hk6
              obtain rfl := ecv9
              obtain rfl := eyv9
              have hP : va_P G.1 vwCl ([(h0, .inr (5, [.ref pad, .ref pp, .ref im, .ref sr_13, vtr])), (pad, .inr (0, [.ref sg, .ref sl, .int (nI pm)])), (sg, .inl (gI G, 40, .inl fsg)), (sl, .inl (gI G, 10, .inl fsl)), (pp, .inr (1, [.int (nI k), .int told, .int sp, .int (nI (sc k la)), .ref ac, .ref ak])), (ac, .inl (gI G, 6, .inl fc)), (ak, .inl (gI G, 4, .inl fk)), (sr_13, .inr (2, [.ref rt_13, .ref ru_13, .int ol1_103])), (rt_13, .inl (gT G, 8, .inr (.inr (.inr (.inr ft1_104))))), (ru_13, .inl (gI G, 15625, .inl gu_)), (t1_105, .inr (3, [.ref ta1_106, .ref tq1_107, .int (nI cv9), .int (nI yv9), .int go1_110, .int (fk j_p1), .int (nI k)])), (ta1_106, .inl (gB G, 15625, .inl fs1_113)), (tq1_107, .inl (gI G, 15625, .inl fq1_114))] ++ T1_115) H := hP
              have hD : va_D A ([(h0, .inr (5, [.ref pad, .ref pp, .ref im, .ref sr_13, vtr])), (pad, .inr (0, [.ref sg, .ref sl, .int (nI pm)])), (sg, .inl (gI G, 40, .inl fsg)), (sl, .inl (gI G, 10, .inl fsl)), (pp, .inr (1, [.int (nI k), .int told, .int sp, .int (nI (sc k la)), .ref ac, .ref ak])), (ac, .inl (gI G, 6, .inl fc)), (ak, .inl (gI G, 4, .inl fk)), (sr_13, .inr (2, [.ref rt_13, .ref ru_13, .int ol1_103])), (rt_13, .inl (gT G, 8, .inr (.inr (.inr (.inr ft1_104))))), (ru_13, .inl (gI G, 15625, .inl gu_)), (t1_105, .inr (3, [.ref ta1_106, .ref tq1_107, .int (nI cv9), .int (nI yv9), .int go1_110, .int (fk j_p1), .int (nI k)])), (ta1_106, .inl (gB G, 15625, .inl fs1_113)), (tq1_107, .inl (gI G, 15625, .inl fq1_114))] ++ T1_115) := hD
              refine ca_vQ (wr := [(h0, .inr (5, [.ref pad, .ref pp, .ref im, .ref sr_13, vtr])), (pad, .inr (0, [.ref sg, .ref sl, .int (nI pm)])), (sg, .inl (gI G, 40, .inl fsg)), (sl, .inl (gI G, 10, .inl fsl)), (pp, .inr (1, [.int (nI k), .int told, .int sp, .int (nI (sc k la)), .ref ac, .ref ak])), (ac, .inl (gI G, 6, .inl fc)), (ak, .inl (gI G, 4, .inl fk)), (rt_13, .inl (gT G, 8, .inr (.inr (.inr (.inr ft1_104)))))]) (va_runV (As := [.ref t1_105]) (rest := []) ⟨hx, hb, hml, hown, hts⟩ (n_addToSums l G H.size sr_13 rt_13 ru_13 ol1_103 gu_ t1_105 ta1_106 tq1_107 k cv9 yv9 go1_110 (fk j_p1) fs1_113 fq1_114 (gS k go1_110) hk2 hk6 hbk9) (cwV 1 hts gX9_lost_X4_addToSums rfl rfl rfl (by decide +kernel) ⟨by decide +kernel, by decide +kernel⟩) (pre_V E hP hD hS hA [7, 9, 10, 11, 12] (by decide) rfl 7 2 rfl rfl) rfl rfl hl.1 rfl (lv_room (Nat.le_of_ble_eq_true rfl)) dX9_lost_69 ⟨show 3 * kt + (3 * k1_116) + 0 ≤ 33 by omega, show 31257 * kt + (31257 * k1_116) + 0 ≤ 343827 by omega⟩) hS hP hD hA [7, 9, 10, 11, 12] [0, 1, 2, 3, 4, 5, 6, 8] rfl rfl (by decide) (by decide) (fun u119 H locs w117 hP hD hS => ?_)
              obtain ⟨gu1_120, cq1_121, yq1_122, fs1_123, fq1_124⟩ := u119
              try dsimp only at w117 hP hD
              have hP := (P_subT (X' := [(h0, .inr (5, [.ref pad, .ref pp, .ref im, .ref sr_13, vtr])), (pad, .inr (0, [.ref sg, .ref sl, .int (nI pm)])), (sg, .inl (gI G, 40, .inl fsg)), (sl, .inl (gI G, 10, .inl fsl)), (pp, .inr (1, [.int (nI k), .int told, .int sp, .int (nI (sc k la)), .ref ac, .ref ak])), (ac, .inl (gI G, 6, .inl fc)), (ak, .inl (gI G, 4, .inl fk)), (sr_13, .inr (2, [.ref rt_13, .ref ru_13, .int ol1_103])), (rt_13, .inl (gT G, 8, .inr (.inr (.inr (.inr ft1_104))))), (ru_13, .inl (gI G, 15625, .inl gu1_120)), (t1_105, .inr (3, [.ref ta1_106, .ref tq1_107, .int (nI cq1_121), .int (nI yq1_122), .int go1_110, .int (fk j_p1), .int (nI k)])), (ta1_106, .inl (gB G, 15625, .inl fs1_123)), (tq1_107, .inl (gI G, 15625, .inl fq1_124))]) hP [0, 1, 2, 3, 4, 5, 6, 8, 7, 9, 10, 11, 12] rfl)
              have hD := (D_subT (X' := [(h0, .inr (5, [.ref pad, .ref pp, .ref im, .ref sr_13, vtr])), (pad, .inr (0, [.ref sg, .ref sl, .int (nI pm)])), (sg, .inl (gI G, 40, .inl fsg)), (sl, .inl (gI G, 10, .inl fsl)), (pp, .inr (1, [.int (nI k), .int told, .int sp, .int (nI (sc k la)), .ref ac, .ref ak])), (ac, .inl (gI G, 6, .inl fc)), (ak, .inl (gI G, 4, .inl fk)), (sr_13, .inr (2, [.ref rt_13, .ref ru_13, .int ol1_103])), (rt_13, .inl (gT G, 8, .inr (.inr (.inr (.inr ft1_104))))), (ru_13, .inl (gI G, 15625, .inl gu1_120)), (t1_105, .inr (3, [.ref ta1_106, .ref tq1_107, .int (nI cq1_121), .int (nI yq1_122), .int go1_110, .int (fk j_p1), .int (nI k)])), (ta1_106, .inl (gB G, 15625, .inl fs1_123)), (tq1_107, .inl (gI G, 15625, .inl fq1_124))]) hD [0, 1, 2, 3, 4, 5, 6, 8, 7, 9, 10, 11, 12] (by decide) rfl)
              obtain ⟨x125, ex125⟩ : ∃ yy_ : Int32, yy_ = (nI x) + 1 := ⟨_, rfl⟩
              refine lv_iinc (v := x125) (lv' := [(5, .int x125), (4, .ref sr_13), (0, .ref h0), (1, .int p0), (2, .int (nI j_p1)), (3, .int p2)]) hx hb dX9_lost_72 hl (k := 0) rfl (by rw [ex125]; rfl) (by decide) rfl (fun ls hl => ?_)
              obtain rfl : x125 = nI (x + 1) := by rw [ex125]; exact nI_add x 1
              refine lv_goto (tgt := 44) hx hb dX9_lost_75 (by decide) ?_
              obtain ⟨T8_126, hT8_126, hP, hD⟩ := pl2_put (X := [(h0, .inr (5, [.ref pad, .ref pp, .ref im, .ref sr_13, vtr])), (pad, .inr (0, [.ref sg, .ref sl, .int (nI pm)])), (sg, .inl (gI G, 40, .inl fsg)), (sl, .inl (gI G, 10, .inl fsl)), (pp, .inr (1, [.int (nI k), .int told, .int sp, .int (nI (sc k la)), .ref ac, .ref ak])), (ac, .inl (gI G, 6, .inl fc)), (ak, .inl (gI G, 4, .inl fk)), (sr_13, .inr (2, [.ref rt_13, .ref ru_13, .int ol1_103])), (rt_13, .inl (gT G, 8, .inr (.inr (.inr (.inr ft1_104))))), (ru_13, .inl (gI G, 15625, .inl gu1_120))]) (d1 := (t1_105, ta1_106, tq1_107, nI cq1_121, nI yq1_122, go1_110, fk j_p1, nI k, fs1_123, fq1_124)) hTL rfl (Or.inr ⟨k, yq1_122, cq1_121, hk2, hk6, rfl, rfl, rfl, w117.1⟩) (P_subT hP [0, 1, 2, 3, 4, 5, 6, 7, 8, 9, 10, 11, 12] rfl) (D_subT hD [0, 1, 2, 3, 4, 5, 6, 7, 8, 9, 10, 11, 12] (by decide) rfl)
              have hP : va_P G.1 vwCl ([(h0, .inr (5, [.ref pad, .ref pp, .ref im, .ref sr_13, vtr])), (pad, .inr (0, [.ref sg, .ref sl, .int (nI pm)])), (sg, .inl (gI G, 40, .inl fsg)), (sl, .inl (gI G, 10, .inl fsl)), (pp, .inr (1, [.int (nI k), .int told, .int sp, .int (nI (sc k la)), .ref ac, .ref ak])), (ac, .inl (gI G, 6, .inl fc)), (ak, .inl (gI G, 4, .inl fk)), (sr_13, .inr (2, [.ref rt_13, .ref ru_13, .int ol1_103])), (rt_13, .inl (gT G, 8, .inr (.inr (.inr (.inr ft1_104))))), (ru_13, .inl (gI G, 15625, .inl gu1_120))] ++ T8_126) H := hP
              have hD : va_D A ([(h0, .inr (5, [.ref pad, .ref pp, .ref im, .ref sr_13, vtr])), (pad, .inr (0, [.ref sg, .ref sl, .int (nI pm)])), (sg, .inl (gI G, 40, .inl fsg)), (sl, .inl (gI G, 10, .inl fsl)), (pp, .inr (1, [.int (nI k), .int told, .int sp, .int (nI (sc k la)), .ref ac, .ref ak])), (ac, .inl (gI G, 6, .inl fc)), (ak, .inl (gI G, 4, .inl fk)), (sr_13, .inr (2, [.ref rt_13, .ref ru_13, .int ol1_103])), (rt_13, .inl (gT G, 8, .inr (.inr (.inr (.inr ft1_104))))), (ru_13, .inl (gI G, 15625, .inl gu1_120))] ++ T8_126) := hD
              refine W_facts (fun hg => ?_)
              have hg : GF s.heap H (3 * kt + (3 * k1_116)) (31257 * kt + (31257 * k1_116)) := hg
              refine W_lower (k := 3 * (kt + k1_116)) (n := 31257 * (kt + k1_116)) (hg.wide (by omega) (by omega)) ?_
              refine ih44 ((x + 1), ol1_103, ft1_104, gu1_120, T8_126, kt + k1_116) ⟨?_, ?_, ?_, ?_⟩ (by first | omega | (dsimp only; omega)) H locs ls (P_subT hP [0, 1, 2, 3, 4, 5, 6, 7, 8, 9] rfl) (D_subT hD [0, 1, 2, 3, 4, 5, 6, 7, 8, 9] (by decide) rfl) hS (lv_sub hl [0, 1, 2, 3, 4, 5] rfl)
              · try dsimp only
                omega
              · try dsimp only
                exact hT8_126
              · try dsimp only
                omega
              · try dsimp only
                intro z9 h9; rw [w117.2.2 _ (sc_lt5 hk6 h9), hsu z9 h9, sumN_t htd]; exact ls_step hct.1 (w117.2.1 z9 h9) (fun x9 h8 => gS_one hct.1 hmk h8) (j := x) (by have q9 := sumN_or (b := bK (fk j_p1)) (p0 := p0) (ma := ma) hk6 h9 hmA x (by omega); omega) (by omega)
            · refine lv_if_eq (tgt := 72) hx hb dX9_lost_57 (by decide) (fun _ => ?_) (fun c127 => False.elim (by revert c127; decide))
              have hntd : ¬ tdP p0 (nI x) := fun q9 => b98 ⟨inR05 (by omega), q9⟩
              obtain ⟨x128, ex128⟩ : ∃ yy_ : Int32, yy_ = (nI x) + 1 := ⟨_, rfl⟩
              refine lv_iinc (v := x128) (lv' := [(5, .int x128), (4, .ref sr_13), (0, .ref h0), (1, .int p0), (2, .int (nI j_p1)), (3, .int p2)]) hx hb dX9_lost_72 hl (k := 0) rfl (by rw [ex128]; rfl) (by decide) rfl (fun ls hl => ?_)
              obtain rfl : x128 = nI (x + 1) := by rw [ex128]; exact nI_add x 1
              refine lv_goto (tgt := 44) hx hb dX9_lost_75 (by decide) ?_
              refine W_facts (fun hg => ?_)
              have hg : GF s.heap H (3 * kt) (31257 * kt) := hg
              refine W_lower (k := 3 * kt) (n := 31257 * kt) (hg.wide (by omega) (by omega)) ?_
              refine ih44 ((x + 1), ol_, ft_, gu_, Tl, kt) ⟨?_, ?_, ?_, ?_⟩ (by first | omega | (dsimp only; omega)) H locs ls (P_subT hP [0, 1, 2, 3, 4, 5, 6, 7, 8, 9] rfl) (D_subT hD [0, 1, 2, 3, 4, 5, 6, 7, 8, 9] (by decide) rfl) hS (lv_sub hl [0, 1, 2, 3, 4, 5] rfl)
              · try dsimp only
                omega
              · try dsimp only
                exact hPLl
              · try dsimp only
                omega
              · try dsimp only
                intro z9 h9; rw [sumN_f hntd]; exact hsu z9 h9
      · refine lv_if_ne (tgt := 30) hx hb dX9_lost_24 (by decide) (fun c129 => False.elim (by revert c129; decide)) (fun _ => ?_)
        refine lv_bipush (v := (-3)) hx hb dX9_lost_27 (by decide) ?_
        refine W_facts (fun hg => ?_)
        have hg : GF s.heap H (0) (0) := hg
        refine W.widen (k := 33) (n := 343827) (show 0 ≤ 33 by omega) (show 0 ≤ 343827 by omega) ?_
        have hP9 := (P_subT (X' := [(h0, .inr (5, [.ref pad, .ref pp, .ref im, vse, vtr])), (pad, .inr (0, [.ref sg, .ref sl, .int (nI pm)])), (sg, .inl (gI G, 40, .inl fsg)), (sl, .inl (gI G, 10, .inl fsl)), (pp, .inr (1, [.int (nI k), .int told, .int sp, .int (nI (sc k la)), .ref ac, .ref ak])), (ac, .inl (gI G, 6, .inl fc)), (ak, .inl (gI G, 4, .inl fk))]) hP [0, 1, 2, 3, 4, 5, 6] rfl)
        have hD9 := (D_subT (X' := [(h0, .inr (5, [.ref pad, .ref pp, .ref im, vse, vtr])), (pad, .inr (0, [.ref sg, .ref sl, .int (nI pm)])), (sg, .inl (gI G, 40, .inl fsg)), (sl, .inl (gI G, 10, .inl fsl)), (pp, .inr (1, [.int (nI k), .int told, .int sp, .int (nI (sc k la)), .ref ac, .ref ak])), (ac, .inl (gI G, 6, .inl fc)), (ak, .inl (gI G, 4, .inl fk))]) hD [0, 1, 2, 3, 4, 5, 6] (by decide) rfl)
        exact W.iret (v := (-3)) hx hb hr (fun t9_ ht9_ hW9_ => ⟨⟨(-3), (vse, T, 0), rfl, ⟨hSR, lsA_3 b3 b7 b11⟩, by rw [ht9_]; exact hP9, hD9, by rw [ht9_]; exact (show GF s.heap H (3 * 0) (31257 * 0) from hg.wide (by omega) (by omega))⟩, hS.F ht9_⟩) hS.2.2 dX9_lost_29
    · refine lv_if_ne (tgt := 19) hx hb dX9_lost_13 (by decide) (fun c130 => False.elim (by revert c130; decide)) (fun _ => ?_)
      refine lv_bipush (v := (-2)) hx hb dX9_lost_16 (by decide) ?_
      refine W_facts (fun hg => ?_)
      have hg : GF s.heap H (0) (0) := hg
      refine W.widen (k := 33) (n := 343827) (show 0 ≤ 33 by omega) (show 0 ≤ 343827 by omega) ?_
      have hP9 := (P_subT (X' := [(h0, .inr (5, [.ref pad, .ref pp, .ref im, vse, vtr])), (pad, .inr (0, [.ref sg, .ref sl, .int (nI pm)])), (sg, .inl (gI G, 40, .inl fsg)), (sl, .inl (gI G, 10, .inl fsl)), (pp, .inr (1, [.int (nI k), .int told, .int sp, .int (nI (sc k la)), .ref ac, .ref ak])), (ac, .inl (gI G, 6, .inl fc)), (ak, .inl (gI G, 4, .inl fk))]) hP [0, 1, 2, 3, 4, 5, 6] rfl)
      have hD9 := (D_subT (X' := [(h0, .inr (5, [.ref pad, .ref pp, .ref im, vse, vtr])), (pad, .inr (0, [.ref sg, .ref sl, .int (nI pm)])), (sg, .inl (gI G, 40, .inl fsg)), (sl, .inl (gI G, 10, .inl fsl)), (pp, .inr (1, [.int (nI k), .int told, .int sp, .int (nI (sc k la)), .ref ac, .ref ak])), (ac, .inl (gI G, 6, .inl fc)), (ak, .inl (gI G, 4, .inl fk))]) hD [0, 1, 2, 3, 4, 5, 6] (by decide) rfl)
      exact W.iret (v := (-2)) hx hb hr (fun t9_ ht9_ hW9_ => ⟨⟨(-2), (vse, T, 0), rfl, ⟨hSR, lsA_2 b3 b7⟩, by rw [ht9_]; exact hP9, hD9, by rw [ht9_]; exact (show GF s.heap H (3 * 0) (31257 * 0) from hg.wide (by omega) (by omega))⟩, hS.F ht9_⟩) hS.2.2 dX9_lost_18
  · refine lv_if_ne (tgt := 9) hx hb dX9_lost_4 (by decide) (fun c131 => False.elim (by revert c131; decide)) (fun _ => ?_)
    refine lv_iconst (v := (-1)) hx hb dX9_lost_7 (by decide) ?_
    refine W_facts (fun hg => ?_)
    have hg : GF s.heap H (0) (0) := hg
    refine W.widen (k := 33) (n := 343827) (show 0 ≤ 33 by omega) (show 0 ≤ 343827 by omega) ?_
    have hP9 := (P_subT (X' := [(h0, .inr (5, [.ref pad, .ref pp, .ref im, vse, vtr])), (pad, .inr (0, [.ref sg, .ref sl, .int (nI pm)])), (sg, .inl (gI G, 40, .inl fsg)), (sl, .inl (gI G, 10, .inl fsl)), (pp, .inr (1, [.int (nI k), .int told, .int sp, .int (nI (sc k la)), .ref ac, .ref ak])), (ac, .inl (gI G, 6, .inl fc)), (ak, .inl (gI G, 4, .inl fk))]) hP [0, 1, 2, 3, 4, 5, 6] rfl)
    have hD9 := (D_subT (X' := [(h0, .inr (5, [.ref pad, .ref pp, .ref im, vse, vtr])), (pad, .inr (0, [.ref sg, .ref sl, .int (nI pm)])), (sg, .inl (gI G, 40, .inl fsg)), (sl, .inl (gI G, 10, .inl fsl)), (pp, .inr (1, [.int (nI k), .int told, .int sp, .int (nI (sc k la)), .ref ac, .ref ak])), (ac, .inl (gI G, 6, .inl fc)), (ak, .inl (gI G, 4, .inl fk))]) hD [0, 1, 2, 3, 4, 5, 6] (by decide) rfl)
    exact W.iret (v := (-1)) hx hb hr (fun t9_ ht9_ hW9_ => ⟨⟨(-1), (vse, T, 0), rfl, ⟨hSR, lsA_1 b3⟩, by rw [ht9_]; exact hP9, hD9, by rw [ht9_]; exact (show GF s.heap H (3 * 0) (31257 * 0) from hg.wide (by omega) (by omega))⟩, hS.F ht9_⟩) hS.2.2 dX9_lost_8
