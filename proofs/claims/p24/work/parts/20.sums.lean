set_option maxHeartbeats 1000000 in
set_option maxRecDepth 100000 in
theorem c_sumOf (l : Launch) (G : Gy) (sz : Nat) (sr : Nat) (rt : Nat) (ru : Nat) (ol : Int32) (gu : Nat → Int32) (p0 : Int32)  : Ci l G yX4_sumOf wsX4_sumOf ({ frames := 0, cells := 0, slots := 0, locals := 0 }) [.ref sr, .int p0] [(sr, .inr (2, [.ref rt, .ref ru, .int ol])), (ru, .inl (gI G, 15625, .inl gu))] sz (fun (r : Int32) (_ : Unit) => True) (fun (_ : Unit) => [(sr, .inr (2, [.ref rt, .ref ru, .int ol])), (ru, .inl (gI G, 15625, .inl gu))]) 0 0 := by
  refine Met.ofW (cc := cX4_sumOf) (maxL := 2) (ret := (some .int)) (by decide) rfl ?_
  intro p e s m args below meth c s₁ B hml hv
  obtain ⟨rfl, hsz, hP, hD0, E0⟩ := hv
  have hx := B.exec
  have hb := B.bytes
  have hr := B.returns
  have hts := atoms_spec (ws := wsX4_sumOf) B.pre
  have hown : s.vm.findClass RX4 = some m.cls := findClass_of_methodNamed B.named
  have hlocks := B.notSynchronized
  subst hsz
  have hD := hD0.self (sz := s.heap.size)
  generalize hAe : va_A [(sr, .inr (2, [.ref rt, .ref ru, .int ol])), (ru, .inl (gI G, 15625, .inl gu))] s.heap.size = A at hD E0 ⊢
  have E : EV G A s s.heap := E0
  have hA : ∀ q : Nat, s.heap.size ≤ q → A q := fun q h => by rw [← hAe]; exact Or.inr h
  have hS : va_S A s.heap s.heap [] := va_S.rf
  have hl := lv_entry ([.ref sr, .int p0]) (n := 2) (Nat.le_of_ble_eq_true rfl)
  rw [lg_entry_eq]
  generalize (lg_sl ([.ref sr, .int p0]) ++ List.replicate (2 - (lg_sl ([.ref sr, .int p0])).length) Slot.unset).toArray = ls at hl ⊢
  have hl : lv_has ls 2 [(0, .ref sr), (1, .int p0)] := hl
  have hP : va_P G.1 vwCl [(sr, .inr (2, [.ref rt, .ref ru, .int ol])), (ru, .inl (gI G, 15625, .inl gu))] s.heap := hP
  refine lv_iload_n hx hb dX4_sumOf_0 rfl (lv_at hl 1 rfl) ?_
  refine lv_if_lt (tgt := 22) hx hb dX4_sumOf_1 (by decide) (fun c1 => ?_) (fun c1 => ?_)
  · refine lv_bipush (v := (-6)) hx hb dX4_sumOf_22 (by decide) ?_
    have hP9 := hP.sub (ws' := [(sr, .inr (2, [.ref rt, .ref ru, .int ol])), (ru, .inl (gI G, 15625, .inl gu))]) [0, 1] rfl
    have hD9 := hD.sub (ws' := [(sr, .inr (2, [.ref rt, .ref ru, .int ol])), (ru, .inl (gI G, 15625, .inl gu))]) [0, 1] (by decide) rfl
    exact W.iret (v := (-6)) hx hb hr (fun t ht hW => ⟨⟨(-6), (), rfl, trivial, by rw [ht]; exact hP9, hD9⟩, hS.F ht⟩) hS.2.2 dX4_sumOf_24
  · refine lv_iload_n hx hb dX4_sumOf_4 rfl (lv_at hl 1 rfl) ?_
    refine lv_aload_n hx hb dX4_sumOf_5 rfl (lv_at hl 0 rfl) ?_
    refine va_get (D := G.1) (ci := 2) (v := .ref ru) (C := RX4) (T := TX4) (N := 3) hx hb hts (fun _ h => List.mem_cons_of_mem _ (List.mem_append_right _ h)) hown E.K hP 0 rfl rfl 1 (by decide) (hts (.fieldLink RX4 19 "LastMap$Search" "sums" "[I") (by decide +kernel)) (fun _ h9 => h9) rfl dX4_sumOf_6 ?_
    refine va_alen (v := 15625) hx hb E.K hP 1 1 rfl rfl rfl dX4_sumOf_9 ?_
    refine lv_icmp_ge (tgt := 22) hx hb dX4_sumOf_10 (by decide) (fun c2 => ?_) (fun c2 => ?_)
    · refine lv_bipush (v := (-6)) hx hb dX4_sumOf_22 (by decide) ?_
      have hP9 := hP.sub (ws' := [(sr, .inr (2, [.ref rt, .ref ru, .int ol])), (ru, .inl (gI G, 15625, .inl gu))]) [0, 1] rfl
      have hD9 := hD.sub (ws' := [(sr, .inr (2, [.ref rt, .ref ru, .int ol])), (ru, .inl (gI G, 15625, .inl gu))]) [0, 1] (by decide) rfl
      exact W.iret (v := (-6)) hx hb hr (fun t ht hW => ⟨⟨(-6), (), rfl, trivial, by rw [ht]; exact hP9, hD9⟩, hS.F ht⟩) hS.2.2 dX4_sumOf_24
    · refine lv_aload_n hx hb dX4_sumOf_13 rfl (lv_at hl 0 rfl) ?_
      refine va_get (D := G.1) (ci := 2) (v := .ref ru) (C := RX4) (T := TX4) (N := 3) hx hb hts (fun _ h => List.mem_cons_of_mem _ (List.mem_append_right _ h)) hown E.K hP 0 rfl rfl 1 (by decide) (hts (.fieldLink RX4 19 "LastMap$Search" "sums" "[I") (by decide +kernel)) (fun _ h9 => h9) rfl dX4_sumOf_14 ?_
      refine lv_iload_n hx hb dX4_sumOf_17 rfl (lv_at hl 1 rfl) ?_
      refine va_iald hx hb E.K hP 1 1 rfl rfl (i := p0) (vp_in_iff.mpr (by ((try simp only [inR, inS, i3_lt, i3_le, i3_eq, i6_lt, i6_le, Int32.toInt_toInt64, lg_cmp_lt, lg_cmp_gt, lg_cmp_ge, lg_cmp_le, Int32.reduceToInt, Int64.reduceToInt] at c1 c2 ⊢); omega))) dX4_sumOf_18 ?_
      refine lv_topi (fun x3 ex3 => ?_)
      refine lv_goto (tgt := 24) hx hb dX4_sumOf_19 (by decide) ?_
      have hP9 := hP.sub (ws' := [(sr, .inr (2, [.ref rt, .ref ru, .int ol])), (ru, .inl (gI G, 15625, .inl gu))]) [0, 1] rfl
      have hD9 := hD.sub (ws' := [(sr, .inr (2, [.ref rt, .ref ru, .int ol])), (ru, .inl (gI G, 15625, .inl gu))]) [0, 1] (by decide) rfl
      exact W.iret (v := x3) hx hb hr (fun t ht hW => ⟨⟨x3, (), rfl, trivial, by rw [ht]; exact hP9, hD9⟩, hS.F ht⟩) hS.2.2 dX4_sumOf_24

set_option maxHeartbeats 1000000 in
set_option maxRecDepth 100000 in
theorem c_clearSums (l : Launch) (G : Gy) (sz : Nat) (sr : Nat) (rt : Nat) (ru : Nat) (ol : Int32) (gu : Nat → Int32)  : Cv l G yX4_clearSums wsX4_clearSums ({ frames := 1, cells := 0, slots := 0, locals := 23 }) [.ref sr] [(sr, .inr (2, [.ref rt, .ref ru, .int ol])), (ru, .inl (gI G, 15625, .inl gu))] sz (fun (gu1 : Nat → Int32) => True) (fun (gu1 : Nat → Int32) => [(sr, .inr (2, [.ref rt, .ref ru, .int ol])), (ru, .inl (gI G, 15625, .inl gu1))]) 0 0 := by
  refine Met.ofW (cc := cX4_clearSums) (maxL := 1) (ret := none) (by decide) rfl ?_
  intro p e s m args below meth c s₁ B hml hv
  obtain ⟨rfl, hsz, hP, hD0, E0⟩ := hv
  have hx := B.exec
  have hb := B.bytes
  have hr := B.returns
  have hts := atoms_spec (ws := wsX4_clearSums) B.pre
  have hown : s.vm.findClass RX4 = some m.cls := findClass_of_methodNamed B.named
  have hlocks := B.notSynchronized
  subst hsz
  have hD := hD0.self (sz := s.heap.size)
  generalize hAe : va_A [(sr, .inr (2, [.ref rt, .ref ru, .int ol])), (ru, .inl (gI G, 15625, .inl gu))] s.heap.size = A at hD E0 ⊢
  have E : EV G A s s.heap := E0
  have hA : ∀ q : Nat, s.heap.size ≤ q → A q := fun q h => by rw [← hAe]; exact Or.inr h
  have hS : va_S A s.heap s.heap [] := va_S.rf
  have hl := lv_entry ([.ref sr]) (n := 1) (Nat.le_of_ble_eq_true rfl)
  rw [lg_entry_eq]
  generalize (lg_sl ([.ref sr]) ++ List.replicate (1 - (lg_sl ([.ref sr])).length) Slot.unset).toArray = ls at hl ⊢
  have hl : lv_has ls 1 [(0, .ref sr)] := hl
  have hP : va_P G.1 vwCl [(sr, .inr (2, [.ref rt, .ref ru, .int ol])), (ru, .inl (gI G, 15625, .inl gu))] s.heap := hP
  refine lv_aload_n hx hb dX4_clearSums_0 rfl (lv_at hl 0 rfl) ?_
  refine va_get (D := G.1) (ci := 2) (v := .ref ru) (C := RX4) (T := TX4) (N := 3) hx hb hts (fun _ h => List.mem_cons_of_mem _ (List.mem_append_right _ h)) hown E.K hP 0 rfl rfl 1 (by decide) (hts (.fieldLink RX4 19 "LastMap$Search" "sums" "[I") (by decide +kernel)) (fun _ h9 => h9) rfl dX4_clearSums_1 ?_
  refine lv_iconst (v := 0) hx hb dX4_clearSums_4 (by decide) ?_
  refine ca_v (wr := [(sr, .inr (2, [.ref rt, .ref ru, .int ol]))]) (va_runS (As := [.ref ru, .int 0]) (rest := []) ⟨hx, hb, hml, hown, hts⟩ (c_fillI l G s.heap.size ru gu 0) (va_cwS 2 hts gX4_clearSums_J7_fill_53178 rfl rfl rfl (by decide +kernel) ⟨by decide +kernel, by decide +kernel⟩) (pre_S E hP hD hS hA [1] (by decide) rfl) rfl rfl hl.1 rfl (lv_room (Nat.le_of_ble_eq_true rfl)) dX4_clearSums_5 ⟨by decide +kernel, by decide +kernel⟩) hS hP hD hA [1] [0] rfl rfl (by decide) (by decide) (fun u3 H locs w1 hP hD hS => ?_)
  obtain ⟨f1_4, rfl⟩ : ∃ z, z = u3 := ⟨_, rfl⟩
  try dsimp only at w1 hP hD
  have hP := hP.sub (ws' := [(sr, .inr (2, [.ref rt, .ref ru, .int ol])), (ru, .inl (gI G, 15625, .inl f1_4))]) [0, 1] rfl
  have hD := hD.sub (ws' := [(sr, .inr (2, [.ref rt, .ref ru, .int ol])), (ru, .inl (gI G, 15625, .inl f1_4))]) [0, 1] (by decide) rfl
  have hP9 := hP.sub (ws' := [(sr, .inr (2, [.ref rt, .ref ru, .int ol])), (ru, .inl (gI G, 15625, .inl f1_4))]) [0, 1] rfl
  have hD9 := hD.sub (ws' := [(sr, .inr (2, [.ref rt, .ref ru, .int ol])), (ru, .inl (gI G, 15625, .inl f1_4))]) [0, 1] (by decide) rfl
  exact W.vret hx hb hr (fun t ht hW => ⟨⟨f1_4, rfl, trivial, by rw [ht]; exact hP9, hD9⟩, hS.F ht⟩) hS.2.2 dX4_clearSums_8

set_option maxHeartbeats 1000000 in
set_option maxRecDepth 100000 in
theorem c_firstOfLeast (l : Launch) (G : Gy) (sz : Nat) (sr : Nat) (rt : Nat) (ru : Nat) (ol : Int32) (gu : Nat → Int32) (p0 : Int32)  : Ci l G yX4_firstOfLeastSum wsX4_firstOfLeastSum ({ frames := 1, cells := 0, slots := 0, locals := 21 }) [.ref sr, .int p0] [(sr, .inr (2, [.ref rt, .ref ru, .int ol])), (ru, .inl (gI G, 15625, .inl gu))] sz (fun (r : Int32) (_ : Unit) => True) (fun (_ : Unit) => [(sr, .inr (2, [.ref rt, .ref ru, .int ol])), (ru, .inl (gI G, 15625, .inl gu))]) 0 0 := by
  refine Met.ofW (cc := cX4_firstOfLeastSum) (maxL := 5) (ret := (some .int)) (by decide) rfl ?_
  intro p e s m args below meth c s₁ B hml hv
  obtain ⟨rfl, hsz, hP, hD0, E0⟩ := hv
  have hx := B.exec
  have hb := B.bytes
  have hr := B.returns
  have hts := atoms_spec (ws := wsX4_firstOfLeastSum) B.pre
  have hown : s.vm.findClass RX4 = some m.cls := findClass_of_methodNamed B.named
  have hlocks := B.notSynchronized
  subst hsz
  have hD := hD0.self (sz := s.heap.size)
  generalize hAe : va_A [(sr, .inr (2, [.ref rt, .ref ru, .int ol])), (ru, .inl (gI G, 15625, .inl gu))] s.heap.size = A at hD E0 ⊢
  have E : EV G A s s.heap := E0
  have hA : ∀ q : Nat, s.heap.size ≤ q → A q := fun q h => by rw [← hAe]; exact Or.inr h
  have hS : va_S A s.heap s.heap [] := va_S.rf
  have hl := lv_entry ([.ref sr, .int p0]) (n := 5) (Nat.le_of_ble_eq_true rfl)
  rw [lg_entry_eq]
  generalize (lg_sl ([.ref sr, .int p0]) ++ List.replicate (5 - (lg_sl ([.ref sr, .int p0])).length) Slot.unset).toArray = ls at hl ⊢
  have hl : lv_has ls 5 [(0, .ref sr), (1, .int p0)] := hl
  have hP : va_P G.1 vwCl [(sr, .inr (2, [.ref rt, .ref ru, .int ol])), (ru, .inl (gI G, 15625, .inl gu))] s.heap := hP
  refine lv_bipush (v := (-6)) hx hb dX4_firstOfLeastSum_0 (by decide) ?_
  refine lv_istore_n (lv' := [(2, .int (-6)), (0, .ref sr), (1, .int p0)]) hx hb dX4_firstOfLeastSum_2 rfl hl (by decide) rfl (fun ls hl => ?_)
  refine lv_iconst (v := 1) hx hb dX4_firstOfLeastSum_3 (by decide) ?_
  refine lv_iload_n hx hb dX4_firstOfLeastSum_4 rfl (lv_at hl 2 rfl) ?_
  refine lv_iconst (v := 1) hx hb dX4_firstOfLeastSum_5 (by decide) ?_
  refine lv_isub hx hb dX4_firstOfLeastSum_6 ?_
  refine lv_topi (fun x1 ex1 => ?_)
  refine ca_iR (va_runS (As := [.int x1]) (rest := [.int 1]) ⟨hx, hb, hml, hown, hts⟩ (c_weight l G s.heap.size x1) (va_cwS 1 hts gX4_firstOfLeastSum_X1_weight rfl rfl rfl (by decide +kernel) ⟨by decide +kernel, by decide +kernel⟩) (pre_S E hP hD hS hA [] (by decide) rfl) rfl rfl hl.1 rfl (lv_room (Nat.le_of_ble_eq_true rfl)) dX4_firstOfLeastSum_7 ⟨by decide +kernel, by decide +kernel⟩) hS hP hD hA [] rfl (fun r3 _ H locs w2 hP hS => ?_)
  refine va_mmax (x := 1) (y := r3) hx hb (by rw [hml, hl.1]) hown (hts (.methodLink RX4 56 Lib.Math.max.name) (by decide +kernel)) (hts (.static Lib.Math.max.name) (by decide +kernel)) (hts (.initialized "java/lang/Math") (by decide +kernel)) (hts (.code Lib.Math.max.name Lib.Math.max.code 2 (some .int)) (by decide +kernel)) (by decide +kernel) (by decide +kernel) (by decide +kernel) (by decide +kernel) dX4_firstOfLeastSum_10 ?_
  refine lv_topi (fun x4 ex4 => ?_)
  have hst : inR x4 1 3125 := by rw [ex4, w2]; exact max_wgt _
  refine lv_istore_n (lv' := [(3, .int x4), (2, .int (-6)), (0, .ref sr), (1, .int p0)]) hx hb dX4_firstOfLeastSum_13 rfl hl (by decide) rfl (fun ls hl => ?_)
  refine lv_iconst (v := 0) hx hb dX4_firstOfLeastSum_14 (by decide) ?_
  refine lv_istore (lv' := [(4, .int 0), (3, .int x4), (2, .int (-6)), (0, .ref sr), (1, .int p0)]) hx hb dX4_firstOfLeastSum_15 hl (by decide) rfl (fun ls hl => ?_)
  refine lp_run (x0 := (0, (-6))) (fun xx_ : Int32 × Int32 => match xx_ with | (x, y) => [(sr, .inr (2, [.ref rt, .ref ru, .int ol])), (ru, .inl (gI G, 15625, .inl gu))]) (fun xx_ : Int32 × Int32 => match xx_ with | (x, y) => [(4, .int x), (3, .int x4), (2, .int y), (0, .ref sr), (1, .int p0)]) (fun xx_ : Int32 × Int32 => match xx_ with | (x, y) => (0 ≤ x.toInt)) (fun xx_ : Int32 × Int32 => match xx_ with | (x, y) => (15625 + 65536 - x.toInt).toNat) (hP.sub [0, 1] rfl) (hD.sub [0, 1] (by decide) rfl) hS (lv_sub hl [0, 1, 2, 3, 4] rfl) (show (0 : Int) ≤ (0 : Int32).toInt by decide) ?_
  intro xx_ hI ih17 H locs ls hP hD hS hl
  obtain ⟨x, y⟩ := xx_
  dsimp only at hI ih17 hP hD hl
  have hx0 := hI
  have hl : lv_has ls 5 [(4, .int x), (3, .int x4), (2, .int y), (0, .ref sr), (1, .int p0)] := hl
  have hP : va_P G.1 vwCl [(sr, .inr (2, [.ref rt, .ref ru, .int ol])), (ru, .inl (gI G, 15625, .inl gu))] H := hP
  have hD : va_D A [(sr, .inr (2, [.ref rt, .ref ru, .int ol])), (ru, .inl (gI G, 15625, .inl gu))] := hD
  refine lv_iload hx hb dX4_firstOfLeastSum_17 (lv_at hl 0 rfl) ?_
  refine lv_aload_n hx hb dX4_firstOfLeastSum_19 rfl (lv_at hl 3 rfl) ?_
  refine va_get (D := G.1) (ci := 2) (v := .ref ru) (C := RX4) (T := TX4) (N := 3) hx hb hts (fun _ h => List.mem_cons_of_mem _ (List.mem_append_right _ h)) hown E.K hP 0 rfl rfl 1 (by decide) (hts (.fieldLink RX4 19 "LastMap$Search" "sums" "[I") (by decide +kernel)) (fun _ h9 => h9) rfl dX4_firstOfLeastSum_20 ?_
  refine va_alen (v := 15625) hx hb E.K hP 1 1 rfl rfl rfl dX4_firstOfLeastSum_23 ?_
  refine lv_icmp_ge (tgt := 68) hx hb dX4_firstOfLeastSum_24 (by decide) (fun c5 => ?_) (fun c5 => ?_)
  · refine lv_iload_n hx hb dX4_firstOfLeastSum_68 rfl (lv_at hl 2 rfl) ?_
    have hP9 := hP.sub (ws' := [(sr, .inr (2, [.ref rt, .ref ru, .int ol])), (ru, .inl (gI G, 15625, .inl gu))]) [0, 1] rfl
    have hD9 := hD.sub (ws' := [(sr, .inr (2, [.ref rt, .ref ru, .int ol])), (ru, .inl (gI G, 15625, .inl gu))]) [0, 1] (by decide) rfl
    exact W.iret (v := y) hx hb hr (fun t ht hW => ⟨⟨y, (), rfl, trivial, by rw [ht]; exact hP9, hD9⟩, hS.F ht⟩) hS.2.2 dX4_firstOfLeastSum_69
  · have hlt : x.toInt < (15625 : Int32).toInt := by ((try simp only [inR, inS, i3_lt, i3_le, i3_eq, i6_lt, i6_le, Int32.toInt_toInt64, lg_cmp_lt, lg_cmp_gt, lg_cmp_ge, lg_cmp_le, Int32.reduceToInt, Int64.reduceToInt] at c5 ⊢); omega)
    refine lv_aload_n hx hb dX4_firstOfLeastSum_27 rfl (lv_at hl 3 rfl) ?_
    refine va_get (D := G.1) (ci := 2) (v := .ref ru) (C := RX4) (T := TX4) (N := 3) hx hb hts (fun _ h => List.mem_cons_of_mem _ (List.mem_append_right _ h)) hown E.K hP 0 rfl rfl 1 (by decide) (hts (.fieldLink RX4 19 "LastMap$Search" "sums" "[I") (by decide +kernel)) (fun _ h9 => h9) rfl dX4_firstOfLeastSum_28 ?_
    refine lv_iload hx hb dX4_firstOfLeastSum_31 (lv_at hl 0 rfl) ?_
    refine va_iald hx hb E.K hP 1 1 rfl rfl (i := x) (vp_in_iff.mpr ⟨hx0, by have q := hlt; simp only [Int32.reduceToInt] at q; omega⟩) dX4_firstOfLeastSum_33 ?_
    refine lv_topi (fun x6 ex6 => ?_)
    refine lv_if_lt (tgt := 59) hx hb dX4_firstOfLeastSum_34 (by decide) (fun c7 => ?_) (fun c7 => ?_)
    · refine lv_iload hx hb dX4_firstOfLeastSum_59 (lv_at hl 0 rfl) ?_
      refine lv_iload_n hx hb dX4_firstOfLeastSum_61 rfl (lv_at hl 1 rfl) ?_
      refine lv_iadd hx hb dX4_firstOfLeastSum_62 ?_
      refine lv_topi (fun x8 ex8 => ?_)
      refine lv_istore (lv' := [(4, .int x8), (3, .int x4), (2, .int y), (0, .ref sr), (1, .int p0)]) hx hb dX4_firstOfLeastSum_63 hl (by decide) rfl (fun ls hl => ?_)
      refine lv_goto (tgt := 17) hx hb dX4_firstOfLeastSum_65 (by decide) ?_
      have hstep := step_lt (y := 15625) hlt hx0 hst ex8
      have hlt2 := hlt
      simp only [Int32.reduceToInt] at hlt2
      refine ih17 (x8, y) ?_ (by first | omega | (dsimp only; omega)) H locs ls (hP.sub [0, 1] rfl) (hD.sub [0, 1] (by decide) rfl) hS (lv_sub hl [0, 1, 2, 3, 4] rfl)
      try dsimp only
      omega
    · refine lv_iload_n hx hb dX4_firstOfLeastSum_37 rfl (lv_at hl 2 rfl) ?_
      refine lv_if_lt (tgt := 56) hx hb dX4_firstOfLeastSum_38 (by decide) (fun c9 => ?_) (fun c9 => ?_)
      · refine lv_iload hx hb dX4_firstOfLeastSum_56 (lv_at hl 0 rfl) ?_
        refine lv_istore_n (lv' := [(2, .int x), (4, .int x), (3, .int x4), (0, .ref sr), (1, .int p0)]) hx hb dX4_firstOfLeastSum_58 rfl hl (by decide) rfl (fun ls hl => ?_)
        refine lv_iload hx hb dX4_firstOfLeastSum_59 (lv_at hl 1 rfl) ?_
        refine lv_iload_n hx hb dX4_firstOfLeastSum_61 rfl (lv_at hl 2 rfl) ?_
        refine lv_iadd hx hb dX4_firstOfLeastSum_62 ?_
        refine lv_topi (fun x10 ex10 => ?_)
        refine lv_istore (lv' := [(4, .int x10), (2, .int x), (3, .int x4), (0, .ref sr), (1, .int p0)]) hx hb dX4_firstOfLeastSum_63 hl (by decide) rfl (fun ls hl => ?_)
        refine lv_goto (tgt := 17) hx hb dX4_firstOfLeastSum_65 (by decide) ?_
        have hstep := step_lt (y := 15625) hlt hx0 hst ex10
        have hlt2 := hlt
        simp only [Int32.reduceToInt] at hlt2
        refine ih17 (x10, x) ?_ (by first | omega | (dsimp only; omega)) H locs ls (hP.sub [0, 1] rfl) (hD.sub [0, 1] (by decide) rfl) hS (lv_sub hl [0, 2, 1, 3, 4] rfl)
        try dsimp only
        omega
      · refine lv_aload_n hx hb dX4_firstOfLeastSum_41 rfl (lv_at hl 3 rfl) ?_
        refine va_get (D := G.1) (ci := 2) (v := .ref ru) (C := RX4) (T := TX4) (N := 3) hx hb hts (fun _ h => List.mem_cons_of_mem _ (List.mem_append_right _ h)) hown E.K hP 0 rfl rfl 1 (by decide) (hts (.fieldLink RX4 19 "LastMap$Search" "sums" "[I") (by decide +kernel)) (fun _ h9 => h9) rfl dX4_firstOfLeastSum_42 ?_
        refine lv_iload hx hb dX4_firstOfLeastSum_45 (lv_at hl 0 rfl) ?_
        refine va_iald hx hb E.K hP 1 1 rfl rfl (i := x) (vp_in_iff.mpr ⟨hx0, by have q := hlt; simp only [Int32.reduceToInt] at q; omega⟩) dX4_firstOfLeastSum_47 ?_
        refine lv_topi (fun x11 ex11 => ?_)
        refine lv_aload_n hx hb dX4_firstOfLeastSum_48 rfl (lv_at hl 3 rfl) ?_
        refine lv_iload_n hx hb dX4_firstOfLeastSum_49 rfl (lv_at hl 2 rfl) ?_
        refine ca_iR (va_runV (As := [.int y]) (rest := [.int x11]) ⟨hx, hb, hml, hown, hts⟩ (c_sumOf l G H.size sr rt ru ol gu y) (cwV 1 hts gX4_firstOfLeastSum_X4_sumOf rfl rfl rfl (by decide +kernel) ⟨by decide +kernel, by decide +kernel⟩) (pre_V E hP hD hS hA [0, 1] (by decide) rfl 0 2 rfl rfl) rfl rfl hl.1 rfl (lv_room (Nat.le_of_ble_eq_true rfl)) dX4_firstOfLeastSum_50 ⟨by decide +kernel, by decide +kernel⟩) hS hP hD hA [0, 1] rfl (fun r13 _ H locs w12 hP hS => ?_)
        refine lv_icmp_ge (tgt := 59) hx hb dX4_firstOfLeastSum_53 (by decide) (fun c14 => ?_) (fun c14 => ?_)
        · refine lv_iload hx hb dX4_firstOfLeastSum_59 (lv_at hl 0 rfl) ?_
          refine lv_iload_n hx hb dX4_firstOfLeastSum_61 rfl (lv_at hl 1 rfl) ?_
          refine lv_iadd hx hb dX4_firstOfLeastSum_62 ?_
          refine lv_topi (fun x15 ex15 => ?_)
          refine lv_istore (lv' := [(4, .int x15), (3, .int x4), (2, .int y), (0, .ref sr), (1, .int p0)]) hx hb dX4_firstOfLeastSum_63 hl (by decide) rfl (fun ls hl => ?_)
          refine lv_goto (tgt := 17) hx hb dX4_firstOfLeastSum_65 (by decide) ?_
          have hstep := step_lt (y := 15625) hlt hx0 hst ex15
          have hlt2 := hlt
          simp only [Int32.reduceToInt] at hlt2
          refine ih17 (x15, y) ?_ (by first | omega | (dsimp only; omega)) H locs ls (hP.sub [0, 1] rfl) (hD.sub [0, 1] (by decide) rfl) hS (lv_sub hl [0, 1, 2, 3, 4] rfl)
          try dsimp only
          omega
        · refine lv_iload hx hb dX4_firstOfLeastSum_56 (lv_at hl 0 rfl) ?_
          refine lv_istore_n (lv' := [(2, .int x), (4, .int x), (3, .int x4), (0, .ref sr), (1, .int p0)]) hx hb dX4_firstOfLeastSum_58 rfl hl (by decide) rfl (fun ls hl => ?_)
          refine lv_iload hx hb dX4_firstOfLeastSum_59 (lv_at hl 1 rfl) ?_
          refine lv_iload_n hx hb dX4_firstOfLeastSum_61 rfl (lv_at hl 2 rfl) ?_
          refine lv_iadd hx hb dX4_firstOfLeastSum_62 ?_
          refine lv_topi (fun x16 ex16 => ?_)
          refine lv_istore (lv' := [(4, .int x16), (2, .int x), (3, .int x4), (0, .ref sr), (1, .int p0)]) hx hb dX4_firstOfLeastSum_63 hl (by decide) rfl (fun ls hl => ?_)
          refine lv_goto (tgt := 17) hx hb dX4_firstOfLeastSum_65 (by decide) ?_
          have hstep := step_lt (y := 15625) hlt hx0 hst ex16
          have hlt2 := hlt
          simp only [Int32.reduceToInt] at hlt2
          refine ih17 (x16, x) ?_ (by first | omega | (dsimp only; omega)) H locs ls (hP.sub [0, 1] rfl) (hD.sub [0, 1] (by decide) rfl) hS (lv_sub hl [0, 2, 1, 3, 4] rfl)
          try dsimp only
          omega

set_option maxHeartbeats 1000000 in
set_option maxRecDepth 100000 in
theorem c_addToSums (l : Launch) (G : Gy) (sz : Nat) (sr : Nat) (rt : Nat) (ru : Nat) (ol : Int32) (gu : Nat → Int32) (t : Nat) (ta : Nat) (tq : Nat) (qd : Int32) (se : Int32) (go : Int32) (ki : Int32) (nn : Int32) (fs : Nat → Int32) (fq : Nat → Int32) (hq : inR qd 0 15625) (hs : inR se 0 15625) : Cv l G yX4_addToSums wsX4_addToSums ({ frames := 4, cells := 0, slots := 0, locals := 92 }) [.ref sr, .ref t] [(sr, .inr (2, [.ref rt, .ref ru, .int ol])), (ru, .inl (gI G, 15625, .inl gu)), (t, .inr (3, [.ref ta, .ref tq, .int qd, .int se, .int go, .int ki, .int nn])), (ta, .inl (gB G, 15625, .inl fs)), (tq, .inl (gI G, 15625, .inl fq))] sz (fun (u : (Nat → Int32) × Int32 × Int32 × (Nat → Int32) × (Nat → Int32)) => match u with | (gu1, qd1, se1, fs1, fq1) => inR qd1 0 15625 ∧ inR se1 0 15625) (fun (u : (Nat → Int32) × Int32 × Int32 × (Nat → Int32) × (Nat → Int32)) => match u with | (gu1, qd1, se1, fs1, fq1) => [(sr, .inr (2, [.ref rt, .ref ru, .int ol])), (ru, .inl (gI G, 15625, .inl gu1)), (t, .inr (3, [.ref ta, .ref tq, .int qd1, .int se1, .int go, .int ki, .int nn])), (ta, .inl (gB G, 15625, .inl fs1)), (tq, .inl (gI G, 15625, .inl fq1))]) 0 0 := by
  refine Met.ofW (cc := cX4_addToSums) (maxL := 4) (ret := none) (by decide) rfl ?_
  intro p e s m args below meth c s₁ B hml hv
  obtain ⟨rfl, hsz, hP, hD0, E0⟩ := hv
  have hx := B.exec
  have hb := B.bytes
  have hr := B.returns
  have hts := atoms_spec (ws := wsX4_addToSums) B.pre
  have hown : s.vm.findClass RX4 = some m.cls := findClass_of_methodNamed B.named
  have hlocks := B.notSynchronized
  subst hsz
  have hD := hD0.self (sz := s.heap.size)
  generalize hAe : va_A [(sr, .inr (2, [.ref rt, .ref ru, .int ol])), (ru, .inl (gI G, 15625, .inl gu)), (t, .inr (3, [.ref ta, .ref tq, .int qd, .int se, .int go, .int ki, .int nn])), (ta, .inl (gB G, 15625, .inl fs)), (tq, .inl (gI G, 15625, .inl fq))] s.heap.size = A at hD E0 ⊢
  have E : EV G A s s.heap := E0
  have hA : ∀ q : Nat, s.heap.size ≤ q → A q := fun q h => by rw [← hAe]; exact Or.inr h
  have hS : va_S A s.heap s.heap [] := va_S.rf
  have hl := lv_entry ([.ref sr, .ref t]) (n := 4) (Nat.le_of_ble_eq_true rfl)
  rw [lg_entry_eq]
  generalize (lg_sl ([.ref sr, .ref t]) ++ List.replicate (4 - (lg_sl ([.ref sr, .ref t])).length) Slot.unset).toArray = ls at hl ⊢
  have hl : lv_has ls 4 [(0, .ref sr), (1, .ref t)] := hl
  have hP : va_P G.1 vwCl [(sr, .inr (2, [.ref rt, .ref ru, .int ol])), (ru, .inl (gI G, 15625, .inl gu)), (t, .inr (3, [.ref ta, .ref tq, .int qd, .int se, .int go, .int ki, .int nn])), (ta, .inl (gB G, 15625, .inl fs)), (tq, .inl (gI G, 15625, .inl fq))] s.heap := hP
  refine lv_aload_n hx hb dX4_addToSums_0 rfl (lv_at hl 1 rfl) ?_
  refine ca_v (wr := [(sr, .inr (2, [.ref rt, .ref ru, .int ol])), (ru, .inl (gI G, 15625, .inl gu))]) (va_runV (As := []) (rest := []) ⟨hx, hb, hml, hown, hts⟩ (c_searchAll l G s.heap.size t ta tq qd se go ki nn fs fq hq hs) (cwV 0 hts gX4_addToSums_X7_searchAll rfl rfl rfl (by decide +kernel) ⟨by decide +kernel, by decide +kernel⟩) (pre_V E hP hD hS hA [2, 3, 4] (by decide) rfl 2 3 rfl rfl) rfl rfl hl.1 rfl (lv_room (Nat.le_of_ble_eq_true rfl)) dX4_addToSums_1 ⟨by decide +kernel, by decide +kernel⟩) hS hP hD hA [2, 3, 4] [0, 1] rfl rfl (by decide) (by decide) (fun u3 H locs w1 hP hD hS => ?_)
  obtain ⟨qd1_4, se1_5, fs1_6, fq1_7⟩ := u3
  try dsimp only at w1 hP hD
  have hP := hP.sub (ws' := [(sr, .inr (2, [.ref rt, .ref ru, .int ol])), (ru, .inl (gI G, 15625, .inl gu)), (t, .inr (3, [.ref ta, .ref tq, .int qd1_4, .int se1_5, .int go, .int ki, .int nn])), (ta, .inl (gB G, 15625, .inl fs1_6)), (tq, .inl (gI G, 15625, .inl fq1_7))]) [0, 1, 2, 3, 4] rfl
  have hD := hD.sub (ws' := [(sr, .inr (2, [.ref rt, .ref ru, .int ol])), (ru, .inl (gI G, 15625, .inl gu)), (t, .inr (3, [.ref ta, .ref tq, .int qd1_4, .int se1_5, .int go, .int ki, .int nn])), (ta, .inl (gB G, 15625, .inl fs1_6)), (tq, .inl (gI G, 15625, .inl fq1_7))]) [0, 1, 2, 3, 4] (by decide) rfl
  refine lv_iconst (v := 0) hx hb dX4_addToSums_4 (by decide) ?_
  refine lv_istore_n (lv' := [(2, .int 0), (0, .ref sr), (1, .ref t)]) hx hb dX4_addToSums_5 rfl hl (by decide) rfl (fun ls hl => ?_)
  refine lp_run (x0 := (0, gu)) (fun xx_ : Int32 × (Nat → Int32) => match xx_ with | (x, gx) => [(sr, .inr (2, [.ref rt, .ref ru, .int ol])), (ru, .inl (gI G, 15625, .inl gx)), (t, .inr (3, [.ref ta, .ref tq, .int qd1_4, .int se1_5, .int go, .int ki, .int nn])), (ta, .inl (gB G, 15625, .inl fs1_6)), (tq, .inl (gI G, 15625, .inl fq1_7))]) (fun xx_ : Int32 × (Nat → Int32) => match xx_ with | (x, gx) => [(2, .int x), (0, .ref sr), (1, .ref t)]) (fun xx_ : Int32 × (Nat → Int32) => match xx_ with | (x, gx) => (0 ≤ x.toInt)) (fun xx_ : Int32 × (Nat → Int32) => match xx_ with | (x, gx) => ((15625 : Int32).toInt - x.toInt).toNat) (hP.sub [0, 1, 2, 3, 4] rfl) (hD.sub [0, 1, 2, 3, 4] (by decide) rfl) hS (lv_sub hl [0, 1, 2] rfl) (show (0 : Int) ≤ (0 : Int32).toInt by first | decide | omega | assumption) ?_
  intro xx_ hI ih6 H locs ls hP hD hS hl
  obtain ⟨x, gx⟩ := xx_
  dsimp only at hI ih6 hP hD hl
  have hx0 := hI
  have hl : lv_has ls 4 [(2, .int x), (0, .ref sr), (1, .ref t)] := hl
  have hP : va_P G.1 vwCl [(sr, .inr (2, [.ref rt, .ref ru, .int ol])), (ru, .inl (gI G, 15625, .inl gx)), (t, .inr (3, [.ref ta, .ref tq, .int qd1_4, .int se1_5, .int go, .int ki, .int nn])), (ta, .inl (gB G, 15625, .inl fs1_6)), (tq, .inl (gI G, 15625, .inl fq1_7))] H := hP
  have hD : va_D A [(sr, .inr (2, [.ref rt, .ref ru, .int ol])), (ru, .inl (gI G, 15625, .inl gx)), (t, .inr (3, [.ref ta, .ref tq, .int qd1_4, .int se1_5, .int go, .int ki, .int nn])), (ta, .inl (gB G, 15625, .inl fs1_6)), (tq, .inl (gI G, 15625, .inl fq1_7))] := hD
  refine lv_iload_n hx hb dX4_addToSums_6 rfl (lv_at hl 0 rfl) ?_
  refine lv_aload_n hx hb dX4_addToSums_7 rfl (lv_at hl 1 rfl) ?_
  refine va_get (D := G.1) (ci := 2) (v := .ref ru) (C := RX4) (T := TX4) (N := 3) hx hb hts (fun _ h => List.mem_cons_of_mem _ (List.mem_append_left _ (List.mem_append_right _ h))) hown E.K hP 0 rfl rfl 1 (by decide) (hts (.fieldLink RX4 19 "LastMap$Search" "sums" "[I") (by decide +kernel)) (fun _ h9 => h9) rfl dX4_addToSums_8 ?_
  refine va_alen (v := 15625) hx hb E.K hP 1 1 rfl rfl rfl dX4_addToSums_11 ?_
  refine lv_icmp_ge (tgt := 59) hx hb dX4_addToSums_12 (by decide) (fun c8 => ?_) (fun c8 => ?_)
  · have hP9 := hP.sub (ws' := [(sr, .inr (2, [.ref rt, .ref ru, .int ol])), (ru, .inl (gI G, 15625, .inl gx)), (t, .inr (3, [.ref ta, .ref tq, .int qd1_4, .int se1_5, .int go, .int ki, .int nn])), (ta, .inl (gB G, 15625, .inl fs1_6)), (tq, .inl (gI G, 15625, .inl fq1_7))]) [0, 1, 2, 3, 4] rfl
    have hD9 := hD.sub (ws' := [(sr, .inr (2, [.ref rt, .ref ru, .int ol])), (ru, .inl (gI G, 15625, .inl gx)), (t, .inr (3, [.ref ta, .ref tq, .int qd1_4, .int se1_5, .int go, .int ki, .int nn])), (ta, .inl (gB G, 15625, .inl fs1_6)), (tq, .inl (gI G, 15625, .inl fq1_7))]) [0, 1, 2, 3, 4] (by decide) rfl
    exact W.vret hx hb hr (fun t ht hW => ⟨⟨(gx, qd1_4, se1_5, fs1_6, fq1_7), rfl, w1, by rw [ht]; exact hP9, hD9⟩, hS.F ht⟩) hS.2.2 dX4_addToSums_59
  · have hlt6 : x.toInt < (15625 : Int32).toInt := by ((try simp only [inR, inS, i3_lt, i3_le, i3_eq, i6_lt, i6_le, Int32.toInt_toInt64, lg_cmp_lt, lg_cmp_gt, lg_cmp_ge, lg_cmp_le, Int32.reduceToInt, Int64.reduceToInt] at c8 ⊢); omega)
    refine lv_aload_n hx hb dX4_addToSums_15 rfl (lv_at hl 2 rfl) ?_
    refine lv_iload_n hx hb dX4_addToSums_16 rfl (lv_at hl 0 rfl) ?_
    refine ca_iR (va_runV (As := [.int x]) (rest := []) ⟨hx, hb, hml, hown, hts⟩ (c_known l G H.size t ta tq qd1_4 se1_5 go ki nn fs1_6 fq1_7 x) (cwV 1 hts gX4_addToSums_X7_known rfl rfl rfl (by decide +kernel) ⟨by decide +kernel, by decide +kernel⟩) (pre_V E hP hD hS hA [2, 3, 4] (by decide) rfl 2 3 rfl rfl) rfl rfl hl.1 rfl (lv_room (Nat.le_of_ble_eq_true rfl)) dX4_addToSums_17 ⟨by decide +kernel, by decide +kernel⟩) hS hP hD hA [2, 3, 4] rfl (fun r10 _ H locs w9 hP hS => ?_)
    refine lv_istore_n (lv' := [(3, .int r10), (2, .int x), (0, .ref sr), (1, .ref t)]) hx hb dX4_addToSums_20 rfl hl (by decide) rfl (fun ls hl => ?_)
    refine lv_aload_n hx hb dX4_addToSums_21 rfl (lv_at hl 2 rfl) ?_
    refine va_get (D := G.1) (ci := 2) (v := .ref ru) (C := RX4) (T := TX4) (N := 3) hx hb hts (fun _ h => List.mem_cons_of_mem _ (List.mem_append_left _ (List.mem_append_right _ h))) hown E.K hP 0 rfl rfl 1 (by decide) (hts (.fieldLink RX4 19 "LastMap$Search" "sums" "[I") (by decide +kernel)) (fun _ h9 => h9) rfl dX4_addToSums_22 ?_
    refine lv_iload_n hx hb dX4_addToSums_25 rfl (lv_at hl 1 rfl) ?_
    refine lv_iload_n hx hb dX4_addToSums_26 rfl (lv_at hl 0 rfl) ?_
    refine lv_if_lt (tgt := 39) hx hb dX4_addToSums_27 (by decide) (fun c11 => ?_) (fun c11 => ?_)
    · refine lv_bipush (v := (-6)) hx hb dX4_addToSums_39 (by decide) ?_
      refine lv_goto (tgt := 52) hx hb dX4_addToSums_41 (by decide) ?_
      refine va_iast hx hb E.K hP hD hS 1 1 rfl rfl (i := x) (vp_in_iff.mpr ⟨hx0, by have q := hlt6; simp only [Int32.reduceToInt] at q; omega⟩) dX4_addToSums_52 (fun H locs hP hD hS => ?_)
      obtain ⟨f12, ef12⟩ : ∃ yy_ : Nat → Int32, yy_ = upd gx x.toNatClampNeg (-6) := ⟨_, rfl⟩
      have hP : va_P G.1 vwCl [(sr, .inr (2, [.ref rt, .ref ru, .int ol])), (ru, .inl (gI G, 15625, .inl f12)), (t, .inr (3, [.ref ta, .ref tq, .int qd1_4, .int se1_5, .int go, .int ki, .int nn])), (ta, .inl (gB G, 15625, .inl fs1_6)), (tq, .inl (gI G, 15625, .inl fq1_7))] H := by rw [ef12]; exact hP
      have hD : va_D A [(sr, .inr (2, [.ref rt, .ref ru, .int ol])), (ru, .inl (gI G, 15625, .inl f12)), (t, .inr (3, [.ref ta, .ref tq, .int qd1_4, .int se1_5, .int go, .int ki, .int nn])), (ta, .inl (gB G, 15625, .inl fs1_6)), (tq, .inl (gI G, 15625, .inl fq1_7))] := by rw [ef12]; exact hD
      obtain ⟨x13, ex13⟩ : ∃ yy_ : Int32, yy_ = x + 1 := ⟨_, rfl⟩
      refine lv_iinc (v := x13) (lv' := [(2, .int x13), (3, .int r10), (0, .ref sr), (1, .ref t)]) hx hb dX4_addToSums_53 hl (k := 1) rfl (by rw [ex13]; rfl) (by decide) rfl (fun ls hl => ?_)
      refine lv_goto (tgt := 6) hx hb dX4_addToSums_56 (by decide) ?_
      have hinc6 := inc_lt hlt6 ex13
      refine ih6 (x13, f12) ?_ (by first | omega | (dsimp only; omega)) H locs ls (hP.sub [0, 1, 2, 3, 4] rfl) (hD.sub [0, 1, 2, 3, 4] (by decide) rfl) hS (lv_sub hl [0, 2, 3] rfl)
      try dsimp only
      omega
    · refine lv_aload_n hx hb dX4_addToSums_30 rfl (lv_at hl 2 rfl) ?_
      refine va_get (D := G.1) (ci := 2) (v := .ref ru) (C := RX4) (T := TX4) (N := 3) hx hb hts (fun _ h => List.mem_cons_of_mem _ (List.mem_append_left _ (List.mem_append_right _ h))) hown E.K hP 0 rfl rfl 1 (by decide) (hts (.fieldLink RX4 19 "LastMap$Search" "sums" "[I") (by decide +kernel)) (fun _ h9 => h9) rfl dX4_addToSums_31 ?_
      refine lv_iload_n hx hb dX4_addToSums_34 rfl (lv_at hl 1 rfl) ?_
      refine va_iald hx hb E.K hP 1 1 rfl rfl (i := x) (vp_in_iff.mpr ⟨hx0, by have q := hlt6; simp only [Int32.reduceToInt] at q; omega⟩) dX4_addToSums_35 ?_
      refine lv_topi (fun x14 ex14 => ?_)
      refine lv_if_ge (tgt := 44) hx hb dX4_addToSums_36 (by decide) (fun c15 => ?_) (fun c15 => ?_)
      · refine lv_aload_n hx hb dX4_addToSums_44 rfl (lv_at hl 2 rfl) ?_
        refine va_get (D := G.1) (ci := 2) (v := .ref ru) (C := RX4) (T := TX4) (N := 3) hx hb hts (fun _ h => List.mem_cons_of_mem _ (List.mem_append_left _ (List.mem_append_right _ h))) hown E.K hP 0 rfl rfl 1 (by decide) (hts (.fieldLink RX4 19 "LastMap$Search" "sums" "[I") (by decide +kernel)) (fun _ h9 => h9) rfl dX4_addToSums_45 ?_
        refine lv_iload_n hx hb dX4_addToSums_48 rfl (lv_at hl 1 rfl) ?_
        refine va_iald hx hb E.K hP 1 1 rfl rfl (i := x) (vp_in_iff.mpr ⟨hx0, by have q := hlt6; simp only [Int32.reduceToInt] at q; omega⟩) dX4_addToSums_49 ?_
        refine lv_topi (fun x16 ex16 => ?_)
        refine lv_iload_n hx hb dX4_addToSums_50 rfl (lv_at hl 0 rfl) ?_
        refine lv_iadd hx hb dX4_addToSums_51 ?_
        refine lv_topi (fun x17 ex17 => ?_)
        refine va_iast hx hb E.K hP hD hS 1 1 rfl rfl (i := x) (vp_in_iff.mpr ⟨hx0, by have q := hlt6; simp only [Int32.reduceToInt] at q; omega⟩) dX4_addToSums_52 (fun H locs hP hD hS => ?_)
        obtain ⟨f18, ef18⟩ : ∃ yy_ : Nat → Int32, yy_ = upd gx x.toNatClampNeg x17 := ⟨_, rfl⟩
        have hP : va_P G.1 vwCl [(sr, .inr (2, [.ref rt, .ref ru, .int ol])), (ru, .inl (gI G, 15625, .inl f18)), (t, .inr (3, [.ref ta, .ref tq, .int qd1_4, .int se1_5, .int go, .int ki, .int nn])), (ta, .inl (gB G, 15625, .inl fs1_6)), (tq, .inl (gI G, 15625, .inl fq1_7))] H := by rw [ef18]; exact hP
        have hD : va_D A [(sr, .inr (2, [.ref rt, .ref ru, .int ol])), (ru, .inl (gI G, 15625, .inl f18)), (t, .inr (3, [.ref ta, .ref tq, .int qd1_4, .int se1_5, .int go, .int ki, .int nn])), (ta, .inl (gB G, 15625, .inl fs1_6)), (tq, .inl (gI G, 15625, .inl fq1_7))] := by rw [ef18]; exact hD
        obtain ⟨x19, ex19⟩ : ∃ yy_ : Int32, yy_ = x + 1 := ⟨_, rfl⟩
        refine lv_iinc (v := x19) (lv' := [(2, .int x19), (3, .int r10), (0, .ref sr), (1, .ref t)]) hx hb dX4_addToSums_53 hl (k := 1) rfl (by rw [ex19]; rfl) (by decide) rfl (fun ls hl => ?_)
        refine lv_goto (tgt := 6) hx hb dX4_addToSums_56 (by decide) ?_
        have hinc6 := inc_lt hlt6 ex19
        refine ih6 (x19, f18) ?_ (by first | omega | (dsimp only; omega)) H locs ls (hP.sub [0, 1, 2, 3, 4] rfl) (hD.sub [0, 1, 2, 3, 4] (by decide) rfl) hS (lv_sub hl [0, 2, 3] rfl)
        try dsimp only
        omega
      · refine lv_bipush (v := (-6)) hx hb dX4_addToSums_39 (by decide) ?_
        refine lv_goto (tgt := 52) hx hb dX4_addToSums_41 (by decide) ?_
        refine va_iast hx hb E.K hP hD hS 1 1 rfl rfl (i := x) (vp_in_iff.mpr ⟨hx0, by have q := hlt6; simp only [Int32.reduceToInt] at q; omega⟩) dX4_addToSums_52 (fun H locs hP hD hS => ?_)
        obtain ⟨f20, ef20⟩ : ∃ yy_ : Nat → Int32, yy_ = upd gx x.toNatClampNeg (-6) := ⟨_, rfl⟩
        have hP : va_P G.1 vwCl [(sr, .inr (2, [.ref rt, .ref ru, .int ol])), (ru, .inl (gI G, 15625, .inl f20)), (t, .inr (3, [.ref ta, .ref tq, .int qd1_4, .int se1_5, .int go, .int ki, .int nn])), (ta, .inl (gB G, 15625, .inl fs1_6)), (tq, .inl (gI G, 15625, .inl fq1_7))] H := by rw [ef20]; exact hP
        have hD : va_D A [(sr, .inr (2, [.ref rt, .ref ru, .int ol])), (ru, .inl (gI G, 15625, .inl f20)), (t, .inr (3, [.ref ta, .ref tq, .int qd1_4, .int se1_5, .int go, .int ki, .int nn])), (ta, .inl (gB G, 15625, .inl fs1_6)), (tq, .inl (gI G, 15625, .inl fq1_7))] := by rw [ef20]; exact hD
        obtain ⟨x21, ex21⟩ : ∃ yy_ : Int32, yy_ = x + 1 := ⟨_, rfl⟩
        refine lv_iinc (v := x21) (lv' := [(2, .int x21), (3, .int r10), (0, .ref sr), (1, .ref t)]) hx hb dX4_addToSums_53 hl (k := 1) rfl (by rw [ex21]; rfl) (by decide) rfl (fun ls hl => ?_)
        refine lv_goto (tgt := 6) hx hb dX4_addToSums_56 (by decide) ?_
        have hinc6 := inc_lt hlt6 ex21
        refine ih6 (x21, f20) ?_ (by first | omega | (dsimp only; omega)) H locs ls (hP.sub [0, 1, 2, 3, 4] rfl) (hD.sub [0, 1, 2, 3, 4] (by decide) rfl) hS (lv_sub hl [0, 2, 3] rfl)
        try dsimp only
        omega
