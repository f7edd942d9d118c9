set_option maxHeartbeats 1000000 in
set_option maxRecDepth 100000 in
theorem c_onlyMap (l : Launch) (G : Gy) (sz : Nat) (p0 : Int32) (p1 : Int32)  : Ci l G yX0_onlyMap wsX0_onlyMap ({ frames := 2, cells := 0, slots := 0, locals := 42 }) [.int p0, .int p1] [] sz (fun (r : Int32) (_ : Unit) => True) (fun (_ : Unit) => []) 0 0 := by
  refine Met.ofW (cc := cX0_onlyMap) (maxL := 4) (ret := (some .int)) (by decide) rfl ?_
  intro p e s m args below meth c s₁ B hml hv
  obtain ⟨rfl, hsz, hP, hD0, E0⟩ := hv
  have hx := B.exec
  have hb := B.bytes
  have hr := B.returns
  have hts := atoms_spec (ws := wsX0_onlyMap) B.pre
  have hown : s.vm.findClass RX0 = some m.cls := findClass_of_methodNamed B.named
  have hlocks := B.notSynchronized
  subst hsz
  have hD := hD0.self (sz := s.heap.size)
  generalize hAe : va_A [] s.heap.size = A at hD E0 ⊢
  have E : EV G A s s.heap := E0
  have hA : ∀ q : Nat, s.heap.size ≤ q → A q := fun q h => by rw [← hAe]; exact Or.inr h
  have hS : va_S A s.heap s.heap [] := va_S.rf
  have hl := lv_entry ([.int p0, .int p1]) (n := 4) (Nat.le_of_ble_eq_true rfl)
  rw [lg_entry_eq]
  generalize (lg_sl ([.int p0, .int p1]) ++ List.replicate (4 - (lg_sl ([.int p0, .int p1])).length) Slot.unset).toArray = ls at hl ⊢
  have hl : lv_has ls 4 [(0, .int p0), (1, .int p1)] := hl
  have hP : va_P G.1 vwCl [] s.heap := hP
  refine lv_iconst (v := 0) hx hb dX0_onlyMap_0 (by decide) ?_
  refine lv_istore_n (lv' := [(2, .int 0), (0, .int p0), (1, .int p1)]) hx hb dX0_onlyMap_1 rfl hl (by decide) rfl (fun ls hl => ?_)
  refine lv_iconst (v := 0) hx hb dX0_onlyMap_2 (by decide) ?_
  refine lv_istore_n (lv' := [(3, .int 0), (2, .int 0), (0, .int p0), (1, .int p1)]) hx hb dX0_onlyMap_3 rfl hl (by decide) rfl (fun ls hl => ?_)
  refine lp_run (x0 := (0, 0)) (fun xx_ : Int32 × Int32 => match xx_ with | (x, g) => []) (fun xx_ : Int32 × Int32 => match xx_ with | (x, g) => [(3, .int x), (2, .int g), (0, .int p0), (1, .int p1)]) (fun xx_ : Int32 × Int32 => match xx_ with | (x, g) => (0 ≤ x.toInt)) (fun xx_ : Int32 × Int32 => match xx_ with | (x, g) => (p1.toInt - x.toInt).toNat) (hP.sub [] rfl) (hD.sub [] (by decide) rfl) hS (lv_sub hl [0, 1, 2, 3] rfl) (show (0 : Int) ≤ (0 : Int32).toInt by first | decide | omega | assumption) ?_
  intro xx_ hI ih4 H locs ls hP hD hS hl
  obtain ⟨x, g⟩ := xx_
  dsimp only at hI ih4 hP hD hl
  have hx0 := hI
  have hl : lv_has ls 4 [(3, .int x), (2, .int g), (0, .int p0), (1, .int p1)] := hl
  have hP : va_P G.1 vwCl [] H := hP
  have hD : va_D A [] := hD
  refine lv_iload_n hx hb dX0_onlyMap_4 rfl (lv_at hl 0 rfl) ?_
  refine lv_iload_n hx hb dX0_onlyMap_5 rfl (lv_at hl 3 rfl) ?_
  refine lv_icmp_ge (tgt := 26) hx hb dX0_onlyMap_6 (by decide) (fun c1 => ?_) (fun c1 => ?_)
  · refine lv_iload_n hx hb dX0_onlyMap_26 rfl (lv_at hl 1 rfl) ?_
    have hP9 := hP.sub (ws' := []) [] rfl
    have hD9 := hD.sub (ws' := []) [] (by decide) rfl
    exact W.iret (v := g) hx hb hr (fun t ht hW => ⟨⟨g, (), rfl, trivial, by rw [ht]; exact hP9, hD9⟩, hS.F ht⟩) hS.2.2 dX0_onlyMap_27
  · have hlt4 : x.toInt < p1.toInt := by ((try simp only [inR, inS, i3_lt, i3_le, i3_eq, i6_lt, i6_le, Int32.toInt_toInt64, lg_cmp_lt, lg_cmp_gt, lg_cmp_ge, lg_cmp_le, Int32.reduceToInt, Int64.reduceToInt] at c1 ⊢); omega)
    refine lv_iload_n hx hb dX0_onlyMap_9 rfl (lv_at hl 1 rfl) ?_
    refine lv_iload_n hx hb dX0_onlyMap_10 rfl (lv_at hl 0 rfl) ?_
    refine lv_iload_n hx hb dX0_onlyMap_11 rfl (lv_at hl 2 rfl) ?_
    refine lv_iload_n hx hb dX0_onlyMap_12 rfl (lv_at hl 0 rfl) ?_
    refine ca_iR (va_runS (As := [.int p0, .int x]) (rest := [.int x, .int g]) ⟨hx, hb, hml, hown, hts⟩ (c_signAt l G H.size p0 x) (va_cwS 2 hts gX0_onlyMap_X1_signAt rfl rfl rfl (by decide +kernel) ⟨by decide +kernel, by decide +kernel⟩) (pre_S E hP hD hS hA [] (by decide) rfl) rfl rfl hl.1 rfl (lv_room (Nat.le_of_ble_eq_true rfl)) dX0_onlyMap_13 ⟨by decide +kernel, by decide +kernel⟩) hS hP hD hA [] rfl (fun r3 _ H locs w2 hP hS => ?_)
    refine ca_iR (va_runS (As := [.int g, .int x, .int r3]) (rest := []) ⟨hx, hb, hml, hown, hts⟩ (c_goalWith l G H.size g x r3) (va_cwS 3 hts gX0_onlyMap_X0_with rfl rfl rfl (by decide +kernel) ⟨by decide +kernel, by decide +kernel⟩) (pre_S E hP hD hS hA [] (by decide) rfl) rfl rfl hl.1 rfl (lv_room (Nat.le_of_ble_eq_true rfl)) dX0_onlyMap_16 ⟨by decide +kernel, by decide +kernel⟩) hS hP hD hA [] rfl (fun r5 _ H locs w4 hP hS => ?_)
    refine lv_istore_n (lv' := [(2, .int r5), (3, .int x), (0, .int p0), (1, .int p1)]) hx hb dX0_onlyMap_19 rfl hl (by decide) rfl (fun ls hl => ?_)
    obtain ⟨x6, ex6⟩ : ∃ yy_ : Int32, yy_ = x + 1 := ⟨_, rfl⟩
    refine lv_iinc (v := x6) (lv' := [(3, .int x6), (2, .int r5), (0, .int p0), (1, .int p1)]) hx hb dX0_onlyMap_20 hl (k := 1) rfl (by rw [ex6]; rfl) (by decide) rfl (fun ls hl => ?_)
    refine lv_goto (tgt := 4) hx hb dX0_onlyMap_23 (by decide) ?_
    have hinc4 := inc_lt hlt4 ex6
    refine ih4 (x6, r5) ?_ (by first | omega | (dsimp only; omega)) H locs ls (hP.sub [] rfl) (hD.sub [] (by decide) rfl) hS (lv_sub hl [0, 1, 2, 3] rfl)
    try dsimp only
    omega

set_option maxHeartbeats 1000000 in
set_option maxRecDepth 100000 in
theorem c_unlike (l : Launch) (G : Gy) (sz : Nat) (p0 : Int32) (p1 : Int32)  : Ci l G yX1_unlike wsX1_unlike ({ frames := 2, cells := 0, slots := 0, locals := 42 }) [.int p0, .int p1] [] sz (fun (r : Int32) (_ : Unit) => True) (fun (_ : Unit) => []) 0 0 := by
  refine Met.ofW (cc := cX1_unlike) (maxL := 4) (ret := (some .int)) (by decide) rfl ?_
  intro p e s m args below meth c s₁ B hml hv
  obtain ⟨rfl, hsz, hP, hD0, E0⟩ := hv
  have hx := B.exec
  have hb := B.bytes
  have hr := B.returns
  have hts := atoms_spec (ws := wsX1_unlike) B.pre
  have hown : s.vm.findClass RX1 = some m.cls := findClass_of_methodNamed B.named
  have hlocks := B.notSynchronized
  subst hsz
  have hD := hD0.self (sz := s.heap.size)
  generalize hAe : va_A [] s.heap.size = A at hD E0 ⊢
  have E : EV G A s s.heap := E0
  have hA : ∀ q : Nat, s.heap.size ≤ q → A q := fun q h => by rw [← hAe]; exact Or.inr h
  have hS : va_S A s.heap s.heap [] := va_S.rf
  have hl := lv_entry ([.int p0, .int p1]) (n := 4) (Nat.le_of_ble_eq_true rfl)
  rw [lg_entry_eq]
  generalize (lg_sl ([.int p0, .int p1]) ++ List.replicate (4 - (lg_sl ([.int p0, .int p1])).length) Slot.unset).toArray = ls at hl ⊢
  have hl : lv_has ls 4 [(0, .int p0), (1, .int p1)] := hl
  have hP : va_P G.1 vwCl [] s.heap := hP
  refine lv_iconst (v := 0) hx hb dX1_unlike_0 (by decide) ?_
  refine lv_istore_n (lv' := [(2, .int 0), (0, .int p0), (1, .int p1)]) hx hb dX1_unlike_1 rfl hl (by decide) rfl (fun ls hl => ?_)
  refine lv_iconst (v := 0) hx hb dX1_unlike_2 (by decide) ?_
  refine lv_istore_n (lv' := [(3, .int 0), (2, .int 0), (0, .int p0), (1, .int p1)]) hx hb dX1_unlike_3 rfl hl (by decide) rfl (fun ls hl => ?_)
  refine lp_run (x0 := (0, 0)) (fun xx_ : Int32 × Int32 => match xx_ with | (x, y) => []) (fun xx_ : Int32 × Int32 => match xx_ with | (x, y) => [(3, .int x), (2, .int y), (0, .int p0), (1, .int p1)]) (fun xx_ : Int32 × Int32 => match xx_ with | (x, y) => (0 ≤ x.toInt)) (fun xx_ : Int32 × Int32 => match xx_ with | (x, y) => ((6 : Int32).toInt - x.toInt).toNat) (hP.sub [] rfl) (hD.sub [] (by decide) rfl) hS (lv_sub hl [0, 1, 2, 3] rfl) (show (0 : Int) ≤ (0 : Int32).toInt by first | decide | omega | assumption) ?_
  intro xx_ hI ih4 H locs ls hP hD hS hl
  obtain ⟨x, y⟩ := xx_
  dsimp only at hI ih4 hP hD hl
  have hx0 := hI
  have hl : lv_has ls 4 [(3, .int x), (2, .int y), (0, .int p0), (1, .int p1)] := hl
  have hP : va_P G.1 vwCl [] H := hP
  have hD : va_D A [] := hD
  refine lv_iload_n hx hb dX1_unlike_4 rfl (lv_at hl 0 rfl) ?_
  refine lv_bipush (v := 6) hx hb dX1_unlike_5 (by decide) ?_
  refine lv_icmp_ge (tgt := 32) hx hb dX1_unlike_7 (by decide) (fun c1 => ?_) (fun c1 => ?_)
  · refine lv_iload_n hx hb dX1_unlike_32 rfl (lv_at hl 1 rfl) ?_
    have hP9 := hP.sub (ws' := []) [] rfl
    have hD9 := hD.sub (ws' := []) [] (by decide) rfl
    exact W.iret (v := y) hx hb hr (fun t ht hW => ⟨⟨y, (), rfl, trivial, by rw [ht]; exact hP9, hD9⟩, hS.F ht⟩) hS.2.2 dX1_unlike_33
  · have hlt4 : x.toInt < (6 : Int32).toInt := by ((try simp only [inR, inS, i3_lt, i3_le, i3_eq, i6_lt, i6_le, Int32.toInt_toInt64, lg_cmp_lt, lg_cmp_gt, lg_cmp_ge, lg_cmp_le, Int32.reduceToInt, Int64.reduceToInt] at c1 ⊢); omega)
    refine lv_iload_n hx hb dX1_unlike_10 rfl (lv_at hl 2 rfl) ?_
    refine lv_iload_n hx hb dX1_unlike_11 rfl (lv_at hl 0 rfl) ?_
    refine ca_iR (va_runS (As := [.int p0, .int x]) (rest := []) ⟨hx, hb, hml, hown, hts⟩ (c_signAt l G H.size p0 x) (va_cwS 2 hts gX1_unlike_X1_signAt rfl rfl rfl (by decide +kernel) ⟨by decide +kernel, by decide +kernel⟩) (pre_S E hP hD hS hA [] (by decide) rfl) rfl rfl hl.1 rfl (lv_room (Nat.le_of_ble_eq_true rfl)) dX1_unlike_12 ⟨by decide +kernel, by decide +kernel⟩) hS hP hD hA [] rfl (fun r3 _ H locs w2 hP hS => ?_)
    refine lv_iload_n hx hb dX1_unlike_15 rfl (lv_at hl 3 rfl) ?_
    refine lv_iload_n hx hb dX1_unlike_16 rfl (lv_at hl 0 rfl) ?_
    refine ca_iR (va_runS (As := [.int p1, .int x]) (rest := [.int r3]) ⟨hx, hb, hml, hown, hts⟩ (c_signAt l G H.size p1 x) (va_cwS 2 hts gX1_unlike_X1_signAt rfl rfl rfl (by decide +kernel) ⟨by decide +kernel, by decide +kernel⟩) (pre_S E hP hD hS hA [] (by decide) rfl) rfl rfl hl.1 rfl (lv_room (Nat.le_of_ble_eq_true rfl)) dX1_unlike_17 ⟨by decide +kernel, by decide +kernel⟩) hS hP hD hA [] rfl (fun r5 _ H locs w4 hP hS => ?_)
    refine lv_icmp_eq (tgt := 26) hx hb dX1_unlike_20 (by decide) (fun c6 => ?_) (fun c6 => ?_)
    · obtain ⟨x7, ex7⟩ : ∃ yy_ : Int32, yy_ = x + 1 := ⟨_, rfl⟩
      refine lv_iinc (v := x7) (lv' := [(3, .int x7), (2, .int y), (0, .int p0), (1, .int p1)]) hx hb dX1_unlike_26 hl (k := 0) rfl (by rw [ex7]; rfl) (by decide) rfl (fun ls hl => ?_)
      refine lv_goto (tgt := 4) hx hb dX1_unlike_29 (by decide) ?_
      have hinc4 := inc_lt hlt4 ex7
      refine ih4 (x7, y) ?_ (by first | omega | (dsimp only; omega)) H locs ls (hP.sub [] rfl) (hD.sub [] (by decide) rfl) hS (lv_sub hl [0, 1, 2, 3] rfl)
      try dsimp only
      omega
    · obtain ⟨x8, ex8⟩ : ∃ yy_ : Int32, yy_ = y + 1 := ⟨_, rfl⟩
      refine lv_iinc (v := x8) (lv' := [(2, .int x8), (3, .int x), (0, .int p0), (1, .int p1)]) hx hb dX1_unlike_23 hl (k := 1) rfl (by rw [ex8]; rfl) (by decide) rfl (fun ls hl => ?_)
      obtain ⟨x9, ex9⟩ : ∃ yy_ : Int32, yy_ = x + 1 := ⟨_, rfl⟩
      refine lv_iinc (v := x9) (lv' := [(3, .int x9), (2, .int x8), (0, .int p0), (1, .int p1)]) hx hb dX1_unlike_26 hl (k := 1) rfl (by rw [ex9]; rfl) (by decide) rfl (fun ls hl => ?_)
      refine lv_goto (tgt := 4) hx hb dX1_unlike_29 (by decide) ?_
      have hinc4 := inc_lt hlt4 ex9
      refine ih4 (x9, x8) ?_ (by first | omega | (dsimp only; omega)) H locs ls (hP.sub [] rfl) (hD.sub [] (by decide) rfl) hS (lv_sub hl [0, 1, 2, 3] rfl)
      try dsimp only
      omega

set_option maxHeartbeats 1000000 in
set_option maxRecDepth 100000 in
theorem c_fwSlip (l : Launch) (G : Gy) (sz : Nat) (pad : Nat) (sg : Nat) (sl : Nat) (len : Int32) (fsg : Nat → Int32) (fsl : Nat → Int32) (p0 : Int32) (p1 : Int32)  : Ci l G yX2_firstWrongOfSlip wsX2_firstWrongOfSlip ({ frames := 2, cells := 0, slots := 0, locals := 42 }) [.ref pad, .int p0, .int p1] [(pad, .inr (0, [.ref sg, .ref sl, .int len])), (sg, .inl (gI G, 40, .inl fsg)), (sl, .inl (gI G, 10, .inl fsl))] sz (fun (r : Int32) (_ : Unit) => True) (fun (_ : Unit) => [(pad, .inr (0, [.ref sg, .ref sl, .int len])), (sg, .inl (gI G, 40, .inl fsg)), (sl, .inl (gI G, 10, .inl fsl))]) 0 0 := by
  refine Met.ofW (cc := cX2_firstWrongOfSlip) (maxL := 6) (ret := (some .int)) (by decide) rfl ?_
  intro p e s m args below meth c s₁ B hml hv
  obtain ⟨rfl, hsz, hP, hD0, E0⟩ := hv
  have hx := B.exec
  have hb := B.bytes
  have hr := B.returns
  have hts := atoms_spec (ws := wsX2_firstWrongOfSlip) B.pre
  have hown : s.vm.findClass RX2 = some m.cls := findClass_of_methodNamed B.named
  have hlocks := B.notSynchronized
  subst hsz
  have hD := hD0.self (sz := s.heap.size)
  generalize hAe : va_A [(pad, .inr (0, [.ref sg, .ref sl, .int len])), (sg, .inl (gI G, 40, .inl fsg)), (sl, .inl (gI G, 10, .inl fsl))] s.heap.size = A at hD E0 ⊢
  have E : EV G A s s.heap := E0
  have hA : ∀ q : Nat, s.heap.size ≤ q → A q := fun q h => by rw [← hAe]; exact Or.inr h
  have hS : va_S A s.heap s.heap [] := va_S.rf
  have hl := lv_entry ([.ref pad, .int p0, .int p1]) (n := 6) (Nat.le_of_ble_eq_true rfl)
  rw [lg_entry_eq]
  generalize (lg_sl ([.ref pad, .int p0, .int p1]) ++ List.replicate (6 - (lg_sl ([.ref pad, .int p0, .int p1])).length) Slot.unset).toArray = ls at hl ⊢
  have hl : lv_has ls 6 [(0, .ref pad), (1, .int p0), (2, .int p1)] := hl
  have hP : va_P G.1 vwCl [(pad, .inr (0, [.ref sg, .ref sl, .int len])), (sg, .inl (gI G, 40, .inl fsg)), (sl, .inl (gI G, 10, .inl fsl))] s.heap := hP
  refine lv_aload_n hx hb dX2_firstWrongOfSlip_0 rfl (lv_at hl 0 rfl) ?_
  refine lv_iload_n hx hb dX2_firstWrongOfSlip_1 rfl (lv_at hl 1 rfl) ?_
  refine ca_iR (va_runV (As := [.int p0]) (rest := []) ⟨hx, hb, hml, hown, hts⟩ (c_kindAt l G s.heap.size pad sg sl len fsg fsl p0) (cwV 1 hts gX2_firstWrongOfSlip_X2_kindAt rfl rfl rfl (by decide +kernel) ⟨by decide +kernel, by decide +kernel⟩) (pre_V E hP hD hS hA [0, 1, 2] (by decide) rfl 0 0 rfl rfl) rfl rfl hl.1 rfl (lv_room (Nat.le_of_ble_eq_true rfl)) dX2_firstWrongOfSlip_2 ⟨by decide +kernel, by decide +kernel⟩) hS hP hD hA [0, 1, 2] rfl (fun r2 _ H locs w1 hP hS => ?_)
  refine lv_istore_n (lv' := [(3, .int r2), (0, .ref pad), (1, .int p0), (2, .int p1)]) hx hb dX2_firstWrongOfSlip_5 rfl hl (by decide) rfl (fun ls hl => ?_)
  refine lv_iload_n hx hb dX2_firstWrongOfSlip_6 rfl (lv_at hl 0 rfl) ?_
  refine lv_if_ge (tgt := 12) hx hb dX2_firstWrongOfSlip_7 (by decide) (fun c3 => ?_) (fun c3 => ?_)
  · refine lv_iload_n hx hb dX2_firstWrongOfSlip_12 rfl (lv_at hl 2 rfl) ?_
    refine lv_iconst (v := 1) hx hb dX2_firstWrongOfSlip_13 (by decide) ?_
    refine lv_iadd hx hb dX2_firstWrongOfSlip_14 ?_
    refine lv_topi (fun x4 ex4 => ?_)
    refine lv_aload_n hx hb dX2_firstWrongOfSlip_15 rfl (lv_at hl 1 rfl) ?_
    refine va_get (D := G.1) (ci := 0) (v := .int len) (C := RX2) (T := TX2) (N := 3) hx hb hts (fun _ h => List.mem_cons_of_mem _ (List.mem_append_right _ h)) hown E.K hP 0 rfl rfl 2 (by decide) (hts (.fieldLink RX2 18 "LastMap$Pad" "length" "I") (by decide +kernel)) (fun _ h9 => h9) rfl dX2_firstWrongOfSlip_16 ?_
    refine lv_icmp_lt (tgt := 27) hx hb dX2_firstWrongOfSlip_19 (by decide) (fun c5 => ?_) (fun c5 => ?_)
    · refine lv_aload_n hx hb dX2_firstWrongOfSlip_27 rfl (lv_at hl 1 rfl) ?_
      refine lv_iload_n hx hb dX2_firstWrongOfSlip_28 rfl (lv_at hl 2 rfl) ?_
      refine lv_iconst (v := 1) hx hb dX2_firstWrongOfSlip_29 (by decide) ?_
      refine lv_iadd hx hb dX2_firstWrongOfSlip_30 ?_
      refine lv_topi (fun x6 ex6 => ?_)
      refine ca_iR (va_runV (As := [.int x6]) (rest := []) ⟨hx, hb, hml, hown, hts⟩ (c_padSign l G H.size pad sg sl len fsg fsl x6) (cwV 1 hts gX2_firstWrongOfSlip_X2_signAt rfl rfl rfl (by decide +kernel) ⟨by decide +kernel, by decide +kernel⟩) (pre_V E hP hD hS hA [0, 1, 2] (by decide) rfl 0 0 rfl rfl) rfl rfl hl.1 rfl (lv_room (Nat.le_of_ble_eq_true rfl)) dX2_firstWrongOfSlip_31 ⟨by decide +kernel, by decide +kernel⟩) hS hP hD hA [0, 1, 2] rfl (fun r8 _ H locs w7 hP hS => ?_)
      refine lv_bipush (v := 48) hx hb dX2_firstWrongOfSlip_34 (by decide) ?_
      refine lv_isub hx hb dX2_firstWrongOfSlip_36 ?_
      refine lv_topi (fun x9 ex9 => ?_)
      refine lv_istore (lv' := [(4, .int x9), (3, .int r2), (0, .ref pad), (1, .int p0), (2, .int p1)]) hx hb dX2_firstWrongOfSlip_37 hl (by decide) rfl (fun ls hl => ?_)
      refine lv_iload hx hb dX2_firstWrongOfSlip_39 (lv_at hl 0 rfl) ?_
      refine lv_if_lt (tgt := 54) hx hb dX2_firstWrongOfSlip_41 (by decide) (fun c10 => ?_) (fun c10 => ?_)
      · refine lv_iload_n hx hb dX2_firstWrongOfSlip_54 rfl (lv_at hl 3 rfl) ?_
        refine lv_iconst (v := 1) hx hb dX2_firstWrongOfSlip_55 (by decide) ?_
        refine lv_iadd hx hb dX2_firstWrongOfSlip_56 ?_
        refine lv_topi (fun x11 ex11 => ?_)
        have hP9 := hP.sub (ws' := [(pad, .inr (0, [.ref sg, .ref sl, .int len])), (sg, .inl (gI G, 40, .inl fsg)), (sl, .inl (gI G, 10, .inl fsl))]) [0, 1, 2] rfl
        have hD9 := hD.sub (ws' := [(pad, .inr (0, [.ref sg, .ref sl, .int len])), (sg, .inl (gI G, 40, .inl fsg)), (sl, .inl (gI G, 10, .inl fsl))]) [0, 1, 2] (by decide) rfl
        exact W.iret (v := x11) hx hb hr (fun t ht hW => ⟨⟨x11, (), rfl, trivial, by rw [ht]; exact hP9, hD9⟩, hS.F ht⟩) hS.2.2 dX2_firstWrongOfSlip_57
      · refine lv_iload hx hb dX2_firstWrongOfSlip_44 (lv_at hl 0 rfl) ?_
        refine lv_iload_n hx hb dX2_firstWrongOfSlip_46 rfl (lv_at hl 1 rfl) ?_
        refine lv_iload_n hx hb dX2_firstWrongOfSlip_47 rfl (lv_at hl 4 rfl) ?_
        refine ca_iR (va_runS (As := [.int r2, .int p1]) (rest := [.int x9]) ⟨hx, hb, hml, hown, hts⟩ (c_sitesFor l G H.size r2 p1) (va_cwS 2 hts gX2_firstWrongOfSlip_X6_sitesFor rfl rfl rfl (by decide +kernel) ⟨by decide +kernel, by decide +kernel⟩) (pre_S E hP hD hS hA [] (by decide) rfl) rfl rfl hl.1 rfl (lv_room (Nat.le_of_ble_eq_true rfl)) dX2_firstWrongOfSlip_48 ⟨by decide +kernel, by decide +kernel⟩) hS hP hD hA [] rfl (fun r13 _ H locs w12 hP hS => ?_)
        refine lv_icmp_lt (tgt := 58) hx hb dX2_firstWrongOfSlip_51 (by decide) (fun c14 => ?_) (fun c14 => ?_)
        · refine lv_iload_n hx hb dX2_firstWrongOfSlip_58 rfl (lv_at hl 1 rfl) ?_
          refine lv_if_eq (tgt := 65) hx hb dX2_firstWrongOfSlip_59 (by decide) (fun c15 => ?_) (fun c15 => ?_)
          · refine lv_iload_n hx hb dX2_firstWrongOfSlip_65 rfl (lv_at hl 3 rfl) ?_
            refine lv_iconst (v := 2) hx hb dX2_firstWrongOfSlip_66 (by decide) ?_
            refine lv_iadd hx hb dX2_firstWrongOfSlip_67 ?_
            refine lv_topi (fun x16 ex16 => ?_)
            refine lv_aload_n hx hb dX2_firstWrongOfSlip_68 rfl (lv_at hl 2 rfl) ?_
            refine va_get (D := G.1) (ci := 0) (v := .int len) (C := RX2) (T := TX2) (N := 3) hx hb hts (fun _ h => List.mem_cons_of_mem _ (List.mem_append_right _ h)) hown E.K hP 0 rfl rfl 2 (by decide) (hts (.fieldLink RX2 18 "LastMap$Pad" "length" "I") (by decide +kernel)) (fun _ h9 => h9) rfl dX2_firstWrongOfSlip_69 ?_
            refine lv_icmp_lt (tgt := 80) hx hb dX2_firstWrongOfSlip_72 (by decide) (fun c17 => ?_) (fun c17 => ?_)
            · refine lv_aload_n hx hb dX2_firstWrongOfSlip_80 rfl (lv_at hl 2 rfl) ?_
              refine lv_iload_n hx hb dX2_firstWrongOfSlip_81 rfl (lv_at hl 3 rfl) ?_
              refine lv_iconst (v := 2) hx hb dX2_firstWrongOfSlip_82 (by decide) ?_
              refine lv_iadd hx hb dX2_firstWrongOfSlip_83 ?_
              refine lv_topi (fun x18 ex18 => ?_)
              refine ca_iR (va_runV (As := [.int x18]) (rest := []) ⟨hx, hb, hml, hown, hts⟩ (c_padMark l G H.size pad sg sl len fsg fsl x18) (cwV 1 hts gX2_firstWrongOfSlip_X2_markAt rfl rfl rfl (by decide +kernel) ⟨by decide +kernel, by decide +kernel⟩) (pre_V E hP hD hS hA [0, 1, 2] (by decide) rfl 0 0 rfl rfl) rfl rfl hl.1 rfl (lv_room (Nat.le_of_ble_eq_true rfl)) dX2_firstWrongOfSlip_84 ⟨by decide +kernel, by decide +kernel⟩) hS hP hD hA [0, 1, 2] rfl (fun r20 _ H locs w19 hP hS => ?_)
              refine lv_istore (lv' := [(5, .int r20), (4, .int x9), (3, .int r2), (0, .ref pad), (1, .int p0), (2, .int p1)]) hx hb dX2_firstWrongOfSlip_87 hl (by decide) rfl (fun ls hl => ?_)
              refine lv_iload hx hb dX2_firstWrongOfSlip_89 (lv_at hl 0 rfl) ?_
              refine lv_if_lt (tgt := 100) hx hb dX2_firstWrongOfSlip_91 (by decide) (fun c21 => ?_) (fun c21 => ?_)
              · refine lv_iload_n hx hb dX2_firstWrongOfSlip_100 rfl (lv_at hl 4 rfl) ?_
                refine lv_iconst (v := 2) hx hb dX2_firstWrongOfSlip_101 (by decide) ?_
                refine lv_iadd hx hb dX2_firstWrongOfSlip_102 ?_
                refine lv_topi (fun x22 ex22 => ?_)
                refine lv_goto (tgt := 108) hx hb dX2_firstWrongOfSlip_103 (by decide) ?_
                have hP9 := hP.sub (ws' := [(pad, .inr (0, [.ref sg, .ref sl, .int len])), (sg, .inl (gI G, 40, .inl fsg)), (sl, .inl (gI G, 10, .inl fsl))]) [0, 1, 2] rfl
                have hD9 := hD.sub (ws' := [(pad, .inr (0, [.ref sg, .ref sl, .int len])), (sg, .inl (gI G, 40, .inl fsg)), (sl, .inl (gI G, 10, .inl fsl))]) [0, 1, 2] (by decide) rfl
                exact W.iret (v := x22) hx hb hr (fun t ht hW => ⟨⟨x22, (), rfl, trivial, by rw [ht]; exact hP9, hD9⟩, hS.F ht⟩) hS.2.2 dX2_firstWrongOfSlip_108
              · refine lv_iload hx hb dX2_firstWrongOfSlip_94 (lv_at hl 0 rfl) ?_
                refine lv_iconst (v := 4) hx hb dX2_firstWrongOfSlip_96 (by decide) ?_
                refine lv_icmp_lt (tgt := 106) hx hb dX2_firstWrongOfSlip_97 (by decide) (fun c23 => ?_) (fun c23 => ?_)
                · refine lv_bipush (v := (-6)) hx hb dX2_firstWrongOfSlip_106 (by decide) ?_
                  have hP9 := hP.sub (ws' := [(pad, .inr (0, [.ref sg, .ref sl, .int len])), (sg, .inl (gI G, 40, .inl fsg)), (sl, .inl (gI G, 10, .inl fsl))]) [0, 1, 2] rfl
                  have hD9 := hD.sub (ws' := [(pad, .inr (0, [.ref sg, .ref sl, .int len])), (sg, .inl (gI G, 40, .inl fsg)), (sl, .inl (gI G, 10, .inl fsl))]) [0, 1, 2] (by decide) rfl
                  exact W.iret (v := (-6)) hx hb hr (fun t ht hW => ⟨⟨(-6), (), rfl, trivial, by rw [ht]; exact hP9, hD9⟩, hS.F ht⟩) hS.2.2 dX2_firstWrongOfSlip_108
                · refine lv_iload_n hx hb dX2_firstWrongOfSlip_100 rfl (lv_at hl 4 rfl) ?_
                  refine lv_iconst (v := 2) hx hb dX2_firstWrongOfSlip_101 (by decide) ?_
                  refine lv_iadd hx hb dX2_firstWrongOfSlip_102 ?_
                  refine lv_topi (fun x24 ex24 => ?_)
                  refine lv_goto (tgt := 108) hx hb dX2_firstWrongOfSlip_103 (by decide) ?_
                  have hP9 := hP.sub (ws' := [(pad, .inr (0, [.ref sg, .ref sl, .int len])), (sg, .inl (gI G, 40, .inl fsg)), (sl, .inl (gI G, 10, .inl fsl))]) [0, 1, 2] rfl
                  have hD9 := hD.sub (ws' := [(pad, .inr (0, [.ref sg, .ref sl, .int len])), (sg, .inl (gI G, 40, .inl fsg)), (sl, .inl (gI G, 10, .inl fsl))]) [0, 1, 2] (by decide) rfl
                  exact W.iret (v := x24) hx hb hr (fun t ht hW => ⟨⟨x24, (), rfl, trivial, by rw [ht]; exact hP9, hD9⟩, hS.F ht⟩) hS.2.2 dX2_firstWrongOfSlip_108
            · refine lv_aload_n hx hb dX2_firstWrongOfSlip_75 rfl (lv_at hl 2 rfl) ?_
              refine va_get (D := G.1) (ci := 0) (v := .int len) (C := RX2) (T := TX2) (N := 3) hx hb hts (fun _ h => List.mem_cons_of_mem _ (List.mem_append_right _ h)) hown E.K hP 0 rfl rfl 2 (by decide) (hts (.fieldLink RX2 18 "LastMap$Pad" "length" "I") (by decide +kernel)) (fun _ h9 => h9) rfl dX2_firstWrongOfSlip_76 ?_
              have hP9 := hP.sub (ws' := [(pad, .inr (0, [.ref sg, .ref sl, .int len])), (sg, .inl (gI G, 40, .inl fsg)), (sl, .inl (gI G, 10, .inl fsl))]) [0, 1, 2] rfl
              have hD9 := hD.sub (ws' := [(pad, .inr (0, [.ref sg, .ref sl, .int len])), (sg, .inl (gI G, 40, .inl fsg)), (sl, .inl (gI G, 10, .inl fsl))]) [0, 1, 2] (by decide) rfl
              exact W.iret (v := len) hx hb hr (fun t ht hW => ⟨⟨len, (), rfl, trivial, by rw [ht]; exact hP9, hD9⟩, hS.F ht⟩) hS.2.2 dX2_firstWrongOfSlip_79
          · refine lv_bipush (v := (-6)) hx hb dX2_firstWrongOfSlip_62 (by decide) ?_
            have hP9 := hP.sub (ws' := [(pad, .inr (0, [.ref sg, .ref sl, .int len])), (sg, .inl (gI G, 40, .inl fsg)), (sl, .inl (gI G, 10, .inl fsl))]) [0, 1, 2] rfl
            have hD9 := hD.sub (ws' := [(pad, .inr (0, [.ref sg, .ref sl, .int len])), (sg, .inl (gI G, 40, .inl fsg)), (sl, .inl (gI G, 10, .inl fsl))]) [0, 1, 2] (by decide) rfl
            exact W.iret (v := (-6)) hx hb hr (fun t ht hW => ⟨⟨(-6), (), rfl, trivial, by rw [ht]; exact hP9, hD9⟩, hS.F ht⟩) hS.2.2 dX2_firstWrongOfSlip_64
        · refine lv_iload_n hx hb dX2_firstWrongOfSlip_54 rfl (lv_at hl 3 rfl) ?_
          refine lv_iconst (v := 1) hx hb dX2_firstWrongOfSlip_55 (by decide) ?_
          refine lv_iadd hx hb dX2_firstWrongOfSlip_56 ?_
          refine lv_topi (fun x25 ex25 => ?_)
          have hP9 := hP.sub (ws' := [(pad, .inr (0, [.ref sg, .ref sl, .int len])), (sg, .inl (gI G, 40, .inl fsg)), (sl, .inl (gI G, 10, .inl fsl))]) [0, 1, 2] rfl
          have hD9 := hD.sub (ws' := [(pad, .inr (0, [.ref sg, .ref sl, .int len])), (sg, .inl (gI G, 40, .inl fsg)), (sl, .inl (gI G, 10, .inl fsl))]) [0, 1, 2] (by decide) rfl
          exact W.iret (v := x25) hx hb hr (fun t ht hW => ⟨⟨x25, (), rfl, trivial, by rw [ht]; exact hP9, hD9⟩, hS.F ht⟩) hS.2.2 dX2_firstWrongOfSlip_57
    · refine lv_aload_n hx hb dX2_firstWrongOfSlip_22 rfl (lv_at hl 1 rfl) ?_
      refine va_get (D := G.1) (ci := 0) (v := .int len) (C := RX2) (T := TX2) (N := 3) hx hb hts (fun _ h => List.mem_cons_of_mem _ (List.mem_append_right _ h)) hown E.K hP 0 rfl rfl 2 (by decide) (hts (.fieldLink RX2 18 "LastMap$Pad" "length" "I") (by decide +kernel)) (fun _ h9 => h9) rfl dX2_firstWrongOfSlip_23 ?_
      have hP9 := hP.sub (ws' := [(pad, .inr (0, [.ref sg, .ref sl, .int len])), (sg, .inl (gI G, 40, .inl fsg)), (sl, .inl (gI G, 10, .inl fsl))]) [0, 1, 2] rfl
      have hD9 := hD.sub (ws' := [(pad, .inr (0, [.ref sg, .ref sl, .int len])), (sg, .inl (gI G, 40, .inl fsg)), (sl, .inl (gI G, 10, .inl fsl))]) [0, 1, 2] (by decide) rfl
      exact W.iret (v := len) hx hb hr (fun t ht hW => ⟨⟨len, (), rfl, trivial, by rw [ht]; exact hP9, hD9⟩, hS.F ht⟩) hS.2.2 dX2_firstWrongOfSlip_26
  · refine lv_iload_n hx hb dX2_firstWrongOfSlip_10 rfl (lv_at hl 2 rfl) ?_
    have hP9 := hP.sub (ws' := [(pad, .inr (0, [.ref sg, .ref sl, .int len])), (sg, .inl (gI G, 40, .inl fsg)), (sl, .inl (gI G, 10, .inl fsl))]) [0, 1, 2] rfl
    have hD9 := hD.sub (ws' := [(pad, .inr (0, [.ref sg, .ref sl, .int len])), (sg, .inl (gI G, 40, .inl fsg)), (sl, .inl (gI G, 10, .inl fsl))]) [0, 1, 2] (by decide) rfl
    exact W.iret (v := p0) hx hb hr (fun t ht hW => ⟨⟨p0, (), rfl, trivial, by rw [ht]; exact hP9, hD9⟩, hS.F ht⟩) hS.2.2 dX2_firstWrongOfSlip_11

set_option maxHeartbeats 1000000 in
set_option maxRecDepth 100000 in
theorem c_fwSlips (l : Launch) (G : Gy) (sz : Nat) (pad : Nat) (sg : Nat) (sl : Nat) (len : Int32) (fsg : Nat → Int32) (fsl : Nat → Int32) (p0 : Int32)  : Ci l G yX2_firstWrongOfSlips wsX2_firstWrongOfSlips ({ frames := 3, cells := 0, slots := 0, locals := 67 }) [.ref pad, .int p0] [(pad, .inr (0, [.ref sg, .ref sl, .int len])), (sg, .inl (gI G, 40, .inl fsg)), (sl, .inl (gI G, 10, .inl fsl))] sz (fun (r : Int32) (_ : Unit) => True) (fun (_ : Unit) => [(pad, .inr (0, [.ref sg, .ref sl, .int len])), (sg, .inl (gI G, 40, .inl fsg)), (sl, .inl (gI G, 10, .inl fsl))]) 0 0 := by
  refine Met.ofW (cc := cX2_firstWrongOfSlips) (maxL := 5) (ret := (some .int)) (by decide) rfl ?_
  intro p e s m args below meth c s₁ B hml hv
  obtain ⟨rfl, hsz, hP, hD0, E0⟩ := hv
  have hx := B.exec
  have hb := B.bytes
  have hr := B.returns
  have hts := atoms_spec (ws := wsX2_firstWrongOfSlips) B.pre
  have hown : s.vm.findClass RX2 = some m.cls := findClass_of_methodNamed B.named
  have hlocks := B.notSynchronized
  subst hsz
  have hD := hD0.self (sz := s.heap.size)
  generalize hAe : va_A [(pad, .inr (0, [.ref sg, .ref sl, .int len])), (sg, .inl (gI G, 40, .inl fsg)), (sl, .inl (gI G, 10, .inl fsl))] s.heap.size = A at hD E0 ⊢
  have E : EV G A s s.heap := E0
  have hA : ∀ q : Nat, s.heap.size ≤ q → A q := fun q h => by rw [← hAe]; exact Or.inr h
  have hS : va_S A s.heap s.heap [] := va_S.rf
  have hl := lv_entry ([.ref pad, .int p0]) (n := 5) (Nat.le_of_ble_eq_true rfl)
  rw [lg_entry_eq]
  generalize (lg_sl ([.ref pad, .int p0]) ++ List.replicate (5 - (lg_sl ([.ref pad, .int p0])).length) Slot.unset).toArray = ls at hl ⊢
  have hl : lv_has ls 5 [(0, .ref pad), (1, .int p0)] := hl
  have hP : va_P G.1 vwCl [(pad, .inr (0, [.ref sg, .ref sl, .int len])), (sg, .inl (gI G, 40, .inl fsg)), (sl, .inl (gI G, 10, .inl fsl))] s.heap := hP
  refine lv_iconst (v := 0) hx hb dX2_firstWrongOfSlips_0 (by decide) ?_
  refine lv_istore_n (lv' := [(2, .int 0), (0, .ref pad), (1, .int p0)]) hx hb dX2_firstWrongOfSlips_1 rfl hl (by decide) rfl (fun ls hl => ?_)
  refine lv_iconst (v := 0) hx hb dX2_firstWrongOfSlips_2 (by decide) ?_
  refine lv_istore_n (lv' := [(3, .int 0), (2, .int 0), (0, .ref pad), (1, .int p0)]) hx hb dX2_firstWrongOfSlips_3 rfl hl (by decide) rfl (fun ls hl => ?_)
  refine lp_run (x0 := (0, 0)) (fun xx_ : Int32 × Int32 => match xx_ with | (x, y) => [(pad, .inr (0, [.ref sg, .ref sl, .int len])), (sg, .inl (gI G, 40, .inl fsg)), (sl, .inl (gI G, 10, .inl fsl))]) (fun xx_ : Int32 × Int32 => match xx_ with | (x, y) => [(3, .int x), (2, .int y), (0, .ref pad), (1, .int p0)]) (fun xx_ : Int32 × Int32 => match xx_ with | (x, y) => (0 ≤ x.toInt)) (fun xx_ : Int32 × Int32 => match xx_ with | (x, y) => ((10 : Int32).toInt - x.toInt).toNat) (hP.sub [0, 1, 2] rfl) (hD.sub [0, 1, 2] (by decide) rfl) hS (lv_sub hl [0, 1, 2, 3] rfl) (show (0 : Int) ≤ (0 : Int32).toInt by first | decide | omega | assumption) ?_
  intro xx_ hI ih4 H locs ls hP hD hS hl
  obtain ⟨x, y⟩ := xx_
  dsimp only at hI ih4 hP hD hl
  have hx0 := hI
  have hl : lv_has ls 5 [(3, .int x), (2, .int y), (0, .ref pad), (1, .int p0)] := hl
  have hP : va_P G.1 vwCl [(pad, .inr (0, [.ref sg, .ref sl, .int len])), (sg, .inl (gI G, 40, .inl fsg)), (sl, .inl (gI G, 10, .inl fsl))] H := hP
  have hD : va_D A [(pad, .inr (0, [.ref sg, .ref sl, .int len])), (sg, .inl (gI G, 40, .inl fsg)), (sl, .inl (gI G, 10, .inl fsl))] := hD
  refine lv_iload_n hx hb dX2_firstWrongOfSlips_4 rfl (lv_at hl 0 rfl) ?_
  refine lv_bipush (v := 10) hx hb dX2_firstWrongOfSlips_5 (by decide) ?_
  refine lv_icmp_ge (tgt := 50) hx hb dX2_firstWrongOfSlips_7 (by decide) (fun c1 => ?_) (fun c1 => ?_)
  · refine lv_iload_n hx hb dX2_firstWrongOfSlips_50 rfl (lv_at hl 1 rfl) ?_
    refine lv_aload_n hx hb dX2_firstWrongOfSlips_51 rfl (lv_at hl 2 rfl) ?_
    refine va_get (D := G.1) (ci := 0) (v := .int len) (C := RX2) (T := TX2) (N := 3) hx hb hts (fun _ h => List.mem_cons_of_mem _ (List.mem_append_right _ h)) hown E.K hP 0 rfl rfl 2 (by decide) (hts (.fieldLink RX2 18 "LastMap$Pad" "length" "I") (by decide +kernel)) (fun _ h9 => h9) rfl dX2_firstWrongOfSlips_52 ?_
    refine lv_icmp_ge (tgt := 62) hx hb dX2_firstWrongOfSlips_55 (by decide) (fun c2 => ?_) (fun c2 => ?_)
    · refine lv_bipush (v := (-6)) hx hb dX2_firstWrongOfSlips_62 (by decide) ?_
      have hP9 := hP.sub (ws' := [(pad, .inr (0, [.ref sg, .ref sl, .int len])), (sg, .inl (gI G, 40, .inl fsg)), (sl, .inl (gI G, 10, .inl fsl))]) [0, 1, 2] rfl
      have hD9 := hD.sub (ws' := [(pad, .inr (0, [.ref sg, .ref sl, .int len])), (sg, .inl (gI G, 40, .inl fsg)), (sl, .inl (gI G, 10, .inl fsl))]) [0, 1, 2] (by decide) rfl
      exact W.iret (v := (-6)) hx hb hr (fun t ht hW => ⟨⟨(-6), (), rfl, trivial, by rw [ht]; exact hP9, hD9⟩, hS.F ht⟩) hS.2.2 dX2_firstWrongOfSlips_64
    · refine lv_iload_n hx hb dX2_firstWrongOfSlips_58 rfl (lv_at hl 1 rfl) ?_
      refine lv_goto (tgt := 64) hx hb dX2_firstWrongOfSlips_59 (by decide) ?_
      have hP9 := hP.sub (ws' := [(pad, .inr (0, [.ref sg, .ref sl, .int len])), (sg, .inl (gI G, 40, .inl fsg)), (sl, .inl (gI G, 10, .inl fsl))]) [0, 1, 2] rfl
      have hD9 := hD.sub (ws' := [(pad, .inr (0, [.ref sg, .ref sl, .int len])), (sg, .inl (gI G, 40, .inl fsg)), (sl, .inl (gI G, 10, .inl fsl))]) [0, 1, 2] (by decide) rfl
      exact W.iret (v := y) hx hb hr (fun t ht hW => ⟨⟨y, (), rfl, trivial, by rw [ht]; exact hP9, hD9⟩, hS.F ht⟩) hS.2.2 dX2_firstWrongOfSlips_64
  · have hlt4 : x.toInt < (10 : Int32).toInt := by ((try simp only [inR, inS, i3_lt, i3_le, i3_eq, i6_lt, i6_le, Int32.toInt_toInt64, lg_cmp_lt, lg_cmp_gt, lg_cmp_ge, lg_cmp_le, Int32.reduceToInt, Int64.reduceToInt] at c1 ⊢); omega)
    refine lv_iload_n hx hb dX2_firstWrongOfSlips_10 rfl (lv_at hl 1 rfl) ?_
    refine lv_aload_n hx hb dX2_firstWrongOfSlips_11 rfl (lv_at hl 2 rfl) ?_
    refine va_get (D := G.1) (ci := 0) (v := .int len) (C := RX2) (T := TX2) (N := 3) hx hb hts (fun _ h => List.mem_cons_of_mem _ (List.mem_append_right _ h)) hown E.K hP 0 rfl rfl 2 (by decide) (hts (.fieldLink RX2 18 "LastMap$Pad" "length" "I") (by decide +kernel)) (fun _ h9 => h9) rfl dX2_firstWrongOfSlips_12 ?_
    refine lv_icmp_ge (tgt := 50) hx hb dX2_firstWrongOfSlips_15 (by decide) (fun c3 => ?_) (fun c3 => ?_)
    · refine lv_iload_n hx hb dX2_firstWrongOfSlips_50 rfl (lv_at hl 1 rfl) ?_
      refine lv_aload_n hx hb dX2_firstWrongOfSlips_51 rfl (lv_at hl 2 rfl) ?_
      refine va_get (D := G.1) (ci := 0) (v := .int len) (C := RX2) (T := TX2) (N := 3) hx hb hts (fun _ h => List.mem_cons_of_mem _ (List.mem_append_right _ h)) hown E.K hP 0 rfl rfl 2 (by decide) (hts (.fieldLink RX2 18 "LastMap$Pad" "length" "I") (by decide +kernel)) (fun _ h9 => h9) rfl dX2_firstWrongOfSlips_52 ?_
      refine lv_icmp_ge (tgt := 62) hx hb dX2_firstWrongOfSlips_55 (by decide) (fun c4 => ?_) (fun c4 => ?_)
      · refine lv_bipush (v := (-6)) hx hb dX2_firstWrongOfSlips_62 (by decide) ?_
        have hP9 := hP.sub (ws' := [(pad, .inr (0, [.ref sg, .ref sl, .int len])), (sg, .inl (gI G, 40, .inl fsg)), (sl, .inl (gI G, 10, .inl fsl))]) [0, 1, 2] rfl
        have hD9 := hD.sub (ws' := [(pad, .inr (0, [.ref sg, .ref sl, .int len])), (sg, .inl (gI G, 40, .inl fsg)), (sl, .inl (gI G, 10, .inl fsl))]) [0, 1, 2] (by decide) rfl
        exact W.iret (v := (-6)) hx hb hr (fun t ht hW => ⟨⟨(-6), (), rfl, trivial, by rw [ht]; exact hP9, hD9⟩, hS.F ht⟩) hS.2.2 dX2_firstWrongOfSlips_64
      · refine lv_iload_n hx hb dX2_firstWrongOfSlips_58 rfl (lv_at hl 1 rfl) ?_
        refine lv_goto (tgt := 64) hx hb dX2_firstWrongOfSlips_59 (by decide) ?_
        have hP9 := hP.sub (ws' := [(pad, .inr (0, [.ref sg, .ref sl, .int len])), (sg, .inl (gI G, 40, .inl fsg)), (sl, .inl (gI G, 10, .inl fsl))]) [0, 1, 2] rfl
        have hD9 := hD.sub (ws' := [(pad, .inr (0, [.ref sg, .ref sl, .int len])), (sg, .inl (gI G, 40, .inl fsg)), (sl, .inl (gI G, 10, .inl fsl))]) [0, 1, 2] (by decide) rfl
        exact W.iret (v := y) hx hb hr (fun t ht hW => ⟨⟨y, (), rfl, trivial, by rw [ht]; exact hP9, hD9⟩, hS.F ht⟩) hS.2.2 dX2_firstWrongOfSlips_64
    · refine lv_aload_n hx hb dX2_firstWrongOfSlips_18 rfl (lv_at hl 2 rfl) ?_
      refine lv_iload_n hx hb dX2_firstWrongOfSlips_19 rfl (lv_at hl 1 rfl) ?_
      refine lv_iload_n hx hb dX2_firstWrongOfSlips_20 rfl (lv_at hl 3 rfl) ?_
      refine ca_iR (va_runV (As := [.int y, .int p0]) (rest := []) ⟨hx, hb, hml, hown, hts⟩ (c_fwSlip l G H.size pad sg sl len fsg fsl y p0) (cwV 2 hts gX2_firstWrongOfSlips_X2_firstWrongOfSlip rfl rfl rfl (by decide +kernel) ⟨by decide +kernel, by decide +kernel⟩) (pre_V E hP hD hS hA [0, 1, 2] (by decide) rfl 0 0 rfl rfl) rfl rfl hl.1 rfl (lv_room (Nat.le_of_ble_eq_true rfl)) dX2_firstWrongOfSlips_21 ⟨by decide +kernel, by decide +kernel⟩) hS hP hD hA [0, 1, 2] rfl (fun r6 _ H locs w5 hP hS => ?_)
      refine lv_istore (lv' := [(4, .int r6), (3, .int x), (2, .int y), (0, .ref pad), (1, .int p0)]) hx hb dX2_firstWrongOfSlips_24 hl (by decide) rfl (fun ls hl => ?_)
      refine lv_iload hx hb dX2_firstWrongOfSlips_26 (lv_at hl 0 rfl) ?_
      refine lv_bipush (v := (-6)) hx hb dX2_firstWrongOfSlips_28 (by decide) ?_
      refine lv_icmp_eq (tgt := 36) hx hb dX2_firstWrongOfSlips_30 (by decide) (fun c7 => ?_) (fun c7 => ?_)
      · refine lv_iload_n hx hb dX2_firstWrongOfSlips_36 rfl (lv_at hl 2 rfl) ?_
        refine lv_aload_n hx hb dX2_firstWrongOfSlips_37 rfl (lv_at hl 3 rfl) ?_
        refine lv_iload_n hx hb dX2_firstWrongOfSlips_38 rfl (lv_at hl 2 rfl) ?_
        refine ca_iR (va_runV (As := [.int y]) (rest := [.int y]) ⟨hx, hb, hml, hown, hts⟩ (c_lengthOfSlip l G H.size pad sg sl len fsg fsl y) (cwV 1 hts gX2_firstWrongOfSlips_X2_lengthOfSlip rfl rfl rfl (by decide +kernel) ⟨by decide +kernel, by decide +kernel⟩) (pre_V E hP hD hS hA [0, 1, 2] (by decide) rfl 0 0 rfl rfl) rfl rfl hl.1 rfl (lv_room (Nat.le_of_ble_eq_true rfl)) dX2_firstWrongOfSlips_39 ⟨by decide +kernel, by decide +kernel⟩) hS hP hD hA [0, 1, 2] rfl (fun r9 _ H locs w8 hP hS => ?_)
        refine lv_iadd hx hb dX2_firstWrongOfSlips_42 ?_
        refine lv_topi (fun x10 ex10 => ?_)
        refine lv_istore_n (lv' := [(2, .int x10), (4, .int r6), (3, .int x), (0, .ref pad), (1, .int p0)]) hx hb dX2_firstWrongOfSlips_43 rfl hl (by decide) rfl (fun ls hl => ?_)
        obtain ⟨x11, ex11⟩ : ∃ yy_ : Int32, yy_ = x + 1 := ⟨_, rfl⟩
        refine lv_iinc (v := x11) (lv' := [(3, .int x11), (2, .int x10), (4, .int r6), (0, .ref pad), (1, .int p0)]) hx hb dX2_firstWrongOfSlips_44 hl (k := 2) rfl (by rw [ex11]; rfl) (by decide) rfl (fun ls hl => ?_)
        refine lv_goto (tgt := 4) hx hb dX2_firstWrongOfSlips_47 (by decide) ?_
        have hinc4 := inc_lt hlt4 ex11
        refine ih4 (x11, x10) ?_ (by first | omega | (dsimp only; omega)) H locs ls (hP.sub [0, 1, 2] rfl) (hD.sub [0, 1, 2] (by decide) rfl) hS (lv_sub hl [0, 1, 3, 4] rfl)
        try dsimp only
        omega
      · refine lv_iload hx hb dX2_firstWrongOfSlips_33 (lv_at hl 0 rfl) ?_
        have hP9 := hP.sub (ws' := [(pad, .inr (0, [.ref sg, .ref sl, .int len])), (sg, .inl (gI G, 40, .inl fsg)), (sl, .inl (gI G, 10, .inl fsl))]) [0, 1, 2] rfl
        have hD9 := hD.sub (ws' := [(pad, .inr (0, [.ref sg, .ref sl, .int len])), (sg, .inl (gI G, 40, .inl fsg)), (sl, .inl (gI G, 10, .inl fsl))]) [0, 1, 2] (by decide) rfl
        exact W.iret (v := r6) hx hb hr (fun t ht hW => ⟨⟨r6, (), rfl, trivial, by rw [ht]; exact hP9, hD9⟩, hS.F ht⟩) hS.2.2 dX2_firstWrongOfSlips_35

set_option maxHeartbeats 1000000 in
set_option maxRecDepth 100000 in
theorem c_firstWrong (l : Launch) (G : Gy) (sz : Nat) (pad : Nat) (sg : Nat) (sl : Nat) (len : Int32) (fsg : Nat → Int32) (fsl : Nat → Int32) (p0 : Int32) (p1 : Int32)  : Ci l G yX2_firstWrong wsX2_firstWrong ({ frames := 4, cells := 0, slots := 0, locals := 91 }) [.ref pad, .int p0, .int p1] [(pad, .inr (0, [.ref sg, .ref sl, .int len])), (sg, .inl (gI G, 40, .inl fsg)), (sl, .inl (gI G, 10, .inl fsl))] sz (fun (r : Int32) (_ : Unit) => True) (fun (_ : Unit) => [(pad, .inr (0, [.ref sg, .ref sl, .int len])), (sg, .inl (gI G, 40, .inl fsg)), (sl, .inl (gI G, 10, .inl fsl))]) 0 0 := by
  refine Met.ofW (cc := cX2_firstWrong) (maxL := 6) (ret := (some .int)) (by decide) rfl ?_
  intro p e s m args below meth c s₁ B hml hv
  obtain ⟨rfl, hsz, hP, hD0, E0⟩ := hv
  have hx := B.exec
  have hb := B.bytes
  have hr := B.returns
  have hts := atoms_spec (ws := wsX2_firstWrong) B.pre
  have hown : s.vm.findClass RX2 = some m.cls := findClass_of_methodNamed B.named
  have hlocks := B.notSynchronized
  subst hsz
  have hD := hD0.self (sz := s.heap.size)
  generalize hAe : va_A [(pad, .inr (0, [.ref sg, .ref sl, .int len])), (sg, .inl (gI G, 40, .inl fsg)), (sl, .inl (gI G, 10, .inl fsl))] s.heap.size = A at hD E0 ⊢
  have E : EV G A s s.heap := E0
  have hA : ∀ q : Nat, s.heap.size ≤ q → A q := fun q h => by rw [← hAe]; exact Or.inr h
  have hS : va_S A s.heap s.heap [] := va_S.rf
  have hl := lv_entry ([.ref pad, .int p0, .int p1]) (n := 6) (Nat.le_of_ble_eq_true rfl)
  rw [lg_entry_eq]
  generalize (lg_sl ([.ref pad, .int p0, .int p1]) ++ List.replicate (6 - (lg_sl ([.ref pad, .int p0, .int p1])).length) Slot.unset).toArray = ls at hl ⊢
  have hl : lv_has ls 6 [(0, .ref pad), (1, .int p0), (2, .int p1)] := hl
  have hP : va_P G.1 vwCl [(pad, .inr (0, [.ref sg, .ref sl, .int len])), (sg, .inl (gI G, 40, .inl fsg)), (sl, .inl (gI G, 10, .inl fsl))] s.heap := hP
  refine lv_iload_n hx hb dX2_firstWrong_0 rfl (lv_at hl 1 rfl) ?_
  refine lv_iconst (v := 1) hx hb dX2_firstWrong_1 (by decide) ?_
  refine lv_icmp_ne (tgt := 11) hx hb dX2_firstWrong_2 (by decide) (fun c1 => ?_) (fun c1 => ?_)
  · refine lv_iload_n hx hb dX2_firstWrong_11 rfl (lv_at hl 1 rfl) ?_
    refine lv_iconst (v := 2) hx hb dX2_firstWrong_12 (by decide) ?_
    refine lv_icmp_ne (tgt := 20) hx hb dX2_firstWrong_13 (by decide) (fun c2 => ?_) (fun c2 => ?_)
    · refine lv_iconst (v := 4) hx hb dX2_firstWrong_20 (by decide) ?_
      refine lv_istore_n (lv' := [(3, .int 4), (0, .ref pad), (1, .int p0), (2, .int p1)]) hx hb dX2_firstWrong_21 rfl hl (by decide) rfl (fun ls hl => ?_)
      refine lv_iconst (v := 0) hx hb dX2_firstWrong_22 (by decide) ?_
      refine lv_istore (lv' := [(4, .int 0), (3, .int 4), (0, .ref pad), (1, .int p0), (2, .int p1)]) hx hb dX2_firstWrong_23 hl (by decide) rfl (fun ls hl => ?_)
      refine lp_run (x0 := 0) (fun x : Int32 => [(pad, .inr (0, [.ref sg, .ref sl, .int len])), (sg, .inl (gI G, 40, .inl fsg)), (sl, .inl (gI G, 10, .inl fsl))]) (fun x : Int32 => [(4, .int x), (3, .int 4), (0, .ref pad), (1, .int p0), (2, .int p1)]) (fun x : Int32 => (0 ≤ x.toInt)) (fun x : Int32 => (len.toInt - x.toInt).toNat) (hP.sub [0, 1, 2] rfl) (hD.sub [0, 1, 2] (by decide) rfl) hS (lv_sub hl [0, 1, 2, 3, 4] rfl) (show (0 : Int) ≤ (0 : Int32).toInt by first | decide | omega | assumption) ?_
      intro xx_ hI ih25 H locs ls hP hD hS hl
      obtain ⟨x, rfl⟩ : ∃ zz_, zz_ = xx_ := ⟨_, rfl⟩
      have hx0 := hI
      have hl : lv_has ls 6 [(4, .int x), (3, .int 4), (0, .ref pad), (1, .int p0), (2, .int p1)] := hl
      have hP : va_P G.1 vwCl [(pad, .inr (0, [.ref sg, .ref sl, .int len])), (sg, .inl (gI G, 40, .inl fsg)), (sl, .inl (gI G, 10, .inl fsl))] H := hP
      have hD : va_D A [(pad, .inr (0, [.ref sg, .ref sl, .int len])), (sg, .inl (gI G, 40, .inl fsg)), (sl, .inl (gI G, 10, .inl fsl))] := hD
      refine lv_iload hx hb dX2_firstWrong_25 (lv_at hl 0 rfl) ?_
      refine lv_aload_n hx hb dX2_firstWrong_27 rfl (lv_at hl 2 rfl) ?_
      refine va_get (D := G.1) (ci := 0) (v := .int len) (C := RX2) (T := TX2) (N := 3) hx hb hts (fun _ h => List.mem_cons_of_mem _ (List.mem_append_right _ h)) hown E.K hP 0 rfl rfl 2 (by decide) (hts (.fieldLink RX2 18 "LastMap$Pad" "length" "I") (by decide +kernel)) (fun _ h9 => h9) rfl dX2_firstWrong_28 ?_
      refine lv_icmp_ge (tgt := 68) hx hb dX2_firstWrong_31 (by decide) (fun c3 => ?_) (fun c3 => ?_)
      · refine lv_aload_n hx hb dX2_firstWrong_68 rfl (lv_at hl 2 rfl) ?_
        refine va_get (D := G.1) (ci := 0) (v := .int len) (C := RX2) (T := TX2) (N := 3) hx hb hts (fun _ h => List.mem_cons_of_mem _ (List.mem_append_right _ h)) hown E.K hP 0 rfl rfl 2 (by decide) (hts (.fieldLink RX2 18 "LastMap$Pad" "length" "I") (by decide +kernel)) (fun _ h9 => h9) rfl dX2_firstWrong_69 ?_
        refine lv_iload_n hx hb dX2_firstWrong_72 rfl (lv_at hl 4 rfl) ?_
        refine lv_icmp_ge (tgt := 83) hx hb dX2_firstWrong_73 (by decide) (fun c4 => ?_) (fun c4 => ?_)
        · refine lv_bipush (v := (-6)) hx hb dX2_firstWrong_83 (by decide) ?_
          have hP9 := hP.sub (ws' := [(pad, .inr (0, [.ref sg, .ref sl, .int len])), (sg, .inl (gI G, 40, .inl fsg)), (sl, .inl (gI G, 10, .inl fsl))]) [0, 1, 2] rfl
          have hD9 := hD.sub (ws' := [(pad, .inr (0, [.ref sg, .ref sl, .int len])), (sg, .inl (gI G, 40, .inl fsg)), (sl, .inl (gI G, 10, .inl fsl))]) [0, 1, 2] (by decide) rfl
          exact W.iret (v := (-6)) hx hb hr (fun t ht hW => ⟨⟨(-6), (), rfl, trivial, by rw [ht]; exact hP9, hD9⟩, hS.F ht⟩) hS.2.2 dX2_firstWrong_85
        · refine lv_aload_n hx hb dX2_firstWrong_76 rfl (lv_at hl 2 rfl) ?_
          refine va_get (D := G.1) (ci := 0) (v := .int len) (C := RX2) (T := TX2) (N := 3) hx hb hts (fun _ h => List.mem_cons_of_mem _ (List.mem_append_right _ h)) hown E.K hP 0 rfl rfl 2 (by decide) (hts (.fieldLink RX2 18 "LastMap$Pad" "length" "I") (by decide +kernel)) (fun _ h9 => h9) rfl dX2_firstWrong_77 ?_
          refine lv_goto (tgt := 85) hx hb dX2_firstWrong_80 (by decide) ?_
          have hP9 := hP.sub (ws' := [(pad, .inr (0, [.ref sg, .ref sl, .int len])), (sg, .inl (gI G, 40, .inl fsg)), (sl, .inl (gI G, 10, .inl fsl))]) [0, 1, 2] rfl
          have hD9 := hD.sub (ws' := [(pad, .inr (0, [.ref sg, .ref sl, .int len])), (sg, .inl (gI G, 40, .inl fsg)), (sl, .inl (gI G, 10, .inl fsl))]) [0, 1, 2] (by decide) rfl
          exact W.iret (v := len) hx hb hr (fun t ht hW => ⟨⟨len, (), rfl, trivial, by rw [ht]; exact hP9, hD9⟩, hS.F ht⟩) hS.2.2 dX2_firstWrong_85
      · have hlt25 : x.toInt < len.toInt := by ((try simp only [inR, inS, i3_lt, i3_le, i3_eq, i6_lt, i6_le, Int32.toInt_toInt64, lg_cmp_lt, lg_cmp_gt, lg_cmp_ge, lg_cmp_le, Int32.reduceToInt, Int64.reduceToInt] at c3 ⊢); omega)
        refine lv_aload_n hx hb dX2_firstWrong_34 rfl (lv_at hl 2 rfl) ?_
        refine lv_iload hx hb dX2_firstWrong_35 (lv_at hl 0 rfl) ?_
        refine ca_iR (va_runV (As := [.int x]) (rest := []) ⟨hx, hb, hml, hown, hts⟩ (c_padMark l G H.size pad sg sl len fsg fsl x) (cwV 1 hts gX2_firstWrong_X2_markAt rfl rfl rfl (by decide +kernel) ⟨by decide +kernel, by decide +kernel⟩) (pre_V E hP hD hS hA [0, 1, 2] (by decide) rfl 0 0 rfl rfl) rfl rfl hl.1 rfl (lv_room (Nat.le_of_ble_eq_true rfl)) dX2_firstWrong_37 ⟨by decide +kernel, by decide +kernel⟩) hS hP hD hA [0, 1, 2] rfl (fun r6 _ H locs w5 hP hS => ?_)
        refine lv_istore (lv' := [(5, .int r6), (4, .int x), (3, .int 4), (0, .ref pad), (1, .int p0), (2, .int p1)]) hx hb dX2_firstWrong_40 hl (by decide) rfl (fun ls hl => ?_)
        refine lv_iload hx hb dX2_firstWrong_42 (lv_at hl 1 rfl) ?_
        refine lv_iload_n hx hb dX2_firstWrong_44 rfl (lv_at hl 5 rfl) ?_
        refine lv_icmp_ge (tgt := 59) hx hb dX2_firstWrong_45 (by decide) (fun c7 => ?_) (fun c7 => ?_)
        · refine lv_iload hx hb dX2_firstWrong_59 (lv_at hl 1 rfl) ?_
          have hP9 := hP.sub (ws' := [(pad, .inr (0, [.ref sg, .ref sl, .int len])), (sg, .inl (gI G, 40, .inl fsg)), (sl, .inl (gI G, 10, .inl fsl))]) [0, 1, 2] rfl
          have hD9 := hD.sub (ws' := [(pad, .inr (0, [.ref sg, .ref sl, .int len])), (sg, .inl (gI G, 40, .inl fsg)), (sl, .inl (gI G, 10, .inl fsl))]) [0, 1, 2] (by decide) rfl
          exact W.iret (v := x) hx hb hr (fun t ht hW => ⟨⟨x, (), rfl, trivial, by rw [ht]; exact hP9, hD9⟩, hS.F ht⟩) hS.2.2 dX2_firstWrong_61
        · refine lv_iload hx hb dX2_firstWrong_48 (lv_at hl 0 rfl) ?_
          refine lv_if_lt (tgt := 59) hx hb dX2_firstWrong_50 (by decide) (fun c8 => ?_) (fun c8 => ?_)
          · refine lv_iload hx hb dX2_firstWrong_59 (lv_at hl 1 rfl) ?_
            have hP9 := hP.sub (ws' := [(pad, .inr (0, [.ref sg, .ref sl, .int len])), (sg, .inl (gI G, 40, .inl fsg)), (sl, .inl (gI G, 10, .inl fsl))]) [0, 1, 2] rfl
            have hD9 := hD.sub (ws' := [(pad, .inr (0, [.ref sg, .ref sl, .int len])), (sg, .inl (gI G, 40, .inl fsg)), (sl, .inl (gI G, 10, .inl fsl))]) [0, 1, 2] (by decide) rfl
            exact W.iret (v := x) hx hb hr (fun t ht hW => ⟨⟨x, (), rfl, trivial, by rw [ht]; exact hP9, hD9⟩, hS.F ht⟩) hS.2.2 dX2_firstWrong_61
          · refine lv_iload hx hb dX2_firstWrong_53 (lv_at hl 0 rfl) ?_
            refine lv_iload_n hx hb dX2_firstWrong_55 rfl (lv_at hl 2 rfl) ?_
            refine lv_icmp_le (tgt := 62) hx hb dX2_firstWrong_56 (by decide) (fun c9 => ?_) (fun c9 => ?_)
            · obtain ⟨x10, ex10⟩ : ∃ yy_ : Int32, yy_ = x + 1 := ⟨_, rfl⟩
              refine lv_iinc (v := x10) (lv' := [(4, .int x10), (5, .int r6), (3, .int 4), (0, .ref pad), (1, .int p0), (2, .int p1)]) hx hb dX2_firstWrong_62 hl (k := 1) rfl (by rw [ex10]; rfl) (by decide) rfl (fun ls hl => ?_)
              refine lv_goto (tgt := 25) hx hb dX2_firstWrong_65 (by decide) ?_
              have hinc25 := inc_lt hlt25 ex10
              refine ih25 x10 ?_ (by first | omega | (dsimp only; omega)) H locs ls (hP.sub [0, 1, 2] rfl) (hD.sub [0, 1, 2] (by decide) rfl) hS (lv_sub hl [0, 2, 3, 4, 5] rfl)
              try dsimp only
              omega
            · refine lv_iload hx hb dX2_firstWrong_59 (lv_at hl 1 rfl) ?_
              have hP9 := hP.sub (ws' := [(pad, .inr (0, [.ref sg, .ref sl, .int len])), (sg, .inl (gI G, 40, .inl fsg)), (sl, .inl (gI G, 10, .inl fsl))]) [0, 1, 2] rfl
              have hD9 := hD.sub (ws' := [(pad, .inr (0, [.ref sg, .ref sl, .int len])), (sg, .inl (gI G, 40, .inl fsg)), (sl, .inl (gI G, 10, .inl fsl))]) [0, 1, 2] (by decide) rfl
              exact W.iret (v := x) hx hb hr (fun t ht hW => ⟨⟨x, (), rfl, trivial, by rw [ht]; exact hP9, hD9⟩, hS.F ht⟩) hS.2.2 dX2_firstWrong_61
    · refine lv_iconst (v := 5) hx hb dX2_firstWrong_16 (by decide) ?_
      refine lv_goto (tgt := 21) hx hb dX2_firstWrong_17 (by decide) ?_
      refine lv_istore_n (lv' := [(3, .int 5), (0, .ref pad), (1, .int p0), (2, .int p1)]) hx hb dX2_firstWrong_21 rfl hl (by decide) rfl (fun ls hl => ?_)
      refine lv_iconst (v := 0) hx hb dX2_firstWrong_22 (by decide) ?_
      refine lv_istore (lv' := [(4, .int 0), (3, .int 5), (0, .ref pad), (1, .int p0), (2, .int p1)]) hx hb dX2_firstWrong_23 hl (by decide) rfl (fun ls hl => ?_)
      refine lp_run (x0 := 0) (fun x : Int32 => [(pad, .inr (0, [.ref sg, .ref sl, .int len])), (sg, .inl (gI G, 40, .inl fsg)), (sl, .inl (gI G, 10, .inl fsl))]) (fun x : Int32 => [(4, .int x), (3, .int 5), (0, .ref pad), (1, .int p0), (2, .int p1)]) (fun x : Int32 => (0 ≤ x.toInt)) (fun x : Int32 => (len.toInt - x.toInt).toNat) (hP.sub [0, 1, 2] rfl) (hD.sub [0, 1, 2] (by decide) rfl) hS (lv_sub hl [0, 1, 2, 3, 4] rfl) (show (0 : Int) ≤ (0 : Int32).toInt by first | decide | omega | assumption) ?_
      intro xx_ hI ih25 H locs ls hP hD hS hl
      obtain ⟨x, rfl⟩ : ∃ zz_, zz_ = xx_ := ⟨_, rfl⟩
      have hx0 := hI
      have hl : lv_has ls 6 [(4, .int x), (3, .int 5), (0, .ref pad), (1, .int p0), (2, .int p1)] := hl
      have hP : va_P G.1 vwCl [(pad, .inr (0, [.ref sg, .ref sl, .int len])), (sg, .inl (gI G, 40, .inl fsg)), (sl, .inl (gI G, 10, .inl fsl))] H := hP
      have hD : va_D A [(pad, .inr (0, [.ref sg, .ref sl, .int len])), (sg, .inl (gI G, 40, .inl fsg)), (sl, .inl (gI G, 10, .inl fsl))] := hD
      refine lv_iload hx hb dX2_firstWrong_25 (lv_at hl 0 rfl) ?_
      refine lv_aload_n hx hb dX2_firstWrong_27 rfl (lv_at hl 2 rfl) ?_
      refine va_get (D := G.1) (ci := 0) (v := .int len) (C := RX2) (T := TX2) (N := 3) hx hb hts (fun _ h => List.mem_cons_of_mem _ (List.mem_append_right _ h)) hown E.K hP 0 rfl rfl 2 (by decide) (hts (.fieldLink RX2 18 "LastMap$Pad" "length" "I") (by decide +kernel)) (fun _ h9 => h9) rfl dX2_firstWrong_28 ?_
      refine lv_icmp_ge (tgt := 68) hx hb dX2_firstWrong_31 (by decide) (fun c11 => ?_) (fun c11 => ?_)
      · refine lv_aload_n hx hb dX2_firstWrong_68 rfl (lv_at hl 2 rfl) ?_
        refine va_get (D := G.1) (ci := 0) (v := .int len) (C := RX2) (T := TX2) (N := 3) hx hb hts (fun _ h => List.mem_cons_of_mem _ (List.mem_append_right _ h)) hown E.K hP 0 rfl rfl 2 (by decide) (hts (.fieldLink RX2 18 "LastMap$Pad" "length" "I") (by decide +kernel)) (fun _ h9 => h9) rfl dX2_firstWrong_69 ?_
        refine lv_iload_n hx hb dX2_firstWrong_72 rfl (lv_at hl 4 rfl) ?_
        refine lv_icmp_ge (tgt := 83) hx hb dX2_firstWrong_73 (by decide) (fun c12 => ?_) (fun c12 => ?_)
        · refine lv_bipush (v := (-6)) hx hb dX2_firstWrong_83 (by decide) ?_
          have hP9 := hP.sub (ws' := [(pad, .inr (0, [.ref sg, .ref sl, .int len])), (sg, .inl (gI G, 40, .inl fsg)), (sl, .inl (gI G, 10, .inl fsl))]) [0, 1, 2] rfl
          have hD9 := hD.sub (ws' := [(pad, .inr (0, [.ref sg, .ref sl, .int len])), (sg, .inl (gI G, 40, .inl fsg)), (sl, .inl (gI G, 10, .inl fsl))]) [0, 1, 2] (by decide) rfl
          exact W.iret (v := (-6)) hx hb hr (fun t ht hW => ⟨⟨(-6), (), rfl, trivial, by rw [ht]; exact hP9, hD9⟩, hS.F ht⟩) hS.2.2 dX2_firstWrong_85
        · refine lv_aload_n hx hb dX2_firstWrong_76 rfl (lv_at hl 2 rfl) ?_
          refine va_get (D := G.1) (ci := 0) (v := .int len) (C := RX2) (T := TX2) (N := 3) hx hb hts (fun _ h => List.mem_cons_of_mem _ (List.mem_append_right _ h)) hown E.K hP 0 rfl rfl 2 (by decide) (hts (.fieldLink RX2 18 "LastMap$Pad" "length" "I") (by decide +kernel)) (fun _ h9 => h9) rfl dX2_firstWrong_77 ?_
          refine lv_goto (tgt := 85) hx hb dX2_firstWrong_80 (by decide) ?_
          have hP9 := hP.sub (ws' := [(pad, .inr (0, [.ref sg, .ref sl, .int len])), (sg, .inl (gI G, 40, .inl fsg)), (sl, .inl (gI G, 10, .inl fsl))]) [0, 1, 2] rfl
          have hD9 := hD.sub (ws' := [(pad, .inr (0, [.ref sg, .ref sl, .int len])), (sg, .inl (gI G, 40, .inl fsg)), (sl, .inl (gI G, 10, .inl fsl))]) [0, 1, 2] (by decide) rfl
          exact W.iret (v := len) hx hb hr (fun t ht hW => ⟨⟨len, (), rfl, trivial, by rw [ht]; exact hP9, hD9⟩, hS.F ht⟩) hS.2.2 dX2_firstWrong_85
      · have hlt25 : x.toInt < len.toInt := by ((try simp only [inR, inS, i3_lt, i3_le, i3_eq, i6_lt, i6_le, Int32.toInt_toInt64, lg_cmp_lt, lg_cmp_gt, lg_cmp_ge, lg_cmp_le, Int32.reduceToInt, Int64.reduceToInt] at c11 ⊢); omega)
        refine lv_aload_n hx hb dX2_firstWrong_34 rfl (lv_at hl 2 rfl) ?_
        refine lv_iload hx hb dX2_firstWrong_35 (lv_at hl 0 rfl) ?_
        refine ca_iR (va_runV (As := [.int x]) (rest := []) ⟨hx, hb, hml, hown, hts⟩ (c_padMark l G H.size pad sg sl len fsg fsl x) (cwV 1 hts gX2_firstWrong_X2_markAt rfl rfl rfl (by decide +kernel) ⟨by decide +kernel, by decide +kernel⟩) (pre_V E hP hD hS hA [0, 1, 2] (by decide) rfl 0 0 rfl rfl) rfl rfl hl.1 rfl (lv_room (Nat.le_of_ble_eq_true rfl)) dX2_firstWrong_37 ⟨by decide +kernel, by decide +kernel⟩) hS hP hD hA [0, 1, 2] rfl (fun r14 _ H locs w13 hP hS => ?_)
        refine lv_istore (lv' := [(5, .int r14), (4, .int x), (3, .int 5), (0, .ref pad), (1, .int p0), (2, .int p1)]) hx hb dX2_firstWrong_40 hl (by decide) rfl (fun ls hl => ?_)
        refine lv_iload hx hb dX2_firstWrong_42 (lv_at hl 1 rfl) ?_
        refine lv_iload_n hx hb dX2_firstWrong_44 rfl (lv_at hl 5 rfl) ?_
        refine lv_icmp_ge (tgt := 59) hx hb dX2_firstWrong_45 (by decide) (fun c15 => ?_) (fun c15 => ?_)
        · refine lv_iload hx hb dX2_firstWrong_59 (lv_at hl 1 rfl) ?_
          have hP9 := hP.sub (ws' := [(pad, .inr (0, [.ref sg, .ref sl, .int len])), (sg, .inl (gI G, 40, .inl fsg)), (sl, .inl (gI G, 10, .inl fsl))]) [0, 1, 2] rfl
          have hD9 := hD.sub (ws' := [(pad, .inr (0, [.ref sg, .ref sl, .int len])), (sg, .inl (gI G, 40, .inl fsg)), (sl, .inl (gI G, 10, .inl fsl))]) [0, 1, 2] (by decide) rfl
          exact W.iret (v := x) hx hb hr (fun t ht hW => ⟨⟨x, (), rfl, trivial, by rw [ht]; exact hP9, hD9⟩, hS.F ht⟩) hS.2.2 dX2_firstWrong_61
        · refine lv_iload hx hb dX2_firstWrong_48 (lv_at hl 0 rfl) ?_
          refine lv_if_lt (tgt := 59) hx hb dX2_firstWrong_50 (by decide) (fun c16 => ?_) (fun c16 => ?_)
          · refine lv_iload hx hb dX2_firstWrong_59 (lv_at hl 1 rfl) ?_
            have hP9 := hP.sub (ws' := [(pad, .inr (0, [.ref sg, .ref sl, .int len])), (sg, .inl (gI G, 40, .inl fsg)), (sl, .inl (gI G, 10, .inl fsl))]) [0, 1, 2] rfl
            have hD9 := hD.sub (ws' := [(pad, .inr (0, [.ref sg, .ref sl, .int len])), (sg, .inl (gI G, 40, .inl fsg)), (sl, .inl (gI G, 10, .inl fsl))]) [0, 1, 2] (by decide) rfl
            exact W.iret (v := x) hx hb hr (fun t ht hW => ⟨⟨x, (), rfl, trivial, by rw [ht]; exact hP9, hD9⟩, hS.F ht⟩) hS.2.2 dX2_firstWrong_61
          · refine lv_iload hx hb dX2_firstWrong_53 (lv_at hl 0 rfl) ?_
            refine lv_iload_n hx hb dX2_firstWrong_55 rfl (lv_at hl 2 rfl) ?_
            refine lv_icmp_le (tgt := 62) hx hb dX2_firstWrong_56 (by decide) (fun c17 => ?_) (fun c17 => ?_)
            · obtain ⟨x18, ex18⟩ : ∃ yy_ : Int32, yy_ = x + 1 := ⟨_, rfl⟩
              refine lv_iinc (v := x18) (lv' := [(4, .int x18), (5, .int r14), (3, .int 5), (0, .ref pad), (1, .int p0), (2, .int p1)]) hx hb dX2_firstWrong_62 hl (k := 1) rfl (by rw [ex18]; rfl) (by decide) rfl (fun ls hl => ?_)
              refine lv_goto (tgt := 25) hx hb dX2_firstWrong_65 (by decide) ?_
              have hinc25 := inc_lt hlt25 ex18
              refine ih25 x18 ?_ (by first | omega | (dsimp only; omega)) H locs ls (hP.sub [0, 1, 2] rfl) (hD.sub [0, 1, 2] (by decide) rfl) hS (lv_sub hl [0, 2, 3, 4, 5] rfl)
              try dsimp only
              omega
            · refine lv_iload hx hb dX2_firstWrong_59 (lv_at hl 1 rfl) ?_
              have hP9 := hP.sub (ws' := [(pad, .inr (0, [.ref sg, .ref sl, .int len])), (sg, .inl (gI G, 40, .inl fsg)), (sl, .inl (gI G, 10, .inl fsl))]) [0, 1, 2] rfl
              have hD9 := hD.sub (ws' := [(pad, .inr (0, [.ref sg, .ref sl, .int len])), (sg, .inl (gI G, 40, .inl fsg)), (sl, .inl (gI G, 10, .inl fsl))]) [0, 1, 2] (by decide) rfl
              exact W.iret (v := x) hx hb hr (fun t ht hW => ⟨⟨x, (), rfl, trivial, by rw [ht]; exact hP9, hD9⟩, hS.F ht⟩) hS.2.2 dX2_firstWrong_61
  · refine lv_aload_n hx hb dX2_firstWrong_5 rfl (lv_at hl 0 rfl) ?_
    refine lv_iload_n hx hb dX2_firstWrong_6 rfl (lv_at hl 2 rfl) ?_
    refine ca_iR (va_runV (As := [.int p1]) (rest := []) ⟨hx, hb, hml, hown, hts⟩ (c_fwSlips l G s.heap.size pad sg sl len fsg fsl p1) (cwV 1 hts gX2_firstWrong_X2_firstWrongOfSlips rfl rfl rfl (by decide +kernel) ⟨by decide +kernel, by decide +kernel⟩) (pre_V E hP hD hS hA [0, 1, 2] (by decide) rfl 0 0 rfl rfl) rfl rfl hl.1 rfl (lv_room (Nat.le_of_ble_eq_true rfl)) dX2_firstWrong_7 ⟨by decide +kernel, by decide +kernel⟩) hS hP hD hA [0, 1, 2] rfl (fun r20 _ H locs w19 hP hS => ?_)
    have hP9 := hP.sub (ws' := [(pad, .inr (0, [.ref sg, .ref sl, .int len])), (sg, .inl (gI G, 40, .inl fsg)), (sl, .inl (gI G, 10, .inl fsl))]) [0, 1, 2] rfl
    have hD9 := hD.sub (ws' := [(pad, .inr (0, [.ref sg, .ref sl, .int len])), (sg, .inl (gI G, 40, .inl fsg)), (sl, .inl (gI G, 10, .inl fsl))]) [0, 1, 2] (by decide) rfl
    exact W.iret (v := r20) hx hb hr (fun t ht hW => ⟨⟨r20, (), rfl, trivial, by rw [ht]; exact hP9, hD9⟩, hS.F ht⟩) hS.2.2 dX2_firstWrong_10

set_option maxHeartbeats 1000000 in
set_option maxRecDepth 100000 in
theorem c_mapCode (l : Launch) (G : Gy) (sz : Nat) (pad : Nat) (sg : Nat) (sl : Nat) (len : Int32) (fsg : Nat → Int32) (fsl : Nat → Int32)  : Ci l G yX2_mapCode wsX2_mapCode ({ frames := 3, cells := 0, slots := 0, locals := 64 }) [.ref pad] [(pad, .inr (0, [.ref sg, .ref sl, .int len])), (sg, .inl (gI G, 40, .inl fsg)), (sl, .inl (gI G, 10, .inl fsl))] sz (fun (r : Int32) (_ : Unit) => True) (fun (_ : Unit) => [(pad, .inr (0, [.ref sg, .ref sl, .int len])), (sg, .inl (gI G, 40, .inl fsg)), (sl, .inl (gI G, 10, .inl fsl))]) 0 0 := by
  refine Met.ofW (cc := cX2_mapCode) (maxL := 3) (ret := (some .int)) (by decide) rfl ?_
  intro p e s m args below meth c s₁ B hml hv
  obtain ⟨rfl, hsz, hP, hD0, E0⟩ := hv
  have hx := B.exec
  have hb := B.bytes
  have hr := B.returns
  have hts := atoms_spec (ws := wsX2_mapCode) B.pre
  have hown : s.vm.findClass RX2 = some m.cls := findClass_of_methodNamed B.named
  have hlocks := B.notSynchronized
  subst hsz
  have hD := hD0.self (sz := s.heap.size)
  generalize hAe : va_A [(pad, .inr (0, [.ref sg, .ref sl, .int len])), (sg, .inl (gI G, 40, .inl fsg)), (sl, .inl (gI G, 10, .inl fsl))] s.heap.size = A at hD E0 ⊢
  have E : EV G A s s.heap := E0
  have hA : ∀ q : Nat, s.heap.size ≤ q → A q := fun q h => by rw [← hAe]; exact Or.inr h
  have hS : va_S A s.heap s.heap [] := va_S.rf
  have hl := lv_entry ([.ref pad]) (n := 3) (Nat.le_of_ble_eq_true rfl)
  rw [lg_entry_eq]
  generalize (lg_sl ([.ref pad]) ++ List.replicate (3 - (lg_sl ([.ref pad])).length) Slot.unset).toArray = ls at hl ⊢
  have hl : lv_has ls 3 [(0, .ref pad)] := hl
  have hP : va_P G.1 vwCl [(pad, .inr (0, [.ref sg, .ref sl, .int len])), (sg, .inl (gI G, 40, .inl fsg)), (sl, .inl (gI G, 10, .inl fsl))] s.heap := hP
  refine lv_iconst (v := 0) hx hb dX2_mapCode_0 (by decide) ?_
  refine lv_istore_n (lv' := [(1, .int 0), (0, .ref pad)]) hx hb dX2_mapCode_1 rfl hl (by decide) rfl (fun ls hl => ?_)
  refine lv_iconst (v := 0) hx hb dX2_mapCode_2 (by decide) ?_
  refine lv_istore_n (lv' := [(2, .int 0), (1, .int 0), (0, .ref pad)]) hx hb dX2_mapCode_3 rfl hl (by decide) rfl (fun ls hl => ?_)
  refine lp_run (x0 := (0, 0)) (fun xx_ : Int32 × Int32 => match xx_ with | (x, y) => [(pad, .inr (0, [.ref sg, .ref sl, .int len])), (sg, .inl (gI G, 40, .inl fsg)), (sl, .inl (gI G, 10, .inl fsl))]) (fun xx_ : Int32 × Int32 => match xx_ with | (x, y) => [(2, .int x), (1, .int y), (0, .ref pad)]) (fun xx_ : Int32 × Int32 => match xx_ with | (x, y) => (0 ≤ x.toInt)) (fun xx_ : Int32 × Int32 => match xx_ with | (x, y) => (len.toInt - x.toInt).toNat) (hP.sub [0, 1, 2] rfl) (hD.sub [0, 1, 2] (by decide) rfl) hS (lv_sub hl [0, 1, 2] rfl) (show (0 : Int) ≤ (0 : Int32).toInt by first | decide | omega | assumption) ?_
  intro xx_ hI ih4 H locs ls hP hD hS hl
  obtain ⟨x, y⟩ := xx_
  dsimp only at hI ih4 hP hD hl
  have hx0 := hI
  have hl : lv_has ls 3 [(2, .int x), (1, .int y), (0, .ref pad)] := hl
  have hP : va_P G.1 vwCl [(pad, .inr (0, [.ref sg, .ref sl, .int len])), (sg, .inl (gI G, 40, .inl fsg)), (sl, .inl (gI G, 10, .inl fsl))] H := hP
  have hD : va_D A [(pad, .inr (0, [.ref sg, .ref sl, .int len])), (sg, .inl (gI G, 40, .inl fsg)), (sl, .inl (gI G, 10, .inl fsl))] := hD
  refine lv_iload_n hx hb dX2_mapCode_4 rfl (lv_at hl 0 rfl) ?_
  refine lv_aload_n hx hb dX2_mapCode_5 rfl (lv_at hl 2 rfl) ?_
  refine va_get (D := G.1) (ci := 0) (v := .int len) (C := RX2) (T := TX2) (N := 3) hx hb hts (fun _ h => List.mem_cons_of_mem _ (List.mem_append_right _ h)) hown E.K hP 0 rfl rfl 2 (by decide) (hts (.fieldLink RX2 18 "LastMap$Pad" "length" "I") (by decide +kernel)) (fun _ h9 => h9) rfl dX2_mapCode_6 ?_
  refine lv_icmp_ge (tgt := 35) hx hb dX2_mapCode_9 (by decide) (fun c1 => ?_) (fun c1 => ?_)
  · refine lv_iload_n hx hb dX2_mapCode_35 rfl (lv_at hl 1 rfl) ?_
    have hP9 := hP.sub (ws' := [(pad, .inr (0, [.ref sg, .ref sl, .int len])), (sg, .inl (gI G, 40, .inl fsg)), (sl, .inl (gI G, 10, .inl fsl))]) [0, 1, 2] rfl
    have hD9 := hD.sub (ws' := [(pad, .inr (0, [.ref sg, .ref sl, .int len])), (sg, .inl (gI G, 40, .inl fsg)), (sl, .inl (gI G, 10, .inl fsl))]) [0, 1, 2] (by decide) rfl
    exact W.iret (v := y) hx hb hr (fun t ht hW => ⟨⟨y, (), rfl, trivial, by rw [ht]; exact hP9, hD9⟩, hS.F ht⟩) hS.2.2 dX2_mapCode_36
  · have hlt4 : x.toInt < len.toInt := by ((try simp only [inR, inS, i3_lt, i3_le, i3_eq, i6_lt, i6_le, Int32.toInt_toInt64, lg_cmp_lt, lg_cmp_gt, lg_cmp_ge, lg_cmp_le, Int32.reduceToInt, Int64.reduceToInt] at c1 ⊢); omega)
    refine lv_iload_n hx hb dX2_mapCode_12 rfl (lv_at hl 0 rfl) ?_
    refine lv_bipush (v := 6) hx hb dX2_mapCode_13 (by decide) ?_
    refine lv_icmp_ge (tgt := 35) hx hb dX2_mapCode_15 (by decide) (fun c2 => ?_) (fun c2 => ?_)
    · refine lv_iload_n hx hb dX2_mapCode_35 rfl (lv_at hl 1 rfl) ?_
      have hP9 := hP.sub (ws' := [(pad, .inr (0, [.ref sg, .ref sl, .int len])), (sg, .inl (gI G, 40, .inl fsg)), (sl, .inl (gI G, 10, .inl fsl))]) [0, 1, 2] rfl
      have hD9 := hD.sub (ws' := [(pad, .inr (0, [.ref sg, .ref sl, .int len])), (sg, .inl (gI G, 40, .inl fsg)), (sl, .inl (gI G, 10, .inl fsl))]) [0, 1, 2] (by decide) rfl
      exact W.iret (v := y) hx hb hr (fun t ht hW => ⟨⟨y, (), rfl, trivial, by rw [ht]; exact hP9, hD9⟩, hS.F ht⟩) hS.2.2 dX2_mapCode_36
    · refine lv_iload_n hx hb dX2_mapCode_18 rfl (lv_at hl 1 rfl) ?_
      refine lv_iload_n hx hb dX2_mapCode_19 rfl (lv_at hl 0 rfl) ?_
      refine lv_aload_n hx hb dX2_mapCode_20 rfl (lv_at hl 2 rfl) ?_
      refine lv_iload_n hx hb dX2_mapCode_21 rfl (lv_at hl 0 rfl) ?_
      refine ca_iR (va_runV (As := [.int x]) (rest := [.int x, .int y]) ⟨hx, hb, hml, hown, hts⟩ (c_padMark l G H.size pad sg sl len fsg fsl x) (cwV 1 hts gX2_mapCode_X2_markAt rfl rfl rfl (by decide +kernel) ⟨by decide +kernel, by decide +kernel⟩) (pre_V E hP hD hS hA [0, 1, 2] (by decide) rfl 0 0 rfl rfl) rfl rfl hl.1 rfl (lv_room (Nat.le_of_ble_eq_true rfl)) dX2_mapCode_22 ⟨by decide +kernel, by decide +kernel⟩) hS hP hD hA [0, 1, 2] rfl (fun r4 _ H locs w3 hP hS => ?_)
      refine ca_iR (va_runS (As := [.int y, .int x, .int r4]) (rest := []) ⟨hx, hb, hml, hown, hts⟩ (c_with l G H.size y x r4) (va_cwS 3 hts gX2_mapCode_X1_with rfl rfl rfl (by decide +kernel) ⟨by decide +kernel, by decide +kernel⟩) (pre_S E hP hD hS hA [] (by decide) rfl) rfl rfl hl.1 rfl (lv_room (Nat.le_of_ble_eq_true rfl)) dX2_mapCode_25 ⟨by decide +kernel, by decide +kernel⟩) hS hP hD hA [] rfl (fun r6 _ H locs w5 hP hS => ?_)
      refine lv_istore_n (lv' := [(1, .int r6), (2, .int x), (0, .ref pad)]) hx hb dX2_mapCode_28 rfl hl (by decide) rfl (fun ls hl => ?_)
      obtain ⟨x7, ex7⟩ : ∃ yy_ : Int32, yy_ = x + 1 := ⟨_, rfl⟩
      refine lv_iinc (v := x7) (lv' := [(2, .int x7), (1, .int r6), (0, .ref pad)]) hx hb dX2_mapCode_29 hl (k := 1) rfl (by rw [ex7]; rfl) (by decide) rfl (fun ls hl => ?_)
      refine lv_goto (tgt := 4) hx hb dX2_mapCode_32 (by decide) ?_
      have hinc4 := inc_lt hlt4 ex7
      refine ih4 (x7, r6) ?_ (by first | omega | (dsimp only; omega)) H locs ls (hP.sub [0, 1, 2] rfl) (hD.sub [0, 1, 2] (by decide) rfl) hS (lv_sub hl [0, 1, 2] rfl)
      try dsimp only
      omega

set_option maxHeartbeats 1000000 in
set_option maxRecDepth 100000 in
theorem c_readSlips (l : Launch) (G : Gy) (sz : Nat) (pad : Nat) (sg : Nat) (sl : Nat) (len : Int32) (fsg : Nat → Int32) (fsl : Nat → Int32)  : Ci l G yX2_readSlips wsX2_readSlips ({ frames := 3, cells := 0, slots := 0, locals := 63 }) [.ref pad] [(pad, .inr (0, [.ref sg, .ref sl, .int len])), (sg, .inl (gI G, 40, .inl fsg)), (sl, .inl (gI G, 10, .inl fsl))] sz (fun (r : Int32) (fsl1 : Nat → Int32) => True) (fun (fsl1 : Nat → Int32) => [(pad, .inr (0, [.ref sg, .ref sl, .int len])), (sg, .inl (gI G, 40, .inl fsg)), (sl, .inl (gI G, 10, .inl fsl1))]) 0 0 := by
  refine Met.ofW (cc := cX2_readSlips) (maxL := 5) (ret := (some .int)) (by decide) rfl ?_
  intro p e s m args below meth c s₁ B hml hv
  obtain ⟨rfl, hsz, hP, hD0, E0⟩ := hv
  have hx := B.exec
  have hb := B.bytes
  have hr := B.returns
  have hts := atoms_spec (ws := wsX2_readSlips) B.pre
  have hown : s.vm.findClass RX2 = some m.cls := findClass_of_methodNamed B.named
  have hlocks := B.notSynchronized
  subst hsz
  have hD := hD0.self (sz := s.heap.size)
  generalize hAe : va_A [(pad, .inr (0, [.ref sg, .ref sl, .int len])), (sg, .inl (gI G, 40, .inl fsg)), (sl, .inl (gI G, 10, .inl fsl))] s.heap.size = A at hD E0 ⊢
  have E : EV G A s s.heap := E0
  have hA : ∀ q : Nat, s.heap.size ≤ q → A q := fun q h => by rw [← hAe]; exact Or.inr h
  have hS : va_S A s.heap s.heap [] := va_S.rf
  have hl := lv_entry ([.ref pad]) (n := 5) (Nat.le_of_ble_eq_true rfl)
  rw [lg_entry_eq]
  generalize (lg_sl ([.ref pad]) ++ List.replicate (5 - (lg_sl ([.ref pad])).length) Slot.unset).toArray = ls at hl ⊢
  have hl : lv_has ls 5 [(0, .ref pad)] := hl
  have hP : va_P G.1 vwCl [(pad, .inr (0, [.ref sg, .ref sl, .int len])), (sg, .inl (gI G, 40, .inl fsg)), (sl, .inl (gI G, 10, .inl fsl))] s.heap := hP
  refine lv_iconst (v := 0) hx hb dX2_readSlips_0 (by decide) ?_
  refine lv_istore_n (lv' := [(1, .int 0), (0, .ref pad)]) hx hb dX2_readSlips_1 rfl hl (by decide) rfl (fun ls hl => ?_)
  refine lv_iconst (v := 0) hx hb dX2_readSlips_2 (by decide) ?_
  refine lv_istore_n (lv' := [(2, .int 0), (1, .int 0), (0, .ref pad)]) hx hb dX2_readSlips_3 rfl hl (by decide) rfl (fun ls hl => ?_)
  refine lp_run (x0 := (0, 0, fsl)) (fun xx_ : Int32 × Int32 × (Nat → Int32) => match xx_ with | (x, y, g) => [(pad, .inr (0, [.ref sg, .ref sl, .int len])), (sg, .inl (gI G, 40, .inl fsg)), (sl, .inl (gI G, 10, .inl g))]) (fun xx_ : Int32 × Int32 × (Nat → Int32) => match xx_ with | (x, y, g) => [(2, .int y), (1, .int x), (0, .ref pad)]) (fun xx_ : Int32 × Int32 × (Nat → Int32) => match xx_ with | (x, y, g) => (0 ≤ x.toInt)) (fun xx_ : Int32 × Int32 × (Nat → Int32) => match xx_ with | (x, y, g) => ((10 : Int32).toInt - x.toInt).toNat) (hP.sub [0, 1, 2] rfl) (hD.sub [0, 1, 2] (by decide) rfl) hS (lv_sub hl [0, 1, 2] rfl) (show (0 : Int) ≤ (0 : Int32).toInt by first | decide | omega | assumption) ?_
  intro xx_ hI ih4 H locs ls hP hD hS hl
  obtain ⟨x, y, g⟩ := xx_
  dsimp only at hI ih4 hP hD hl
  have hx0 := hI
  have hl : lv_has ls 5 [(2, .int y), (1, .int x), (0, .ref pad)] := hl
  have hP : va_P G.1 vwCl [(pad, .inr (0, [.ref sg, .ref sl, .int len])), (sg, .inl (gI G, 40, .inl fsg)), (sl, .inl (gI G, 10, .inl g))] H := hP
  have hD : va_D A [(pad, .inr (0, [.ref sg, .ref sl, .int len])), (sg, .inl (gI G, 40, .inl fsg)), (sl, .inl (gI G, 10, .inl g))] := hD
  refine lv_iload_n hx hb dX2_readSlips_4 rfl (lv_at hl 1 rfl) ?_
  refine lv_aload_n hx hb dX2_readSlips_5 rfl (lv_at hl 2 rfl) ?_
  refine va_get (D := G.1) (ci := 0) (v := .ref sl) (C := RX2) (T := TX2) (N := 3) hx hb hts (fun _ h => List.mem_cons_of_mem _ (List.mem_append_right _ h)) hown E.K hP 0 rfl rfl 1 (by decide) (hts (.fieldLink RX2 15 "LastMap$Pad" "slips" "[I") (by decide +kernel)) (fun _ h9 => h9) rfl dX2_readSlips_6 ?_
  refine va_alen (v := 10) hx hb E.K hP 2 1 rfl rfl rfl dX2_readSlips_9 ?_
  refine lv_icmp_ge (tgt := 80) hx hb dX2_readSlips_10 (by decide) (fun c1 => ?_) (fun c1 => ?_)
  · refine lv_iload_n hx hb dX2_readSlips_80 rfl (lv_at hl 1 rfl) ?_
    have hP9 := hP.sub (ws' := [(pad, .inr (0, [.ref sg, .ref sl, .int len])), (sg, .inl (gI G, 40, .inl fsg)), (sl, .inl (gI G, 10, .inl g))]) [0, 1, 2] rfl
    have hD9 := hD.sub (ws' := [(pad, .inr (0, [.ref sg, .ref sl, .int len])), (sg, .inl (gI G, 40, .inl fsg)), (sl, .inl (gI G, 10, .inl g))]) [0, 1, 2] (by decide) rfl
    exact W.iret (v := x) hx hb hr (fun t ht hW => ⟨⟨x, g, rfl, trivial, by rw [ht]; exact hP9, hD9⟩, hS.F ht⟩) hS.2.2 dX2_readSlips_81
  · have hlt4 : x.toInt < (10 : Int32).toInt := by ((try simp only [inR, inS, i3_lt, i3_le, i3_eq, i6_lt, i6_le, Int32.toInt_toInt64, lg_cmp_lt, lg_cmp_gt, lg_cmp_ge, lg_cmp_le, Int32.reduceToInt, Int64.reduceToInt] at c1 ⊢); omega)
    refine lv_iload_n hx hb dX2_readSlips_13 rfl (lv_at hl 0 rfl) ?_
    refine lv_aload_n hx hb dX2_readSlips_14 rfl (lv_at hl 2 rfl) ?_
    refine va_get (D := G.1) (ci := 0) (v := .int len) (C := RX2) (T := TX2) (N := 3) hx hb hts (fun _ h => List.mem_cons_of_mem _ (List.mem_append_right _ h)) hown E.K hP 0 rfl rfl 2 (by decide) (hts (.fieldLink RX2 18 "LastMap$Pad" "length" "I") (by decide +kernel)) (fun _ h9 => h9) rfl dX2_readSlips_15 ?_
    refine lv_icmp_ge (tgt := 80) hx hb dX2_readSlips_18 (by decide) (fun c2 => ?_) (fun c2 => ?_)
    · refine lv_iload_n hx hb dX2_readSlips_80 rfl (lv_at hl 1 rfl) ?_
      have hP9 := hP.sub (ws' := [(pad, .inr (0, [.ref sg, .ref sl, .int len])), (sg, .inl (gI G, 40, .inl fsg)), (sl, .inl (gI G, 10, .inl g))]) [0, 1, 2] rfl
      have hD9 := hD.sub (ws' := [(pad, .inr (0, [.ref sg, .ref sl, .int len])), (sg, .inl (gI G, 40, .inl fsg)), (sl, .inl (gI G, 10, .inl g))]) [0, 1, 2] (by decide) rfl
      exact W.iret (v := x) hx hb hr (fun t ht hW => ⟨⟨x, g, rfl, trivial, by rw [ht]; exact hP9, hD9⟩, hS.F ht⟩) hS.2.2 dX2_readSlips_81
    · refine lv_aload_n hx hb dX2_readSlips_21 rfl (lv_at hl 2 rfl) ?_
      refine lv_iload_n hx hb dX2_readSlips_22 rfl (lv_at hl 0 rfl) ?_
      refine ca_iR (va_runV (As := [.int y]) (rest := []) ⟨hx, hb, hml, hown, hts⟩ (c_kindAt l G H.size pad sg sl len fsg g y) (cwV 1 hts gX2_readSlips_X2_kindAt rfl rfl rfl (by decide +kernel) ⟨by decide +kernel, by decide +kernel⟩) (pre_V E hP hD hS hA [0, 1, 2] (by decide) rfl 0 0 rfl rfl) rfl rfl hl.1 rfl (lv_room (Nat.le_of_ble_eq_true rfl)) dX2_readSlips_23 ⟨by decide +kernel, by decide +kernel⟩) hS hP hD hA [0, 1, 2] rfl (fun r4 _ H locs w3 hP hS => ?_)
      refine lv_istore_n (lv' := [(3, .int r4), (2, .int y), (1, .int x), (0, .ref pad)]) hx hb dX2_readSlips_26 rfl hl (by decide) rfl (fun ls hl => ?_)
      refine lv_iload_n hx hb dX2_readSlips_27 rfl (lv_at hl 0 rfl) ?_
      refine lv_if_ne (tgt := 41) hx hb dX2_readSlips_28 (by decide) (fun c5 => ?_) (fun c5 => ?_)
      · refine lv_iconst (v := 0) hx hb dX2_readSlips_41 (by decide) ?_
        refine lv_istore (lv' := [(4, .int 0), (3, .int r4), (2, .int y), (1, .int x), (0, .ref pad)]) hx hb dX2_readSlips_42 hl (by decide) rfl (fun ls hl => ?_)
        refine lv_aload_n hx hb dX2_readSlips_44 rfl (lv_at hl 4 rfl) ?_
        refine va_get (D := G.1) (ci := 0) (v := .ref sl) (C := RX2) (T := TX2) (N := 3) hx hb hts (fun _ h => List.mem_cons_of_mem _ (List.mem_append_right _ h)) hown E.K hP 0 rfl rfl 1 (by decide) (hts (.fieldLink RX2 15 "LastMap$Pad" "slips" "[I") (by decide +kernel)) (fun _ h9 => h9) rfl dX2_readSlips_45 ?_
        refine lv_iload_n hx hb dX2_readSlips_48 rfl (lv_at hl 3 rfl) ?_
        refine lv_iload_n hx hb dX2_readSlips_49 rfl (lv_at hl 1 rfl) ?_
        refine lv_aload_n hx hb dX2_readSlips_50 rfl (lv_at hl 4 rfl) ?_
        refine lv_iload_n hx hb dX2_readSlips_51 rfl (lv_at hl 2 rfl) ?_
        refine lv_iconst (v := 1) hx hb dX2_readSlips_52 (by decide) ?_
        refine lv_iadd hx hb dX2_readSlips_53 ?_
        refine lv_topi (fun x6 ex6 => ?_)
        refine ca_iR (va_runV (As := [.int x6]) (rest := [.int r4, .int x, .ref sl]) ⟨hx, hb, hml, hown, hts⟩ (c_padSign l G H.size pad sg sl len fsg g x6) (cwV 1 hts gX2_readSlips_X2_signAt rfl rfl rfl (by decide +kernel) ⟨by decide +kernel, by decide +kernel⟩) (pre_V E hP hD hS hA [0, 1, 2] (by decide) rfl 0 0 rfl rfl) rfl rfl hl.1 rfl (lv_room (Nat.le_of_ble_eq_true rfl)) dX2_readSlips_54 ⟨by decide +kernel, by decide +kernel⟩) hS hP hD hA [0, 1, 2] rfl (fun r8 _ H locs w7 hP hS => ?_)
        refine lv_bipush (v := 48) hx hb dX2_readSlips_57 (by decide) ?_
        refine lv_isub hx hb dX2_readSlips_59 ?_
        refine lv_topi (fun x9 ex9 => ?_)
        refine lv_iload hx hb dX2_readSlips_60 (lv_at hl 0 rfl) ?_
        refine ca_iR (va_runS (As := [.int r4, .int x9, .int 0]) (rest := [.int x, .ref sl]) ⟨hx, hb, hml, hown, hts⟩ (c_slipNumber l G H.size r4 x9 0) (va_cwS 3 hts gX2_readSlips_X6_number rfl rfl rfl (by decide +kernel) ⟨by decide +kernel, by decide +kernel⟩) (pre_S E hP hD hS hA [] (by decide) rfl) rfl rfl hl.1 rfl (lv_room (Nat.le_of_ble_eq_true rfl)) dX2_readSlips_62 ⟨by decide +kernel, by decide +kernel⟩) hS hP hD hA [] rfl (fun r11 _ H locs w10 hP hS => ?_)
        refine va_iast hx hb E.K hP hD hS 2 1 rfl rfl (i := x) (vp_in_iff.mpr ⟨by omega, by have q := hlt4; simp only [Int32.reduceToInt] at q; omega⟩) dX2_readSlips_65 (fun H locs hP hD hS => ?_)
        obtain ⟨f12, ef12⟩ : ∃ yy_ : Nat → Int32, yy_ = upd g x.toNatClampNeg r11 := ⟨_, rfl⟩
        have hP : va_P G.1 vwCl [(pad, .inr (0, [.ref sg, .ref sl, .int len])), (sg, .inl (gI G, 40, .inl fsg)), (sl, .inl (gI G, 10, .inl f12))] H := by rw [ef12]; exact hP
        have hD : va_D A [(pad, .inr (0, [.ref sg, .ref sl, .int len])), (sg, .inl (gI G, 40, .inl fsg)), (sl, .inl (gI G, 10, .inl f12))] := by rw [ef12]; exact hD
        obtain ⟨x13, ex13⟩ : ∃ yy_ : Int32, yy_ = x + 1 := ⟨_, rfl⟩
        refine lv_iinc (v := x13) (lv' := [(1, .int x13), (4, .int 0), (3, .int r4), (2, .int y), (0, .ref pad)]) hx hb dX2_readSlips_66 hl (k := 3) rfl (by rw [ex13]; rfl) (by decide) rfl (fun ls hl => ?_)
        refine lv_iload_n hx hb dX2_readSlips_69 rfl (lv_at hl 3 rfl) ?_
        refine lv_aload_n hx hb dX2_readSlips_70 rfl (lv_at hl 4 rfl) ?_
        refine lv_iload_n hx hb dX2_readSlips_71 rfl (lv_at hl 3 rfl) ?_
        refine ca_iR (va_runV (As := [.int y]) (rest := [.int y]) ⟨hx, hb, hml, hown, hts⟩ (c_lengthOfSlip l G H.size pad sg sl len fsg f12 y) (cwV 1 hts gX2_readSlips_X2_lengthOfSlip rfl rfl rfl (by decide +kernel) ⟨by decide +kernel, by decide +kernel⟩) (pre_V E hP hD hS hA [0, 1, 2] (by decide) rfl 0 0 rfl rfl) rfl rfl hl.1 rfl (lv_room (Nat.le_of_ble_eq_true rfl)) dX2_readSlips_72 ⟨by decide +kernel, by decide +kernel⟩) hS hP hD hA [0, 1, 2] rfl (fun r15 _ H locs w14 hP hS => ?_)
        refine lv_iadd hx hb dX2_readSlips_75 ?_
        refine lv_topi (fun x16 ex16 => ?_)
        refine lv_istore_n (lv' := [(2, .int x16), (1, .int x13), (4, .int 0), (3, .int r4), (0, .ref pad)]) hx hb dX2_readSlips_76 rfl hl (by decide) rfl (fun ls hl => ?_)
        refine lv_goto (tgt := 4) hx hb dX2_readSlips_77 (by decide) ?_
        have hinc4 := inc_lt hlt4 ex13
        refine ih4 (x13, x16, f12) ?_ (by first | omega | (dsimp only; omega)) H locs ls (hP.sub [0, 1, 2] rfl) (hD.sub [0, 1, 2] (by decide) rfl) hS (lv_sub hl [0, 1, 4] rfl)
        try dsimp only
        omega
      · refine lv_aload_n hx hb dX2_readSlips_31 rfl (lv_at hl 3 rfl) ?_
        refine lv_iload_n hx hb dX2_readSlips_32 rfl (lv_at hl 1 rfl) ?_
        refine lv_iconst (v := 2) hx hb dX2_readSlips_33 (by decide) ?_
        refine lv_iadd hx hb dX2_readSlips_34 ?_
        refine lv_topi (fun x17 ex17 => ?_)
        refine ca_iR (va_runV (As := [.int x17]) (rest := []) ⟨hx, hb, hml, hown, hts⟩ (c_padMark l G H.size pad sg sl len fsg g x17) (cwV 1 hts gX2_readSlips_X2_markAt rfl rfl rfl (by decide +kernel) ⟨by decide +kernel, by decide +kernel⟩) (pre_V E hP hD hS hA [0, 1, 2] (by decide) rfl 0 0 rfl rfl) rfl rfl hl.1 rfl (lv_room (Nat.le_of_ble_eq_true rfl)) dX2_readSlips_35 ⟨by decide +kernel, by decide +kernel⟩) hS hP hD hA [0, 1, 2] rfl (fun r19 _ H locs w18 hP hS => ?_)
        refine lv_goto (tgt := 42) hx hb dX2_readSlips_38 (by decide) ?_
        refine lv_istore (lv' := [(4, .int r19), (3, .int r4), (2, .int y), (1, .int x), (0, .ref pad)]) hx hb dX2_readSlips_42 hl (by decide) rfl (fun ls hl => ?_)
        refine lv_aload_n hx hb dX2_readSlips_44 rfl (lv_at hl 4 rfl) ?_
        refine va_get (D := G.1) (ci := 0) (v := .ref sl) (C := RX2) (T := TX2) (N := 3) hx hb hts (fun _ h => List.mem_cons_of_mem _ (List.mem_append_right _ h)) hown E.K hP 0 rfl rfl 1 (by decide) (hts (.fieldLink RX2 15 "LastMap$Pad" "slips" "[I") (by decide +kernel)) (fun _ h9 => h9) rfl dX2_readSlips_45 ?_
        refine lv_iload_n hx hb dX2_readSlips_48 rfl (lv_at hl 3 rfl) ?_
        refine lv_iload_n hx hb dX2_readSlips_49 rfl (lv_at hl 1 rfl) ?_
        refine lv_aload_n hx hb dX2_readSlips_50 rfl (lv_at hl 4 rfl) ?_
        refine lv_iload_n hx hb dX2_readSlips_51 rfl (lv_at hl 2 rfl) ?_
        refine lv_iconst (v := 1) hx hb dX2_readSlips_52 (by decide) ?_
        refine lv_iadd hx hb dX2_readSlips_53 ?_
        refine lv_topi (fun x20 ex20 => ?_)
        refine ca_iR (va_runV (As := [.int x20]) (rest := [.int r4, .int x, .ref sl]) ⟨hx, hb, hml, hown, hts⟩ (c_padSign l G H.size pad sg sl len fsg g x20) (cwV 1 hts gX2_readSlips_X2_signAt rfl rfl rfl (by decide +kernel) ⟨by decide +kernel, by decide +kernel⟩) (pre_V E hP hD hS hA [0, 1, 2] (by decide) rfl 0 0 rfl rfl) rfl rfl hl.1 rfl (lv_room (Nat.le_of_ble_eq_true rfl)) dX2_readSlips_54 ⟨by decide +kernel, by decide +kernel⟩) hS hP hD hA [0, 1, 2] rfl (fun r22 _ H locs w21 hP hS => ?_)
        refine lv_bipush (v := 48) hx hb dX2_readSlips_57 (by decide) ?_
        refine lv_isub hx hb dX2_readSlips_59 ?_
        refine lv_topi (fun x23 ex23 => ?_)
        refine lv_iload hx hb dX2_readSlips_60 (lv_at hl 0 rfl) ?_
        refine ca_iR (va_runS (As := [.int r4, .int x23, .int r19]) (rest := [.int x, .ref sl]) ⟨hx, hb, hml, hown, hts⟩ (c_slipNumber l G H.size r4 x23 r19) (va_cwS 3 hts gX2_readSlips_X6_number rfl rfl rfl (by decide +kernel) ⟨by decide +kernel, by decide +kernel⟩) (pre_S E hP hD hS hA [] (by decide) rfl) rfl rfl hl.1 rfl (lv_room (Nat.le_of_ble_eq_true rfl)) dX2_readSlips_62 ⟨by decide +kernel, by decide +kernel⟩) hS hP hD hA [] rfl (fun r25 _ H locs w24 hP hS => ?_)
        refine va_iast hx hb E.K hP hD hS 2 1 rfl rfl (i := x) (vp_in_iff.mpr ⟨by omega, by have q := hlt4; simp only [Int32.reduceToInt] at q; omega⟩) dX2_readSlips_65 (fun H locs hP hD hS => ?_)
        obtain ⟨f26, ef26⟩ : ∃ yy_ : Nat → Int32, yy_ = upd g x.toNatClampNeg r25 := ⟨_, rfl⟩
        have hP : va_P G.1 vwCl [(pad, .inr (0, [.ref sg, .ref sl, .int len])), (sg, .inl (gI G, 40, .inl fsg)), (sl, .inl (gI G, 10, .inl f26))] H := by rw [ef26]; exact hP
        have hD : va_D A [(pad, .inr (0, [.ref sg, .ref sl, .int len])), (sg, .inl (gI G, 40, .inl fsg)), (sl, .inl (gI G, 10, .inl f26))] := by rw [ef26]; exact hD
        obtain ⟨x27, ex27⟩ : ∃ yy_ : Int32, yy_ = x + 1 := ⟨_, rfl⟩
        refine lv_iinc (v := x27) (lv' := [(1, .int x27), (4, .int r19), (3, .int r4), (2, .int y), (0, .ref pad)]) hx hb dX2_readSlips_66 hl (k := 3) rfl (by rw [ex27]; rfl) (by decide) rfl (fun ls hl => ?_)
        refine lv_iload_n hx hb dX2_readSlips_69 rfl (lv_at hl 3 rfl) ?_
        refine lv_aload_n hx hb dX2_readSlips_70 rfl (lv_at hl 4 rfl) ?_
        refine lv_iload_n hx hb dX2_readSlips_71 rfl (lv_at hl 3 rfl) ?_
        refine ca_iR (va_runV (As := [.int y]) (rest := [.int y]) ⟨hx, hb, hml, hown, hts⟩ (c_lengthOfSlip l G H.size pad sg sl len fsg f26 y) (cwV 1 hts gX2_readSlips_X2_lengthOfSlip rfl rfl rfl (by decide +kernel) ⟨by decide +kernel, by decide +kernel⟩) (pre_V E hP hD hS hA [0, 1, 2] (by decide) rfl 0 0 rfl rfl) rfl rfl hl.1 rfl (lv_room (Nat.le_of_ble_eq_true rfl)) dX2_readSlips_72 ⟨by decide +kernel, by decide +kernel⟩) hS hP hD hA [0, 1, 2] rfl (fun r29 _ H locs w28 hP hS => ?_)
        refine lv_iadd hx hb dX2_readSlips_75 ?_
        refine lv_topi (fun x30 ex30 => ?_)
        refine lv_istore_n (lv' := [(2, .int x30), (1, .int x27), (4, .int r19), (3, .int r4), (0, .ref pad)]) hx hb dX2_readSlips_76 rfl hl (by decide) rfl (fun ls hl => ?_)
        refine lv_goto (tgt := 4) hx hb dX2_readSlips_77 (by decide) ?_
        have hinc4 := inc_lt hlt4 ex27
        refine ih4 (x27, x30, f26) ?_ (by first | omega | (dsimp only; omega)) H locs ls (hP.sub [0, 1, 2] rfl) (hD.sub [0, 1, 2] (by decide) rfl) hS (lv_sub hl [0, 1, 4] rfl)
        try dsimp only
        omega

set_option maxHeartbeats 1000000 in
set_option maxRecDepth 100000 in
theorem c_tell (l : Launch) (G : Gy) (sz : Nat) (pp : Nat) (ac : Nat) (ak : Nat) (n : Int32) (told : Int32) (sp : Int32) (gr : Int32) (fc : Nat → Int32) (fk : Nat → Int32) (p0 : Int32) (p1 : Int32)  : Cv l G yX3_tell wsX3_tell ({ frames := 0, cells := 0, slots := 0, locals := 0 }) [.ref pp, .int p0, .int p1] [(pp, .inr (1, [.int n, .int told, .int sp, .int gr, .ref ac, .ref ak])), (ac, .inl (gI G, 6, .inl fc)), (ak, .inl (gI G, 4, .inl fk))] sz (fun (u : Int32 × (Nat → Int32)) => match u with | (told1, fc1) => True) (fun (u : Int32 × (Nat → Int32)) => match u with | (told1, fc1) => [(pp, .inr (1, [.int n, .int told1, .int sp, .int gr, .ref ac, .ref ak])), (ac, .inl (gI G, 6, .inl fc1)), (ak, .inl (gI G, 4, .inl fk))]) 0 0 := by
  refine Met.ofW (cc := cX3_tell) (maxL := 3) (ret := none) (by decide) rfl ?_
  intro p e s m args below meth c s₁ B hml hv
  obtain ⟨rfl, hsz, hP, hD0, E0⟩ := hv
  have hx := B.exec
  have hb := B.bytes
  have hr := B.returns
  have hts := atoms_spec (ws := wsX3_tell) B.pre
  have hown : s.vm.findClass RX3 = some m.cls := findClass_of_methodNamed B.named
  have hlocks := B.notSynchronized
  subst hsz
  have hD := hD0.self (sz := s.heap.size)
  generalize hAe : va_A [(pp, .inr (1, [.int n, .int told, .int sp, .int gr, .ref ac, .ref ak])), (ac, .inl (gI G, 6, .inl fc)), (ak, .inl (gI G, 4, .inl fk))] s.heap.size = A at hD E0 ⊢
  have E : EV G A s s.heap := E0
  have hA : ∀ q : Nat, s.heap.size ≤ q → A q := fun q h => by rw [← hAe]; exact Or.inr h
  have hS : va_S A s.heap s.heap [] := va_S.rf
  have hl := lv_entry ([.ref pp, .int p0, .int p1]) (n := 3) (Nat.le_of_ble_eq_true rfl)
  rw [lg_entry_eq]
  generalize (lg_sl ([.ref pp, .int p0, .int p1]) ++ List.replicate (3 - (lg_sl ([.ref pp, .int p0, .int p1])).length) Slot.unset).toArray = ls at hl ⊢
  have hl : lv_has ls 3 [(0, .ref pp), (1, .int p0), (2, .int p1)] := hl
  have hP : va_P G.1 vwCl [(pp, .inr (1, [.int n, .int told, .int sp, .int gr, .ref ac, .ref ak])), (ac, .inl (gI G, 6, .inl fc)), (ak, .inl (gI G, 4, .inl fk))] s.heap := hP
  refine lv_iload_n hx hb dX3_tell_0 rfl (lv_at hl 1 rfl) ?_
  refine lv_if_lt (tgt := 32) hx hb dX3_tell_1 (by decide) (fun c1 => ?_) (fun c1 => ?_)
  · have hP9 := hP.sub (ws' := [(pp, .inr (1, [.int n, .int told, .int sp, .int gr, .ref ac, .ref ak])), (ac, .inl (gI G, 6, .inl fc)), (ak, .inl (gI G, 4, .inl fk))]) [0, 1, 2] rfl
    have hD9 := hD.sub (ws' := [(pp, .inr (1, [.int n, .int told, .int sp, .int gr, .ref ac, .ref ak])), (ac, .inl (gI G, 6, .inl fc)), (ak, .inl (gI G, 4, .inl fk))]) [0, 1, 2] (by decide) rfl
    exact W.vret hx hb hr (fun t ht hW => ⟨⟨(told, fc), rfl, trivial, by rw [ht]; exact hP9, hD9⟩, hS.F ht⟩) hS.2.2 dX3_tell_32
  · refine lv_iload_n hx hb dX3_tell_4 rfl (lv_at hl 1 rfl) ?_
    refine lv_aload_n hx hb dX3_tell_5 rfl (lv_at hl 0 rfl) ?_
    refine va_get (D := G.1) (ci := 1) (v := .ref ac) (C := RX3) (T := TX3) (N := 6) hx hb hts (fun _ h => List.mem_cons_of_mem _ (List.mem_append_right _ h)) hown E.K hP 0 rfl rfl 4 (by decide) (hts (.fieldLink RX3 18 "LastMap$Papers" "codes" "[I") (by decide +kernel)) (fun _ h9 => h9) rfl dX3_tell_6 ?_
    refine va_alen (v := 6) hx hb E.K hP 1 1 rfl rfl rfl dX3_tell_9 ?_
    refine lv_icmp_ge (tgt := 32) hx hb dX3_tell_10 (by decide) (fun c2 => ?_) (fun c2 => ?_)
    · have hP9 := hP.sub (ws' := [(pp, .inr (1, [.int n, .int told, .int sp, .int gr, .ref ac, .ref ak])), (ac, .inl (gI G, 6, .inl fc)), (ak, .inl (gI G, 4, .inl fk))]) [0, 1, 2] rfl
      have hD9 := hD.sub (ws' := [(pp, .inr (1, [.int n, .int told, .int sp, .int gr, .ref ac, .ref ak])), (ac, .inl (gI G, 6, .inl fc)), (ak, .inl (gI G, 4, .inl fk))]) [0, 1, 2] (by decide) rfl
      exact W.vret hx hb hr (fun t ht hW => ⟨⟨(told, fc), rfl, trivial, by rw [ht]; exact hP9, hD9⟩, hS.F ht⟩) hS.2.2 dX3_tell_32
    · refine lv_aload_n hx hb dX3_tell_13 rfl (lv_at hl 0 rfl) ?_
      refine va_get (D := G.1) (ci := 1) (v := .ref ac) (C := RX3) (T := TX3) (N := 6) hx hb hts (fun _ h => List.mem_cons_of_mem _ (List.mem_append_right _ h)) hown E.K hP 0 rfl rfl 4 (by decide) (hts (.fieldLink RX3 18 "LastMap$Papers" "codes" "[I") (by decide +kernel)) (fun _ h9 => h9) rfl dX3_tell_14 ?_
      refine lv_iload_n hx hb dX3_tell_17 rfl (lv_at hl 1 rfl) ?_
      refine lv_iload_n hx hb dX3_tell_18 rfl (lv_at hl 2 rfl) ?_
      refine va_iast hx hb E.K hP hD hS 1 1 rfl rfl (i := p0) (vp_in_iff.mpr (by ((try simp only [inR, inS, i3_lt, i3_le, i3_eq, i6_lt, i6_le, Int32.toInt_toInt64, lg_cmp_lt, lg_cmp_gt, lg_cmp_ge, lg_cmp_le, Int32.reduceToInt, Int64.reduceToInt] at c1 c2 ⊢); omega))) dX3_tell_19 (fun H locs hP hD hS => ?_)
      obtain ⟨f3, ef3⟩ : ∃ yy_ : Nat → Int32, yy_ = upd fc p0.toNatClampNeg p1 := ⟨_, rfl⟩
      have hP : va_P G.1 vwCl [(pp, .inr (1, [.int n, .int told, .int sp, .int gr, .ref ac, .ref ak])), (ac, .inl (gI G, 6, .inl f3)), (ak, .inl (gI G, 4, .inl fk))] H := by rw [ef3]; exact hP
      have hD : va_D A [(pp, .inr (1, [.int n, .int told, .int sp, .int gr, .ref ac, .ref ak])), (ac, .inl (gI G, 6, .inl f3)), (ak, .inl (gI G, 4, .inl fk))] := by rw [ef3]; exact hD
      refine lv_aload_n hx hb dX3_tell_20 rfl (lv_at hl 0 rfl) ?_
      refine lv_dup hx hb dX3_tell_21 rfl ?_
      refine va_get (D := G.1) (ci := 1) (v := .int told) (C := RX3) (T := TX3) (N := 6) hx hb hts (fun _ h => List.mem_cons_of_mem _ (List.mem_append_right _ h)) hown E.K hP 0 rfl rfl 1 (by decide) (hts (.fieldLink RX3 25 "LastMap$Papers" "toldMaps" "I") (by decide +kernel)) (fun _ h9 => h9) rfl dX3_tell_22 ?_
      refine lv_iconst (v := 1) hx hb dX3_tell_25 (by decide) ?_
      refine lv_iload_n hx hb dX3_tell_26 rfl (lv_at hl 1 rfl) ?_
      refine lv_ishl hx hb dX3_tell_27 ?_
      refine lv_topi (fun x4 ex4 => ?_)
      refine lv_ior hx hb dX3_tell_28 ?_
      refine lv_topi (fun x5 ex5 => ?_)
      refine va_put (D := G.1) (ci := 1) (v := .int x5) (ty := .int) (C := RX3) (T := TX3) (N := 6) hx hb hts (fun _ h => List.mem_cons_of_mem _ (List.mem_append_right _ h)) tyX3 tyX3_ok nmX3 hown E.K hP hD hS 0 rfl rfl 1 (by decide) (hts (.fieldLink RX3 25 "LastMap$Papers" "toldMaps" "I") (by decide +kernel)) (fun _ h9 => h9) rfl (by decide +kernel) rfl rfl (Nat.le_of_ble_eq_true rfl) dX3_tell_29 (fun H locs hP hD hS => ?_)
      have hP : va_P G.1 vwCl [(pp, .inr (1, [.int n, .int x5, .int sp, .int gr, .ref ac, .ref ak])), (ac, .inl (gI G, 6, .inl f3)), (ak, .inl (gI G, 4, .inl fk))] H := hP
      have hD : va_D A [(pp, .inr (1, [.int n, .int x5, .int sp, .int gr, .ref ac, .ref ak])), (ac, .inl (gI G, 6, .inl f3)), (ak, .inl (gI G, 4, .inl fk))] := hD
      have hP9 := hP.sub (ws' := [(pp, .inr (1, [.int n, .int x5, .int sp, .int gr, .ref ac, .ref ak])), (ac, .inl (gI G, 6, .inl f3)), (ak, .inl (gI G, 4, .inl fk))]) [0, 1, 2] rfl
      have hD9 := hD.sub (ws' := [(pp, .inr (1, [.int n, .int x5, .int sp, .int gr, .ref ac, .ref ak])), (ac, .inl (gI G, 6, .inl f3)), (ak, .inl (gI G, 4, .inl fk))]) [0, 1, 2] (by decide) rfl
      exact W.vret hx hb hr (fun t ht hW => ⟨⟨(x5, f3), rfl, trivial, by rw [ht]; exact hP9, hD9⟩, hS.F ht⟩) hS.2.2 dX3_tell_32
