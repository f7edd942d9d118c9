set_option maxHeartbeats 1000000 in
set_option maxRecDepth 100000 in
theorem c_onlyMap (l : Launch) (G : Gy) (sz : Nat) (p0 : Int32) (p1 : Int32)  : Ci l G yX0_onlyMap wsX0_onlyMap ({ frames := 2, cells := 0, slots := 0, locals := 42 }) [.int p0, .int p1] [] sz (fun (r : Int32) (_ : Unit) => True) (fun (_ : Unit) => []) 0 0 := by
  refine Met.ofW (cc := cX0_onlyMap) (maxL := 4) (ret := (some .int)) (by decide) rfl ?_
  intro p e s m args below meth c s₁ B hml hv
  obtain ⟨rfl, hsz, hP, hD0, E0⟩ := hv
  have hx := B.exec
  have hb := B.bytes
  have hr := B.returns
  have hts := atoms_spec (ws := wsX0_onlyMap) B.pre
  have hown : s.vm.findClass RX0 = some m.cls := findClass_of_methodNamed B.named
  have hlocks := B.notSynchronized
  subst hsz
  have hD := hD0.self (sz := s.heap.size)
  generalize hAe : va_A [] s.heap.size = A at hD E0 ⊢
  have E : EV G A s s.heap := E0
  have hA : ∀ q : Nat, s.heap.size ≤ q → A q := fun q h => by rw [← hAe]; exact Or.inr h
  have hS : va_S A s.heap s.heap [] := va_S.rf
  have hl := lv_entry ([.int p0, .int p1]) (n := 4) (Nat.le_of_ble_eq_true rfl)
  rw [lg_entry_eq]
  generalize (lg_sl ([.int p0, .int p1]) ++ List.replicate (4 - (lg_sl ([.int p0, .int p1])).length) Slot.unset).toArray = ls at hl ⊢
  have hl : lv_has ls 4 [(0, .int p0), (1, .int p1)] := hl
  have hP : va_P G.1 vwCl [] s.heap := hP
  refine lv_iconst (v := 0) hx hb dX0_onlyMap_0 (by decide) ?_
  refine lv_istore_n (lv' := [(2, .int 0), (0, .int p0), (1, .int p1)]) hx hb dX0_onlyMap_1 rfl hl (by decide) rfl (fun ls hl => ?_)
  refine lv_iconst (v := 0) hx hb dX0_onlyMap_2 (by decide) ?_
  refine lv_istore_n (lv' := [(3, .int 0), (2, .int 0), (0, .int p0), (1, .int p1)]) hx hb dX0_onlyMap_3 rfl hl (by decide) rfl (fun ls hl => ?_)
  refine lp_run (x0 := (0, 0)) (fun xx_ : Int32 × Int32 => match xx_ with | (x, g) => []) (fun xx_ : Int32 × Int32 => match xx_ with | (x, g) => [(3, .int x), (2, .int g), (0, .int p0), (1, .int p1)]) (fun xx_ : Int32 × Int32 => match xx_ with | (x, g) => (0 ≤ x.toInt)) (fun xx_ : Int32 × Int32 => match xx_ with | (x, g) => (p1.toInt - x.toInt).toNat) (hP.sub [] rfl) (hD.sub [] (by decide) rfl) hS (lv_sub hl [0, 1, 2, 3] rfl) (show (0 : Int) ≤ (0 : Int32).toInt by first | decide | omega | assumption) ?_
  intro xx_ hI ih4 H locs ls hP hD hS hl
  obtain ⟨x, g⟩ := xx_
  dsimp only at hI ih4 hP hD hl
  have hx0 := hI
  have hl : lv_has ls 4 [(3, .int x), (2, .int g), (0, .int p0), (1, .int p1)] := hl
  have hP : va_P G.1 vwCl [] H := hP
  have hD : va_D A [] := hD
  refine lv_iload_n hx hb dX0_onlyMap_4 rfl (lv_at hl 0 rfl) ?_
  refine lv_iload_n hx hb dX0_onlyMap_5 rfl (lv_at hl 3 rfl) ?_
  refine lv_icmp_ge (tgt := 26) hx hb dX0_onlyMap_6 (by decide) (fun c1 => ?_) (fun c1 => ?_)
  · refine lv_iload_n hx hb dX0_onlyMap_26 rfl (lv_at hl 1 rfl) ?_
    have hP9 := hP.sub (ws' := []) [] rfl
    have hD9 := hD.sub (ws' := []) [] (by decide) rfl
    exact W.iret (v := g) hx hb hr (fun t ht hW => ⟨⟨g, (), rfl, trivial, by rw [ht]; exact hP9, hD9⟩, hS.F ht⟩) hS.2.2 dX0_onlyMap_27
  · have hlt4 : x.toInt < p1.toInt := by ((try simp only [inR, inS, i3_lt, i3_le, i3_eq, i6_lt, i6_le, Int32.toInt_toInt64, lg_cmp_lt, lg_cmp_gt, lg_cmp_ge, lg_cmp_le, Int32.reduceToInt, Int64.reduceToInt] at c1 ⊢); omega)
    refine lv_iload_n hx hb dX0_onlyMap_9 rfl (lv_at hl 1 rfl) ?_
    refine lv_iload_n hx hb dX0_onlyMap_10 rfl (lv_at hl 0 rfl) ?_
    refine lv_iload_n hx hb dX0_onlyMap_11 rfl (lv_at hl 2 rfl) ?_
    refine lv_iload_n hx hb dX0_onlyMap_12 rfl (lv_at hl 0 rfl) ?_
    refine ca_iR (va_runS (As := [.int p0, .int x]) (rest := [.int x, .int g]) ⟨hx, hb, hml, hown, hts⟩ (c_signAt l G H.size p0 x) (va_cwS 2 hts gX0_onlyMap_X1_signAt rfl rfl rfl (by decide +kernel) ⟨by decide +kernel, by decide +kernel⟩) (pre_S E hP hD hS hA [] (by decide) rfl) rfl rfl hl.1 rfl (lv_room (Nat.le_of_ble_eq_true rfl)) dX0_onlyMap_13 ⟨by decide +kernel, by decide +kernel⟩) hS hP hD hA [] rfl (fun r3 _ H locs w2 hP hS => ?_)
    refine ca_iR (va_runS (As := [.int g, .int x, .int r3]) (rest := []) ⟨hx, hb, hml, hown, hts⟩ (c_goalWith l G H.size g x r3) (va_cwS 3 hts gX0_onlyMap_X0_with rfl rfl rfl (by decide +kernel) ⟨by decide +kernel, by decide +kernel⟩) (pre_S E hP hD hS hA [] (by decide) rfl) rfl rfl hl.1 rfl (lv_room (Nat.le_of_ble_eq_true rfl)) dX0_onlyMap_16 ⟨by decide +kernel, by decide +kernel⟩) hS hP hD hA [] rfl (fun r5 _ H locs w4 hP hS => ?_)
    refine lv_istore_n (lv' := [(2, .int r5), (3, .int x), (0, .int p0), (1, .int p1)]) hx hb dX0_onlyMap_19 rfl hl (by decide) rfl (fun ls hl => ?_)
    obtain ⟨x6, ex6⟩ : ∃ yy_ : Int32, yy_ = x + 1 := ⟨_, rfl⟩
    refine lv_iinc (v := x6) (lv' := [(3, .int x6), (2, .int r5), (0, .int p0), (1, .int p1)]) hx hb dX0_onlyMap_20 hl (k := 1) rfl (by rw [ex6]; rfl) (by decide) rfl (fun ls hl => ?_)
    refine lv_goto (tgt := 4) hx hb dX0_onlyMap_23 (by decide) ?_
    have hinc4 := inc_lt hlt4 ex6
    refine ih4 (x6, r5) ?_ (by first | omega | (dsimp only; omega)) H locs ls (hP.sub [] rfl) (hD.sub [] (by decide) rfl) hS (lv_sub hl [0, 1, 2, 3] rfl)
    try dsimp only
    omega

set_option maxHeartbeats 1000000 in
set_option maxRecDepth 100000 in
theorem c_fwSlip (l : Launch) (G : Gy) (sz : Nat) (pad : Nat) (sg : Nat) (sl : Nat) (len : Int32) (fsg : Nat → Int32) (fsl : Nat → Int32) (p0 : Int32) (p1 : Int32)  : Ci l G yX2_firstWrongOfSlip wsX2_firstWrongOfSlip ({ frames := 2, cells := 0, slots := 0, locals := 42 }) [.ref pad, .int p0, .int p1] [(pad, .inr (0, [.ref sg, .ref sl, .int len])), (sg, .inl (gI G, 40, .inl fsg)), (sl, .inl (gI G, 10, .inl fsl))] sz (fun (r : Int32) (_ : Unit) => True) (fun (_ : Unit) => [(pad, .inr (0, [.ref sg, .ref sl, .int len])), (sg, .inl (gI G, 40, .inl fsg)), (sl, .inl (gI G, 10, .inl fsl))]) 0 0 := by
  refine Met.ofW (cc := cX2_firstWrongOfSlip) (maxL := 6) (ret := (some .int)) (by decide) rfl ?_
  intro p e s m args below meth c s₁ B hml hv
  obtain ⟨rfl, hsz, hP, hD0, E0⟩ := hv
  have hx := B.exec
  have hb := B.bytes
  have hr := B.returns
  have hts := atoms_spec (ws := wsX2_firstWrongOfSlip) B.pre
  have hown : s.vm.findClass RX2 = some m.cls := findClass_of_methodNamed B.named
  have hlocks := B.notSynchronized
  subst hsz
  have hD := hD0.self (sz := s.heap.size)
  generalize hAe : va_A [(pad, .inr (0, [.ref sg, .ref sl, .int len])), (sg, .inl (gI G, 40, .inl fsg)), (sl, .inl (gI G, 10, .inl fsl))] s.heap.size = A at hD E0 ⊢
  have E : EV G A s s.heap := E0
  have hA : ∀ q : Nat, s.heap.size ≤ q → A q := fun q h => by rw [← hAe]; exact Or.inr h
  have hS : va_S A s.heap s.heap [] := va_S.rf
  have hl := lv_entry ([.ref pad, .int p0, .int p1]) (n := 6) (Nat.le_of_ble_eq_true rfl)
  rw [lg_entry_eq]
  generalize (lg_sl ([.ref pad, .int p0, .int p1]) ++ List.replicate (6 - (lg_sl ([.ref pad, .int p0, .int p1])).length) Slot.unset).toArray = ls at hl ⊢
  have hl : lv_has ls 6 [(0, .ref pad), (1, .int p0), (2, .int p1)] := hl
  have hP : va_P G.1 vwCl [(pad, .inr (0, [.ref sg, .ref sl, .int len])), (sg, .inl (gI G, 40, .inl fsg)), (sl, .inl (gI G, 10, .inl fsl))] s.heap := hP
  refine lv_aload_n hx hb dX2_firstWrongOfSlip_0 rfl (lv_at hl 0 rfl) ?_
  refine lv_iload_n hx hb dX2_firstWrongOfSlip_1 rfl (lv_at hl 1 rfl) ?_
  refine ca_iR (va_runV (As := [.int p0]) (rest := []) ⟨hx, hb, hml, hown, hts⟩ (c_kindAt l G s.heap.size pad sg sl len fsg fsl p0) (cwV 1 hts gX2_firstWrongOfSlip_X2_kindAt rfl rfl rfl (by decide +kernel) ⟨by decide +kernel, by decide +kernel⟩) (pre_V E hP hD hS hA [0, 1, 2] (by decide) rfl 0 0 rfl rfl) rfl rfl hl.1 rfl (lv_room (Nat.le_of_ble_eq_true rfl)) dX2_firstWrongOfSlip_2 ⟨by decide +kernel, by decide +kernel⟩) hS hP hD hA [0, 1, 2] rfl (fun r2 _ H locs w1 hP hS => ?_)
  refine lv_istore_n (lv' := [(3, .int r2), (0, .ref pad), (1, .int p0), (2, .int p1)]) hx hb dX2_firstWrongOfSlip_5 rfl hl (by decide) rfl (fun ls hl => ?_)
  refine lv_iload_n hx hb dX2_firstWrongOfSlip_6 rfl (lv_at hl 0 rfl) ?_
  refine lv_if_ge (tgt := 12) hx hb dX2_firstWrongOfSlip_7 (by decide) (fun c3 => ?_) (fun c3 => ?_)
  · refine lv_iload_n hx hb dX2_firstWrongOfSlip_12 rfl (lv_at hl 2 rfl) ?_
    refine lv_iconst (v := 1) hx hb dX2_firstWrongOfSlip_13 (by decide) ?_
    refine lv_iadd hx hb dX2_firstWrongOfSlip_14 ?_
    refine lv_topi (fun x4 ex4 => ?_)
    refine lv_aload_n hx hb dX2_firstWrongOfSlip_15 rfl (lv_at hl 1 rfl) ?_
    refine va_get (D := G.1) (ci := 0) (v := .int len) (C := RX2) (T := TX2) (N := 3) hx hb hts (fun _ h => List.mem_cons_of_mem _ (List.mem_append_right _ h)) hown E.K hP 0 rfl rfl 2 (by decide) (hts (.fieldLink RX2 18 "LastMap$Pad" "length" "I") (by decide +kernel)) (fun _ h9 => h9) rfl dX2_firstWrongOfSlip_16 ?_
    refine lv_icmp_lt (tgt := 27) hx hb dX2_firstWrongOfSlip_19 (by decide) (fun c5 => ?_) (fun c5 => ?_)
    · refine lv_aload_n hx hb dX2_firstWrongOfSlip_27 rfl (lv_at hl 1 rfl) ?_
      refine lv_iload_n hx hb dX2_firstWrongOfSlip_28 rfl (lv_at hl 2 rfl) ?_
      refine lv_iconst (v := 1) hx hb dX2_firstWrongOfSlip_29 (by decide) ?_
      refine lv_iadd hx hb dX2_firstWrongOfSlip_30 ?_
      refine lv_topi (fun x6 ex6 => ?_)
      refine ca_iR (va_runV (As := [.int x6]) (rest := []) ⟨hx, hb, hml, hown, hts⟩ (c_padSign l G H.size pad sg sl len fsg fsl x6) (cwV 1 hts gX2_firstWrongOfSlip_X2_signAt rfl rfl rfl (by decide +kernel) ⟨by decide +kernel, by decide +kernel⟩) (pre_V E hP hD hS hA [0, 1, 2] (by decide) rfl 0 0 rfl rfl) rfl rfl hl.1 rfl (lv_room (Nat.le_of_ble_eq_true rfl)) dX2_firstWrongOfSlip_31 ⟨by decide +kernel, by decide +kernel⟩) hS hP hD hA [0, 1, 2] rfl (fun r8 _ H locs w7 hP hS => ?_)
      refine lv_bipush (v := 48) hx hb dX2_firstWrongOfSlip_34 (by decide) ?_
      refine lv_isub hx hb dX2_firstWrongOfSlip_36 ?_
      refine lv_topi (fun x9 ex9 => ?_)
      refine lv_istore (lv' := [(4, .int x9), (3, .int r2), (0, .ref pad), (1, .int p0), (2, .int p1)]) hx hb dX2_firstWrongOfSlip_37 hl (by decide) rfl (fun ls hl => ?_)
      refine lv_iload hx hb dX2_firstWrongOfSlip_39 (lv_at hl 0 rfl) ?_
      refine lv_if_lt (tgt := 54) hx hb dX2_firstWrongOfSlip_41 (by decide) (fun c10 => ?_) (fun c10 => ?_)
      · refine lv_iload_n hx hb dX2_firstWrongOfSlip_54 rfl (lv_at hl 3 rfl) ?_
        refine lv_iconst (v := 1) hx hb dX2_firstWrongOfSlip_55 (by decide) ?_
        refine lv_iadd hx hb dX2_firstWrongOfSlip_56 ?_
        refine lv_topi (fun x11 ex11 => ?_)
        have hP9 := hP.sub (ws' := [(pad, .inr (0, [.ref sg, .ref sl, .int len])), (sg, .inl (gI G, 40, .inl fsg)), (sl, .inl (gI G, 10, .inl fsl))]) [0, 1, 2] rfl
        have hD9 := hD.sub (ws' := [(pad, .inr (0, [.ref sg, .ref sl, .int len])), (sg, .inl (gI G, 40, .inl fsg)), (sl, .inl (gI G, 10, .inl fsl))]) [0, 1, 2] (by decide) rfl
        exact W.iret (v := x11) hx hb hr (fun t ht hW => ⟨⟨x11, (), rfl, trivial, by rw [ht]; exact hP9, hD9⟩, hS.F ht⟩) hS.2.2 dX2_firstWrongOfSlip_57
      · refine lv_iload hx hb dX2_firstWrongOfSlip_44 (lv_at hl 0 rfl) ?_
        refine lv_iload_n hx hb dX2_firstWrongOfSlip_46 rfl (lv_at hl 1 rfl) ?_
        refine lv_iload_n hx hb dX2_firstWrongOfSlip_47 rfl (lv_at hl 4 rfl) ?_
        refine ca_iR (va_runS (As := [.int r2, .int p1]) (rest := [.int x9]) ⟨hx, hb, hml, hown, hts⟩ (c_sitesFor l G H.size r2 p1) (va_cwS 2 hts gX2_firstWrongOfSlip_X6_sitesFor rfl rfl rfl (by decide +kernel) ⟨by decide +kernel, by decide +kernel⟩) (pre_S E hP hD hS hA [] (by decide) rfl) rfl rfl hl.1 rfl (lv_room (Nat.le_of_ble_eq_true rfl)) dX2_firstWrongOfSlip_48 ⟨by decide +kernel, by decide +kernel⟩) hS hP hD hA [] rfl (fun r13 _ H locs w12 hP hS => ?_)
        refine lv_icmp_lt (tgt := 58) hx hb dX2_firstWrongOfSlip_51 (by decide) (fun c14 => ?_) (fun c14 => ?_)
        · refine lv_iload_n hx hb dX2_firstWrongOfSlip_58 rfl (lv_at hl 1 rfl) ?_
          refine lv_if_eq (tgt := 65) hx hb dX2_firstWrongOfSlip_59 (by decide) (fun c15 => ?_) (fun c15 => ?_)
          · refine lv_iload_n hx hb dX2_firstWrongOfSlip_65 rfl (lv_at hl 3 rfl) ?_
            refine lv_iconst (v := 2) hx hb dX2_firstWrongOfSlip_66 (by decide) ?_
            refine lv_iadd hx hb dX2_firstWrongOfSlip_67 ?_
            refine lv_topi (fun x16 ex16 => ?_)
            refine lv_aload_n hx hb dX2_firstWrongOfSlip_68 rfl (lv_at hl 2 rfl) ?_
            refine va_get (D := G.1) (ci := 0) (v := .int len) (C := RX2) (T := TX2) (N := 3) hx hb hts (fun _ h => List.mem_cons_of_mem _ (List.mem_append_right _ h)) hown E.K hP 0 rfl rfl 2 (by decide) (hts (.fieldLink RX2 18 "LastMap$Pad" "length" "I") (by decide +kernel)) (fun _ h9 => h9) rfl dX2_firstWrongOfSlip_69 ?_
            refine lv_icmp_lt (tgt := 80) hx hb dX2_firstWrongOfSlip_72 (by decide) (fun c17 => ?_) (fun c17 => ?_)
            · refine lv_aload_n hx hb dX2_firstWrongOfSlip_80 rfl (lv_at hl 2 rfl) ?_
              refine lv_iload_n hx hb dX2_firstWrongOfSlip_81 rfl (lv_at hl 3 rfl) ?_
              refine lv_iconst (v := 2) hx hb dX2_firstWrongOfSlip_82 (by decide) ?_
              refine lv_iadd hx hb dX2_firstWrongOfSlip_83 ?_
              refine lv_topi (fun x18 ex18 => ?_)
              refine ca_iR (va_runV (As := [.int x18]) (rest := []) ⟨hx, hb, hml, hown, hts⟩ (c_padMark l G H.size pad sg sl len fsg fsl x18) (cwV 1 hts gX2_firstWrongOfSlip_X2_markAt rfl rfl rfl (by decide +kernel) ⟨by decide +kernel, by decide +kernel⟩) (pre_V E hP hD hS hA [0, 1, 2] (by decide) rfl 0 0 rfl rfl) rfl rfl hl.1 rfl (lv_room (Nat.le_of_ble_eq_true rfl)) dX2_firstWrongOfSlip_84 ⟨by decide +kernel, by decide +kernel⟩) hS hP hD hA [0, 1, 2] rfl (fun r20 _ H locs w19 hP hS => ?_)
              refine lv_istore (lv' := [(5, .int r20), (4, .int x9), (3, .int r2), (0, .ref pad), (1, .int p0), (2, .int p1)]) hx hb dX2_firstWrongOfSlip_87 hl (by decide) rfl (fun ls hl => ?_)
              refine lv_iload hx hb dX2_firstWrongOfSlip_89 (lv_at hl 0 rfl) ?_
              refine lv_if_lt (tgt := 100) hx hb dX2_firstWrongOfSlip_91 (by decide) (fun c21 => ?_) (fun c21 => ?_)
              · refine lv_iload_n hx hb dX2_firstWrongOfSlip_100 rfl (lv_at hl 4 rfl) ?_
                refine lv_iconst (v := 2) hx hb dX2_firstWrongOfSlip_101 (by decide) ?_
                refine lv_iadd hx hb dX2_firstWrongOfSlip_102 ?_
                refine lv_topi (fun x22 ex22 => ?_)
                refine lv_goto (tgt := 108) hx hb dX2_firstWrongOfSlip_103 (by decide) ?_
                have hP9 := hP.sub (ws' := [(pad, .inr (0, [.ref sg, .ref sl, .int len])), (sg, .inl (gI G, 40, .inl fsg)), (sl, .inl (gI G, 10, .inl fsl))]) [0, 1, 2] rfl
                have hD9 := hD.sub (ws' := [(pad, .inr (0, [.ref sg, .ref sl, .int len])), (sg, .inl (gI G, 40, .inl fsg)), (sl, .inl (gI G, 10, .inl fsl))]) [0, 1, 2] (by decide) rfl
                exact W.iret (v := x22) hx hb hr (fun t ht hW => ⟨⟨x22, (), rfl, trivial, by rw [ht]; exact hP9, hD9⟩, hS.F ht⟩) hS.2.2 dX2_firstWrongOfSlip_108
              · refine lv_iload hx hb dX2_firstWrongOfSlip_94 (lv_at hl 0 rfl) ?_
                refine lv_iconst (v := 4) hx hb dX2_firstWrongOfSlip_96 (by decide) ?_
                refine lv_icmp_lt (tgt := 106) hx hb dX2_firstWrongOfSlip_97 (by decide) (fun c23 => ?_) (fun c23 => ?_)
                · refine lv_bipush (v := (-6)) hx hb dX2_firstWrongOfSlip_106 (by decide) ?_
                  have hP9 := hP.sub (ws' := [(pad, .inr (0, [.ref sg, .ref sl, .int len])), (sg, .inl (gI G, 40, .inl fsg)), (sl, .inl (gI G, 10, .inl fsl))]) [0, 1, 2] rfl
                  have hD9 := hD.sub (ws' := [(pad, .inr (0, [.ref sg, .ref sl, .int len])), (sg, .inl (gI G, 40, .inl fsg)), (sl, .inl (gI G, 10, .inl fsl))]) [0, 1, 2] (by decide) rfl
                  exact W.iret (v := (-6)) hx hb hr (fun t ht hW => ⟨⟨(-6), (), rfl, trivial, by rw [ht]; exact hP9, hD9⟩, hS.F ht⟩) hS.2.2 dX2_firstWrongOfSlip_108
                · refine lv_iload_n hx hb dX2_firstWrongOfSlip_100 rfl (lv_at hl 4 rfl) ?_
                  refine lv_iconst (v := 2) hx hb dX2_firstWrongOfSlip_101 (by decide) ?_
                  refine lv_iadd hx hb dX2_firstWrongOfSlip_102 ?_
                  refine lv_topi (fun x24 ex24 => ?_)
                  refine lv_goto (tgt := 108) hx hb dX2_firstWrongOfSlip_103 (by decide) ?_
                  have hP9 := hP.sub (ws' := [(pad, .inr (0, [.ref sg, .ref sl, .int len])), (sg, .inl (gI G, 40, .inl fsg)), (sl, .inl (gI G, 10, .inl fsl))]) [0, 1, 2] rfl
                  have hD9 := hD.sub (ws' := [(pad, .inr (0, [.ref sg, .ref sl, .int len])), (sg, .inl (gI G, 40, .inl fsg)), (sl, .inl (gI G, 10, .inl fsl))]) [0, 1, 2] (by decide) rfl
                  exact W.iret (v := x24) hx hb hr (fun t ht hW => ⟨⟨x24, (), rfl, trivial, by rw [ht]; exact hP9, hD9⟩, hS.F ht⟩) hS.2.2 dX2_firstWrongOfSlip_108
            · refine lv_aload_n hx hb dX2_firstWrongOfSlip_75 rfl (lv_at hl 2 rfl) ?_
              refine va_get (D := G.1) (ci := 0) (v := .int len) (C := RX2) (T := TX2) (N := 3) hx hb hts (fun _ h => List.mem_cons_of_mem _ (List.mem_append_right _ h)) hown E.K hP 0 rfl rfl 2 (by decide) (hts (.fieldLink RX2 18 "LastMap$Pad" "length" "I") (by decide +kernel)) (fun _ h9 => h9) rfl dX2_firstWrongOfSlip_76 ?_
              have hP9 := hP.sub (ws' := [(pad, .inr (0, [.ref sg, .ref sl, .int len])), (sg, .inl (gI G, 40, .inl fsg)), (sl, .inl (gI G, 10, .inl fsl))]) [0, 1, 2] rfl
              have hD9 := hD.sub (ws' := [(pad, .inr (0, [.ref sg, .ref sl, .int len])), (sg, .inl (gI G, 40, .inl fsg)), (sl, .inl (gI G, 10, .inl fsl))]) [0, 1, 2] (by decide) rfl
              exact W.iret (v := len) hx hb hr (fun t ht hW => ⟨⟨len, (), rfl, trivial, by rw [ht]; exact hP9, hD9⟩, hS.F ht⟩) hS.2.2 dX2_firstWrongOfSlip_79
          · refine lv_bipush (v := (-6)) hx hb dX2_firstWrongOfSlip_62 (by decide) ?_
            have hP9 := hP.sub (ws' := [(pad, .inr (0, [.ref sg, .ref sl, .int len])), (sg, .inl (gI G, 40, .inl fsg)), (sl, .inl (gI G, 10, .inl fsl))]) [0, 1, 2] rfl
            have hD9 := hD.sub (ws' := [(pad, .inr (0, [.ref sg, .ref sl, .int len])), (sg, .inl (gI G, 40, .inl fsg)), (sl, .inl (gI G, 10, .inl fsl))]) [0, 1, 2] (by decide) rfl
            exact W.iret (v := (-6)) hx hb hr (fun t ht hW => ⟨⟨(-6), (), rfl, trivial, by rw [ht]; exact hP9, hD9⟩, hS.F ht⟩) hS.2.2 dX2_firstWrongOfSlip_64
        · refine lv_iload_n hx hb dX2_firstWrongOfSlip_54 rfl (lv_at hl 3 rfl) ?_
          refine lv_iconst (v := 1) hx hb dX2_firstWrongOfSlip_55 (by decide) ?_
          refine lv_iadd hx hb dX2_firstWrongOfSlip_56 ?_
          refine lv_topi (fun x25 ex25 => ?_)
          have hP9 := hP.sub (ws' := [(pad, .inr (0, [.ref sg, .ref sl, .int len])), (sg, .inl (gI G, 40, .inl fsg)), (sl, .inl (gI G, 10, .inl fsl))]) [0, 1, 2] rfl
          have hD9 := hD.sub (ws' := [(pad, .inr (0, [.ref sg, .ref sl, .int len])), (sg, .inl (gI G, 40, .inl fsg)), (sl, .inl (gI G, 10, .inl fsl))]) [0, 1, 2] (by decide) rfl
          exact W.iret (v := x25) hx hb hr (fun t ht hW => ⟨⟨x25, (), rfl, trivial, by rw [ht]; exact hP9, hD9⟩, hS.F ht⟩) hS.2.2 dX2_firstWrongOfSlip_57
    · refine lv_aload_n hx hb dX2_firstWrongOfSlip_22 rfl (lv_at hl 1 rfl) ?_
      refine va_get (D := G.1) (ci := 0) (v := .int len) (C := RX2) (T := TX2) (N := 3) hx hb hts (fun _ h => List.mem_cons_of_mem _ (List.mem_append_right _ h)) hown E.K hP 0 rfl rfl 2 (by decide) (hts (.fieldLink RX2 18 "LastMap$Pad" "length" "I") (by decide +kernel)) (fun _ h9 => h9) rfl dX2_firstWrongOfSlip_23 ?_
      have hP9 := hP.sub (ws' := [(pad, .inr (0, [.ref sg, .ref sl, .int len])), (sg, .inl (gI G, 40, .inl fsg)), (sl, .inl (gI G, 10, .inl fsl))]) [0, 1, 2] rfl
      have hD9 := hD.sub (ws' := [(pad, .inr (0, [.ref sg, .ref sl, .int len])), (sg, .inl (gI G, 40, .inl fsg)), (sl, .inl (gI G, 10, .inl fsl))]) [0, 1, 2] (by decide) rfl
      exact W.iret (v := len) hx hb hr (fun t ht hW => ⟨⟨len, (), rfl, trivial, by rw [ht]; exact hP9, hD9⟩, hS.F ht⟩) hS.2.2 dX2_firstWrongOfSlip_26
  · refine lv_iload_n hx hb dX2_firstWrongOfSlip_10 rfl (lv_at hl 2 rfl) ?_
    have hP9 := hP.sub (ws' := [(pad, .inr (0, [.ref sg, .ref sl, .int len])), (sg, .inl (gI G, 40, .inl fsg)), (sl, .inl (gI G, 10, .inl fsl))]) [0, 1, 2] rfl
    have hD9 := hD.sub (ws' := [(pad, .inr (0, [.ref sg, .ref sl, .int len])), (sg, .inl (gI G, 40, .inl fsg)), (sl, .inl (gI G, 10, .inl fsl))]) [0, 1, 2] (by decide) rfl
    exact W.iret (v := p0) hx hb hr (fun t ht hW => ⟨⟨p0, (), rfl, trivial, by rw [ht]; exact hP9, hD9⟩, hS.F ht⟩) hS.2.2 dX2_firstWrongOfSlip_11

set_option maxHeartbeats 1000000 in
set_option maxRecDepth 100000 in
theorem c_fwSlips (l : Launch) (G : Gy) (sz : Nat) (pad : Nat) (sg : Nat) (sl : Nat) (len : Int32) (fsg : Nat → Int32) (fsl : Nat → Int32) (p0 : Int32)  : Ci l G yX2_firstWrongOfSlips wsX2_firstWrongOfSlips ({ frames := 3, cells := 0, slots := 0, locals := 67 }) [.ref pad, .int p0] [(pad, .inr (0, [.ref sg, .ref sl, .int len])), (sg, .inl (gI G, 40, .inl fsg)), (sl, .inl (gI G, 10, .inl fsl))] sz (fun (r : Int32) (_ : Unit) => True) (fun (_ : Unit) => [(pad, .inr (0, [.ref sg, .ref sl, .int len])), (sg, .inl (gI G, 40, .inl fsg)), (sl, .inl (gI G, 10, .inl fsl))]) 0 0 := by
  refine Met.ofW (cc := cX2_firstWrongOfSlips) (maxL := 5) (ret := (some .int)) (by decide) rfl ?_
  intro p e s m args below meth c s₁ B hml hv
  obtain ⟨rfl, hsz, hP, hD0, E0⟩ := hv
  have hx := B.exec
  have hb := B.bytes
  have hr := B.returns
  have hts := atoms_spec (ws := wsX2_firstWrongOfSlips) B.pre
  have hown : s.vm.findClass RX2 = some m.cls := findClass_of_methodNamed B.named
  have hlocks := B.notSynchronized
  subst hsz
  have hD := hD0.self (sz := s.heap.size)
  generalize hAe : va_A [(pad, .inr (0, [.ref sg, .ref sl, .int len])), (sg, .inl (gI G, 40, .inl fsg)), (sl, .inl (gI G, 10, .inl fsl))] s.heap.size = A at hD E0 ⊢
  have E : EV G A s s.heap := E0
  have hA : ∀ q : Nat, s.heap.size ≤ q → A q := fun q h => by rw [← hAe]; exact Or.inr h
  have hS : va_S A s.heap s.heap [] := va_S.rf
  have hl := lv_entry ([.ref pad, .int p0]) (n := 5) (Nat.le_of_ble_eq_true rfl)
  rw [lg_entry_eq]
  generalize (lg_sl ([.ref pad, .int p0]) ++ List.replicate (5 - (lg_sl ([.ref pad, .int p0])).length) Slot.unset).toArray = ls at hl ⊢
  have hl : lv_has ls 5 [(0, .ref pad), (1, .int p0)] := hl
  have hP : va_P G.1 vwCl [(pad, .inr (0, [.ref sg, .ref sl, .int len])), (sg, .inl (gI G, 40, .inl fsg)), (sl, .inl (gI G, 10, .inl fsl))] s.heap := hP
  refine lv_iconst (v := 0) hx hb dX2_firstWrongOfSlips_0 (by decide) ?_
  refine lv_istore_n (lv' := [(2, .int 0), (0, .ref pad), (1, .int p0)]) hx hb dX2_firstWrongOfSlips_1 rfl hl (by decide) rfl (fun ls hl => ?_)
  refine lv_iconst (v := 0) hx hb dX2_firstWrongOfSlips_2 (by decide) ?_
  refine lv_istore_n (lv' := [(3, .int 0), (2, .int 0), (0, .ref pad), (1, .int p0)]) hx hb dX2_firstWrongOfSlips_3 rfl hl (by decide) rfl (fun ls hl => ?_)
  refine lp_run (x0 := (0, 0)) (fun xx_ : Int32 × Int32 => match xx_ with | (x, y) => [(pad, .inr (0, [.ref sg, .ref sl, .int len])), (sg, .inl (gI G, 40, .inl fsg)), (sl, .inl (gI G, 10, .inl fsl))]) (fun xx_ : Int32 × Int32 => match xx_ with | (x, y) => [(3, .int x), (2, .int y), (0, .ref pad), (1, .int p0)]) (fun xx_ : Int32 × Int32 => match xx_ with | (x, y) => (0 ≤ x.toInt)) (fun xx_ : Int32 × Int32 => match xx_ with | (x, y) => ((10 : Int32).toInt - x.toInt).toNat) (hP.sub [0, 1, 2] rfl) (hD.sub [0, 1, 2] (by decide) rfl) hS (lv_sub hl [0, 1, 2, 3] rfl) (show (0 : Int) ≤ (0 : Int32).toInt by first | decide | omega | assumption) ?_
  intro xx_ hI ih4 H locs ls hP hD hS hl
  obtain ⟨x, y⟩ := xx_
  dsimp only at hI ih4 hP hD hl
  have hx0 := hI
  have hl : lv_has ls 5 [(3, .int x), (2, .int y), (0, .ref pad), (1, .int p0)] := hl
  have hP : va_P G.1 vwCl [(pad, .inr (0, [.ref sg, .ref sl, .int len])), (sg, .inl (gI G, 40, .inl fsg)), (sl, .inl (gI G, 10, .inl fsl))] H := hP
  have hD : va_D A [(pad, .inr (0, [.ref sg, .ref sl, .int len])), (sg, .inl (gI G, 40, .inl fsg)), (sl, .inl (gI G, 10, .inl fsl))] := hD
  refine lv_iload_n hx hb dX2_firstWrongOfSlips_4 rfl (lv_at hl 0 rfl) ?_
  refine lv_bipush (v := 10) hx hb dX2_firstWrongOfSlips_5 (by decide) ?_
  refine lv_icmp_ge (tgt := 50) hx hb dX2_firstWrongOfSlips_7 (by decide) (fun c1 => ?_) (fun c1 => ?_)
  · refine lv_iload_n hx hb dX2_firstWrongOfSlips_50 rfl (lv_at hl 1 rfl) ?_
    refine lv_aload_n hx hb dX2_firstWrongOfSlips_51 rfl (lv_at hl 2 rfl) ?_
    refine va_get (D := G.1) (ci := 0) (v := .int len) (C := RX2) (T := TX2) (N := 3) hx hb hts (fun _ h => List.mem_cons_of_mem _ (List.mem_append_right _ h)) hown E.K hP 0 rfl rfl 2 (by decide) (hts (.fieldLink RX2 18 "LastMap$Pad" "length" "I") (by decide +kernel)) (fun _ h9 => h9) rfl dX2_firstWrongOfSlips_52 ?_
    refine lv_icmp_ge (tgt := 62) hx hb dX2_firstWrongOfSlips_55 (by decide) (fun c2 => ?_) (fun c2 => ?_)
    · refine lv_bipush (v := (-6)) hx hb dX2_firstWrongOfSlips_62 (by decide) ?_
      have hP9 := hP.sub (ws' := [(pad, .inr (0, [.ref sg, .ref sl, .int len])), (sg, .inl (gI G, 40, .inl fsg)), (sl, .inl (gI G, 10, .inl fsl))]) [0, 1, 2] rfl
      have hD9 := hD.sub (ws' := [(pad, .inr (0, [.ref sg, .ref sl, .int len])), (sg, .inl (gI G, 40, .inl fsg)), (sl, .inl (gI G, 10, .inl fsl))]) [0, 1, 2] (by decide) rfl
      exact W.iret (v := (-6)) hx hb hr (fun t ht hW => ⟨⟨(-6), (), rfl, trivial, by rw [ht]; exact hP9, hD9⟩, hS.F ht⟩) hS.2.2 dX2_firstWrongOfSlips_64
    · refine lv_iload_n hx hb dX2_firstWrongOfSlips_58 rfl (lv_at hl 1 rfl) ?_
      refine lv_goto (tgt := 64) hx hb dX2_firstWrongOfSlips_59 (by decide) ?_
      have hP9 := hP.sub (ws' := [(pad, .inr (0, [.ref sg, .ref sl, .int len])), (sg, .inl (gI G, 40, .inl fsg)), (sl, .inl (gI G, 10, .inl fsl))]) [0, 1, 2] rfl
      have hD9 := hD.sub (ws' := [(pad, .inr (0, [.ref sg, .ref sl, .int len])), (sg, .inl (gI G, 40, .inl fsg)), (sl, .inl (gI G, 10, .inl fsl))]) [0, 1, 2] (by decide) rfl
      exact W.iret (v := y) hx hb hr (fun t ht hW => ⟨⟨y, (), rfl, trivial, by rw [ht]; exact hP9, hD9⟩, hS.F ht⟩) hS.2.2 dX2_firstWrongOfSlips_64
  · have hlt4 : x.toInt < (10 : Int32).toInt := by ((try simp only [inR, inS, i3_lt, i3_le, i3_eq, i6_lt, i6_le, Int32.toInt_toInt64, lg_cmp_lt, lg_cmp_gt, lg_cmp_ge, lg_cmp_le, Int32.reduceToInt, Int64.reduceToInt] at c1 ⊢); omega)
    refine lv_iload_n hx hb dX2_firstWrongOfSlips_10 rfl (lv_at hl 1 rfl) ?_
    refine lv_aload_n hx hb dX2_firstWrongOfSlips_11 rfl (lv_at hl 2 rfl) ?_
    refine va_get (D := G.1) (ci := 0) (v := .int len) (C := RX2) (T := TX2) (N := 3) hx hb hts (fun _ h => List.mem_cons_of_mem _ (List.mem_append_right _ h)) hown E.K hP 0 rfl rfl 2 (by decide) (hts (.fieldLink RX2 18 "LastMap$Pad" "length" "I") (by decide +kernel)) (fun _ h9 => h9) rfl dX2_firstWrongOfSlips_12 ?_
    refine lv_icmp_ge (tgt := 50) hx hb dX2_firstWrongOfSlips_15 (by decide) (fun c3 => ?_) (fun c3 => ?_)
    · refine lv_iload_n hx hb dX2_firstWrongOfSlips_50 rfl (lv_at hl 1 rfl) ?_
      refine lv_aload_n hx hb dX2_firstWrongOfSlips_51 rfl (lv_at hl 2 rfl) ?_
      refine va_get (D := G.1) (ci := 0) (v := .int len) (C := RX2) (T := TX2) (N := 3) hx hb hts (fun _ h => List.mem_cons_of_mem _ (List.mem_append_right _ h)) hown E.K hP 0 rfl rfl 2 (by decide) (hts (.fieldLink RX2 18 "LastMap$Pad" "length" "I") (by decide +kernel)) (fun _ h9 => h9) rfl dX2_firstWrongOfSlips_52 ?_
      refine lv_icmp_ge (tgt := 62) hx hb dX2_firstWrongOfSlips_55 (by decide) (fun c4 => ?_) (fun c4 => ?_)
      · refine lv_bipush (v := (-6)) hx hb dX2_firstWrongOfSlips_62 (by decide) ?_
        have hP9 := hP.sub (ws' := [(pad, .inr (0, [.ref sg, .ref sl, .int len])), (sg, .inl (gI G, 40, .inl fsg)), (sl, .inl (gI G, 10, .inl fsl))]) [0, 1, 2] rfl
        have hD9 := hD.sub (ws' := [(pad, .inr (0, [.ref sg, .ref sl, .int len])), (sg, .inl (gI G, 40, .inl fsg)), (sl, .inl (gI G, 10, .inl fsl))]) [0, 1, 2] (by decide) rfl
        exact W.iret (v := (-6)) hx hb hr (fun t ht hW => ⟨⟨(-6), (), rfl, trivial, by rw [ht]; exact hP9, hD9⟩, hS.F ht⟩) hS.2.2 dX2_firstWrongOfSlips_64
      · refine lv_iload_n hx hb dX2_firstWrongOfSlips_58 rfl (lv_at hl 1 rfl) ?_
        refine lv_goto (tgt := 64) hx hb dX2_firstWrongOfSlips_59 (by decide) ?_
        have hP9 := hP.sub (ws' := [(pad, .inr (0, [.ref sg, .ref sl, .int len])), (sg, .inl (gI G, 40, .inl fsg)), (sl, .inl (gI G, 10, .inl fsl))]) [0, 1, 2] rfl
        have hD9 := hD.sub (ws' := [(pad, .inr (0, [.ref sg, .ref sl, .int len])), (sg, .inl (gI G, 40, .inl fsg)), (sl, .inl (gI G, 10, .inl fsl))]) [0, 1, 2] (by decide) rfl
        exact W.iret (v := y) hx hb hr (fun t ht hW => ⟨⟨y, (), rfl, trivial, by rw [ht]; exact hP9, hD9⟩, hS.F ht⟩) hS.2.2 dX2_firstWrongOfSlips_64
    · refine lv_aload_n hx hb dX2_firstWrongOfSlips_18 rfl (lv_at hl 2 rfl) ?_
      refine lv_iload_n hx hb dX2_firstWrongOfSlips_19 rfl (lv_at hl 1 rfl) ?_
      refine lv_iload_n hx hb dX2_firstWrongOfSlips_20 rfl (lv_at hl 3 rfl) ?_
      refine ca_iR (va_runV (As := [.int y, .int p0]) (rest := []) ⟨hx, hb, hml, hown, hts⟩ (c_fwSlip l G H.size pad sg sl len fsg fsl y p0) (cwV 2 hts gX2_firstWrongOfSlips_X2_firstWrongOfSlip rfl rfl rfl (by decide +kernel) ⟨by decide +kernel, by decide +kernel⟩) (pre_V E hP hD hS hA [0, 1, 2] (by decide) rfl 0 0 rfl rfl) rfl rfl hl.1 rfl (lv_room (Nat.le_of_ble_eq_true rfl)) dX2_firstWrongOfSlips_21 ⟨by decide +kernel, by decide +kernel⟩) hS hP hD hA [0, 1, 2] rfl (fun r6 _ H locs w5 hP hS => ?_)
      refine lv_istore (lv' := [(4, .int r6), (3, .int x), (2, .int y), (0, .ref pad), (1, .int p0)]) hx hb dX2_firstWrongOfSlips_24 hl (by decide) rfl (fun ls hl => ?_)
      refine lv_iload hx hb dX2_firstWrongOfSlips_26 (lv_at hl 0 rfl) ?_
      refine lv_bipush (v := (-6)) hx hb dX2_firstWrongOfSlips_28 (by decide) ?_
      refine lv_icmp_eq (tgt := 36) hx hb dX2_firstWrongOfSlips_30 (by decide) (fun c7 => ?_) (fun c7 => ?_)
      · refine lv_iload_n hx hb dX2_firstWrongOfSlips_36 rfl (lv_at hl 2 rfl) ?_
        refine lv_aload_n hx hb dX2_firstWrongOfSlips_37 rfl (lv_at hl 3 rfl) ?_
        refine lv_iload_n hx hb dX2_firstWrongOfSlips_38 rfl (lv_at hl 2 rfl) ?_
        refine ca_iR (va_runV (As := [.int y]) (rest := [.int y]) ⟨hx, hb, hml, hown, hts⟩ (c_lengthOfSlip l G H.size pad sg sl len fsg fsl y) (cwV 1 hts gX2_firstWrongOfSlips_X2_lengthOfSlip rfl rfl rfl (by decide +kernel) ⟨by decide +kernel, by decide +kernel⟩) (pre_V E hP hD hS hA [0, 1, 2] (by decide) rfl 0 0 rfl rfl) rfl rfl hl.1 rfl (lv_room (Nat.le_of_ble_eq_true rfl)) dX2_firstWrongOfSlips_39 ⟨by decide +kernel, by decide +kernel⟩) hS hP hD hA [0, 1, 2] rfl (fun r9 _ H locs w8 hP hS => ?_)
        refine lv_iadd hx hb dX2_firstWrongOfSlips_42 ?_
        refine lv_topi (fun x10 ex10 => ?_)
        refine lv_istore_n (lv' := [(2, .int x10), (4, .int r6), (3, .int x), (0, .ref pad), (1, .int p0)]) hx hb dX2_firstWrongOfSlips_43 rfl hl (by decide) rfl (fun ls hl => ?_)
        obtain ⟨x11, ex11⟩ : ∃ yy_ : Int32, yy_ = x + 1 := ⟨_, rfl⟩
        refine lv_iinc (v := x11) (lv' := [(3, .int x11), (2, .int x10), (4, .int r6), (0, .ref pad), (1, .int p0)]) hx hb dX2_firstWrongOfSlips_44 hl (k := 2) rfl (by rw [ex11]; rfl) (by decide) rfl (fun ls hl => ?_)
        refine lv_goto (tgt := 4) hx hb dX2_firstWrongOfSlips_47 (by decide) ?_
        have hinc4 := inc_lt hlt4 ex11
        refine ih4 (x11, x10) ?_ (by first | omega | (dsimp only; omega)) H locs ls (hP.sub [0, 1, 2] rfl) (hD.sub [0, 1, 2] (by decide) rfl) hS (lv_sub hl [0, 1, 3, 4] rfl)
        try dsimp only
        omega
      · refine lv_iload hx hb dX2_firstWrongOfSlips_33 (lv_at hl 0 rfl) ?_
        have hP9 := hP.sub (ws' := [(pad, .inr (0, [.ref sg, .ref sl, .int len])), (sg, .inl (gI G, 40, .inl fsg)), (sl, .inl (gI G, 10, .inl fsl))]) [0, 1, 2] rfl
        have hD9 := hD.sub (ws' := [(pad, .inr (0, [.ref sg, .ref sl, .int len])), (sg, .inl (gI G, 40, .inl fsg)), (sl, .inl (gI G, 10, .inl fsl))]) [0, 1, 2] (by decide) rfl
        exact W.iret (v := r6) hx hb hr (fun t ht hW => ⟨⟨r6, (), rfl, trivial, by rw [ht]; exact hP9, hD9⟩, hS.F ht⟩) hS.2.2 dX2_firstWrongOfSlips_35

set_option maxHeartbeats 1000000 in
set_option maxRecDepth 100000 in
theorem c_firstWrong (l : Launch) (G : Gy) (sz : Nat) (pad : Nat) (sg : Nat) (sl : Nat) (len : Int32) (fsg : Nat → Int32) (fsl : Nat → Int32) (p0 : Int32) (p1 : Int32)  : Ci l G yX2_firstWrong wsX2_firstWrong ({ frames := 4, cells := 0, slots := 0, locals := 91 }) [.ref pad, .int p0, .int p1] [(pad, .inr (0, [.ref sg, .ref sl, .int len])), (sg, .inl (gI G, 40, .inl fsg)), (sl, .inl (gI G, 10, .inl fsl))] sz (fun (r : Int32) (_ : Unit) => True) (fun (_ : Unit) => [(pad, .inr (0, [.ref sg, .ref sl, .int len])), (sg, .inl (gI G, 40, .inl fsg)), (sl, .inl (gI G, 10, .inl fsl))]) 0 0 := by
  refine Met.ofW (cc := cX2_firstWrong) (maxL := 6) (ret := (some .int)) (by decide) rfl ?_
  intro p e s m args below meth c s₁ B hml hv
  obtain ⟨rfl, hsz, hP, hD0, E0⟩ := hv
  have hx := B.exec
  have hb := B.bytes
  have hr := B.returns
  have hts := atoms_spec (ws := wsX2_firstWrong) B.pre
  have hown : s.vm.findClass RX2 = some m.cls := findClass_of_methodNamed B.named
  have hlocks := B.notSynchronized
  subst hsz
  have hD := hD0.self (sz := s.heap.size)
  generalize hAe : va_A [(pad, .inr (0, [.ref sg, .ref sl, .int len])), (sg, .inl (gI G, 40, .inl fsg)), (sl, .inl (gI G, 10, .inl fsl))] s.heap.size = A at hD E0 ⊢
  have E : EV G A s s.heap := E0
  have hA : ∀ q : Nat, s.heap.size ≤ q → A q := fun q h => by rw [← hAe]; exact Or.inr h
  have hS : va_S A s.heap s.heap [] := va_S.rf
  have hl := lv_entry ([.ref pad, .int p0, .int p1]) (n := 6) (Nat.le_of_ble_eq_true rfl)
  rw [lg_entry_eq]
  generalize (lg_sl ([.ref pad, .int p0, .int p1]) ++ List.replicate (6 - (lg_sl ([.ref pad, .int p0, .int p1])).length) Slot.unset).toArray = ls at hl ⊢
  have hl : lv_has ls 6 [(0, .ref pad), (1, .int p0), (2, .int p1)] := hl
  have hP : va_P G.1 vwCl [(pad, .inr (0, [.ref sg, .ref sl, .int len])), (sg, .inl (gI G, 40, .inl fsg)), (sl, .inl (gI G, 10, .inl fsl))] s.heap := hP
  refine lv_iload_n hx hb dX2_firstWrong_0 rfl (lv_at hl 1 rfl) ?_
  refine lv_iconst (v := 1) hx hb dX2_firstWrong_1 (by decide) ?_
  refine lv_icmp_ne (tgt := 11) hx hb dX2_firstWrong_2 (by decide) (fun c1 => ?_) (fun c1 => ?_)
  · refine lv_iload_n hx hb dX2_firstWrong_11 rfl (lv_at hl 1 rfl) ?_
    refine lv_iconst (v := 2) hx hb dX2_firstWrong_12 (by decide) ?_
    refine lv_icmp_ne (tgt := 20) hx hb dX2_firstWrong_13 (by decide) (fun c2 => ?_) (fun c2 => ?_)
    · refine lv_iconst (v := 4) hx hb dX2_firstWrong_20 (by decide) ?_
      refine lv_istore_n (lv' := [(3, .int 4), (0, .ref pad), (1, .int p0), (2, .int p1)]) hx hb dX2_firstWrong_21 rfl hl (by decide) rfl (fun ls hl => ?_)
      refine lv_iconst (v := 0) hx hb dX2_firstWrong_22 (by decide) ?_
      refine lv_istore (lv' := [(4, .int 0), (3, .int 4), (0, .ref pad), (1, .int p0), (2, .int p1)]) hx hb dX2_firstWrong_23 hl (by decide) rfl (fun ls hl => ?_)
      refine lp_run (x0 := 0) (fun x : Int32 => [(pad, .inr (0, [.ref sg, .ref sl, .int len])), (sg, .inl (gI G, 40, .inl fsg)), (sl, .inl (gI G, 10, .inl fsl))]) (fun x : Int32 => [(4, .int x), (3, .int 4), (0, .ref pad), (1, .int p0), (2, .int p1)]) (fun x : Int32 => (0 ≤ x.toInt)) (fun x : Int32 => (len.toInt - x.toInt).toNat) (hP.sub [0, 1, 2] rfl) (hD.sub [0, 1, 2] (by decide) rfl) hS (lv_sub hl [0, 1, 2, 3, 4] rfl) (show (0 : Int) ≤ (0 : Int32).toInt by first | decide | omega | assumption) ?_
      intro xx_ hI ih25 H locs ls hP hD hS hl
      obtain ⟨x, rfl⟩ : ∃ zz_, zz_ = xx_ := ⟨_, rfl⟩
      have hx0 := hI
      have hl : lv_has ls 6 [(4, .int x), (3, .int 4), (0, .ref pad), (1, .int p0), (2, .int p1)] := hl
      have hP : va_P G.1 vwCl [(pad, .inr (0, [.ref sg, .ref sl, .int len])), (sg, .inl (gI G, 40, .inl fsg)), (sl, .inl (gI G, 10, .inl fsl))] H := hP
      have hD : va_D A [(pad, .inr (0, [.ref sg, .ref sl, .int len])), (sg, .inl (gI G, 40, .inl fsg)), (sl, .inl (gI G, 10, .inl fsl))] := hD
      refine lv_iload hx hb dX2_firstWrong_25 (lv_at hl 0 rfl) ?_
      refine lv_aload_n hx hb dX2_firstWrong_27 rfl (lv_at hl 2 rfl) ?_
      refine va_get (D := G.1) (ci := 0) (v := .int len) (C := RX2) (T := TX2) (N := 3) hx hb hts (fun _ h => List.mem_cons_of_mem _ (List.mem_append_right _ h)) hown E.K hP 0 rfl rfl 2 (by decide) (hts (.fieldLink RX2 18 "LastMap$Pad" "length" "I") (by decide +kernel)) (fun _ h9 => h9) rfl dX2_firstWrong_28 ?_
      refine lv_icmp_ge (tgt := 68) hx hb dX2_firstWrong_31 (by decide) (fun c3 => ?_) (fun c3 => ?_)
      · refine lv_aload_n hx hb dX2_firstWrong_68 rfl (lv_at hl 2 rfl) ?_
        refine va_get (D := G.1) (ci := 0) (v := .int len) (C := RX2) (T := TX2) (N := 3) hx hb hts (fun _ h => List.mem_cons_of_mem _ (List.mem_append_right _ h)) hown E.K hP 0 rfl rfl 2 (by decide) (hts (.fieldLink RX2 18 "LastMap$Pad" "length" "I") (by decide +kernel)) (fun _ h9 => h9) rfl dX2_firstWrong_69 ?_
        refine lv_iload_n hx hb dX2_firstWrong_72 rfl (lv_at hl 4 rfl) ?_
        refine lv_icmp_ge (tgt := 83) hx hb dX2_firstWrong_73 (by decide) (fun c4 => ?_) (fun c4 => ?_)
        · refine lv_bipush (v := (-6)) hx hb dX2_firstWrong_83 (by decide) ?_
          have hP9 := hP.sub (ws' := [(pad, .inr (0, [.ref sg, .ref sl, .int len])), (sg, .inl (gI G, 40, .inl fsg)), (sl, .inl (gI G, 10, .inl fsl))]) [0, 1, 2] rfl
          have hD9 := hD.sub (ws' := [(pad, .inr (0, [.ref sg, .ref sl, .int len])), (sg, .inl (gI G, 40, .inl fsg)), (sl, .inl (gI G, 10, .inl fsl))]) [0, 1, 2] (by decide) rfl
          exact W.iret (v := (-6)) hx hb hr (fun t ht hW => ⟨⟨(-6), (), rfl, trivial, by rw [ht]; exact hP9, hD9⟩, hS.F ht⟩) hS.2.2 dX2_firstWrong_85
        · refine lv_aload_n hx hb dX2_firstWrong_76 rfl (lv_at hl 2 rfl) ?_
          refine va_get (D := G.1) (ci := 0) (v := .int len) (C := RX2) (T := TX2) (N := 3) hx hb hts (fun _ h => List.mem_cons_of_mem _ (List.mem_append_right _ h)) hown E.K hP 0 rfl rfl 2 (by decide) (hts (.fieldLink RX2 18 "LastMap$Pad" "length" "I") (by decide +kernel)) (fun _ h9 => h9) rfl dX2_firstWrong_77 ?_
          refine lv_goto (tgt := 85) hx hb dX2_firstWrong_80 (by decide) ?_
          have hP9 := hP.sub (ws' := [(pad, .inr (0, [.ref sg, .ref sl, .int len])), (sg, .inl (gI G, 40, .inl fsg)), (sl, .inl (gI G, 10, .inl fsl))]) [0, 1, 2] rfl
          have hD9 := hD.sub (ws' := [(pad, .inr (0, [.ref sg, .ref sl, .int len])), (sg, .inl (gI G, 40, .inl fsg)), (sl, .inl (gI G, 10, .inl fsl))]) [0, 1, 2] (by decide) rfl
          exact W.iret (v := len) hx hb hr (fun t ht hW => ⟨⟨len, (), rfl, trivial, by rw [ht]; exact hP9, hD9⟩, hS.F ht⟩) hS.2.2 dX2_firstWrong_85
      · have hlt25 : x.toInt < len.toInt := by ((try simp only [inR, inS, i3_lt, i3_le, i3_eq, i6_lt, i6_le, Int32.toInt_toInt64, lg_cmp_lt, lg_cmp_gt, lg_cmp_ge, lg_cmp_le, Int32.reduceToInt, Int64.reduceToInt] at c3 ⊢); omega)
        refine lv_aload_n hx hb dX2_firstWrong_34 rfl (lv_at hl 2 rfl) ?_
        refine lv_iload hx hb dX2_firstWrong_35 (lv_at hl 0 rfl) ?_
        refine ca_iR (va_runV (As := [.int x]) (rest := []) ⟨hx, hb, hml, hown, hts⟩ (c_padMark l G H.size pad sg sl len fsg fsl x) (cwV 1 hts gX2_firstWrong_X2_markAt rfl rfl rfl (by decide +kernel) ⟨by decide +kernel, by decide +kernel⟩) (pre_V E hP hD hS hA [0, 1, 2] (by decide) rfl 0 0 rfl rfl) rfl rfl hl.1 rfl (lv_room (Nat.le_of_ble_eq_true rfl)) dX2_firstWrong_37 ⟨by decide +kernel, by decide +kernel⟩) hS hP hD hA [0, 1, 2] rfl (fun r6 _ H locs w5 hP hS => ?_)
        refine lv_istore (lv' := [(5, .int r6), (4, .int x), (3, .int 4), (0, .ref pad), (1, .int p0), (2, .int p1)]) hx hb dX2_firstWrong_40 hl (by decide) rfl (fun ls hl => ?_)
        refine lv_iload hx hb dX2_firstWrong_42 (lv_at hl 1 rfl) ?_
        refine lv_iload_n hx hb dX2_firstWrong_44 rfl (lv_at hl 5 rfl) ?_
        refine lv_icmp_ge (tgt := 59) hx hb dX2_firstWrong_45 (by decide) (fun c7 => ?_) (fun c7 => ?_)
        · refine lv_iload hx hb dX2_firstWrong_59 (lv_at hl 1 rfl) ?_
          have hP9 := hP.sub (ws' := [(pad, .inr (0, [.ref sg, .ref sl, .int len])), (sg, .inl (gI G, 40, .inl fsg)), (sl, .inl (gI G, 10, .inl fsl))]) [0, 1, 2] rfl
          have hD9 := hD.sub (ws' := [(pad, .inr (0, [.ref sg, .ref sl, .int len])), (sg, .inl (gI G, 40, .inl fsg)), (sl, .inl (gI G, 10, .inl fsl))]) [0, 1, 2] (by decide) rfl
          exact W.iret (v := x) hx hb hr (fun t ht hW => ⟨⟨x, (), rfl, trivial, by rw [ht]; exact hP9, hD9⟩, hS.F ht⟩) hS.2.2 dX2_firstWrong_61
        · refine lv_iload hx hb dX2_firstWrong_48 (lv_at hl 0 rfl) ?_
          refine lv_if_lt (tgt := 59) hx hb dX2_firstWrong_50 (by decide) (fun c8 => ?_) (fun c8 => ?_)
          · refine lv_iload hx hb dX2_firstWrong_59 (lv_at hl 1 rfl) ?_
            have hP9 := hP.sub (ws' := [(pad, .inr (0, [.ref sg, .ref sl, .int len])), (sg, .inl (gI G, 40, .inl fsg)), (sl, .inl (gI G, 10, .inl fsl))]) [0, 1, 2] rfl
            have hD9 := hD.sub (ws' := [(pad, .inr (0, [.ref sg, .ref sl, .int len])), (sg, .inl (gI G, 40, .inl fsg)), (sl, .inl (gI G, 10, .inl fsl))]) [0, 1, 2] (by decide) rfl
            exact W.iret (v := x) hx hb hr (fun t ht hW => ⟨⟨x, (), rfl, trivial, by rw [ht]; exact hP9, hD9⟩, hS.F ht⟩) hS.2.2 dX2_firstWrong_61
          · refine lv_iload hx hb dX2_firstWrong_53 (lv_at hl 0 rfl) ?_
            refine lv_iload_n hx hb dX2_firstWrong_55 rfl (lv_at hl 2 rfl) ?_
            refine lv_icmp_le (tgt := 62) hx hb dX2_firstWrong_56 (by decide) (fun c9 => ?_) (fun c9 => ?_)
            · obtain ⟨x10, ex10⟩ : ∃ yy_ : Int32, yy_ = x + 1 := ⟨_, rfl⟩
              refine lv_iinc (v := x10) (lv' := [(4, .int x10), (5, .int r6), (3, .int 4), (0, .ref pad), (1, .int p0), (2, .int p1)]) hx hb dX2_firstWrong_62 hl (k := 1) rfl (by rw [ex10]; rfl) (by decide) rfl (fun ls hl => ?_)
              refine lv_goto (tgt := 25) hx hb dX2_firstWrong_65 (by decide) ?_
              have hinc25 := inc_lt hlt25 ex10
              refine ih25 x10 ?_ (by first | omega | (dsimp only; omega)) H locs ls (hP.sub [0, 1, 2] rfl) (hD.sub [0, 1, 2] (by decide) rfl) hS (lv_sub hl [0, 2, 3, 4, 5] rfl)
              try dsimp only
              omega
            · refine lv_iload hx hb dX2_firstWrong_59 (lv_at hl 1 rfl) ?_
              have hP9 := hP.sub (ws' := [(pad, .inr (0, [.ref sg, .ref sl, .int len])), (sg, .inl (gI G, 40, .inl fsg)), (sl, .inl (gI G, 10, .inl fsl))]) [0, 1, 2] rfl
              have hD9 := hD.sub (ws' := [(pad, .inr (0, [.ref sg, .ref sl, .int len])), (sg, .inl (gI G, 40, .inl fsg)), (sl, .inl (gI G, 10, .inl fsl))]) [0, 1, 2] (by decide) rfl
              exact W.iret (v := x) hx hb hr (fun t ht hW => ⟨⟨x, (), rfl, trivial, by rw [ht]; exact hP9, hD9⟩, hS.F ht⟩) hS.2.2 dX2_firstWrong_61
    · refine lv_iconst (v := 5) hx hb dX2_firstWrong_16 (by decide) ?_
      refine lv_goto (tgt := 21) hx hb dX2_firstWrong_17 (by decide) ?_
      refine lv_istore_n (lv' := [(3, .int 5), (0, .ref pad), (1, .int p0), (2, .int p1)]) hx hb dX2_firstWrong_21 rfl hl (by decide) rfl (fun ls hl => ?_)
      refine lv_iconst (v := 0) hx hb dX2_firstWrong_22 (by decide) ?_
      refine lv_istore (lv' := [(4, .int 0), (3, .int 5), (0, .ref pad), (1, .int p0), (2, .int p1)]) hx hb dX2_firstWrong_23 hl (by decide) rfl (fun ls hl => ?_)
      refine lp_run (x0 := 0) (fun x : Int32 => [(pad, .inr (0, [.ref sg, .ref sl, .int len])), (sg, .inl (gI G, 40, .inl fsg)), (sl, .inl (gI G, 10, .inl fsl))]) (fun x : Int32 => [(4, .int x), (3, .int 5), (0, .ref pad), (1, .int p0), (2, .int p1)]) (fun x : Int32 => (0 ≤ x.toInt)) (fun x : Int32 => (len.toInt - x.toInt).toNat) (hP.sub [0, 1, 2] rfl) (hD.sub [0, 1, 2] (by decide) rfl) hS (lv_sub hl [0, 1, 2, 3, 4] rfl) (show (0 : Int) ≤ (0 : Int32).toInt by first | decide | omega | assumption) ?_
      intro xx_ hI ih25 H locs ls hP hD hS hl
      obtain ⟨x, rfl⟩ : ∃ zz_, zz_ = xx_ := ⟨_, rfl⟩
      have hx0 := hI
      have hl : lv_has ls 6 [(4, .int x), (3, .int 5), (0, .ref pad), (1, .int p0), (2, .int p1)] := hl
      have hP : va_P G.1 vwCl [(pad, .inr (0, [.ref sg, .ref sl, .int len])), (sg, .inl (gI G, 40, .inl fsg)), (sl, .inl (gI G, 10, .inl fsl))] H := hP
      have hD : va_D A [(pad, .inr (0, [.ref sg, .ref sl, .int len])), (sg, .inl (gI G, 40, .inl fsg)), (sl, .inl (gI G, 10, .inl fsl))] := hD
      refine lv_iload hx hb dX2_firstWrong_25 (lv_at hl 0 rfl) ?_
      refine lv_aload_n hx hb dX2_firstWrong_27 rfl (lv_at hl 2 rfl) ?_
      refine va_get (D := G.1) (ci := 0) (v := .int len) (C := RX2) (T := TX2) (N := 3) hx hb hts (fun _ h => List.mem_cons_of_mem _ (List.mem_append_right _ h)) hown E.K hP 0 rfl rfl 2 (by decide) (hts (.fieldLink RX2 18 "LastMap$Pad" "length" "I") (by decide +kernel)) (fun _ h9 => h9) rfl dX2_firstWrong_28 ?_
      refine lv_icmp_ge (tgt := 68) hx hb dX2_firstWrong_31 (by decide) (fun c11 => ?_) (fun c11 => ?_)
      · refine lv_aload_n hx hb dX2_firstWrong_68 rfl (lv_at hl 2 rfl) ?_
        refine va_get (D := G.1) (ci := 0) (v := .int len) (C := RX2) (T := TX2) (N := 3) hx hb hts (fun _ h => List.mem_cons_of_mem _ (List.mem_append_right _ h)) hown E.K hP 0 rfl rfl 2 (by decide) (hts (.fieldLink RX2 18 "LastMap$Pad" "length" "I") (by decide +kernel)) (fun _ h9 => h9) rfl dX2_firstWrong_69 ?_
        refine lv_iload_n hx hb dX2_firstWrong_72 rfl (lv_at hl 4 rfl) ?_
        refine lv_icmp_ge (tgt := 83) hx hb dX2_firstWrong_73 (by decide) (fun c12 => ?_) (fun c12 => ?_)
        · refine lv_bipush (v := (-6)) hx hb dX2_firstWrong_83 (by decide) ?_
          have hP9 := hP.sub (ws' := [(pad, .inr (0, [.ref sg, .ref sl, .int len])), (sg, .inl (gI G, 40, .inl fsg)), (sl, .inl (gI G, 10, .inl fsl))]) [0, 1, 2] rfl
          have hD9 := hD.sub (ws' := [(pad, .inr (0, [.ref sg, .ref sl, .int len])), (sg, .inl (gI G, 40, .inl fsg)), (sl, .inl (gI G, 10, .inl fsl))]) [0, 1, 2] (by decide) rfl
          exact W.iret (v := (-6)) hx hb hr (fun t ht hW => ⟨⟨(-6), (), rfl, trivial, by rw [ht]; exact hP9, hD9⟩, hS.F ht⟩) hS.2.2 dX2_firstWrong_85
        · refine lv_aload_n hx hb dX2_firstWrong_76 rfl (lv_at hl 2 rfl) ?_
          refine va_get (D := G.1) (ci := 0) (v := .int len) (C := RX2) (T := TX2) (N := 3) hx hb hts (fun _ h => List.mem_cons_of_mem _ (List.mem_append_right _ h)) hown E.K hP 0 rfl rfl 2 (by decide) (hts (.fieldLink RX2 18 "LastMap$Pad" "length" "I") (by decide +kernel)) (fun _ h9 => h9) rfl dX2_firstWrong_77 ?_
          refine lv_goto (tgt := 85) hx hb dX2_firstWrong_80 (by decide) ?_
          have hP9 := hP.sub (ws' := [(pad, .inr (0, [.ref sg, .ref sl, .int len])), (sg, .inl (gI G, 40, .inl fsg)), (sl, .inl (gI G, 10, .inl fsl))]) [0, 1, 2] rfl
          have hD9 := hD.sub (ws' := [(pad, .inr (0, [.ref sg, .ref sl, .int len])), (sg, .inl (gI G, 40, .inl fsg)), (sl, .inl (gI G, 10, .inl fsl))]) [0, 1, 2] (by decide) rfl
          exact W.iret (v := len) hx hb hr (fun t ht hW => ⟨⟨len, (), rfl, trivial, by rw [ht]; exact hP9, hD9⟩, hS.F ht⟩) hS.2.2 dX2_firstWrong_85
      · have hlt25 : x.toInt < len.toInt := by ((try simp only [inR, inS, i3_lt, i3_le, i3_eq, i6_lt, i6_le, Int32.toInt_toInt64, lg_cmp_lt, lg_cmp_gt, lg_cmp_ge, lg_cmp_le, Int32.reduceToInt, Int64.reduceToInt] at c11 ⊢); omega)
        refine lv_aload_n hx hb dX2_firstWrong_34 rfl (lv_at hl 2 rfl) ?_
        refine lv_iload hx hb dX2_firstWrong_35 (lv_at hl 0 rfl) ?_
        refine ca_iR (va_runV (As := [.int x]) (rest := []) ⟨hx, hb, hml, hown, hts⟩ (c_padMark l G H.size pad sg sl len fsg fsl x) (cwV 1 hts gX2_firstWrong_X2_markAt rfl rfl rfl (by decide +kernel) ⟨by decide +kernel, by decide +kernel⟩) (pre_V E hP hD hS hA [0, 1, 2] (by decide) rfl 0 0 rfl rfl) rfl rfl hl.1 rfl (lv_room (Nat.le_of_ble_eq_true rfl)) dX2_firstWrong_37 ⟨by decide +kernel, by decide +kernel⟩) hS hP hD hA [0, 1, 2] rfl (fun r14 _ H locs w13 hP hS => ?_)
        refine lv_istore (lv' := [(5, .int r14), (4, .int x), (3, .int 5), (0, .ref pad), (1, .int p0), (2, .int p1)]) hx hb dX2_firstWrong_40 hl (by decide) rfl (fun ls hl => ?_)
        refine lv_iload hx hb dX2_firstWrong_42 (lv_at hl 1 rfl) ?_
        refine lv_iload_n hx hb dX2_firstWrong_44 rfl (lv_at hl 5 rfl) ?_
        refine lv_icmp_ge (tgt := 59) hx hb dX2_firstWrong_45 (by decide) (fun c15 => ?_) (fun c15 => ?_)
        · refine lv_iload hx hb dX2_firstWrong_59 (lv_at hl 1 rfl) ?_
          have hP9 := hP.sub (ws' := [(pad, .inr (0, [.ref sg, .ref sl, .int len])), (sg, .inl (gI G, 40, .inl fsg)), (sl, .inl (gI G, 10, .inl fsl))]) [0, 1, 2] rfl
          have hD9 := hD.sub (ws' := [(pad, .inr (0, [.ref sg, .ref sl, .int len])), (sg, .inl (gI G, 40, .inl fsg)), (sl, .inl (gI G, 10, .inl fsl))]) [0, 1, 2] (by decide) rfl
          exact W.iret (v := x) hx hb hr (fun t ht hW => ⟨⟨x, (), rfl, trivial, by rw [ht]; exact hP9, hD9⟩, hS.F ht⟩) hS.2.2 dX2_firstWrong_61
        · refine lv_iload hx hb dX2_firstWrong_48 (lv_at hl 0 rfl) ?_
          refine lv_if_lt (tgt := 59) hx hb dX2_firstWrong_50 (by decide) (fun c16 => ?_) (fun c16 => ?_)
          · refine lv_iload hx hb dX2_firstWrong_59 (lv_at hl 1 rfl) ?_
            have hP9 := hP.sub (ws' := [(pad, .inr (0, [.ref sg, .ref sl, .int len])), (sg, .inl (gI G, 40, .inl fsg)), (sl, .inl (gI G, 10, .inl fsl))]) [0, 1, 2] rfl
            have hD9 := hD.sub (ws' := [(pad, .inr (0, [.ref sg, .ref sl, .int len])), (sg, .inl (gI G, 40, .inl fsg)), (sl, .inl (gI G, 10, .inl fsl))]) [0, 1, 2] (by decide) rfl
            exact W.iret (v := x) hx hb hr (fun t ht hW => ⟨⟨x, (), rfl, trivial, by rw [ht]; exact hP9, hD9⟩, hS.F ht⟩) hS.2.2 dX2_firstWrong_61
          · refine lv_iload hx hb dX2_firstWrong_53 (lv_at hl 0 rfl) ?_
            refine lv_iload_n hx hb dX2_firstWrong_55 rfl (lv_at hl 2 rfl) ?_
            refine lv_icmp_le (tgt := 62) hx hb dX2_firstWrong_56 (by decide) (fun c17 => ?_) (fun c17 => ?_)
            · obtain ⟨x18, ex18⟩ : ∃ yy_ : Int32, yy_ = x + 1 := ⟨_, rfl⟩
              refine lv_iinc (v := x18) (lv' := [(4, .int x18), (5, .int r14), (3, .int 5), (0, .ref pad), (1, .int p0), (2, .int p1)]) hx hb dX2_firstWrong_62 hl (k := 1) rfl (by rw [ex18]; rfl) (by decide) rfl (fun ls hl => ?_)
              refine lv_goto (tgt := 25) hx hb dX2_firstWrong_65 (by decide) ?_
              have hinc25 := inc_lt hlt25 ex18
              refine ih25 x18 ?_ (by first | omega | (dsimp only; omega)) H locs ls (hP.sub [0, 1, 2] rfl) (hD.sub [0, 1, 2] (by decide) rfl) hS (lv_sub hl [0, 2, 3, 4, 5] rfl)
              try dsimp only
              omega
            · refine lv_iload hx hb dX2_firstWrong_59 (lv_at hl 1 rfl) ?_
              have hP9 := hP.sub (ws' := [(pad, .inr (0, [.ref sg, .ref sl, .int len])), (sg, .inl (gI G, 40, .inl fsg)), (sl, .inl (gI G, 10, .inl fsl))]) [0, 1, 2] rfl
              have hD9 := hD.sub (ws' := [(pad, .inr (0, [.ref sg, .ref sl, .int len])), (sg, .inl (gI G, 40, .inl fsg)), (sl, .inl (gI G, 10, .inl fsl))]) [0, 1, 2] (by decide) rfl
              exact W.iret (v := x) hx hb hr (fun t ht hW => ⟨⟨x, (), rfl, trivial, by rw [ht]; exact hP9, hD9⟩, hS.F ht⟩) hS.2.2 dX2_firstWrong_61
  · refine lv_aload_n hx hb dX2_firstWrong_5 rfl (lv_at hl 0 rfl) ?_
    refine lv_iload_n hx hb dX2_firstWrong_6 rfl (lv_at hl 2 rfl) ?_
    refine ca_iR (va_runV (As := [.int p1]) (rest := []) ⟨hx, hb, hml, hown, hts⟩ (c_fwSlips l G s.heap.size pad sg sl len fsg fsl p1) (cwV 1 hts gX2_firstWrong_X2_firstWrongOfSlips rfl rfl rfl (by decide +kernel) ⟨by decide +kernel, by decide +kernel⟩) (pre_V E hP hD hS hA [0, 1, 2] (by decide) rfl 0 0 rfl rfl) rfl rfl hl.1 rfl (lv_room (Nat.le_of_ble_eq_true rfl)) dX2_firstWrong_7 ⟨by decide +kernel, by decide +kernel⟩) hS hP hD hA [0, 1, 2] rfl (fun r20 _ H locs w19 hP hS => ?_)
    have hP9 := hP.sub (ws' := [(pad, .inr (0, [.ref sg, .ref sl, .int len])), (sg, .inl (gI G, 40, .inl fsg)), (sl, .inl (gI G, 10, .inl fsl))]) [0, 1, 2] rfl
    have hD9 := hD.sub (ws' := [(pad, .inr (0, [.ref sg, .ref sl, .int len])), (sg, .inl (gI G, 40, .inl fsg)), (sl, .inl (gI G, 10, .inl fsl))]) [0, 1, 2] (by decide) rfl
    exact W.iret (v := r20) hx hb hr (fun t ht hW => ⟨⟨r20, (), rfl, trivial, by rw [ht]; exact hP9, hD9⟩, hS.F ht⟩) hS.2.2 dX2_firstWrong_10
