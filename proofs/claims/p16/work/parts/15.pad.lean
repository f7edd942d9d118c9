set_option maxHeartbeats 1000000 in
set_option maxRecDepth 100000 in
theorem c_padSign (l : Launch) (G : Gy) (sz : Nat) (pad : Nat) (sg : Nat) (sl : Nat) (len : Int32) (fsg : Nat → Int32) (fsl : Nat → Int32) (p0 : Int32)  : Ci l G yX2_signAt wsX2_signAt ({ frames := 0, cells := 0, slots := 0, locals := 0 }) [.ref pad, .int p0] [(pad, .inr (0, [.ref sg, .ref sl, .int len])), (sg, .inl (gI G, 40, .inl fsg)), (sl, .inl (gI G, 10, .inl fsl))] sz (fun (r : Int32) (_ : Unit) => r = psg fsg len p0) (fun (_ : Unit) => [(pad, .inr (0, [.ref sg, .ref sl, .int len])), (sg, .inl (gI G, 40, .inl fsg)), (sl, .inl (gI G, 10, .inl fsl))]) 0 0 := by
  refine Met.ofW (cc := cX2_signAt) (maxL := 2) (ret := (some .int)) (by decide) rfl ?_
  intro p e s m args below meth c s₁ B hml hv
  obtain ⟨rfl, hsz, hP, hD0, E0⟩ := hv
  have hx := B.exec
  have hb := B.bytes
  have hr := B.returns
  have hts := atoms_spec (ws := wsX2_signAt) B.pre
  have hown : s.vm.findClass RX2 = some m.cls := findClass_of_methodNamed B.named
  have hlocks := B.notSynchronized
  subst hsz
  have hD := hD0.self (sz := s.heap.size)
  generalize hAe : va_A [(pad, .inr (0, [.ref sg, .ref sl, .int len])), (sg, .inl (gI G, 40, .inl fsg)), (sl, .inl (gI G, 10, .inl fsl))] s.heap.size = A at hD E0 ⊢
  have E : EV G A s s.heap := E0
  have hA : ∀ q : Nat, s.heap.size ≤ q → A q := fun q h => by rw [← hAe]; exact Or.inr h
  have hS : va_S A s.heap s.heap [] := va_S.rf
  have hl := lv_entry ([.ref pad, .int p0]) (n := 2) (Nat.le_of_ble_eq_true rfl)
  rw [lg_entry_eq]
  generalize (lg_sl ([.ref pad, .int p0]) ++ List.replicate (2 - (lg_sl ([.ref pad, .int p0])).length) Slot.unset).toArray = ls at hl ⊢
  have hl : lv_has ls 2 [(0, .ref pad), (1, .int p0)] := hl
  have hP : va_P G.1 vwCl [(pad, .inr (0, [.ref sg, .ref sl, .int len])), (sg, .inl (gI G, 40, .inl fsg)), (sl, .inl (gI G, 10, .inl fsl))] s.heap := hP
  refine lv_iload_n hx hb dX2_signAt_0 rfl (lv_at hl 1 rfl) ?_
  refine lv_if_lt (tgt := 30) hx hb dX2_signAt_1 (by decide) (fun c1 => ?_) (fun c1 => ?_)
  · refine lv_iconst (v := 0) hx hb dX2_signAt_30 (by decide) ?_
    have hP9 := hP.sub (ws' := [(pad, .inr (0, [.ref sg, .ref sl, .int len])), (sg, .inl (gI G, 40, .inl fsg)), (sl, .inl (gI G, 10, .inl fsl))]) [0, 1, 2] rfl
    have hD9 := hD.sub (ws' := [(pad, .inr (0, [.ref sg, .ref sl, .int len])), (sg, .inl (gI G, 40, .inl fsg)), (sl, .inl (gI G, 10, .inl fsl))]) [0, 1, 2] (by decide) rfl
    exact W.iret (v := 0) hx hb hr (fun t ht hW => ⟨⟨0, (), rfl, by dsimp only; symm; unfold psg; (repeat (first | (refine Eq.trans (cIf_t ?_) ?_; · first | assumption | ((try simp only [inR, inS, i3_lt, i3_le, i3_eq, i6_lt, i6_le, Int32.toInt_toInt64, lg_cmp_lt, lg_cmp_gt, lg_cmp_ge, lg_cmp_le, Int32.reduceToInt, Int64.reduceToInt] at c1 ⊢); omega)) | (refine Eq.trans (cIf_f ?_) ?_; · first | assumption | ((try simp only [inR, inS, i3_lt, i3_le, i3_eq, i6_lt, i6_le, Int32.toInt_toInt64, lg_cmp_lt, lg_cmp_gt, lg_cmp_ge, lg_cmp_le, Int32.reduceToInt, Int64.reduceToInt] at c1 ⊢); omega)))); first | rfl | (exfalso; ((try simp only [inR, inS, i3_lt, i3_le, i3_eq, i6_lt, i6_le, Int32.toInt_toInt64, lg_cmp_lt, lg_cmp_gt, lg_cmp_ge, lg_cmp_le, Int32.reduceToInt, Int64.reduceToInt] at c1); omega)), by rw [ht]; exact hP9, hD9⟩, hS.F ht⟩) hS.2.2 dX2_signAt_31
  · refine lv_iload_n hx hb dX2_signAt_4 rfl (lv_at hl 1 rfl) ?_
    refine lv_aload_n hx hb dX2_signAt_5 rfl (lv_at hl 0 rfl) ?_
    refine va_get (D := G.1) (ci := 0) (v := .int len) (C := RX2) (T := TX2) (N := 3) hx hb hts (fun _ h => List.mem_cons_of_mem _ (List.mem_append_right _ h)) hown E.K hP 0 rfl rfl 2 (by decide) (hts (.fieldLink RX2 18 "LastMap$Pad" "length" "I") (by decide +kernel)) (fun _ h9 => h9) rfl dX2_signAt_6 ?_
    refine lv_icmp_ge (tgt := 30) hx hb dX2_signAt_9 (by decide) (fun c2 => ?_) (fun c2 => ?_)
    · refine lv_iconst (v := 0) hx hb dX2_signAt_30 (by decide) ?_
      have hP9 := hP.sub (ws' := [(pad, .inr (0, [.ref sg, .ref sl, .int len])), (sg, .inl (gI G, 40, .inl fsg)), (sl, .inl (gI G, 10, .inl fsl))]) [0, 1, 2] rfl
      have hD9 := hD.sub (ws' := [(pad, .inr (0, [.ref sg, .ref sl, .int len])), (sg, .inl (gI G, 40, .inl fsg)), (sl, .inl (gI G, 10, .inl fsl))]) [0, 1, 2] (by decide) rfl
      exact W.iret (v := 0) hx hb hr (fun t ht hW => ⟨⟨0, (), rfl, by dsimp only; symm; unfold psg; (repeat (first | (refine Eq.trans (cIf_t ?_) ?_; · first | assumption | ((try simp only [inR, inS, i3_lt, i3_le, i3_eq, i6_lt, i6_le, Int32.toInt_toInt64, lg_cmp_lt, lg_cmp_gt, lg_cmp_ge, lg_cmp_le, Int32.reduceToInt, Int64.reduceToInt] at c1 c2 ⊢); omega)) | (refine Eq.trans (cIf_f ?_) ?_; · first | assumption | ((try simp only [inR, inS, i3_lt, i3_le, i3_eq, i6_lt, i6_le, Int32.toInt_toInt64, lg_cmp_lt, lg_cmp_gt, lg_cmp_ge, lg_cmp_le, Int32.reduceToInt, Int64.reduceToInt] at c1 c2 ⊢); omega)))); first | rfl | (exfalso; ((try simp only [inR, inS, i3_lt, i3_le, i3_eq, i6_lt, i6_le, Int32.toInt_toInt64, lg_cmp_lt, lg_cmp_gt, lg_cmp_ge, lg_cmp_le, Int32.reduceToInt, Int64.reduceToInt] at c1 c2); omega)), by rw [ht]; exact hP9, hD9⟩, hS.F ht⟩) hS.2.2 dX2_signAt_31
    · refine lv_iload_n hx hb dX2_signAt_12 rfl (lv_at hl 1 rfl) ?_
      refine lv_aload_n hx hb dX2_signAt_13 rfl (lv_at hl 0 rfl) ?_
      refine va_get (D := G.1) (ci := 0) (v := .ref sg) (C := RX2) (T := TX2) (N := 3) hx hb hts (fun _ h => List.mem_cons_of_mem _ (List.mem_append_right _ h)) hown E.K hP 0 rfl rfl 0 (by decide) (hts (.fieldLink RX2 9 "LastMap$Pad" "signs" "[I") (by decide +kernel)) (fun _ h9 => h9) rfl dX2_signAt_14 ?_
      refine va_alen (v := 40) hx hb E.K hP 1 1 rfl rfl rfl dX2_signAt_17 ?_
      refine lv_icmp_ge (tgt := 30) hx hb dX2_signAt_18 (by decide) (fun c3 => ?_) (fun c3 => ?_)
      · refine lv_iconst (v := 0) hx hb dX2_signAt_30 (by decide) ?_
        have hP9 := hP.sub (ws' := [(pad, .inr (0, [.ref sg, .ref sl, .int len])), (sg, .inl (gI G, 40, .inl fsg)), (sl, .inl (gI G, 10, .inl fsl))]) [0, 1, 2] rfl
        have hD9 := hD.sub (ws' := [(pad, .inr (0, [.ref sg, .ref sl, .int len])), (sg, .inl (gI G, 40, .inl fsg)), (sl, .inl (gI G, 10, .inl fsl))]) [0, 1, 2] (by decide) rfl
        exact W.iret (v := 0) hx hb hr (fun t ht hW => ⟨⟨0, (), rfl, by dsimp only; symm; unfold psg; (repeat (first | (refine Eq.trans (cIf_t ?_) ?_; · first | assumption | ((try simp only [inR, inS, i3_lt, i3_le, i3_eq, i6_lt, i6_le, Int32.toInt_toInt64, lg_cmp_lt, lg_cmp_gt, lg_cmp_ge, lg_cmp_le, Int32.reduceToInt, Int64.reduceToInt] at c1 c2 c3 ⊢); omega)) | (refine Eq.trans (cIf_f ?_) ?_; · first | assumption | ((try simp only [inR, inS, i3_lt, i3_le, i3_eq, i6_lt, i6_le, Int32.toInt_toInt64, lg_cmp_lt, lg_cmp_gt, lg_cmp_ge, lg_cmp_le, Int32.reduceToInt, Int64.reduceToInt] at c1 c2 c3 ⊢); omega)))); first | rfl | (exfalso; ((try simp only [inR, inS, i3_lt, i3_le, i3_eq, i6_lt, i6_le, Int32.toInt_toInt64, lg_cmp_lt, lg_cmp_gt, lg_cmp_ge, lg_cmp_le, Int32.reduceToInt, Int64.reduceToInt] at c1 c2 c3); omega)), by rw [ht]; exact hP9, hD9⟩, hS.F ht⟩) hS.2.2 dX2_signAt_31
      · refine lv_aload_n hx hb dX2_signAt_21 rfl (lv_at hl 0 rfl) ?_
        refine va_get (D := G.1) (ci := 0) (v := .ref sg) (C := RX2) (T := TX2) (N := 3) hx hb hts (fun _ h => List.mem_cons_of_mem _ (List.mem_append_right _ h)) hown E.K hP 0 rfl rfl 0 (by decide) (hts (.fieldLink RX2 9 "LastMap$Pad" "signs" "[I") (by decide +kernel)) (fun _ h9 => h9) rfl dX2_signAt_22 ?_
        refine lv_iload_n hx hb dX2_signAt_25 rfl (lv_at hl 1 rfl) ?_
        refine va_iald hx hb E.K hP 1 1 rfl rfl (i := p0) (vp_in_iff.mpr (by ((try simp only [inR, inS, i3_lt, i3_le, i3_eq, i6_lt, i6_le, Int32.toInt_toInt64, lg_cmp_lt, lg_cmp_gt, lg_cmp_ge, lg_cmp_le, Int32.reduceToInt, Int64.reduceToInt] at c1 c2 c3 ⊢); omega))) dX2_signAt_26 ?_
        refine lv_topi (fun x4 ex4 => ?_)
        refine lv_goto (tgt := 31) hx hb dX2_signAt_27 (by decide) ?_
        have hP9 := hP.sub (ws' := [(pad, .inr (0, [.ref sg, .ref sl, .int len])), (sg, .inl (gI G, 40, .inl fsg)), (sl, .inl (gI G, 10, .inl fsl))]) [0, 1, 2] rfl
        have hD9 := hD.sub (ws' := [(pad, .inr (0, [.ref sg, .ref sl, .int len])), (sg, .inl (gI G, 40, .inl fsg)), (sl, .inl (gI G, 10, .inl fsl))]) [0, 1, 2] (by decide) rfl
        exact W.iret (v := x4) hx hb hr (fun t ht hW => ⟨⟨x4, (), rfl, by dsimp only; (try simp only [ex4]); symm; unfold psg; (repeat (first | (refine Eq.trans (cIf_t ?_) ?_; · first | assumption | ((try simp only [inR, inS, i3_lt, i3_le, i3_eq, i6_lt, i6_le, Int32.toInt_toInt64, lg_cmp_lt, lg_cmp_gt, lg_cmp_ge, lg_cmp_le, Int32.reduceToInt, Int64.reduceToInt] at c1 c2 c3 ⊢); omega)) | (refine Eq.trans (cIf_f ?_) ?_; · first | assumption | ((try simp only [inR, inS, i3_lt, i3_le, i3_eq, i6_lt, i6_le, Int32.toInt_toInt64, lg_cmp_lt, lg_cmp_gt, lg_cmp_ge, lg_cmp_le, Int32.reduceToInt, Int64.reduceToInt] at c1 c2 c3 ⊢); omega)))); first | rfl | (exfalso; ((try simp only [inR, inS, i3_lt, i3_le, i3_eq, i6_lt, i6_le, Int32.toInt_toInt64, lg_cmp_lt, lg_cmp_gt, lg_cmp_ge, lg_cmp_le, Int32.reduceToInt, Int64.reduceToInt] at c1 c2 c3); omega)), by rw [ht]; exact hP9, hD9⟩, hS.F ht⟩) hS.2.2 dX2_signAt_31

set_option maxHeartbeats 1000000 in
set_option maxRecDepth 100000 in
theorem c_padMark (l : Launch) (G : Gy) (sz : Nat) (pad : Nat) (sg : Nat) (sl : Nat) (len : Int32) (fsg : Nat → Int32) (fsl : Nat → Int32) (p0 : Int32)  : Ci l G yX2_markAt wsX2_markAt ({ frames := 1, cells := 0, slots := 0, locals := 21 }) [.ref pad, .int p0] [(pad, .inr (0, [.ref sg, .ref sl, .int len])), (sg, .inl (gI G, 40, .inl fsg)), (sl, .inl (gI G, 10, .inl fsl))] sz (fun (r : Int32) (_ : Unit) => r = num (psg fsg len p0)) (fun (_ : Unit) => [(pad, .inr (0, [.ref sg, .ref sl, .int len])), (sg, .inl (gI G, 40, .inl fsg)), (sl, .inl (gI G, 10, .inl fsl))]) 0 0 := by
  refine Met.ofW (cc := cX2_markAt) (maxL := 2) (ret := (some .int)) (by decide) rfl ?_
  intro p e s m args below meth c s₁ B hml hv
  obtain ⟨rfl, hsz, hP, hD0, E0⟩ := hv
  have hx := B.exec
  have hb := B.bytes
  have hr := B.returns
  have hts := atoms_spec (ws := wsX2_markAt) B.pre
  have hown : s.vm.findClass RX2 = some m.cls := findClass_of_methodNamed B.named
  have hlocks := B.notSynchronized
  subst hsz
  have hD := hD0.self (sz := s.heap.size)
  generalize hAe : va_A [(pad, .inr (0, [.ref sg, .ref sl, .int len])), (sg, .inl (gI G, 40, .inl fsg)), (sl, .inl (gI G, 10, .inl fsl))] s.heap.size = A at hD E0 ⊢
  have E : EV G A s s.heap := E0
  have hA : ∀ q : Nat, s.heap.size ≤ q → A q := fun q h => by rw [← hAe]; exact Or.inr h
  have hS : va_S A s.heap s.heap [] := va_S.rf
  have hl := lv_entry ([.ref pad, .int p0]) (n := 2) (Nat.le_of_ble_eq_true rfl)
  rw [lg_entry_eq]
  generalize (lg_sl ([.ref pad, .int p0]) ++ List.replicate (2 - (lg_sl ([.ref pad, .int p0])).length) Slot.unset).toArray = ls at hl ⊢
  have hl : lv_has ls 2 [(0, .ref pad), (1, .int p0)] := hl
  have hP : va_P G.1 vwCl [(pad, .inr (0, [.ref sg, .ref sl, .int len])), (sg, .inl (gI G, 40, .inl fsg)), (sl, .inl (gI G, 10, .inl fsl))] s.heap := hP
  refine lv_aload_n hx hb dX2_markAt_0 rfl (lv_at hl 0 rfl) ?_
  refine lv_iload_n hx hb dX2_markAt_1 rfl (lv_at hl 1 rfl) ?_
  refine ca_iR (va_runV (As := [.int p0]) (rest := []) ⟨hx, hb, hml, hown, hts⟩ (c_padSign l G s.heap.size pad sg sl len fsg fsl p0) (cwV 1 hts gX2_markAt_X2_signAt rfl rfl rfl (by decide +kernel) ⟨by decide +kernel, by decide +kernel⟩) (pre_V E hP hD hS hA [0, 1, 2] (by decide) rfl 0 0 rfl rfl) rfl rfl hl.1 rfl (lv_room (Nat.le_of_ble_eq_true rfl)) dX2_markAt_2 ⟨by decide +kernel, by decide +kernel⟩) hS hP hD hA [0, 1, 2] rfl (fun r2 _ H locs w1 hP hS => ?_)
  refine ca_iR (va_runS (As := [.int r2]) (rest := []) ⟨hx, hb, hml, hown, hts⟩ (c_number l G H.size r2) (va_cwS 1 hts gX2_markAt_X5_number rfl rfl rfl (by decide +kernel) ⟨by decide +kernel, by decide +kernel⟩) (pre_S E hP hD hS hA [] (by decide) rfl) rfl rfl hl.1 rfl (lv_room (Nat.le_of_ble_eq_true rfl)) dX2_markAt_5 ⟨by decide +kernel, by decide +kernel⟩) hS hP hD hA [] rfl (fun r4 _ H locs w3 hP hS => ?_)
  have hP9 := hP.sub (ws' := [(pad, .inr (0, [.ref sg, .ref sl, .int len])), (sg, .inl (gI G, 40, .inl fsg)), (sl, .inl (gI G, 10, .inl fsl))]) [0, 1, 2] rfl
  have hD9 := hD.sub (ws' := [(pad, .inr (0, [.ref sg, .ref sl, .int len])), (sg, .inl (gI G, 40, .inl fsg)), (sl, .inl (gI G, 10, .inl fsl))]) [0, 1, 2] (by decide) rfl
  exact W.iret (v := r4) hx hb hr (fun t ht hW => ⟨⟨r4, (), rfl, by dsimp only; (try simp only [w1, w3]); first | done | rfl, by rw [ht]; exact hP9, hD9⟩, hS.F ht⟩) hS.2.2 dX2_markAt_8

set_option maxHeartbeats 1000000 in
set_option maxRecDepth 100000 in
theorem c_kindAt (l : Launch) (G : Gy) (sz : Nat) (pad : Nat) (sg : Nat) (sl : Nat) (len : Int32) (fsg : Nat → Int32) (fsl : Nat → Int32) (p0 : Int32)  : Ci l G yX2_kindAt wsX2_kindAt ({ frames := 1, cells := 0, slots := 0, locals := 21 }) [.ref pad, .int p0] [(pad, .inr (0, [.ref sg, .ref sl, .int len])), (sg, .inl (gI G, 40, .inl fsg)), (sl, .inl (gI G, 10, .inl fsl))] sz (fun (r : Int32) (_ : Unit) => r = knd (psg fsg len p0)) (fun (_ : Unit) => [(pad, .inr (0, [.ref sg, .ref sl, .int len])), (sg, .inl (gI G, 40, .inl fsg)), (sl, .inl (gI G, 10, .inl fsl))]) 0 0 := by
  refine Met.ofW (cc := cX2_kindAt) (maxL := 2) (ret := (some .int)) (by decide) rfl ?_
  intro p e s m args below meth c s₁ B hml hv
  obtain ⟨rfl, hsz, hP, hD0, E0⟩ := hv
  have hx := B.exec
  have hb := B.bytes
  have hr := B.returns
  have hts := atoms_spec (ws := wsX2_kindAt) B.pre
  have hown : s.vm.findClass RX2 = some m.cls := findClass_of_methodNamed B.named
  have hlocks := B.notSynchronized
  subst hsz
  have hD := hD0.self (sz := s.heap.size)
  generalize hAe : va_A [(pad, .inr (0, [.ref sg, .ref sl, .int len])), (sg, .inl (gI G, 40, .inl fsg)), (sl, .inl (gI G, 10, .inl fsl))] s.heap.size = A at hD E0 ⊢
  have E : EV G A s s.heap := E0
  have hA : ∀ q : Nat, s.heap.size ≤ q → A q := fun q h => by rw [← hAe]; exact Or.inr h
  have hS : va_S A s.heap s.heap [] := va_S.rf
  have hl := lv_entry ([.ref pad, .int p0]) (n := 2) (Nat.le_of_ble_eq_true rfl)
  rw [lg_entry_eq]
  generalize (lg_sl ([.ref pad, .int p0]) ++ List.replicate (2 - (lg_sl ([.ref pad, .int p0])).length) Slot.unset).toArray = ls at hl ⊢
  have hl : lv_has ls 2 [(0, .ref pad), (1, .int p0)] := hl
  have hP : va_P G.1 vwCl [(pad, .inr (0, [.ref sg, .ref sl, .int len])), (sg, .inl (gI G, 40, .inl fsg)), (sl, .inl (gI G, 10, .inl fsl))] s.heap := hP
  refine lv_aload_n hx hb dX2_kindAt_0 rfl (lv_at hl 0 rfl) ?_
  refine lv_iload_n hx hb dX2_kindAt_1 rfl (lv_at hl 1 rfl) ?_
  refine ca_iR (va_runV (As := [.int p0]) (rest := []) ⟨hx, hb, hml, hown, hts⟩ (c_padSign l G s.heap.size pad sg sl len fsg fsl p0) (cwV 1 hts gX2_kindAt_X2_signAt rfl rfl rfl (by decide +kernel) ⟨by decide +kernel, by decide +kernel⟩) (pre_V E hP hD hS hA [0, 1, 2] (by decide) rfl 0 0 rfl rfl) rfl rfl hl.1 rfl (lv_room (Nat.le_of_ble_eq_true rfl)) dX2_kindAt_2 ⟨by decide +kernel, by decide +kernel⟩) hS hP hD hA [0, 1, 2] rfl (fun r2 _ H locs w1 hP hS => ?_)
  by_cases c90 : r2 = 99
  · refine lv_lookup (off := 43) (tgt := 48) hx hb dX2_kindAt_5 (by decide) (lv_lk c90 rfl) (by decide) ?_
    refine lv_iconst (v := 0) hx hb dX2_kindAt_48 (by decide) ?_
    have hP9 := hP.sub (ws' := [(pad, .inr (0, [.ref sg, .ref sl, .int len])), (sg, .inl (gI G, 40, .inl fsg)), (sl, .inl (gI G, 10, .inl fsl))]) [0, 1, 2] rfl
    have hD9 := hD.sub (ws' := [(pad, .inr (0, [.ref sg, .ref sl, .int len])), (sg, .inl (gI G, 40, .inl fsg)), (sl, .inl (gI G, 10, .inl fsl))]) [0, 1, 2] (by decide) rfl
    exact W.iret (v := 0) hx hb hr (fun t ht hW => ⟨⟨0, (), rfl, by dsimp only; rw [w1] at c90; symm; unfold knd; refine (cIf_t (by assumption)).trans ?_; rfl, by rw [ht]; exact hP9, hD9⟩, hS.F ht⟩) hS.2.2 dX2_kindAt_49
  by_cases c91 : r2 = 111
  · refine lv_lookup (off := 49) (tgt := 54) hx hb dX2_kindAt_5 (by decide) ((lv_osw c90 rfl).trans (lv_lk c91 rfl)) (by decide) ?_
    refine lv_iconst (v := 3) hx hb dX2_kindAt_54 (by decide) ?_
    have hP9 := hP.sub (ws' := [(pad, .inr (0, [.ref sg, .ref sl, .int len])), (sg, .inl (gI G, 40, .inl fsg)), (sl, .inl (gI G, 10, .inl fsl))]) [0, 1, 2] rfl
    have hD9 := hD.sub (ws' := [(pad, .inr (0, [.ref sg, .ref sl, .int len])), (sg, .inl (gI G, 40, .inl fsg)), (sl, .inl (gI G, 10, .inl fsl))]) [0, 1, 2] (by decide) rfl
    exact W.iret (v := 3) hx hb hr (fun t ht hW => ⟨⟨3, (), rfl, by dsimp only; rw [w1] at c90 c91; symm; unfold knd; refine (cIf_f (by assumption)).trans ?_; refine (cIf_t (by assumption)).trans ?_; rfl, by rw [ht]; exact hP9, hD9⟩, hS.F ht⟩) hS.2.2 dX2_kindAt_55
  by_cases c92 : r2 = 115
  · refine lv_lookup (off := 45) (tgt := 50) hx hb dX2_kindAt_5 (by decide) ((lv_osw c90 rfl).trans ((lv_osw c91 rfl).trans (lv_lk c92 rfl))) (by decide) ?_
    refine lv_iconst (v := 1) hx hb dX2_kindAt_50 (by decide) ?_
    have hP9 := hP.sub (ws' := [(pad, .inr (0, [.ref sg, .ref sl, .int len])), (sg, .inl (gI G, 40, .inl fsg)), (sl, .inl (gI G, 10, .inl fsl))]) [0, 1, 2] rfl
    have hD9 := hD.sub (ws' := [(pad, .inr (0, [.ref sg, .ref sl, .int len])), (sg, .inl (gI G, 40, .inl fsg)), (sl, .inl (gI G, 10, .inl fsl))]) [0, 1, 2] (by decide) rfl
    exact W.iret (v := 1) hx hb hr (fun t ht hW => ⟨⟨1, (), rfl, by dsimp only; rw [w1] at c90 c91 c92; symm; unfold knd; refine (cIf_f (by assumption)).trans ?_; refine (cIf_f (by assumption)).trans ?_; refine (cIf_t (by assumption)).trans ?_; rfl, by rw [ht]; exact hP9, hD9⟩, hS.F ht⟩) hS.2.2 dX2_kindAt_51
  by_cases c93 : r2 = 116
  · refine lv_lookup (off := 47) (tgt := 52) hx hb dX2_kindAt_5 (by decide) ((lv_osw c90 rfl).trans ((lv_osw c91 rfl).trans ((lv_osw c92 rfl).trans (lv_lk c93 rfl)))) (by decide) ?_
    refine lv_iconst (v := 2) hx hb dX2_kindAt_52 (by decide) ?_
    have hP9 := hP.sub (ws' := [(pad, .inr (0, [.ref sg, .ref sl, .int len])), (sg, .inl (gI G, 40, .inl fsg)), (sl, .inl (gI G, 10, .inl fsl))]) [0, 1, 2] rfl
    have hD9 := hD.sub (ws' := [(pad, .inr (0, [.ref sg, .ref sl, .int len])), (sg, .inl (gI G, 40, .inl fsg)), (sl, .inl (gI G, 10, .inl fsl))]) [0, 1, 2] (by decide) rfl
    exact W.iret (v := 2) hx hb hr (fun t ht hW => ⟨⟨2, (), rfl, by dsimp only; rw [w1] at c90 c91 c92 c93; symm; unfold knd; refine (cIf_f (by assumption)).trans ?_; refine (cIf_f (by assumption)).trans ?_; refine (cIf_f (by assumption)).trans ?_; refine (cIf_t (by assumption)).trans ?_; rfl, by rw [ht]; exact hP9, hD9⟩, hS.F ht⟩) hS.2.2 dX2_kindAt_53
  refine lv_lookup (off := 51) (tgt := 56) hx hb dX2_kindAt_5 (by decide) ((lv_osw c90 rfl).trans ((lv_osw c91 rfl).trans ((lv_osw c92 rfl).trans ((lv_osw c93 rfl).trans (rfl))))) (by decide) ?_
  refine lv_iconst (v := (-1)) hx hb dX2_kindAt_56 (by decide) ?_
  have hP9 := hP.sub (ws' := [(pad, .inr (0, [.ref sg, .ref sl, .int len])), (sg, .inl (gI G, 40, .inl fsg)), (sl, .inl (gI G, 10, .inl fsl))]) [0, 1, 2] rfl
  have hD9 := hD.sub (ws' := [(pad, .inr (0, [.ref sg, .ref sl, .int len])), (sg, .inl (gI G, 40, .inl fsg)), (sl, .inl (gI G, 10, .inl fsl))]) [0, 1, 2] (by decide) rfl
  exact W.iret (v := (-1)) hx hb hr (fun t ht hW => ⟨⟨(-1), (), rfl, by dsimp only; rw [w1] at c90 c91 c92 c93; symm; unfold knd; refine (cIf_f (by assumption)).trans ?_; refine (cIf_f (by assumption)).trans ?_; refine (cIf_f (by assumption)).trans ?_; refine (cIf_f (by assumption)).trans ?_; rfl, by rw [ht]; exact hP9, hD9⟩, hS.F ht⟩) hS.2.2 dX2_kindAt_57

set_option maxHeartbeats 1000000 in
set_option maxRecDepth 100000 in
theorem c_lengthOfSlip (l : Launch) (G : Gy) (sz : Nat) (pad : Nat) (sg : Nat) (sl : Nat) (len : Int32) (fsg : Nat → Int32) (fsl : Nat → Int32) (p0 : Int32)  : Ci l G yX2_lengthOfSlip wsX2_lengthOfSlip ({ frames := 2, cells := 0, slots := 0, locals := 42 }) [.ref pad, .int p0] [(pad, .inr (0, [.ref sg, .ref sl, .int len])), (sg, .inl (gI G, 40, .inl fsg)), (sl, .inl (gI G, 10, .inl fsl))] sz (fun (r : Int32) (_ : Unit) => r = lsl fsg len p0) (fun (_ : Unit) => [(pad, .inr (0, [.ref sg, .ref sl, .int len])), (sg, .inl (gI G, 40, .inl fsg)), (sl, .inl (gI G, 10, .inl fsl))]) 0 0 := by
  refine Met.ofW (cc := cX2_lengthOfSlip) (maxL := 2) (ret := (some .int)) (by decide) rfl ?_
  intro p e s m args below meth c s₁ B hml hv
  obtain ⟨rfl, hsz, hP, hD0, E0⟩ := hv
  have hx := B.exec
  have hb := B.bytes
  have hr := B.returns
  have hts := atoms_spec (ws := wsX2_lengthOfSlip) B.pre
  have hown : s.vm.findClass RX2 = some m.cls := findClass_of_methodNamed B.named
  have hlocks := B.notSynchronized
  subst hsz
  have hD := hD0.self (sz := s.heap.size)
  generalize hAe : va_A [(pad, .inr (0, [.ref sg, .ref sl, .int len])), (sg, .inl (gI G, 40, .inl fsg)), (sl, .inl (gI G, 10, .inl fsl))] s.heap.size = A at hD E0 ⊢
  have E : EV G A s s.heap := E0
  have hA : ∀ q : Nat, s.heap.size ≤ q → A q := fun q h => by rw [← hAe]; exact Or.inr h
  have hS : va_S A s.heap s.heap [] := va_S.rf
  have hl := lv_entry ([.ref pad, .int p0]) (n := 2) (Nat.le_of_ble_eq_true rfl)
  rw [lg_entry_eq]
  generalize (lg_sl ([.ref pad, .int p0]) ++ List.replicate (2 - (lg_sl ([.ref pad, .int p0])).length) Slot.unset).toArray = ls at hl ⊢
  have hl : lv_has ls 2 [(0, .ref pad), (1, .int p0)] := hl
  have hP : va_P G.1 vwCl [(pad, .inr (0, [.ref sg, .ref sl, .int len])), (sg, .inl (gI G, 40, .inl fsg)), (sl, .inl (gI G, 10, .inl fsl))] s.heap := hP
  refine lv_aload_n hx hb dX2_lengthOfSlip_0 rfl (lv_at hl 0 rfl) ?_
  refine lv_iload_n hx hb dX2_lengthOfSlip_1 rfl (lv_at hl 1 rfl) ?_
  refine ca_iR (va_runV (As := [.int p0]) (rest := []) ⟨hx, hb, hml, hown, hts⟩ (c_kindAt l G s.heap.size pad sg sl len fsg fsl p0) (cwV 1 hts gX2_lengthOfSlip_X2_kindAt rfl rfl rfl (by decide +kernel) ⟨by decide +kernel, by decide +kernel⟩) (pre_V E hP hD hS hA [0, 1, 2] (by decide) rfl 0 0 rfl rfl) rfl rfl hl.1 rfl (lv_room (Nat.le_of_ble_eq_true rfl)) dX2_lengthOfSlip_2 ⟨by decide +kernel, by decide +kernel⟩) hS hP hD hA [0, 1, 2] rfl (fun r2 _ H locs w1 hP hS => ?_)
  refine lv_if_ne (tgt := 12) hx hb dX2_lengthOfSlip_5 (by decide) (fun c3 => ?_) (fun c3 => ?_)
  · refine lv_iconst (v := 2) hx hb dX2_lengthOfSlip_12 (by decide) ?_
    have hP9 := hP.sub (ws' := [(pad, .inr (0, [.ref sg, .ref sl, .int len])), (sg, .inl (gI G, 40, .inl fsg)), (sl, .inl (gI G, 10, .inl fsl))]) [0, 1, 2] rfl
    have hD9 := hD.sub (ws' := [(pad, .inr (0, [.ref sg, .ref sl, .int len])), (sg, .inl (gI G, 40, .inl fsg)), (sl, .inl (gI G, 10, .inl fsl))]) [0, 1, 2] (by decide) rfl
    exact W.iret (v := 2) hx hb hr (fun t ht hW => ⟨⟨2, (), rfl, by dsimp only; rw [w1] at c3; symm; unfold lsl; first | exact cIf_t (by assumption) | exact cIf_f (by assumption), by rw [ht]; exact hP9, hD9⟩, hS.F ht⟩) hS.2.2 dX2_lengthOfSlip_13
  · refine lv_iconst (v := 3) hx hb dX2_lengthOfSlip_8 (by decide) ?_
    refine lv_goto (tgt := 13) hx hb dX2_lengthOfSlip_9 (by decide) ?_
    have hP9 := hP.sub (ws' := [(pad, .inr (0, [.ref sg, .ref sl, .int len])), (sg, .inl (gI G, 40, .inl fsg)), (sl, .inl (gI G, 10, .inl fsl))]) [0, 1, 2] rfl
    have hD9 := hD.sub (ws' := [(pad, .inr (0, [.ref sg, .ref sl, .int len])), (sg, .inl (gI G, 40, .inl fsg)), (sl, .inl (gI G, 10, .inl fsl))]) [0, 1, 2] (by decide) rfl
    exact W.iret (v := 3) hx hb hr (fun t ht hW => ⟨⟨3, (), rfl, by dsimp only; rw [w1] at c3; symm; unfold lsl; first | exact cIf_t (by assumption) | exact cIf_f (by assumption), by rw [ht]; exact hP9, hD9⟩, hS.F ht⟩) hS.2.2 dX2_lengthOfSlip_13

set_option maxHeartbeats 1000000 in
set_option maxRecDepth 100000 in
theorem c_slipAt (l : Launch) (G : Gy) (sz : Nat) (pad : Nat) (sg : Nat) (sl : Nat) (len : Int32) (fsg : Nat → Int32) (fsl : Nat → Int32) (p0 : Int32)  : Ci l G yX2_slipAt wsX2_slipAt ({ frames := 0, cells := 0, slots := 0, locals := 0 }) [.ref pad, .int p0] [(pad, .inr (0, [.ref sg, .ref sl, .int len])), (sg, .inl (gI G, 40, .inl fsg)), (sl, .inl (gI G, 10, .inl fsl))] sz (fun (r : Int32) (_ : Unit) => r = cIf (inR p0 0 9) (fsl p0.toNatClampNeg) (-6)) (fun (_ : Unit) => [(pad, .inr (0, [.ref sg, .ref sl, .int len])), (sg, .inl (gI G, 40, .inl fsg)), (sl, .inl (gI G, 10, .inl fsl))]) 0 0 := by
  refine Met.ofW (cc := cX2_slipAt) (maxL := 2) (ret := (some .int)) (by decide) rfl ?_
  intro p e s m args below meth c s₁ B hml hv
  obtain ⟨rfl, hsz, hP, hD0, E0⟩ := hv
  have hx := B.exec
  have hb := B.bytes
  have hr := B.returns
  have hts := atoms_spec (ws := wsX2_slipAt) B.pre
  have hown : s.vm.findClass RX2 = some m.cls := findClass_of_methodNamed B.named
  have hlocks := B.notSynchronized
  subst hsz
  have hD := hD0.self (sz := s.heap.size)
  generalize hAe : va_A [(pad, .inr (0, [.ref sg, .ref sl, .int len])), (sg, .inl (gI G, 40, .inl fsg)), (sl, .inl (gI G, 10, .inl fsl))] s.heap.size = A at hD E0 ⊢
  have E : EV G A s s.heap := E0
  have hA : ∀ q : Nat, s.heap.size ≤ q → A q := fun q h => by rw [← hAe]; exact Or.inr h
  have hS : va_S A s.heap s.heap [] := va_S.rf
  have hl := lv_entry ([.ref pad, .int p0]) (n := 2) (Nat.le_of_ble_eq_true rfl)
  rw [lg_entry_eq]
  generalize (lg_sl ([.ref pad, .int p0]) ++ List.replicate (2 - (lg_sl ([.ref pad, .int p0])).length) Slot.unset).toArray = ls at hl ⊢
  have hl : lv_has ls 2 [(0, .ref pad), (1, .int p0)] := hl
  have hP : va_P G.1 vwCl [(pad, .inr (0, [.ref sg, .ref sl, .int len])), (sg, .inl (gI G, 40, .inl fsg)), (sl, .inl (gI G, 10, .inl fsl))] s.heap := hP
  refine lv_iload_n hx hb dX2_slipAt_0 rfl (lv_at hl 1 rfl) ?_
  refine lv_if_lt (tgt := 22) hx hb dX2_slipAt_1 (by decide) (fun c1 => ?_) (fun c1 => ?_)
  · refine lv_bipush (v := (-6)) hx hb dX2_slipAt_22 (by decide) ?_
    have hP9 := hP.sub (ws' := [(pad, .inr (0, [.ref sg, .ref sl, .int len])), (sg, .inl (gI G, 40, .inl fsg)), (sl, .inl (gI G, 10, .inl fsl))]) [0, 1, 2] rfl
    have hD9 := hD.sub (ws' := [(pad, .inr (0, [.ref sg, .ref sl, .int len])), (sg, .inl (gI G, 40, .inl fsg)), (sl, .inl (gI G, 10, .inl fsl))]) [0, 1, 2] (by decide) rfl
    exact W.iret (v := (-6)) hx hb hr (fun t ht hW => ⟨⟨(-6), (), rfl, (cIf_f (by ((try simp only [inR, inS, i3_lt, i3_le, i3_eq, i6_lt, i6_le, Int32.toInt_toInt64, lg_cmp_lt, lg_cmp_gt, lg_cmp_ge, lg_cmp_le, Int32.reduceToInt, Int64.reduceToInt] at c1 ⊢); omega))).symm, by rw [ht]; exact hP9, hD9⟩, hS.F ht⟩) hS.2.2 dX2_slipAt_24
  · refine lv_iload_n hx hb dX2_slipAt_4 rfl (lv_at hl 1 rfl) ?_
    refine lv_aload_n hx hb dX2_slipAt_5 rfl (lv_at hl 0 rfl) ?_
    refine va_get (D := G.1) (ci := 0) (v := .ref sl) (C := RX2) (T := TX2) (N := 3) hx hb hts (fun _ h => List.mem_cons_of_mem _ (List.mem_append_right _ h)) hown E.K hP 0 rfl rfl 1 (by decide) (hts (.fieldLink RX2 15 "LastMap$Pad" "slips" "[I") (by decide +kernel)) (fun _ h9 => h9) rfl dX2_slipAt_6 ?_
    refine va_alen (v := 10) hx hb E.K hP 2 1 rfl rfl rfl dX2_slipAt_9 ?_
    refine lv_icmp_ge (tgt := 22) hx hb dX2_slipAt_10 (by decide) (fun c2 => ?_) (fun c2 => ?_)
    · refine lv_bipush (v := (-6)) hx hb dX2_slipAt_22 (by decide) ?_
      have hP9 := hP.sub (ws' := [(pad, .inr (0, [.ref sg, .ref sl, .int len])), (sg, .inl (gI G, 40, .inl fsg)), (sl, .inl (gI G, 10, .inl fsl))]) [0, 1, 2] rfl
      have hD9 := hD.sub (ws' := [(pad, .inr (0, [.ref sg, .ref sl, .int len])), (sg, .inl (gI G, 40, .inl fsg)), (sl, .inl (gI G, 10, .inl fsl))]) [0, 1, 2] (by decide) rfl
      exact W.iret (v := (-6)) hx hb hr (fun t ht hW => ⟨⟨(-6), (), rfl, (cIf_f (by ((try simp only [inR, inS, i3_lt, i3_le, i3_eq, i6_lt, i6_le, Int32.toInt_toInt64, lg_cmp_lt, lg_cmp_gt, lg_cmp_ge, lg_cmp_le, Int32.reduceToInt, Int64.reduceToInt] at c1 c2 ⊢); omega))).symm, by rw [ht]; exact hP9, hD9⟩, hS.F ht⟩) hS.2.2 dX2_slipAt_24
    · refine lv_aload_n hx hb dX2_slipAt_13 rfl (lv_at hl 0 rfl) ?_
      refine va_get (D := G.1) (ci := 0) (v := .ref sl) (C := RX2) (T := TX2) (N := 3) hx hb hts (fun _ h => List.mem_cons_of_mem _ (List.mem_append_right _ h)) hown E.K hP 0 rfl rfl 1 (by decide) (hts (.fieldLink RX2 15 "LastMap$Pad" "slips" "[I") (by decide +kernel)) (fun _ h9 => h9) rfl dX2_slipAt_14 ?_
      refine lv_iload_n hx hb dX2_slipAt_17 rfl (lv_at hl 1 rfl) ?_
      refine va_iald hx hb E.K hP 2 1 rfl rfl (i := p0) (vp_in_iff.mpr (by ((try simp only [inR, inS, i3_lt, i3_le, i3_eq, i6_lt, i6_le, Int32.toInt_toInt64, lg_cmp_lt, lg_cmp_gt, lg_cmp_ge, lg_cmp_le, Int32.reduceToInt, Int64.reduceToInt] at c1 c2 ⊢); omega))) dX2_slipAt_18 ?_
      refine lv_topi (fun x3 ex3 => ?_)
      refine lv_goto (tgt := 24) hx hb dX2_slipAt_19 (by decide) ?_
      have hP9 := hP.sub (ws' := [(pad, .inr (0, [.ref sg, .ref sl, .int len])), (sg, .inl (gI G, 40, .inl fsg)), (sl, .inl (gI G, 10, .inl fsl))]) [0, 1, 2] rfl
      have hD9 := hD.sub (ws' := [(pad, .inr (0, [.ref sg, .ref sl, .int len])), (sg, .inl (gI G, 40, .inl fsg)), (sl, .inl (gI G, 10, .inl fsl))]) [0, 1, 2] (by decide) rfl
      exact W.iret (v := x3) hx hb hr (fun t ht hW => ⟨⟨x3, (), rfl, by rw [ex3]; exact (cIf_t (by ((try simp only [inR, inS, i3_lt, i3_le, i3_eq, i6_lt, i6_le, Int32.toInt_toInt64, lg_cmp_lt, lg_cmp_gt, lg_cmp_ge, lg_cmp_le, Int32.reduceToInt, Int64.reduceToInt] at c1 c2 ⊢); omega))).symm, by rw [ht]; exact hP9, hD9⟩, hS.F ht⟩) hS.2.2 dX2_slipAt_24
