set_option maxHeartbeats 1000000 in
set_option maxRecDepth 100000 in
theorem c_weight (l : Launch) (G : Gy) (sz : Nat) (p0 : Int32)  : Ci l G yX1_weight wsX1_weight ({ frames := 0, cells := 0, slots := 0, locals := 0 }) [.int p0] [] sz (fun (r : Int32) (_ : Unit) => r = wgt p0) (fun (_ : Unit) => []) 0 0 := by
  refine Met.ofW (cc := cX1_weight) (maxL := 1) (ret := (some .int)) (by decide) rfl ?_
  intro p e s m args below meth c s₁ B hml hv
  obtain ⟨rfl, hsz, hP, hD0, E0⟩ := hv
  have hx := B.exec
  have hb := B.bytes
  have hr := B.returns
  have hts := atoms_spec (ws := wsX1_weight) B.pre
  have hown : s.vm.findClass RX1 = some m.cls := findClass_of_methodNamed B.named
  have hlocks := B.notSynchronized
  subst hsz
  have hD := hD0.self (sz := s.heap.size)
  generalize hAe : va_A [] s.heap.size = A at hD E0 ⊢
  have E : EV G A s s.heap := E0
  have hA : ∀ q : Nat, s.heap.size ≤ q → A q := fun q h => by rw [← hAe]; exact Or.inr h
  have hS : va_S A s.heap s.heap [] := va_S.rf
  have hl := lv_entry ([.int p0]) (n := 1) (Nat.le_of_ble_eq_true rfl)
  rw [lg_entry_eq]
  generalize (lg_sl ([.int p0]) ++ List.replicate (1 - (lg_sl ([.int p0])).length) Slot.unset).toArray = ls at hl ⊢
  have hl : lv_has ls 1 [(0, .int p0)] := hl
  have hP : va_P G.1 vwCl [] s.heap := hP
  refine lv_iload_n hx hb dX1_weight_0 rfl (lv_at hl 0 rfl) ?_
  refine lv_if_lt (tgt := 20) hx hb dX1_weight_1 (by decide) (fun c1 => ?_) (fun c1 => ?_)
  · refine lv_iconst (v := 1) hx hb dX1_weight_20 (by decide) ?_
    have hP9 := hP.sub (ws' := []) [] rfl
    have hD9 := hD.sub (ws' := []) [] (by decide) rfl
    exact W.iret (v := 1) hx hb hr (fun t ht hW => ⟨⟨1, (), rfl, (cIf_f (by ((try simp only [inR, inS, i3_lt, i3_le, i3_eq, i6_lt, i6_le, Int32.toInt_toInt64, lg_cmp_lt, lg_cmp_gt, lg_cmp_ge, lg_cmp_le, Int32.reduceToInt, Int64.reduceToInt] at c1 ⊢); omega))).symm, by rw [ht]; exact hP9, hD9⟩, hS.F ht⟩) hS.2.2 dX1_weight_21
  · refine lv_iload_n hx hb dX1_weight_4 rfl (lv_at hl 0 rfl) ?_
    obtain ⟨t2, zt2, Tt2⟩ := E.M
    refine va_gets hx hb zt2 hS hown (hts (.fieldLink RX1 9 "LastMap$Maps" "WEIGHTS" "[I") (by decide +kernel)) (fun _ h9 => h9) dX1_weight_5 ?_
    refine va_tlen (v := 6) hx hb Tt2 hS (by decide) dX1_weight_8 ?_
    refine lv_icmp_ge (tgt := 20) hx hb dX1_weight_9 (by decide) (fun c3 => ?_) (fun c3 => ?_)
    · refine lv_iconst (v := 1) hx hb dX1_weight_20 (by decide) ?_
      have hP9 := hP.sub (ws' := []) [] rfl
      have hD9 := hD.sub (ws' := []) [] (by decide) rfl
      exact W.iret (v := 1) hx hb hr (fun t ht hW => ⟨⟨1, (), rfl, (cIf_f (by ((try simp only [inR, inS, i3_lt, i3_le, i3_eq, i6_lt, i6_le, Int32.toInt_toInt64, lg_cmp_lt, lg_cmp_gt, lg_cmp_ge, lg_cmp_le, Int32.reduceToInt, Int64.reduceToInt] at c1 c3 ⊢); omega))).symm, by rw [ht]; exact hP9, hD9⟩, hS.F ht⟩) hS.2.2 dX1_weight_21
    · obtain ⟨t4, zt4, Tt4⟩ := E.M
      refine va_gets hx hb zt4 hS hown (hts (.fieldLink RX1 9 "LastMap$Maps" "WEIGHTS" "[I") (by decide +kernel)) (fun _ h9 => h9) dX1_weight_12 ?_
      refine lv_iload_n hx hb dX1_weight_15 rfl (lv_at hl 0 rfl) ?_
      obtain ⟨x5, ex5⟩ : ∃ y : Int32, tM p0.toNatClampNeg = .int y := ⟨_, rfl⟩
      refine va_ti hx hb Tt4 hS (i := p0) (vp_in_iff.mpr (by ((try simp only [inR, inS, i3_lt, i3_le, i3_eq, i6_lt, i6_le, Int32.toInt_toInt64, lg_cmp_lt, lg_cmp_gt, lg_cmp_ge, lg_cmp_le, Int32.reduceToInt, Int64.reduceToInt] at c1 c3 ⊢); omega))) ex5 dX1_weight_16 ?_
      refine lv_goto (tgt := 21) hx hb dX1_weight_17 (by decide) ?_
      have hP9 := hP.sub (ws' := []) [] rfl
      have hD9 := hD.sub (ws' := []) [] (by decide) rfl
      exact W.iret (v := x5) hx hb hr (fun t ht hW => ⟨⟨x5, (), rfl, by rw [← Value.int.inj ex5]; exact (cIf_t (by ((try simp only [inR, inS, i3_lt, i3_le, i3_eq, i6_lt, i6_le, Int32.toInt_toInt64, lg_cmp_lt, lg_cmp_gt, lg_cmp_ge, lg_cmp_le, Int32.reduceToInt, Int64.reduceToInt] at c1 c3 ⊢); omega))).symm, by rw [ht]; exact hP9, hD9⟩, hS.F ht⟩) hS.2.2 dX1_weight_21

set_option maxHeartbeats 1000000 in
set_option maxRecDepth 100000 in
theorem c_written (l : Launch) (G : Gy) (sz : Nat) (p0 : Int32)  : Ci l G yX5_written wsX5_written ({ frames := 0, cells := 0, slots := 0, locals := 0 }) [.int p0] [] sz (fun (r : Int32) (_ : Unit) => r = wri p0) (fun (_ : Unit) => []) 0 0 := by
  refine Met.ofW (cc := cX5_written) (maxL := 1) (ret := (some .int)) (by decide) rfl ?_
  intro p e s m args below meth c s₁ B hml hv
  obtain ⟨rfl, hsz, hP, hD0, E0⟩ := hv
  have hx := B.exec
  have hb := B.bytes
  have hr := B.returns
  have hts := atoms_spec (ws := wsX5_written) B.pre
  have hown : s.vm.findClass RX5 = some m.cls := findClass_of_methodNamed B.named
  have hlocks := B.notSynchronized
  subst hsz
  have hD := hD0.self (sz := s.heap.size)
  generalize hAe : va_A [] s.heap.size = A at hD E0 ⊢
  have E : EV G A s s.heap := E0
  have hA : ∀ q : Nat, s.heap.size ≤ q → A q := fun q h => by rw [← hAe]; exact Or.inr h
  have hS : va_S A s.heap s.heap [] := va_S.rf
  have hl := lv_entry ([.int p0]) (n := 1) (Nat.le_of_ble_eq_true rfl)
  rw [lg_entry_eq]
  generalize (lg_sl ([.int p0]) ++ List.replicate (1 - (lg_sl ([.int p0])).length) Slot.unset).toArray = ls at hl ⊢
  have hl : lv_has ls 1 [(0, .int p0)] := hl
  have hP : va_P G.1 vwCl [] s.heap := hP
  refine lv_iload_n hx hb dX5_written_0 rfl (lv_at hl 0 rfl) ?_
  refine lv_if_lt (tgt := 20) hx hb dX5_written_1 (by decide) (fun c1 => ?_) (fun c1 => ?_)
  · refine lv_iconst (v := 0) hx hb dX5_written_20 (by decide) ?_
    have hP9 := hP.sub (ws' := []) [] rfl
    have hD9 := hD.sub (ws' := []) [] (by decide) rfl
    exact W.iret (v := 0) hx hb hr (fun t ht hW => ⟨⟨0, (), rfl, (cIf_f (by ((try simp only [inR, inS, i3_lt, i3_le, i3_eq, i6_lt, i6_le, Int32.toInt_toInt64, lg_cmp_lt, lg_cmp_gt, lg_cmp_ge, lg_cmp_le, Int32.reduceToInt, Int64.reduceToInt] at c1 ⊢); omega))).symm, by rw [ht]; exact hP9, hD9⟩, hS.F ht⟩) hS.2.2 dX5_written_21
  · refine lv_iload_n hx hb dX5_written_4 rfl (lv_at hl 0 rfl) ?_
    obtain ⟨t2, zt2, Tt2⟩ := E.W
    refine va_gets hx hb zt2 hS hown (hts (.fieldLink RX5 7 "LastMap$Signs" "WRITTEN" "[I") (by decide +kernel)) (fun _ h9 => h9) dX5_written_5 ?_
    refine va_tlen (v := 6) hx hb Tt2 hS (by decide) dX5_written_8 ?_
    refine lv_icmp_ge (tgt := 20) hx hb dX5_written_9 (by decide) (fun c3 => ?_) (fun c3 => ?_)
    · refine lv_iconst (v := 0) hx hb dX5_written_20 (by decide) ?_
      have hP9 := hP.sub (ws' := []) [] rfl
      have hD9 := hD.sub (ws' := []) [] (by decide) rfl
      exact W.iret (v := 0) hx hb hr (fun t ht hW => ⟨⟨0, (), rfl, (cIf_f (by ((try simp only [inR, inS, i3_lt, i3_le, i3_eq, i6_lt, i6_le, Int32.toInt_toInt64, lg_cmp_lt, lg_cmp_gt, lg_cmp_ge, lg_cmp_le, Int32.reduceToInt, Int64.reduceToInt] at c1 c3 ⊢); omega))).symm, by rw [ht]; exact hP9, hD9⟩, hS.F ht⟩) hS.2.2 dX5_written_21
    · obtain ⟨t4, zt4, Tt4⟩ := E.W
      refine va_gets hx hb zt4 hS hown (hts (.fieldLink RX5 7 "LastMap$Signs" "WRITTEN" "[I") (by decide +kernel)) (fun _ h9 => h9) dX5_written_12 ?_
      refine lv_iload_n hx hb dX5_written_15 rfl (lv_at hl 0 rfl) ?_
      obtain ⟨x5, ex5⟩ : ∃ y : Int32, tW p0.toNatClampNeg = .int y := ⟨_, rfl⟩
      refine va_ti hx hb Tt4 hS (i := p0) (vp_in_iff.mpr (by ((try simp only [inR, inS, i3_lt, i3_le, i3_eq, i6_lt, i6_le, Int32.toInt_toInt64, lg_cmp_lt, lg_cmp_gt, lg_cmp_ge, lg_cmp_le, Int32.reduceToInt, Int64.reduceToInt] at c1 c3 ⊢); omega))) ex5 dX5_written_16 ?_
      refine lv_goto (tgt := 21) hx hb dX5_written_17 (by decide) ?_
      have hP9 := hP.sub (ws' := []) [] rfl
      have hD9 := hD.sub (ws' := []) [] (by decide) rfl
      exact W.iret (v := x5) hx hb hr (fun t ht hW => ⟨⟨x5, (), rfl, by rw [← Value.int.inj ex5]; exact (cIf_t (by ((try simp only [inR, inS, i3_lt, i3_le, i3_eq, i6_lt, i6_le, Int32.toInt_toInt64, lg_cmp_lt, lg_cmp_gt, lg_cmp_ge, lg_cmp_le, Int32.reduceToInt, Int64.reduceToInt] at c1 c3 ⊢); omega))).symm, by rw [ht]; exact hP9, hD9⟩, hS.F ht⟩) hS.2.2 dX5_written_21

set_option maxHeartbeats 1000000 in
set_option maxRecDepth 100000 in
theorem c_signBy (l : Launch) (G : Gy) (sz : Nat) (p0 : Int32) (p1 : Int32)  : Ci l G yX1_signBy wsX1_signBy ({ frames := 0, cells := 0, slots := 0, locals := 0 }) [.int p0, .int p1] [] sz (fun (r : Int32) (_ : Unit) => r = sgn p0 p1) (fun (_ : Unit) => []) 0 0 := by
  refine Met.ofW (cc := cX1_signBy) (maxL := 2) (ret := (some .int)) (by decide) rfl ?_
  intro p e s m args below meth c s₁ B hml hv
  obtain ⟨rfl, hsz, hP, hD0, E0⟩ := hv
  have hx := B.exec
  have hb := B.bytes
  have hr := B.returns
  have hts := atoms_spec (ws := wsX1_signBy) B.pre
  have hown : s.vm.findClass RX1 = some m.cls := findClass_of_methodNamed B.named
  have hlocks := B.notSynchronized
  subst hsz
  have hD := hD0.self (sz := s.heap.size)
  generalize hAe : va_A [] s.heap.size = A at hD E0 ⊢
  have E : EV G A s s.heap := E0
  have hA : ∀ q : Nat, s.heap.size ≤ q → A q := fun q h => by rw [← hAe]; exact Or.inr h
  have hS : va_S A s.heap s.heap [] := va_S.rf
  have hl := lv_entry ([.int p0, .int p1]) (n := 2) (Nat.le_of_ble_eq_true rfl)
  rw [lg_entry_eq]
  generalize (lg_sl ([.int p0, .int p1]) ++ List.replicate (2 - (lg_sl ([.int p0, .int p1])).length) Slot.unset).toArray = ls at hl ⊢
  have hl : lv_has ls 2 [(0, .int p0), (1, .int p1)] := hl
  have hP : va_P G.1 vwCl [] s.heap := hP
  refine lv_iload_n hx hb dX1_signBy_0 rfl (lv_at hl 1 rfl) ?_
  refine lv_iconst (v := 1) hx hb dX1_signBy_1 (by decide) ?_
  refine lv_icmp_ge (tgt := 9) hx hb dX1_signBy_2 (by decide) (fun c1 => ?_) (fun c1 => ?_)
  · refine lv_iload_n hx hb dX1_signBy_9 rfl (lv_at hl 0 rfl) ?_
    refine lv_iload_n hx hb dX1_signBy_10 rfl (lv_at hl 1 rfl) ?_
    refine lv_idiv hx hb dX1_signBy_11 (fun h => by rw [h] at c1; exact absurd (show (0 : Int32) < 1 by decide) (by first | assumption | (have q := c1; revert q; decide))) ?_
    refine lv_topi (fun x2 ex2 => ?_)
    refine lv_iconst (v := 5) hx hb dX1_signBy_12 (by decide) ?_
    refine lv_irem hx hb dX1_signBy_13 (by decide) ?_
    refine lv_topi (fun x3 ex3 => ?_)
    have hP9 := hP.sub (ws' := []) [] rfl
    have hD9 := hD.sub (ws' := []) [] (by decide) rfl
    exact W.iret (v := x3) hx hb hr (fun t ht hW => ⟨⟨x3, (), rfl, by rw [ex3, ex2]; exact (cIf_f (by ((try simp only [inR, inS, i3_lt, i3_le, i3_eq, i6_lt, i6_le, Int32.toInt_toInt64, lg_cmp_lt, lg_cmp_gt, lg_cmp_ge, lg_cmp_le, Int32.reduceToInt, Int64.reduceToInt] at c1 ⊢); omega))).symm, by rw [ht]; exact hP9, hD9⟩, hS.F ht⟩) hS.2.2 dX1_signBy_14
  · refine lv_iconst (v := 0) hx hb dX1_signBy_5 (by decide) ?_
    refine lv_goto (tgt := 14) hx hb dX1_signBy_6 (by decide) ?_
    have hP9 := hP.sub (ws' := []) [] rfl
    have hD9 := hD.sub (ws' := []) [] (by decide) rfl
    exact W.iret (v := 0) hx hb hr (fun t ht hW => ⟨⟨0, (), rfl, (cIf_t (by ((try simp only [inR, inS, i3_lt, i3_le, i3_eq, i6_lt, i6_le, Int32.toInt_toInt64, lg_cmp_lt, lg_cmp_gt, lg_cmp_ge, lg_cmp_le, Int32.reduceToInt, Int64.reduceToInt] at c1 ⊢); omega))).symm, by rw [ht]; exact hP9, hD9⟩, hS.F ht⟩) hS.2.2 dX1_signBy_14

set_option maxHeartbeats 1000000 in
set_option maxRecDepth 100000 in
theorem c_signAt (l : Launch) (G : Gy) (sz : Nat) (p0 : Int32) (p1 : Int32)  : Ci l G yX1_signAt wsX1_signAt ({ frames := 1, cells := 0, slots := 0, locals := 21 }) [.int p0, .int p1] [] sz (fun (r : Int32) (_ : Unit) => r = sgn p0 (wgt p1)) (fun (_ : Unit) => []) 0 0 := by
  refine Met.ofW (cc := cX1_signAt) (maxL := 2) (ret := (some .int)) (by decide) rfl ?_
  intro p e s m args below meth c s₁ B hml hv
  obtain ⟨rfl, hsz, hP, hD0, E0⟩ := hv
  have hx := B.exec
  have hb := B.bytes
  have hr := B.returns
  have hts := atoms_spec (ws := wsX1_signAt) B.pre
  have hown : s.vm.findClass RX1 = some m.cls := findClass_of_methodNamed B.named
  have hlocks := B.notSynchronized
  subst hsz
  have hD := hD0.self (sz := s.heap.size)
  generalize hAe : va_A [] s.heap.size = A at hD E0 ⊢
  have E : EV G A s s.heap := E0
  have hA : ∀ q : Nat, s.heap.size ≤ q → A q := fun q h => by rw [← hAe]; exact Or.inr h
  have hS : va_S A s.heap s.heap [] := va_S.rf
  have hl := lv_entry ([.int p0, .int p1]) (n := 2) (Nat.le_of_ble_eq_true rfl)
  rw [lg_entry_eq]
  generalize (lg_sl ([.int p0, .int p1]) ++ List.replicate (2 - (lg_sl ([.int p0, .int p1])).length) Slot.unset).toArray = ls at hl ⊢
  have hl : lv_has ls 2 [(0, .int p0), (1, .int p1)] := hl
  have hP : va_P G.1 vwCl [] s.heap := hP
  refine lv_iload_n hx hb dX1_signAt_0 rfl (lv_at hl 0 rfl) ?_
  refine lv_iload_n hx hb dX1_signAt_1 rfl (lv_at hl 1 rfl) ?_
  refine ca_iR (va_runS (As := [.int p1]) (rest := [.int p0]) ⟨hx, hb, hml, hown, hts⟩ (c_weight l G s.heap.size p1) (va_cwS 1 hts gX1_signAt_X1_weight rfl rfl rfl (by decide +kernel) ⟨by decide +kernel, by decide +kernel⟩) (pre_S E hP hD hS hA [] (by decide) rfl) rfl rfl hl.1 rfl (lv_room (Nat.le_of_ble_eq_true rfl)) dX1_signAt_2 ⟨by decide +kernel, by decide +kernel⟩) hS hP hD hA [] rfl (fun r2 _ H locs w1 hP hS => ?_)
  refine ca_iR (va_runS (As := [.int p0, .int r2]) (rest := []) ⟨hx, hb, hml, hown, hts⟩ (c_signBy l G H.size p0 r2) (va_cwS 2 hts gX1_signAt_X1_signBy rfl rfl rfl (by decide +kernel) ⟨by decide +kernel, by decide +kernel⟩) (pre_S E hP hD hS hA [] (by decide) rfl) rfl rfl hl.1 rfl (lv_room (Nat.le_of_ble_eq_true rfl)) dX1_signAt_5 ⟨by decide +kernel, by decide +kernel⟩) hS hP hD hA [] rfl (fun r4 _ H locs w3 hP hS => ?_)
  have hP9 := hP.sub (ws' := []) [] rfl
  have hD9 := hD.sub (ws' := []) [] (by decide) rfl
  exact W.iret (v := r4) hx hb hr (fun t ht hW => ⟨⟨r4, (), rfl, by rw [w3, w1], by rw [ht]; exact hP9, hD9⟩, hS.F ht⟩) hS.2.2 dX1_signAt_8

set_option maxHeartbeats 1000000 in
set_option maxRecDepth 100000 in
theorem c_put (l : Launch) (G : Gy) (sz : Nat) (pad : Nat) (sg : Nat) (sl : Nat) (len : Int32) (fsg : Nat → Int32) (fsl : Nat → Int32) (p0 : Int32)  : Ci l G yX2_put wsX2_put ({ frames := 0, cells := 0, slots := 0, locals := 0 }) [.ref pad, .int p0] [(pad, .inr (0, [.ref sg, .ref sl, .int len])), (sg, .inl (gI G, 40, .inl fsg)), (sl, .inl (gI G, 10, .inl fsl))] sz (fun (r : Int32) (u : Int32 × (Nat → Int32)) => match u with | (len1, fsg1) => (r = 1 ∧ inR len 0 39 ∧ len1 = len + 1 ∧ fsg1 = upd fsg len.toNatClampNeg p0) ∨ (r = 0 ∧ ¬ inR len 0 39 ∧ len1 = len ∧ fsg1 = fsg)) (fun (u : Int32 × (Nat → Int32)) => match u with | (len1, fsg1) => [(pad, .inr (0, [.ref sg, .ref sl, .int len1])), (sg, .inl (gI G, 40, .inl fsg1)), (sl, .inl (gI G, 10, .inl fsl))]) 0 0 := by
  refine Met.ofW (cc := cX2_put) (maxL := 2) (ret := (some .boolean)) (by decide) rfl ?_
  intro p e s m args below meth c s₁ B hml hv
  obtain ⟨rfl, hsz, hP, hD0, E0⟩ := hv
  have hx := B.exec
  have hb := B.bytes
  have hr := B.returns
  have hts := atoms_spec (ws := wsX2_put) B.pre
  have hown : s.vm.findClass RX2 = some m.cls := findClass_of_methodNamed B.named
  have hlocks := B.notSynchronized
  subst hsz
  have hD := hD0.self (sz := s.heap.size)
  generalize hAe : va_A [(pad, .inr (0, [.ref sg, .ref sl, .int len])), (sg, .inl (gI G, 40, .inl fsg)), (sl, .inl (gI G, 10, .inl fsl))] s.heap.size = A at hD E0 ⊢
  have E : EV G A s s.heap := E0
  have hA : ∀ q : Nat, s.heap.size ≤ q → A q := fun q h => by rw [← hAe]; exact Or.inr h
  have hS : va_S A s.heap s.heap [] := va_S.rf
  have hl := lv_entry ([.ref pad, .int p0]) (n := 2) (Nat.le_of_ble_eq_true rfl)
  rw [lg_entry_eq]
  generalize (lg_sl ([.ref pad, .int p0]) ++ List.replicate (2 - (lg_sl ([.ref pad, .int p0])).length) Slot.unset).toArray = ls at hl ⊢
  have hl : lv_has ls 2 [(0, .ref pad), (1, .int p0)] := hl
  have hP : va_P G.1 vwCl [(pad, .inr (0, [.ref sg, .ref sl, .int len])), (sg, .inl (gI G, 40, .inl fsg)), (sl, .inl (gI G, 10, .inl fsl))] s.heap := hP
  refine lv_aload_n hx hb dX2_put_0 rfl (lv_at hl 0 rfl) ?_
  refine va_get (D := G.1) (ci := 0) (v := .int len) (C := RX2) (T := TX2) (N := 3) hx hb hts (fun _ h => List.mem_cons_of_mem _ (List.mem_append_right _ h)) hown E.K hP 0 rfl rfl 2 (by decide) (hts (.fieldLink RX2 18 "LastMap$Pad" "length" "I") (by decide +kernel)) (fun _ h9 => h9) rfl dX2_put_1 ?_
  refine lv_if_lt (tgt := 19) hx hb dX2_put_4 (by decide) (fun c1 => ?_) (fun c1 => ?_)
  · refine lv_iconst (v := 0) hx hb dX2_put_19 (by decide) ?_
    have hP9 := hP.sub (ws' := [(pad, .inr (0, [.ref sg, .ref sl, .int len])), (sg, .inl (gI G, 40, .inl fsg)), (sl, .inl (gI G, 10, .inl fsl))]) [0, 1, 2] rfl
    have hD9 := hD.sub (ws' := [(pad, .inr (0, [.ref sg, .ref sl, .int len])), (sg, .inl (gI G, 40, .inl fsg)), (sl, .inl (gI G, 10, .inl fsl))]) [0, 1, 2] (by decide) rfl
    exact W.zret (v := 0) hx hb hr (by decide) (fun t ht hW => ⟨⟨0, (len, fsg), rfl, Or.inr ⟨rfl, by ((try simp only [inR, inS, i3_lt, i3_le, i3_eq, i6_lt, i6_le, Int32.toInt_toInt64, lg_cmp_lt, lg_cmp_gt, lg_cmp_ge, lg_cmp_le, Int32.reduceToInt, Int64.reduceToInt] at c1 ⊢); omega), rfl, rfl⟩, by rw [ht]; exact hP9, hD9⟩, hS.F ht⟩) hS.2.2 dX2_put_20
  · refine lv_aload_n hx hb dX2_put_7 rfl (lv_at hl 0 rfl) ?_
    refine va_get (D := G.1) (ci := 0) (v := .int len) (C := RX2) (T := TX2) (N := 3) hx hb hts (fun _ h => List.mem_cons_of_mem _ (List.mem_append_right _ h)) hown E.K hP 0 rfl rfl 2 (by decide) (hts (.fieldLink RX2 18 "LastMap$Pad" "length" "I") (by decide +kernel)) (fun _ h9 => h9) rfl dX2_put_8 ?_
    refine lv_aload_n hx hb dX2_put_11 rfl (lv_at hl 0 rfl) ?_
    refine va_get (D := G.1) (ci := 0) (v := .ref sg) (C := RX2) (T := TX2) (N := 3) hx hb hts (fun _ h => List.mem_cons_of_mem _ (List.mem_append_right _ h)) hown E.K hP 0 rfl rfl 0 (by decide) (hts (.fieldLink RX2 9 "LastMap$Pad" "signs" "[I") (by decide +kernel)) (fun _ h9 => h9) rfl dX2_put_12 ?_
    refine va_alen (v := 40) hx hb E.K hP 1 1 rfl rfl rfl dX2_put_15 ?_
    refine lv_icmp_lt (tgt := 21) hx hb dX2_put_16 (by decide) (fun c2 => ?_) (fun c2 => ?_)
    · refine lv_aload_n hx hb dX2_put_21 rfl (lv_at hl 0 rfl) ?_
      refine va_get (D := G.1) (ci := 0) (v := .ref sg) (C := RX2) (T := TX2) (N := 3) hx hb hts (fun _ h => List.mem_cons_of_mem _ (List.mem_append_right _ h)) hown E.K hP 0 rfl rfl 0 (by decide) (hts (.fieldLink RX2 9 "LastMap$Pad" "signs" "[I") (by decide +kernel)) (fun _ h9 => h9) rfl dX2_put_22 ?_
      refine lv_aload_n hx hb dX2_put_25 rfl (lv_at hl 0 rfl) ?_
      refine va_get (D := G.1) (ci := 0) (v := .int len) (C := RX2) (T := TX2) (N := 3) hx hb hts (fun _ h => List.mem_cons_of_mem _ (List.mem_append_right _ h)) hown E.K hP 0 rfl rfl 2 (by decide) (hts (.fieldLink RX2 18 "LastMap$Pad" "length" "I") (by decide +kernel)) (fun _ h9 => h9) rfl dX2_put_26 ?_
      refine lv_iload_n hx hb dX2_put_29 rfl (lv_at hl 1 rfl) ?_
      refine va_iast hx hb E.K hP hD hS 1 1 rfl rfl (i := len) (vp_in_iff.mpr (by ((try simp only [inR, inS, i3_lt, i3_le, i3_eq, i6_lt, i6_le, Int32.toInt_toInt64, lg_cmp_lt, lg_cmp_gt, lg_cmp_ge, lg_cmp_le, Int32.reduceToInt, Int64.reduceToInt] at c1 c2 ⊢); omega))) dX2_put_30 (fun H locs hP hD hS => ?_)
      obtain ⟨f3, ef3⟩ : ∃ y : Nat → Int32, y = upd fsg len.toNatClampNeg p0 := ⟨_, rfl⟩
      have hP : va_P G.1 vwCl [(pad, .inr (0, [.ref sg, .ref sl, .int len])), (sg, .inl (gI G, 40, .inl f3)), (sl, .inl (gI G, 10, .inl fsl))] H := by rw [ef3]; exact hP
      have hD : va_D A [(pad, .inr (0, [.ref sg, .ref sl, .int len])), (sg, .inl (gI G, 40, .inl f3)), (sl, .inl (gI G, 10, .inl fsl))] := by rw [ef3]; exact hD
      refine lv_aload_n hx hb dX2_put_31 rfl (lv_at hl 0 rfl) ?_
      refine lv_dup hx hb dX2_put_32 rfl ?_
      refine va_get (D := G.1) (ci := 0) (v := .int len) (C := RX2) (T := TX2) (N := 3) hx hb hts (fun _ h => List.mem_cons_of_mem _ (List.mem_append_right _ h)) hown E.K hP 0 rfl rfl 2 (by decide) (hts (.fieldLink RX2 18 "LastMap$Pad" "length" "I") (by decide +kernel)) (fun _ h9 => h9) rfl dX2_put_33 ?_
      refine lv_iconst (v := 1) hx hb dX2_put_36 (by decide) ?_
      refine lv_iadd hx hb dX2_put_37 ?_
      refine lv_topi (fun x4 ex4 => ?_)
      refine va_put (D := G.1) (ci := 0) (v := .int x4) (ty := .int) (C := RX2) (T := TX2) (N := 3) hx hb hts (fun _ h => List.mem_cons_of_mem _ (List.mem_append_right _ h)) tyX2 tyX2_ok nmX2 hown E.K hP hD hS 0 rfl rfl 2 (by decide) (hts (.fieldLink RX2 18 "LastMap$Pad" "length" "I") (by decide +kernel)) (fun _ h9 => h9) rfl (by decide +kernel) rfl rfl (Nat.le_of_ble_eq_true rfl) dX2_put_38 (fun H locs hP hD hS => ?_)
      have hP : va_P G.1 vwCl [(pad, .inr (0, [.ref sg, .ref sl, .int x4])), (sg, .inl (gI G, 40, .inl f3)), (sl, .inl (gI G, 10, .inl fsl))] H := hP
      have hD : va_D A [(pad, .inr (0, [.ref sg, .ref sl, .int x4])), (sg, .inl (gI G, 40, .inl f3)), (sl, .inl (gI G, 10, .inl fsl))] := hD
      refine lv_iconst (v := 1) hx hb dX2_put_41 (by decide) ?_
      have hP9 := hP.sub (ws' := [(pad, .inr (0, [.ref sg, .ref sl, .int x4])), (sg, .inl (gI G, 40, .inl f3)), (sl, .inl (gI G, 10, .inl fsl))]) [0, 1, 2] rfl
      have hD9 := hD.sub (ws' := [(pad, .inr (0, [.ref sg, .ref sl, .int x4])), (sg, .inl (gI G, 40, .inl f3)), (sl, .inl (gI G, 10, .inl fsl))]) [0, 1, 2] (by decide) rfl
      exact W.zret (v := 1) hx hb hr (by decide) (fun t ht hW => ⟨⟨1, (x4, f3), rfl, Or.inl ⟨rfl, by ((try simp only [inR, inS, i3_lt, i3_le, i3_eq, i6_lt, i6_le, Int32.toInt_toInt64, lg_cmp_lt, lg_cmp_gt, lg_cmp_ge, lg_cmp_le, Int32.reduceToInt, Int64.reduceToInt] at c1 c2 ⊢); omega), ex4, ef3⟩, by rw [ht]; exact hP9, hD9⟩, hS.F ht⟩) hS.2.2 dX2_put_42
    · refine lv_iconst (v := 0) hx hb dX2_put_19 (by decide) ?_
      have hP9 := hP.sub (ws' := [(pad, .inr (0, [.ref sg, .ref sl, .int len])), (sg, .inl (gI G, 40, .inl fsg)), (sl, .inl (gI G, 10, .inl fsl))]) [0, 1, 2] rfl
      have hD9 := hD.sub (ws' := [(pad, .inr (0, [.ref sg, .ref sl, .int len])), (sg, .inl (gI G, 40, .inl fsg)), (sl, .inl (gI G, 10, .inl fsl))]) [0, 1, 2] (by decide) rfl
      exact W.zret (v := 0) hx hb hr (by decide) (fun t ht hW => ⟨⟨0, (len, fsg), rfl, Or.inr ⟨rfl, by ((try simp only [inR, inS, i3_lt, i3_le, i3_eq, i6_lt, i6_le, Int32.toInt_toInt64, lg_cmp_lt, lg_cmp_gt, lg_cmp_ge, lg_cmp_le, Int32.reduceToInt, Int64.reduceToInt] at c1 c2 ⊢); omega), rfl, rfl⟩, by rw [ht]; exact hP9, hD9⟩, hS.F ht⟩) hS.2.2 dX2_put_20

set_option maxHeartbeats 1000000 in
set_option maxRecDepth 100000 in
theorem c_fwSlips_f (l : Launch) (G : Gy) (sz : Nat) (pad : Nat) (sg : Nat) (sl : Nat) (fsg : Nat → Int32) (fsl : Nat → Int32) (p0 : Int32)  : Ci l G yX2_firstWrongOfSlips wsX2_firstWrongOfSlips ({ frames := 0, cells := 0, slots := 0, locals := 0 }) [.ref pad, .int p0] [(pad, .inr (0, [.ref sg, .ref sl, .int 0])), (sg, .inl (gI G, 40, .inl fsg)), (sl, .inl (gI G, 10, .inl fsl))] sz (fun (r : Int32) (_ : Unit) => r = (-6)) (fun (_ : Unit) => [(pad, .inr (0, [.ref sg, .ref sl, .int 0])), (sg, .inl (gI G, 40, .inl fsg)), (sl, .inl (gI G, 10, .inl fsl))]) 0 0 := by
  refine Met.ofW (cc := cX2_firstWrongOfSlips) (maxL := 5) (ret := (some .int)) (by decide) rfl ?_
  intro p e s m args below meth c s₁ B hml hv
  obtain ⟨rfl, hsz, hP, hD0, E0⟩ := hv
  have hx := B.exec
  have hb := B.bytes
  have hr := B.returns
  have hts := atoms_spec (ws := wsX2_firstWrongOfSlips) B.pre
  have hown : s.vm.findClass RX2 = some m.cls := findClass_of_methodNamed B.named
  have hlocks := B.notSynchronized
  subst hsz
  have hD := hD0.self (sz := s.heap.size)
  generalize hAe : va_A [(pad, .inr (0, [.ref sg, .ref sl, .int 0])), (sg, .inl (gI G, 40, .inl fsg)), (sl, .inl (gI G, 10, .inl fsl))] s.heap.size = A at hD E0 ⊢
  have E : EV G A s s.heap := E0
  have hA : ∀ q : Nat, s.heap.size ≤ q → A q := fun q h => by rw [← hAe]; exact Or.inr h
  have hS : va_S A s.heap s.heap [] := va_S.rf
  have hl := lv_entry ([.ref pad, .int p0]) (n := 5) (Nat.le_of_ble_eq_true rfl)
  rw [lg_entry_eq]
  generalize (lg_sl ([.ref pad, .int p0]) ++ List.replicate (5 - (lg_sl ([.ref pad, .int p0])).length) Slot.unset).toArray = ls at hl ⊢
  have hl : lv_has ls 5 [(0, .ref pad), (1, .int p0)] := hl
  have hP : va_P G.1 vwCl [(pad, .inr (0, [.ref sg, .ref sl, .int 0])), (sg, .inl (gI G, 40, .inl fsg)), (sl, .inl (gI G, 10, .inl fsl))] s.heap := hP
  refine lv_iconst (v := 0) hx hb dX2_firstWrongOfSlips_0 (by decide) ?_
  refine lv_istore_n (lv' := [(2, .int 0), (0, .ref pad), (1, .int p0)]) hx hb dX2_firstWrongOfSlips_1 rfl hl (by decide) rfl (fun ls hl => ?_)
  refine lv_iconst (v := 0) hx hb dX2_firstWrongOfSlips_2 (by decide) ?_
  refine lv_istore_n (lv' := [(3, .int 0), (2, .int 0), (0, .ref pad), (1, .int p0)]) hx hb dX2_firstWrongOfSlips_3 rfl hl (by decide) rfl (fun ls hl => ?_)
  refine lv_iload_n hx hb dX2_firstWrongOfSlips_4 rfl (lv_at hl 0 rfl) ?_
  refine lv_bipush (v := 10) hx hb dX2_firstWrongOfSlips_5 (by decide) ?_
  refine lv_icmp_ge (tgt := 50) hx hb dX2_firstWrongOfSlips_7 (by decide) (fun c1 => False.elim (by revert c1; decide)) (fun _ => ?_)
  refine lv_iload_n hx hb dX2_firstWrongOfSlips_10 rfl (lv_at hl 1 rfl) ?_
  refine lv_aload_n hx hb dX2_firstWrongOfSlips_11 rfl (lv_at hl 2 rfl) ?_
  refine va_get (D := G.1) (ci := 0) (v := .int 0) (C := RX2) (T := TX2) (N := 3) hx hb hts (fun _ h => List.mem_cons_of_mem _ (List.mem_append_right _ h)) hown E.K hP 0 rfl rfl 2 (by decide) (hts (.fieldLink RX2 18 "LastMap$Pad" "length" "I") (by decide +kernel)) (fun _ h9 => h9) rfl dX2_firstWrongOfSlips_12 ?_
  refine lv_icmp_ge (tgt := 50) hx hb dX2_firstWrongOfSlips_15 (by decide) (fun _ => ?_) (fun c2 => False.elim (by revert c2; decide))
  refine lv_iload_n hx hb dX2_firstWrongOfSlips_50 rfl (lv_at hl 1 rfl) ?_
  refine lv_aload_n hx hb dX2_firstWrongOfSlips_51 rfl (lv_at hl 2 rfl) ?_
  refine va_get (D := G.1) (ci := 0) (v := .int 0) (C := RX2) (T := TX2) (N := 3) hx hb hts (fun _ h => List.mem_cons_of_mem _ (List.mem_append_right _ h)) hown E.K hP 0 rfl rfl 2 (by decide) (hts (.fieldLink RX2 18 "LastMap$Pad" "length" "I") (by decide +kernel)) (fun _ h9 => h9) rfl dX2_firstWrongOfSlips_52 ?_
  refine lv_icmp_ge (tgt := 62) hx hb dX2_firstWrongOfSlips_55 (by decide) (fun _ => ?_) (fun c3 => False.elim (by revert c3; decide))
  refine lv_bipush (v := (-6)) hx hb dX2_firstWrongOfSlips_62 (by decide) ?_
  have hP9 := hP.sub (ws' := [(pad, .inr (0, [.ref sg, .ref sl, .int 0])), (sg, .inl (gI G, 40, .inl fsg)), (sl, .inl (gI G, 10, .inl fsl))]) [0, 1, 2] rfl
  have hD9 := hD.sub (ws' := [(pad, .inr (0, [.ref sg, .ref sl, .int 0])), (sg, .inl (gI G, 40, .inl fsg)), (sl, .inl (gI G, 10, .inl fsl))]) [0, 1, 2] (by decide) rfl
  exact W.iret (v := (-6)) hx hb hr (fun t ht hW => ⟨⟨(-6), (), rfl, rfl, by rw [ht]; exact hP9, hD9⟩, hS.F ht⟩) hS.2.2 dX2_firstWrongOfSlips_64

set_option maxHeartbeats 1000000 in
set_option maxRecDepth 100000 in
theorem c_fw_f (l : Launch) (G : Gy) (sz : Nat) (pad : Nat) (sg : Nat) (sl : Nat) (fsg : Nat → Int32) (fsl : Nat → Int32) (p0 : Int32)  : Ci l G yX2_firstWrong wsX2_firstWrong ({ frames := 1, cells := 0, slots := 0, locals := 24 }) [.ref pad, .int p0, .int 6] [(pad, .inr (0, [.ref sg, .ref sl, .int 0])), (sg, .inl (gI G, 40, .inl fsg)), (sl, .inl (gI G, 10, .inl fsl))] sz (fun (r : Int32) (_ : Unit) => r = cIf (p0 = 1) (-6) 0) (fun (_ : Unit) => [(pad, .inr (0, [.ref sg, .ref sl, .int 0])), (sg, .inl (gI G, 40, .inl fsg)), (sl, .inl (gI G, 10, .inl fsl))]) 0 0 := by
  refine Met.ofW (cc := cX2_firstWrong) (maxL := 6) (ret := (some .int)) (by decide) rfl ?_
  intro p e s m args below meth c s₁ B hml hv
  obtain ⟨rfl, hsz, hP, hD0, E0⟩ := hv
  have hx := B.exec
  have hb := B.bytes
  have hr := B.returns
  have hts := atoms_spec (ws := wsX2_firstWrong) B.pre
  have hown : s.vm.findClass RX2 = some m.cls := findClass_of_methodNamed B.named
  have hlocks := B.notSynchronized
  subst hsz
  have hD := hD0.self (sz := s.heap.size)
  generalize hAe : va_A [(pad, .inr (0, [.ref sg, .ref sl, .int 0])), (sg, .inl (gI G, 40, .inl fsg)), (sl, .inl (gI G, 10, .inl fsl))] s.heap.size = A at hD E0 ⊢
  have E : EV G A s s.heap := E0
  have hA : ∀ q : Nat, s.heap.size ≤ q → A q := fun q h => by rw [← hAe]; exact Or.inr h
  have hS : va_S A s.heap s.heap [] := va_S.rf
  have hl := lv_entry ([.ref pad, .int p0, .int 6]) (n := 6) (Nat.le_of_ble_eq_true rfl)
  rw [lg_entry_eq]
  generalize (lg_sl ([.ref pad, .int p0, .int 6]) ++ List.replicate (6 - (lg_sl ([.ref pad, .int p0, .int 6])).length) Slot.unset).toArray = ls at hl ⊢
  have hl : lv_has ls 6 [(0, .ref pad), (1, .int p0), (2, .int 6)] := hl
  have hP : va_P G.1 vwCl [(pad, .inr (0, [.ref sg, .ref sl, .int 0])), (sg, .inl (gI G, 40, .inl fsg)), (sl, .inl (gI G, 10, .inl fsl))] s.heap := hP
  refine lv_iload_n hx hb dX2_firstWrong_0 rfl (lv_at hl 1 rfl) ?_
  refine lv_iconst (v := 1) hx hb dX2_firstWrong_1 (by decide) ?_
  refine lv_icmp_ne (tgt := 11) hx hb dX2_firstWrong_2 (by decide) (fun c1 => ?_) (fun c1 => ?_)
  · refine lv_iload_n hx hb dX2_firstWrong_11 rfl (lv_at hl 1 rfl) ?_
    refine lv_iconst (v := 2) hx hb dX2_firstWrong_12 (by decide) ?_
    refine lv_icmp_ne (tgt := 20) hx hb dX2_firstWrong_13 (by decide) (fun c2 => ?_) (fun c2 => ?_)
    · refine lv_iconst (v := 4) hx hb dX2_firstWrong_20 (by decide) ?_
      refine lv_istore_n (lv' := [(3, .int 4), (0, .ref pad), (1, .int p0), (2, .int 6)]) hx hb dX2_firstWrong_21 rfl hl (by decide) rfl (fun ls hl => ?_)
      refine lv_iconst (v := 0) hx hb dX2_firstWrong_22 (by decide) ?_
      refine lv_istore (lv' := [(4, .int 0), (3, .int 4), (0, .ref pad), (1, .int p0), (2, .int 6)]) hx hb dX2_firstWrong_23 hl (by decide) rfl (fun ls hl => ?_)
      refine lv_iload hx hb dX2_firstWrong_25 (lv_at hl 0 rfl) ?_
      refine lv_aload_n hx hb dX2_firstWrong_27 rfl (lv_at hl 2 rfl) ?_
      refine va_get (D := G.1) (ci := 0) (v := .int 0) (C := RX2) (T := TX2) (N := 3) hx hb hts (fun _ h => List.mem_cons_of_mem _ (List.mem_append_right _ h)) hown E.K hP 0 rfl rfl 2 (by decide) (hts (.fieldLink RX2 18 "LastMap$Pad" "length" "I") (by decide +kernel)) (fun _ h9 => h9) rfl dX2_firstWrong_28 ?_
      refine lv_icmp_ge (tgt := 68) hx hb dX2_firstWrong_31 (by decide) (fun _ => ?_) (fun c3 => False.elim (by revert c3; decide))
      refine lv_aload_n hx hb dX2_firstWrong_68 rfl (lv_at hl 2 rfl) ?_
      refine va_get (D := G.1) (ci := 0) (v := .int 0) (C := RX2) (T := TX2) (N := 3) hx hb hts (fun _ h => List.mem_cons_of_mem _ (List.mem_append_right _ h)) hown E.K hP 0 rfl rfl 2 (by decide) (hts (.fieldLink RX2 18 "LastMap$Pad" "length" "I") (by decide +kernel)) (fun _ h9 => h9) rfl dX2_firstWrong_69 ?_
      refine lv_iload_n hx hb dX2_firstWrong_72 rfl (lv_at hl 4 rfl) ?_
      refine lv_icmp_ge (tgt := 83) hx hb dX2_firstWrong_73 (by decide) (fun c4 => False.elim (by revert c4; decide)) (fun _ => ?_)
      refine lv_aload_n hx hb dX2_firstWrong_76 rfl (lv_at hl 2 rfl) ?_
      refine va_get (D := G.1) (ci := 0) (v := .int 0) (C := RX2) (T := TX2) (N := 3) hx hb hts (fun _ h => List.mem_cons_of_mem _ (List.mem_append_right _ h)) hown E.K hP 0 rfl rfl 2 (by decide) (hts (.fieldLink RX2 18 "LastMap$Pad" "length" "I") (by decide +kernel)) (fun _ h9 => h9) rfl dX2_firstWrong_77 ?_
      refine lv_goto (tgt := 85) hx hb dX2_firstWrong_80 (by decide) ?_
      have hP9 := hP.sub (ws' := [(pad, .inr (0, [.ref sg, .ref sl, .int 0])), (sg, .inl (gI G, 40, .inl fsg)), (sl, .inl (gI G, 10, .inl fsl))]) [0, 1, 2] rfl
      have hD9 := hD.sub (ws' := [(pad, .inr (0, [.ref sg, .ref sl, .int 0])), (sg, .inl (gI G, 40, .inl fsg)), (sl, .inl (gI G, 10, .inl fsl))]) [0, 1, 2] (by decide) rfl
      exact W.iret (v := 0) hx hb hr (fun t ht hW => ⟨⟨0, (), rfl, (cIf_f (by ((try simp only [inR, inS, i3_lt, i3_le, i3_eq, i6_lt, i6_le, Int32.toInt_toInt64, lg_cmp_lt, lg_cmp_gt, lg_cmp_ge, lg_cmp_le, Int32.reduceToInt, Int64.reduceToInt] at c1 ⊢); omega))).symm, by rw [ht]; exact hP9, hD9⟩, hS.F ht⟩) hS.2.2 dX2_firstWrong_85
    · refine lv_iconst (v := 5) hx hb dX2_firstWrong_16 (by decide) ?_
      refine lv_goto (tgt := 21) hx hb dX2_firstWrong_17 (by decide) ?_
      refine lv_istore_n (lv' := [(3, .int 5), (0, .ref pad), (1, .int p0), (2, .int 6)]) hx hb dX2_firstWrong_21 rfl hl (by decide) rfl (fun ls hl => ?_)
      refine lv_iconst (v := 0) hx hb dX2_firstWrong_22 (by decide) ?_
      refine lv_istore (lv' := [(4, .int 0), (3, .int 5), (0, .ref pad), (1, .int p0), (2, .int 6)]) hx hb dX2_firstWrong_23 hl (by decide) rfl (fun ls hl => ?_)
      refine lv_iload hx hb dX2_firstWrong_25 (lv_at hl 0 rfl) ?_
      refine lv_aload_n hx hb dX2_firstWrong_27 rfl (lv_at hl 2 rfl) ?_
      refine va_get (D := G.1) (ci := 0) (v := .int 0) (C := RX2) (T := TX2) (N := 3) hx hb hts (fun _ h => List.mem_cons_of_mem _ (List.mem_append_right _ h)) hown E.K hP 0 rfl rfl 2 (by decide) (hts (.fieldLink RX2 18 "LastMap$Pad" "length" "I") (by decide +kernel)) (fun _ h9 => h9) rfl dX2_firstWrong_28 ?_
      refine lv_icmp_ge (tgt := 68) hx hb dX2_firstWrong_31 (by decide) (fun _ => ?_) (fun c5 => False.elim (by revert c5; decide))
      refine lv_aload_n hx hb dX2_firstWrong_68 rfl (lv_at hl 2 rfl) ?_
      refine va_get (D := G.1) (ci := 0) (v := .int 0) (C := RX2) (T := TX2) (N := 3) hx hb hts (fun _ h => List.mem_cons_of_mem _ (List.mem_append_right _ h)) hown E.K hP 0 rfl rfl 2 (by decide) (hts (.fieldLink RX2 18 "LastMap$Pad" "length" "I") (by decide +kernel)) (fun _ h9 => h9) rfl dX2_firstWrong_69 ?_
      refine lv_iload_n hx hb dX2_firstWrong_72 rfl (lv_at hl 4 rfl) ?_
      refine lv_icmp_ge (tgt := 83) hx hb dX2_firstWrong_73 (by decide) (fun c6 => False.elim (by revert c6; decide)) (fun _ => ?_)
      refine lv_aload_n hx hb dX2_firstWrong_76 rfl (lv_at hl 2 rfl) ?_
      refine va_get (D := G.1) (ci := 0) (v := .int 0) (C := RX2) (T := TX2) (N := 3) hx hb hts (fun _ h => List.mem_cons_of_mem _ (List.mem_append_right _ h)) hown E.K hP 0 rfl rfl 2 (by decide) (hts (.fieldLink RX2 18 "LastMap$Pad" "length" "I") (by decide +kernel)) (fun _ h9 => h9) rfl dX2_firstWrong_77 ?_
      refine lv_goto (tgt := 85) hx hb dX2_firstWrong_80 (by decide) ?_
      have hP9 := hP.sub (ws' := [(pad, .inr (0, [.ref sg, .ref sl, .int 0])), (sg, .inl (gI G, 40, .inl fsg)), (sl, .inl (gI G, 10, .inl fsl))]) [0, 1, 2] rfl
      have hD9 := hD.sub (ws' := [(pad, .inr (0, [.ref sg, .ref sl, .int 0])), (sg, .inl (gI G, 40, .inl fsg)), (sl, .inl (gI G, 10, .inl fsl))]) [0, 1, 2] (by decide) rfl
      exact W.iret (v := 0) hx hb hr (fun t ht hW => ⟨⟨0, (), rfl, (cIf_f (by ((try simp only [inR, inS, i3_lt, i3_le, i3_eq, i6_lt, i6_le, Int32.toInt_toInt64, lg_cmp_lt, lg_cmp_gt, lg_cmp_ge, lg_cmp_le, Int32.reduceToInt, Int64.reduceToInt] at c1 ⊢); omega))).symm, by rw [ht]; exact hP9, hD9⟩, hS.F ht⟩) hS.2.2 dX2_firstWrong_85
  · refine lv_aload_n hx hb dX2_firstWrong_5 rfl (lv_at hl 0 rfl) ?_
    refine lv_iload_n hx hb dX2_firstWrong_6 rfl (lv_at hl 2 rfl) ?_
    refine ca_iR (va_runV (As := [.int 6]) (rest := []) ⟨hx, hb, hml, hown, hts⟩ (c_fwSlips_f l G s.heap.size pad sg sl fsg fsl 6) (cwV 1 hts gX2_firstWrong_X2_firstWrongOfSlips rfl rfl rfl (by decide +kernel) ⟨by decide +kernel, by decide +kernel⟩) (pre_V E hP hD hS hA [0, 1, 2] (by decide) rfl 0 0 rfl rfl) rfl rfl hl.1 rfl (lv_room (Nat.le_of_ble_eq_true rfl)) dX2_firstWrong_7 ⟨by decide +kernel, by decide +kernel⟩) hS hP hD hA [0, 1, 2] rfl (fun r8 _ H locs w7 hP hS => ?_)
    rw [w7]
    have hP9 := hP.sub (ws' := [(pad, .inr (0, [.ref sg, .ref sl, .int 0])), (sg, .inl (gI G, 40, .inl fsg)), (sl, .inl (gI G, 10, .inl fsl))]) [0, 1, 2] rfl
    have hD9 := hD.sub (ws' := [(pad, .inr (0, [.ref sg, .ref sl, .int 0])), (sg, .inl (gI G, 40, .inl fsg)), (sl, .inl (gI G, 10, .inl fsl))]) [0, 1, 2] (by decide) rfl
    exact W.iret (v := (-6)) hx hb hr (fun t ht hW => ⟨⟨(-6), (), rfl, (cIf_t (by ((try simp only [inR, inS, i3_lt, i3_le, i3_eq, i6_lt, i6_le, Int32.toInt_toInt64, lg_cmp_lt, lg_cmp_gt, lg_cmp_ge, lg_cmp_le, Int32.reduceToInt, Int64.reduceToInt] at c1 ⊢); omega))).symm, by rw [ht]; exact hP9, hD9⟩, hS.F ht⟩) hS.2.2 dX2_firstWrong_10
