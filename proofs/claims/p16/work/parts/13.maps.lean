set_option maxHeartbeats 1000000 in
set_option maxRecDepth 100000 in
theorem c_weight (l : Launch) (G : Gy) (sz : Nat) (p0 : Int32)  : Ci l G yX1_weight wsX1_weight ({ frames := 0, cells := 0, slots := 0, locals := 0 }) [.int p0] [] sz (fun (r : Int32) (_ : Unit) => r = wgt p0) (fun (_ : Unit) => []) 0 0 := by
  refine Met.ofW (cc := cX1_weight) (maxL := 1) (ret := (some .int)) (by decide) rfl ?_
  intro p e s m args below meth c s₁ B hml hv
  obtain ⟨rfl, hsz, hP, hD0, E0⟩ := hv
  have hx := B.exec
  have hb := B.bytes
  have hr := B.returns
  have hts := atoms_spec (ws := wsX1_weight) B.pre
  have hown : s.vm.findClass RX1 = some m.cls := findClass_of_methodNamed B.named
  have hlocks := B.notSynchronized
  subst hsz
  have hD := hD0.self (sz := s.heap.size)
  generalize hAe : va_A [] s.heap.size = A at hD E0 ⊢
  have E : EV G A s s.heap := E0
  have hA : ∀ q : Nat, s.heap.size ≤ q → A q := fun q h => by rw [← hAe]; exact Or.inr h
  have hS : va_S A s.heap s.heap [] := va_S.rf
  have hl := lv_entry ([.int p0]) (n := 1) (Nat.le_of_ble_eq_true rfl)
  rw [lg_entry_eq]
  generalize (lg_sl ([.int p0]) ++ List.replicate (1 - (lg_sl ([.int p0])).length) Slot.unset).toArray = ls at hl ⊢
  have hl : lv_has ls 1 [(0, .int p0)] := hl
  have hP : va_P G.1 vwCl [] s.heap := hP
  refine lv_iload_n hx hb dX1_weight_0 rfl (lv_at hl 0 rfl) ?_
  refine lv_if_lt (tgt := 20) hx hb dX1_weight_1 (by decide) (fun c1 => ?_) (fun c1 => ?_)
  · refine lv_iconst (v := 1) hx hb dX1_weight_20 (by decide) ?_
    have hP9 := hP.sub (ws' := []) [] rfl
    have hD9 := hD.sub (ws' := []) [] (by decide) rfl
    exact W.iret (v := 1) hx hb hr (fun t ht hW => ⟨⟨1, (), rfl, (cIf_f (by ((try simp only [inR, inS, i3_lt, i3_le, i3_eq, i6_lt, i6_le, Int32.toInt_toInt64, lg_cmp_lt, lg_cmp_gt, lg_cmp_ge, lg_cmp_le, Int32.reduceToInt, Int64.reduceToInt] at c1 ⊢); omega))).symm, by rw [ht]; exact hP9, hD9⟩, hS.F ht⟩) hS.2.2 dX1_weight_21
  · refine lv_iload_n hx hb dX1_weight_4 rfl (lv_at hl 0 rfl) ?_
    obtain ⟨t2, zt2, Tt2⟩ := E.M
    refine va_gets hx hb zt2 hS hown (hts (.fieldLink RX1 9 "LastMap$Maps" "WEIGHTS" "[I") (by decide +kernel)) (fun _ h9 => h9) dX1_weight_5 ?_
    refine va_tlen (v := 6) hx hb Tt2 hS (by decide) dX1_weight_8 ?_
    refine lv_icmp_ge (tgt := 20) hx hb dX1_weight_9 (by decide) (fun c3 => ?_) (fun c3 => ?_)
    · refine lv_iconst (v := 1) hx hb dX1_weight_20 (by decide) ?_
      have hP9 := hP.sub (ws' := []) [] rfl
      have hD9 := hD.sub (ws' := []) [] (by decide) rfl
      exact W.iret (v := 1) hx hb hr (fun t ht hW => ⟨⟨1, (), rfl, (cIf_f (by ((try simp only [inR, inS, i3_lt, i3_le, i3_eq, i6_lt, i6_le, Int32.toInt_toInt64, lg_cmp_lt, lg_cmp_gt, lg_cmp_ge, lg_cmp_le, Int32.reduceToInt, Int64.reduceToInt] at c1 c3 ⊢); omega))).symm, by rw [ht]; exact hP9, hD9⟩, hS.F ht⟩) hS.2.2 dX1_weight_21
    · obtain ⟨t4, zt4, Tt4⟩ := E.M
      refine va_gets hx hb zt4 hS hown (hts (.fieldLink RX1 9 "LastMap$Maps" "WEIGHTS" "[I") (by decide +kernel)) (fun _ h9 => h9) dX1_weight_12 ?_
      refine lv_iload_n hx hb dX1_weight_15 rfl (lv_at hl 0 rfl) ?_
      obtain ⟨x5, ex5⟩ : ∃ yy_ : Int32, tM p0.toNatClampNeg = .int yy_ := ⟨_, rfl⟩
      refine va_ti hx hb Tt4 hS (i := p0) (vp_in_iff.mpr (by ((try simp only [inR, inS, i3_lt, i3_le, i3_eq, i6_lt, i6_le, Int32.toInt_toInt64, lg_cmp_lt, lg_cmp_gt, lg_cmp_ge, lg_cmp_le, Int32.reduceToInt, Int64.reduceToInt] at c1 c3 ⊢); omega))) ex5 dX1_weight_16 ?_
      refine lv_goto (tgt := 21) hx hb dX1_weight_17 (by decide) ?_
      have hP9 := hP.sub (ws' := []) [] rfl
      have hD9 := hD.sub (ws' := []) [] (by decide) rfl
      exact W.iret (v := x5) hx hb hr (fun t ht hW => ⟨⟨x5, (), rfl, by rw [← Value.int.inj ex5]; exact (cIf_t (by ((try simp only [inR, inS, i3_lt, i3_le, i3_eq, i6_lt, i6_le, Int32.toInt_toInt64, lg_cmp_lt, lg_cmp_gt, lg_cmp_ge, lg_cmp_le, Int32.reduceToInt, Int64.reduceToInt] at c1 c3 ⊢); omega))).symm, by rw [ht]; exact hP9, hD9⟩, hS.F ht⟩) hS.2.2 dX1_weight_21

set_option maxHeartbeats 1000000 in
set_option maxRecDepth 100000 in
theorem c_written (l : Launch) (G : Gy) (sz : Nat) (p0 : Int32)  : Ci l G yX5_written wsX5_written ({ frames := 0, cells := 0, slots := 0, locals := 0 }) [.int p0] [] sz (fun (r : Int32) (_ : Unit) => r = wri p0) (fun (_ : Unit) => []) 0 0 := by
  refine Met.ofW (cc := cX5_written) (maxL := 1) (ret := (some .int)) (by decide) rfl ?_
  intro p e s m args below meth c s₁ B hml hv
  obtain ⟨rfl, hsz, hP, hD0, E0⟩ := hv
  have hx := B.exec
  have hb := B.bytes
  have hr := B.returns
  have hts := atoms_spec (ws := wsX5_written) B.pre
  have hown : s.vm.findClass RX5 = some m.cls := findClass_of_methodNamed B.named
  have hlocks := B.notSynchronized
  subst hsz
  have hD := hD0.self (sz := s.heap.size)
  generalize hAe : va_A [] s.heap.size = A at hD E0 ⊢
  have E : EV G A s s.heap := E0
  have hA : ∀ q : Nat, s.heap.size ≤ q → A q := fun q h => by rw [← hAe]; exact Or.inr h
  have hS : va_S A s.heap s.heap [] := va_S.rf
  have hl := lv_entry ([.int p0]) (n := 1) (Nat.le_of_ble_eq_true rfl)
  rw [lg_entry_eq]
  generalize (lg_sl ([.int p0]) ++ List.replicate (1 - (lg_sl ([.int p0])).length) Slot.unset).toArray = ls at hl ⊢
  have hl : lv_has ls 1 [(0, .int p0)] := hl
  have hP : va_P G.1 vwCl [] s.heap := hP
  refine lv_iload_n hx hb dX5_written_0 rfl (lv_at hl 0 rfl) ?_
  refine lv_if_lt (tgt := 20) hx hb dX5_written_1 (by decide) (fun c1 => ?_) (fun c1 => ?_)
  · refine lv_iconst (v := 0) hx hb dX5_written_20 (by decide) ?_
    have hP9 := hP.sub (ws' := []) [] rfl
    have hD9 := hD.sub (ws' := []) [] (by decide) rfl
    exact W.iret (v := 0) hx hb hr (fun t ht hW => ⟨⟨0, (), rfl, (cIf_f (by ((try simp only [inR, inS, i3_lt, i3_le, i3_eq, i6_lt, i6_le, Int32.toInt_toInt64, lg_cmp_lt, lg_cmp_gt, lg_cmp_ge, lg_cmp_le, Int32.reduceToInt, Int64.reduceToInt] at c1 ⊢); omega))).symm, by rw [ht]; exact hP9, hD9⟩, hS.F ht⟩) hS.2.2 dX5_written_21
  · refine lv_iload_n hx hb dX5_written_4 rfl (lv_at hl 0 rfl) ?_
    obtain ⟨t2, zt2, Tt2⟩ := E.W
    refine va_gets hx hb zt2 hS hown (hts (.fieldLink RX5 7 "LastMap$Signs" "WRITTEN" "[I") (by decide +kernel)) (fun _ h9 => h9) dX5_written_5 ?_
    refine va_tlen (v := 6) hx hb Tt2 hS (by decide) dX5_written_8 ?_
    refine lv_icmp_ge (tgt := 20) hx hb dX5_written_9 (by decide) (fun c3 => ?_) (fun c3 => ?_)
    · refine lv_iconst (v := 0) hx hb dX5_written_20 (by decide) ?_
      have hP9 := hP.sub (ws' := []) [] rfl
      have hD9 := hD.sub (ws' := []) [] (by decide) rfl
      exact W.iret (v := 0) hx hb hr (fun t ht hW => ⟨⟨0, (), rfl, (cIf_f (by ((try simp only [inR, inS, i3_lt, i3_le, i3_eq, i6_lt, i6_le, Int32.toInt_toInt64, lg_cmp_lt, lg_cmp_gt, lg_cmp_ge, lg_cmp_le, Int32.reduceToInt, Int64.reduceToInt] at c1 c3 ⊢); omega))).symm, by rw [ht]; exact hP9, hD9⟩, hS.F ht⟩) hS.2.2 dX5_written_21
    · obtain ⟨t4, zt4, Tt4⟩ := E.W
      refine va_gets hx hb zt4 hS hown (hts (.fieldLink RX5 7 "LastMap$Signs" "WRITTEN" "[I") (by decide +kernel)) (fun _ h9 => h9) dX5_written_12 ?_
      refine lv_iload_n hx hb dX5_written_15 rfl (lv_at hl 0 rfl) ?_
      obtain ⟨x5, ex5⟩ : ∃ yy_ : Int32, tW p0.toNatClampNeg = .int yy_ := ⟨_, rfl⟩
      refine va_ti hx hb Tt4 hS (i := p0) (vp_in_iff.mpr (by ((try simp only [inR, inS, i3_lt, i3_le, i3_eq, i6_lt, i6_le, Int32.toInt_toInt64, lg_cmp_lt, lg_cmp_gt, lg_cmp_ge, lg_cmp_le, Int32.reduceToInt, Int64.reduceToInt] at c1 c3 ⊢); omega))) ex5 dX5_written_16 ?_
      refine lv_goto (tgt := 21) hx hb dX5_written_17 (by decide) ?_
      have hP9 := hP.sub (ws' := []) [] rfl
      have hD9 := hD.sub (ws' := []) [] (by decide) rfl
      exact W.iret (v := x5) hx hb hr (fun t ht hW => ⟨⟨x5, (), rfl, by rw [← Value.int.inj ex5]; exact (cIf_t (by ((try simp only [inR, inS, i3_lt, i3_le, i3_eq, i6_lt, i6_le, Int32.toInt_toInt64, lg_cmp_lt, lg_cmp_gt, lg_cmp_ge, lg_cmp_le, Int32.reduceToInt, Int64.reduceToInt] at c1 c3 ⊢); omega))).symm, by rw [ht]; exact hP9, hD9⟩, hS.F ht⟩) hS.2.2 dX5_written_21

set_option maxHeartbeats 1000000 in
set_option maxRecDepth 100000 in
theorem c_inOrder (l : Launch) (G : Gy) (sz : Nat) (p0 : Int32)  : Ci l G yX6_inOrder wsX6_inOrder ({ frames := 0, cells := 0, slots := 0, locals := 0 }) [.int p0] [] sz (fun (r : Int32) (_ : Unit) => r = ord p0) (fun (_ : Unit) => []) 0 0 := by
  refine Met.ofW (cc := cX6_inOrder) (maxL := 1) (ret := (some .int)) (by decide) rfl ?_
  intro p e s m args below meth c s₁ B hml hv
  obtain ⟨rfl, hsz, hP, hD0, E0⟩ := hv
  have hx := B.exec
  have hb := B.bytes
  have hr := B.returns
  have hts := atoms_spec (ws := wsX6_inOrder) B.pre
  have hown : s.vm.findClass RX6 = some m.cls := findClass_of_methodNamed B.named
  have hlocks := B.notSynchronized
  subst hsz
  have hD := hD0.self (sz := s.heap.size)
  generalize hAe : va_A [] s.heap.size = A at hD E0 ⊢
  have E : EV G A s s.heap := E0
  have hA : ∀ q : Nat, s.heap.size ≤ q → A q := fun q h => by rw [← hAe]; exact Or.inr h
  have hS : va_S A s.heap s.heap [] := va_S.rf
  have hl := lv_entry ([.int p0]) (n := 1) (Nat.le_of_ble_eq_true rfl)
  rw [lg_entry_eq]
  generalize (lg_sl ([.int p0]) ++ List.replicate (1 - (lg_sl ([.int p0])).length) Slot.unset).toArray = ls at hl ⊢
  have hl : lv_has ls 1 [(0, .int p0)] := hl
  have hP : va_P G.1 vwCl [] s.heap := hP
  refine lv_iload_n hx hb dX6_inOrder_0 rfl (lv_at hl 0 rfl) ?_
  refine lv_if_lt (tgt := 20) hx hb dX6_inOrder_1 (by decide) (fun c1 => ?_) (fun c1 => ?_)
  · refine lv_bipush (v := (-6)) hx hb dX6_inOrder_20 (by decide) ?_
    have hP9 := hP.sub (ws' := []) [] rfl
    have hD9 := hD.sub (ws' := []) [] (by decide) rfl
    exact W.iret (v := (-6)) hx hb hr (fun t ht hW => ⟨⟨(-6), (), rfl, (cIf_f (by ((try simp only [inR, inS, i3_lt, i3_le, i3_eq, i6_lt, i6_le, Int32.toInt_toInt64, lg_cmp_lt, lg_cmp_gt, lg_cmp_ge, lg_cmp_le, Int32.reduceToInt, Int64.reduceToInt] at c1 ⊢); omega))).symm, by rw [ht]; exact hP9, hD9⟩, hS.F ht⟩) hS.2.2 dX6_inOrder_22
  · refine lv_iload_n hx hb dX6_inOrder_4 rfl (lv_at hl 0 rfl) ?_
    obtain ⟨t2, zt2, Tt2⟩ := E.O
    refine va_gets hx hb zt2 hS hown (hts (.fieldLink RX6 9 "LastMap$Slips" "ORDER" "[I") (by decide +kernel)) (fun _ h9 => h9) dX6_inOrder_5 ?_
    refine va_tlen (v := 40) hx hb Tt2 hS (by decide) dX6_inOrder_8 ?_
    refine lv_icmp_ge (tgt := 20) hx hb dX6_inOrder_9 (by decide) (fun c3 => ?_) (fun c3 => ?_)
    · refine lv_bipush (v := (-6)) hx hb dX6_inOrder_20 (by decide) ?_
      have hP9 := hP.sub (ws' := []) [] rfl
      have hD9 := hD.sub (ws' := []) [] (by decide) rfl
      exact W.iret (v := (-6)) hx hb hr (fun t ht hW => ⟨⟨(-6), (), rfl, (cIf_f (by ((try simp only [inR, inS, i3_lt, i3_le, i3_eq, i6_lt, i6_le, Int32.toInt_toInt64, lg_cmp_lt, lg_cmp_gt, lg_cmp_ge, lg_cmp_le, Int32.reduceToInt, Int64.reduceToInt] at c1 c3 ⊢); omega))).symm, by rw [ht]; exact hP9, hD9⟩, hS.F ht⟩) hS.2.2 dX6_inOrder_22
    · obtain ⟨t4, zt4, Tt4⟩ := E.O
      refine va_gets hx hb zt4 hS hown (hts (.fieldLink RX6 9 "LastMap$Slips" "ORDER" "[I") (by decide +kernel)) (fun _ h9 => h9) dX6_inOrder_12 ?_
      refine lv_iload_n hx hb dX6_inOrder_15 rfl (lv_at hl 0 rfl) ?_
      obtain ⟨x5, ex5⟩ : ∃ yy_ : Int32, tO p0.toNatClampNeg = .int yy_ := ⟨_, rfl⟩
      refine va_ti hx hb Tt4 hS (i := p0) (vp_in_iff.mpr (by ((try simp only [inR, inS, i3_lt, i3_le, i3_eq, i6_lt, i6_le, Int32.toInt_toInt64, lg_cmp_lt, lg_cmp_gt, lg_cmp_ge, lg_cmp_le, Int32.reduceToInt, Int64.reduceToInt] at c1 c3 ⊢); omega))) ex5 dX6_inOrder_16 ?_
      refine lv_goto (tgt := 22) hx hb dX6_inOrder_17 (by decide) ?_
      have hP9 := hP.sub (ws' := []) [] rfl
      have hD9 := hD.sub (ws' := []) [] (by decide) rfl
      exact W.iret (v := x5) hx hb hr (fun t ht hW => ⟨⟨x5, (), rfl, by rw [← Value.int.inj ex5]; exact (cIf_t (by ((try simp only [inR, inS, i3_lt, i3_le, i3_eq, i6_lt, i6_le, Int32.toInt_toInt64, lg_cmp_lt, lg_cmp_gt, lg_cmp_ge, lg_cmp_le, Int32.reduceToInt, Int64.reduceToInt] at c1 c3 ⊢); omega))).symm, by rw [ht]; exact hP9, hD9⟩, hS.F ht⟩) hS.2.2 dX6_inOrder_22

set_option maxHeartbeats 1000000 in
set_option maxRecDepth 100000 in
theorem c_signBy (l : Launch) (G : Gy) (sz : Nat) (p0 : Int32) (p1 : Int32)  : Ci l G yX1_signBy wsX1_signBy ({ frames := 0, cells := 0, slots := 0, locals := 0 }) [.int p0, .int p1] [] sz (fun (r : Int32) (_ : Unit) => r = sgn p0 p1) (fun (_ : Unit) => []) 0 0 := by
  refine Met.ofW (cc := cX1_signBy) (maxL := 2) (ret := (some .int)) (by decide) rfl ?_
  intro p e s m args below meth c s₁ B hml hv
  obtain ⟨rfl, hsz, hP, hD0, E0⟩ := hv
  have hx := B.exec
  have hb := B.bytes
  have hr := B.returns
  have hts := atoms_spec (ws := wsX1_signBy) B.pre
  have hown : s.vm.findClass RX1 = some m.cls := findClass_of_methodNamed B.named
  have hlocks := B.notSynchronized
  subst hsz
  have hD := hD0.self (sz := s.heap.size)
  generalize hAe : va_A [] s.heap.size = A at hD E0 ⊢
  have E : EV G A s s.heap := E0
  have hA : ∀ q : Nat, s.heap.size ≤ q → A q := fun q h => by rw [← hAe]; exact Or.inr h
  have hS : va_S A s.heap s.heap [] := va_S.rf
  have hl := lv_entry ([.int p0, .int p1]) (n := 2) (Nat.le_of_ble_eq_true rfl)
  rw [lg_entry_eq]
  generalize (lg_sl ([.int p0, .int p1]) ++ List.replicate (2 - (lg_sl ([.int p0, .int p1])).length) Slot.unset).toArray = ls at hl ⊢
  have hl : lv_has ls 2 [(0, .int p0), (1, .int p1)] := hl
  have hP : va_P G.1 vwCl [] s.heap := hP
  refine lv_iload_n hx hb dX1_signBy_0 rfl (lv_at hl 1 rfl) ?_
  refine lv_iconst (v := 1) hx hb dX1_signBy_1 (by decide) ?_
  refine lv_icmp_ge (tgt := 9) hx hb dX1_signBy_2 (by decide) (fun c1 => ?_) (fun c1 => ?_)
  · refine lv_iload_n hx hb dX1_signBy_9 rfl (lv_at hl 0 rfl) ?_
    refine lv_iload_n hx hb dX1_signBy_10 rfl (lv_at hl 1 rfl) ?_
    refine lv_idiv hx hb dX1_signBy_11 (fun h => by rw [h] at c1; revert c1; decide) ?_
    refine lv_topi (fun x2 ex2 => ?_)
    refine lv_iconst (v := 5) hx hb dX1_signBy_12 (by decide) ?_
    refine lv_irem hx hb dX1_signBy_13 (by decide) ?_
    refine lv_topi (fun x3 ex3 => ?_)
    have hP9 := hP.sub (ws' := []) [] rfl
    have hD9 := hD.sub (ws' := []) [] (by decide) rfl
    exact W.iret (v := x3) hx hb hr (fun t ht hW => ⟨⟨x3, (), rfl, by dsimp only; (try simp only [ex2, ex3]); symm; unfold sgn; (repeat (first | (refine Eq.trans (cIf_t ?_) ?_; · first | assumption | ((try simp only [inR, inS, i3_lt, i3_le, i3_eq, i6_lt, i6_le, Int32.toInt_toInt64, lg_cmp_lt, lg_cmp_gt, lg_cmp_ge, lg_cmp_le, Int32.reduceToInt, Int64.reduceToInt] at c1 ⊢); omega)) | (refine Eq.trans (cIf_f ?_) ?_; · first | assumption | ((try simp only [inR, inS, i3_lt, i3_le, i3_eq, i6_lt, i6_le, Int32.toInt_toInt64, lg_cmp_lt, lg_cmp_gt, lg_cmp_ge, lg_cmp_le, Int32.reduceToInt, Int64.reduceToInt] at c1 ⊢); omega)))); first | rfl | (exfalso; ((try simp only [inR, inS, i3_lt, i3_le, i3_eq, i6_lt, i6_le, Int32.toInt_toInt64, lg_cmp_lt, lg_cmp_gt, lg_cmp_ge, lg_cmp_le, Int32.reduceToInt, Int64.reduceToInt] at c1); omega)), by rw [ht]; exact hP9, hD9⟩, hS.F ht⟩) hS.2.2 dX1_signBy_14
  · refine lv_iconst (v := 0) hx hb dX1_signBy_5 (by decide) ?_
    refine lv_goto (tgt := 14) hx hb dX1_signBy_6 (by decide) ?_
    have hP9 := hP.sub (ws' := []) [] rfl
    have hD9 := hD.sub (ws' := []) [] (by decide) rfl
    exact W.iret (v := 0) hx hb hr (fun t ht hW => ⟨⟨0, (), rfl, by dsimp only; symm; unfold sgn; (repeat (first | (refine Eq.trans (cIf_t ?_) ?_; · first | assumption | ((try simp only [inR, inS, i3_lt, i3_le, i3_eq, i6_lt, i6_le, Int32.toInt_toInt64, lg_cmp_lt, lg_cmp_gt, lg_cmp_ge, lg_cmp_le, Int32.reduceToInt, Int64.reduceToInt] at c1 ⊢); omega)) | (refine Eq.trans (cIf_f ?_) ?_; · first | assumption | ((try simp only [inR, inS, i3_lt, i3_le, i3_eq, i6_lt, i6_le, Int32.toInt_toInt64, lg_cmp_lt, lg_cmp_gt, lg_cmp_ge, lg_cmp_le, Int32.reduceToInt, Int64.reduceToInt] at c1 ⊢); omega)))); first | rfl | (exfalso; ((try simp only [inR, inS, i3_lt, i3_le, i3_eq, i6_lt, i6_le, Int32.toInt_toInt64, lg_cmp_lt, lg_cmp_gt, lg_cmp_ge, lg_cmp_le, Int32.reduceToInt, Int64.reduceToInt] at c1); omega)), by rw [ht]; exact hP9, hD9⟩, hS.F ht⟩) hS.2.2 dX1_signBy_14

set_option maxHeartbeats 1000000 in
set_option maxRecDepth 100000 in
theorem c_signAt (l : Launch) (G : Gy) (sz : Nat) (p0 : Int32) (p1 : Int32)  : Ci l G yX1_signAt wsX1_signAt ({ frames := 1, cells := 0, slots := 0, locals := 21 }) [.int p0, .int p1] [] sz (fun (r : Int32) (_ : Unit) => r = sgn p0 (wgt p1)) (fun (_ : Unit) => []) 0 0 := by
  refine Met.ofW (cc := cX1_signAt) (maxL := 2) (ret := (some .int)) (by decide) rfl ?_
  intro p e s m args below meth c s₁ B hml hv
  obtain ⟨rfl, hsz, hP, hD0, E0⟩ := hv
  have hx := B.exec
  have hb := B.bytes
  have hr := B.returns
  have hts := atoms_spec (ws := wsX1_signAt) B.pre
  have hown : s.vm.findClass RX1 = some m.cls := findClass_of_methodNamed B.named
  have hlocks := B.notSynchronized
  subst hsz
  have hD := hD0.self (sz := s.heap.size)
  generalize hAe : va_A [] s.heap.size = A at hD E0 ⊢
  have E : EV G A s s.heap := E0
  have hA : ∀ q : Nat, s.heap.size ≤ q → A q := fun q h => by rw [← hAe]; exact Or.inr h
  have hS : va_S A s.heap s.heap [] := va_S.rf
  have hl := lv_entry ([.int p0, .int p1]) (n := 2) (Nat.le_of_ble_eq_true rfl)
  rw [lg_entry_eq]
  generalize (lg_sl ([.int p0, .int p1]) ++ List.replicate (2 - (lg_sl ([.int p0, .int p1])).length) Slot.unset).toArray = ls at hl ⊢
  have hl : lv_has ls 2 [(0, .int p0), (1, .int p1)] := hl
  have hP : va_P G.1 vwCl [] s.heap := hP
  refine lv_iload_n hx hb dX1_signAt_0 rfl (lv_at hl 0 rfl) ?_
  refine lv_iload_n hx hb dX1_signAt_1 rfl (lv_at hl 1 rfl) ?_
  refine ca_iR (va_runS (As := [.int p1]) (rest := [.int p0]) ⟨hx, hb, hml, hown, hts⟩ (c_weight l G s.heap.size p1) (va_cwS 1 hts gX1_signAt_X1_weight rfl rfl rfl (by decide +kernel) ⟨by decide +kernel, by decide +kernel⟩) (pre_S E hP hD hS hA [] (by decide) rfl) rfl rfl hl.1 rfl (lv_room (Nat.le_of_ble_eq_true rfl)) dX1_signAt_2 ⟨by decide +kernel, by decide +kernel⟩) hS hP hD hA [] rfl (fun r2 _ H locs w1 hP hS => ?_)
  refine ca_iR (va_runS (As := [.int p0, .int r2]) (rest := []) ⟨hx, hb, hml, hown, hts⟩ (c_signBy l G H.size p0 r2) (va_cwS 2 hts gX1_signAt_X1_signBy rfl rfl rfl (by decide +kernel) ⟨by decide +kernel, by decide +kernel⟩) (pre_S E hP hD hS hA [] (by decide) rfl) rfl rfl hl.1 rfl (lv_room (Nat.le_of_ble_eq_true rfl)) dX1_signAt_5 ⟨by decide +kernel, by decide +kernel⟩) hS hP hD hA [] rfl (fun r4 _ H locs w3 hP hS => ?_)
  have hP9 := hP.sub (ws' := []) [] rfl
  have hD9 := hD.sub (ws' := []) [] (by decide) rfl
  exact W.iret (v := r4) hx hb hr (fun t ht hW => ⟨⟨r4, (), rfl, by dsimp only; simp only [w1, w3], by rw [ht]; exact hP9, hD9⟩, hS.F ht⟩) hS.2.2 dX1_signAt_8

set_option maxHeartbeats 1000000 in
set_option maxRecDepth 100000 in
theorem c_with (l : Launch) (G : Gy) (sz : Nat) (p0 : Int32) (p1 : Int32) (p2 : Int32)  : Ci l G yX1_with wsX1_with ({ frames := 2, cells := 0, slots := 0, locals := 42 }) [.int p0, .int p1, .int p2] [] sz (fun (r : Int32) (_ : Unit) => r = wth p0 p1 p2) (fun (_ : Unit) => []) 0 0 := by
  refine Met.ofW (cc := cX1_with) (maxL := 3) (ret := (some .int)) (by decide) rfl ?_
  intro p e s m args below meth c s₁ B hml hv
  obtain ⟨rfl, hsz, hP, hD0, E0⟩ := hv
  have hx := B.exec
  have hb := B.bytes
  have hr := B.returns
  have hts := atoms_spec (ws := wsX1_with) B.pre
  have hown : s.vm.findClass RX1 = some m.cls := findClass_of_methodNamed B.named
  have hlocks := B.notSynchronized
  subst hsz
  have hD := hD0.self (sz := s.heap.size)
  generalize hAe : va_A [] s.heap.size = A at hD E0 ⊢
  have E : EV G A s s.heap := E0
  have hA : ∀ q : Nat, s.heap.size ≤ q → A q := fun q h => by rw [← hAe]; exact Or.inr h
  have hS : va_S A s.heap s.heap [] := va_S.rf
  have hl := lv_entry ([.int p0, .int p1, .int p2]) (n := 3) (Nat.le_of_ble_eq_true rfl)
  rw [lg_entry_eq]
  generalize (lg_sl ([.int p0, .int p1, .int p2]) ++ List.replicate (3 - (lg_sl ([.int p0, .int p1, .int p2])).length) Slot.unset).toArray = ls at hl ⊢
  have hl : lv_has ls 3 [(0, .int p0), (1, .int p1), (2, .int p2)] := hl
  have hP : va_P G.1 vwCl [] s.heap := hP
  refine lv_iload_n hx hb dX1_with_0 rfl (lv_at hl 0 rfl) ?_
  refine lv_iload_n hx hb dX1_with_1 rfl (lv_at hl 2 rfl) ?_
  refine lv_iload_n hx hb dX1_with_2 rfl (lv_at hl 0 rfl) ?_
  refine lv_iload_n hx hb dX1_with_3 rfl (lv_at hl 1 rfl) ?_
  refine ca_iR (va_runS (As := [.int p0, .int p1]) (rest := [.int p2, .int p0]) ⟨hx, hb, hml, hown, hts⟩ (c_signAt l G s.heap.size p0 p1) (va_cwS 2 hts gX1_with_X1_signAt rfl rfl rfl (by decide +kernel) ⟨by decide +kernel, by decide +kernel⟩) (pre_S E hP hD hS hA [] (by decide) rfl) rfl rfl hl.1 rfl (lv_room (Nat.le_of_ble_eq_true rfl)) dX1_with_4 ⟨by decide +kernel, by decide +kernel⟩) hS hP hD hA [] rfl (fun r2 _ H locs w1 hP hS => ?_)
  refine lv_isub hx hb dX1_with_7 ?_
  refine lv_topi (fun x3 ex3 => ?_)
  refine lv_iload_n hx hb dX1_with_8 rfl (lv_at hl 1 rfl) ?_
  refine ca_iR (va_runS (As := [.int p1]) (rest := [.int x3, .int p0]) ⟨hx, hb, hml, hown, hts⟩ (c_weight l G H.size p1) (va_cwS 1 hts gX1_with_X1_weight rfl rfl rfl (by decide +kernel) ⟨by decide +kernel, by decide +kernel⟩) (pre_S E hP hD hS hA [] (by decide) rfl) rfl rfl hl.1 rfl (lv_room (Nat.le_of_ble_eq_true rfl)) dX1_with_9 ⟨by decide +kernel, by decide +kernel⟩) hS hP hD hA [] rfl (fun r5 _ H locs w4 hP hS => ?_)
  refine lv_imul hx hb dX1_with_12 ?_
  refine lv_topi (fun x6 ex6 => ?_)
  refine lv_iadd hx hb dX1_with_13 ?_
  refine lv_topi (fun x7 ex7 => ?_)
  have hP9 := hP.sub (ws' := []) [] rfl
  have hD9 := hD.sub (ws' := []) [] (by decide) rfl
  exact W.iret (v := x7) hx hb hr (fun t ht hW => ⟨⟨x7, (), rfl, by dsimp only; unfold wth; simp only [w1, ex3, w4, ex6, ex7], by rw [ht]; exact hP9, hD9⟩, hS.F ht⟩) hS.2.2 dX1_with_14

set_option maxHeartbeats 1000000 in
set_option maxRecDepth 100000 in
theorem c_countOf (l : Launch) (G : Gy) (sz : Nat) (p0 : Int32)  : Ci l G yX1_countOf wsX1_countOf ({ frames := 1, cells := 0, slots := 0, locals := 20 }) [.int p0] [] sz (fun (r : Int32) (_ : Unit) => r = cnt5 p0) (fun (_ : Unit) => []) 0 0 := by
  refine Met.ofW (cc := cX1_countOf) (maxL := 2) (ret := (some .int)) (by decide) rfl ?_
  intro p e s m args below meth c s₁ B hml hv
  obtain ⟨rfl, hsz, hP, hD0, E0⟩ := hv
  have hx := B.exec
  have hb := B.bytes
  have hr := B.returns
  have hts := atoms_spec (ws := wsX1_countOf) B.pre
  have hown : s.vm.findClass RX1 = some m.cls := findClass_of_methodNamed B.named
  have hlocks := B.notSynchronized
  subst hsz
  have hD := hD0.self (sz := s.heap.size)
  generalize hAe : va_A [] s.heap.size = A at hD E0 ⊢
  have E : EV G A s s.heap := E0
  have hA : ∀ q : Nat, s.heap.size ≤ q → A q := fun q h => by rw [← hAe]; exact Or.inr h
  have hS : va_S A s.heap s.heap [] := va_S.rf
  have hl := lv_entry ([.int p0]) (n := 2) (Nat.le_of_ble_eq_true rfl)
  rw [lg_entry_eq]
  generalize (lg_sl ([.int p0]) ++ List.replicate (2 - (lg_sl ([.int p0])).length) Slot.unset).toArray = ls at hl ⊢
  have hl : lv_has ls 2 [(0, .int p0)] := hl
  have hP : va_P G.1 vwCl [] s.heap := hP
  refine lv_iload_n hx hb dX1_countOf_0 rfl (lv_at hl 0 rfl) ?_
  refine lv_iconst (v := 1) hx hb dX1_countOf_1 (by decide) ?_
  refine lv_isub hx hb dX1_countOf_2 ?_
  refine lv_topi (fun x1 ex1 => ?_)
  refine ca_iR (va_runS (As := [.int x1]) (rest := []) ⟨hx, hb, hml, hown, hts⟩ (c_weight l G s.heap.size x1) (va_cwS 1 hts gX1_countOf_X1_weight rfl rfl rfl (by decide +kernel) ⟨by decide +kernel, by decide +kernel⟩) (pre_S E hP hD hS hA [] (by decide) rfl) rfl rfl hl.1 rfl (lv_room (Nat.le_of_ble_eq_true rfl)) dX1_countOf_3 ⟨by decide +kernel, by decide +kernel⟩) hS hP hD hA [] rfl (fun r3 _ H locs w2 hP hS => ?_)
  refine lv_istore_n (lv' := [(1, .int r3), (0, .int p0)]) hx hb dX1_countOf_6 rfl hl (by decide) rfl (fun ls hl => ?_)
  refine lv_iload_n hx hb dX1_countOf_7 rfl (lv_at hl 0 rfl) ?_
  refine lv_iconst (v := 1) hx hb dX1_countOf_8 (by decide) ?_
  refine lv_icmp_ge (tgt := 16) hx hb dX1_countOf_9 (by decide) (fun c4 => ?_) (fun c4 => ?_)
  · refine lv_sipush (v := 15625) hx hb dX1_countOf_16 (by decide) ?_
    refine lv_iload_n hx hb dX1_countOf_19 rfl (lv_at hl 0 rfl) ?_
    refine lv_idiv hx hb dX1_countOf_20 (fun h => by rw [h] at c4; revert c4; decide) ?_
    refine lv_topi (fun x5 ex5 => ?_)
    have hP9 := hP.sub (ws' := []) [] rfl
    have hD9 := hD.sub (ws' := []) [] (by decide) rfl
    exact W.iret (v := x5) hx hb hr (fun t ht hW => ⟨⟨x5, (), rfl, by dsimp only; unfold cnt5; (try simp only [ex1, w2, ex5]); (try simp only [ex1, w2, ex5] at c4); exact (cIf_f (by first | assumption | ((try simp only [inR, inS, i3_lt, i3_le, i3_eq, i6_lt, i6_le, Int32.toInt_toInt64, lg_cmp_lt, lg_cmp_gt, lg_cmp_ge, lg_cmp_le, Int32.reduceToInt, Int64.reduceToInt] at c4 ⊢); omega))).symm, by rw [ht]; exact hP9, hD9⟩, hS.F ht⟩) hS.2.2 dX1_countOf_21
  · refine lv_iconst (v := 0) hx hb dX1_countOf_12 (by decide) ?_
    refine lv_goto (tgt := 21) hx hb dX1_countOf_13 (by decide) ?_
    have hP9 := hP.sub (ws' := []) [] rfl
    have hD9 := hD.sub (ws' := []) [] (by decide) rfl
    exact W.iret (v := 0) hx hb hr (fun t ht hW => ⟨⟨0, (), rfl, by dsimp only; unfold cnt5; (try simp only [ex1, w2]); (try simp only [ex1, w2] at c4); exact (cIf_t (by first | assumption | ((try simp only [inR, inS, i3_lt, i3_le, i3_eq, i6_lt, i6_le, Int32.toInt_toInt64, lg_cmp_lt, lg_cmp_gt, lg_cmp_ge, lg_cmp_le, Int32.reduceToInt, Int64.reduceToInt] at c4 ⊢); omega))).symm, by rw [ht]; exact hP9, hD9⟩, hS.F ht⟩) hS.2.2 dX1_countOf_21

set_option maxHeartbeats 1000000 in
set_option maxRecDepth 100000 in
theorem c_number (l : Launch) (G : Gy) (sz : Nat) (p0 : Int32)  : Ci l G yX5_number wsX5_number ({ frames := 0, cells := 0, slots := 0, locals := 0 }) [.int p0] [] sz (fun (r : Int32) (_ : Unit) => r = num p0) (fun (_ : Unit) => []) 0 0 := by
  refine Met.ofW (cc := cX5_number) (maxL := 2) (ret := (some .int)) (by decide) rfl ?_
  intro p e s m args below meth c s₁ B hml hv
  obtain ⟨rfl, hsz, hP, hD0, E0⟩ := hv
  have hx := B.exec
  have hb := B.bytes
  have hr := B.returns
  have hts := atoms_spec (ws := wsX5_number) B.pre
  have hown : s.vm.findClass RX5 = some m.cls := findClass_of_methodNamed B.named
  have hlocks := B.notSynchronized
  subst hsz
  have hD := hD0.self (sz := s.heap.size)
  generalize hAe : va_A [] s.heap.size = A at hD E0 ⊢
  have E : EV G A s s.heap := E0
  have hA : ∀ q : Nat, s.heap.size ≤ q → A q := fun q h => by rw [← hAe]; exact Or.inr h
  have hS : va_S A s.heap s.heap [] := va_S.rf
  have hl := lv_entry ([.int p0]) (n := 2) (Nat.le_of_ble_eq_true rfl)
  rw [lg_entry_eq]
  generalize (lg_sl ([.int p0]) ++ List.replicate (2 - (lg_sl ([.int p0])).length) Slot.unset).toArray = ls at hl ⊢
  have hl : lv_has ls 2 [(0, .int p0)] := hl
  have hP : va_P G.1 vwCl [] s.heap := hP
  refine lv_iconst (v := 0) hx hb dX5_number_0 (by decide) ?_
  refine lv_istore_n (lv' := [(1, .int 0), (0, .int p0)]) hx hb dX5_number_1 rfl hl (by decide) rfl (fun ls hl => ?_)
  refine lv_iload_n hx hb dX5_number_2 rfl (lv_at hl 0 rfl) ?_
  obtain ⟨t1, zt1, Tt1⟩ := E.W
  refine va_gets hx hb zt1 hS hown (hts (.fieldLink RX5 7 "LastMap$Signs" "WRITTEN" "[I") (by decide +kernel)) (fun _ h9 => h9) dX5_number_3 ?_
  refine va_tlen (v := 6) hx hb Tt1 hS (by decide) dX5_number_6 ?_
  refine lv_icmp_ge (tgt := 27) hx hb dX5_number_7 (by decide) (fun c2 => False.elim (by revert c2; decide)) (fun _ => ?_)
  obtain ⟨t3, zt3, Tt3⟩ := E.W
  refine va_gets hx hb zt3 hS hown (hts (.fieldLink RX5 7 "LastMap$Signs" "WRITTEN" "[I") (by decide +kernel)) (fun _ h9 => h9) dX5_number_10 ?_
  refine lv_iload_n hx hb dX5_number_13 rfl (lv_at hl 0 rfl) ?_
  refine va_ti hx hb Tt3 hS (i := 0) (by unfold vp_in; decide) (v := .int 97) rfl dX5_number_14 ?_
  refine lv_iload_n hx hb dX5_number_15 rfl (lv_at hl 1 rfl) ?_
  refine lv_icmp_ne (tgt := 21) hx hb dX5_number_16 (by decide) (fun c4 => ?_) (fun c4 => ?_)
  · refine lv_iinc (v := 1) (lv' := [(1, .int 1), (0, .int p0)]) hx hb dX5_number_21 hl (k := 0) rfl (by decide) (by decide) rfl (fun ls hl => ?_)
    refine lv_goto (tgt := 2) hx hb dX5_number_24 (by decide) ?_
    refine lv_iload_n hx hb dX5_number_2 rfl (lv_at hl 0 rfl) ?_
    obtain ⟨t5, zt5, Tt5⟩ := E.W
    refine va_gets hx hb zt5 hS hown (hts (.fieldLink RX5 7 "LastMap$Signs" "WRITTEN" "[I") (by decide +kernel)) (fun _ h9 => h9) dX5_number_3 ?_
    refine va_tlen (v := 6) hx hb Tt5 hS (by decide) dX5_number_6 ?_
    refine lv_icmp_ge (tgt := 27) hx hb dX5_number_7 (by decide) (fun c6 => False.elim (by revert c6; decide)) (fun _ => ?_)
    obtain ⟨t7, zt7, Tt7⟩ := E.W
    refine va_gets hx hb zt7 hS hown (hts (.fieldLink RX5 7 "LastMap$Signs" "WRITTEN" "[I") (by decide +kernel)) (fun _ h9 => h9) dX5_number_10 ?_
    refine lv_iload_n hx hb dX5_number_13 rfl (lv_at hl 0 rfl) ?_
    refine va_ti hx hb Tt7 hS (i := 1) (by unfold vp_in; decide) (v := .int 98) rfl dX5_number_14 ?_
    refine lv_iload_n hx hb dX5_number_15 rfl (lv_at hl 1 rfl) ?_
    refine lv_icmp_ne (tgt := 21) hx hb dX5_number_16 (by decide) (fun c8 => ?_) (fun c8 => ?_)
    · refine lv_iinc (v := 2) (lv' := [(1, .int 2), (0, .int p0)]) hx hb dX5_number_21 hl (k := 0) rfl (by decide) (by decide) rfl (fun ls hl => ?_)
      refine lv_goto (tgt := 2) hx hb dX5_number_24 (by decide) ?_
      refine lv_iload_n hx hb dX5_number_2 rfl (lv_at hl 0 rfl) ?_
      obtain ⟨t9, zt9, Tt9⟩ := E.W
      refine va_gets hx hb zt9 hS hown (hts (.fieldLink RX5 7 "LastMap$Signs" "WRITTEN" "[I") (by decide +kernel)) (fun _ h9 => h9) dX5_number_3 ?_
      refine va_tlen (v := 6) hx hb Tt9 hS (by decide) dX5_number_6 ?_
      refine lv_icmp_ge (tgt := 27) hx hb dX5_number_7 (by decide) (fun c10 => False.elim (by revert c10; decide)) (fun _ => ?_)
      obtain ⟨t11, zt11, Tt11⟩ := E.W
      refine va_gets hx hb zt11 hS hown (hts (.fieldLink RX5 7 "LastMap$Signs" "WRITTEN" "[I") (by decide +kernel)) (fun _ h9 => h9) dX5_number_10 ?_
      refine lv_iload_n hx hb dX5_number_13 rfl (lv_at hl 0 rfl) ?_
      refine va_ti hx hb Tt11 hS (i := 2) (by unfold vp_in; decide) (v := .int 99) rfl dX5_number_14 ?_
      refine lv_iload_n hx hb dX5_number_15 rfl (lv_at hl 1 rfl) ?_
      refine lv_icmp_ne (tgt := 21) hx hb dX5_number_16 (by decide) (fun c12 => ?_) (fun c12 => ?_)
      · refine lv_iinc (v := 3) (lv' := [(1, .int 3), (0, .int p0)]) hx hb dX5_number_21 hl (k := 0) rfl (by decide) (by decide) rfl (fun ls hl => ?_)
        refine lv_goto (tgt := 2) hx hb dX5_number_24 (by decide) ?_
        refine lv_iload_n hx hb dX5_number_2 rfl (lv_at hl 0 rfl) ?_
        obtain ⟨t13, zt13, Tt13⟩ := E.W
        refine va_gets hx hb zt13 hS hown (hts (.fieldLink RX5 7 "LastMap$Signs" "WRITTEN" "[I") (by decide +kernel)) (fun _ h9 => h9) dX5_number_3 ?_
        refine va_tlen (v := 6) hx hb Tt13 hS (by decide) dX5_number_6 ?_
        refine lv_icmp_ge (tgt := 27) hx hb dX5_number_7 (by decide) (fun c14 => False.elim (by revert c14; decide)) (fun _ => ?_)
        obtain ⟨t15, zt15, Tt15⟩ := E.W
        refine va_gets hx hb zt15 hS hown (hts (.fieldLink RX5 7 "LastMap$Signs" "WRITTEN" "[I") (by decide +kernel)) (fun _ h9 => h9) dX5_number_10 ?_
        refine lv_iload_n hx hb dX5_number_13 rfl (lv_at hl 0 rfl) ?_
        refine va_ti hx hb Tt15 hS (i := 3) (by unfold vp_in; decide) (v := .int 100) rfl dX5_number_14 ?_
        refine lv_iload_n hx hb dX5_number_15 rfl (lv_at hl 1 rfl) ?_
        refine lv_icmp_ne (tgt := 21) hx hb dX5_number_16 (by decide) (fun c16 => ?_) (fun c16 => ?_)
        · refine lv_iinc (v := 4) (lv' := [(1, .int 4), (0, .int p0)]) hx hb dX5_number_21 hl (k := 0) rfl (by decide) (by decide) rfl (fun ls hl => ?_)
          refine lv_goto (tgt := 2) hx hb dX5_number_24 (by decide) ?_
          refine lv_iload_n hx hb dX5_number_2 rfl (lv_at hl 0 rfl) ?_
          obtain ⟨t17, zt17, Tt17⟩ := E.W
          refine va_gets hx hb zt17 hS hown (hts (.fieldLink RX5 7 "LastMap$Signs" "WRITTEN" "[I") (by decide +kernel)) (fun _ h9 => h9) dX5_number_3 ?_
          refine va_tlen (v := 6) hx hb Tt17 hS (by decide) dX5_number_6 ?_
          refine lv_icmp_ge (tgt := 27) hx hb dX5_number_7 (by decide) (fun c18 => False.elim (by revert c18; decide)) (fun _ => ?_)
          obtain ⟨t19, zt19, Tt19⟩ := E.W
          refine va_gets hx hb zt19 hS hown (hts (.fieldLink RX5 7 "LastMap$Signs" "WRITTEN" "[I") (by decide +kernel)) (fun _ h9 => h9) dX5_number_10 ?_
          refine lv_iload_n hx hb dX5_number_13 rfl (lv_at hl 0 rfl) ?_
          refine va_ti hx hb Tt19 hS (i := 4) (by unfold vp_in; decide) (v := .int 45) rfl dX5_number_14 ?_
          refine lv_iload_n hx hb dX5_number_15 rfl (lv_at hl 1 rfl) ?_
          refine lv_icmp_ne (tgt := 21) hx hb dX5_number_16 (by decide) (fun c20 => ?_) (fun c20 => ?_)
          · refine lv_iinc (v := 5) (lv' := [(1, .int 5), (0, .int p0)]) hx hb dX5_number_21 hl (k := 0) rfl (by decide) (by decide) rfl (fun ls hl => ?_)
            refine lv_goto (tgt := 2) hx hb dX5_number_24 (by decide) ?_
            refine lv_iload_n hx hb dX5_number_2 rfl (lv_at hl 0 rfl) ?_
            obtain ⟨t21, zt21, Tt21⟩ := E.W
            refine va_gets hx hb zt21 hS hown (hts (.fieldLink RX5 7 "LastMap$Signs" "WRITTEN" "[I") (by decide +kernel)) (fun _ h9 => h9) dX5_number_3 ?_
            refine va_tlen (v := 6) hx hb Tt21 hS (by decide) dX5_number_6 ?_
            refine lv_icmp_ge (tgt := 27) hx hb dX5_number_7 (by decide) (fun c22 => False.elim (by revert c22; decide)) (fun _ => ?_)
            obtain ⟨t23, zt23, Tt23⟩ := E.W
            refine va_gets hx hb zt23 hS hown (hts (.fieldLink RX5 7 "LastMap$Signs" "WRITTEN" "[I") (by decide +kernel)) (fun _ h9 => h9) dX5_number_10 ?_
            refine lv_iload_n hx hb dX5_number_13 rfl (lv_at hl 0 rfl) ?_
            refine va_ti hx hb Tt23 hS (i := 5) (by unfold vp_in; decide) (v := .int 63) rfl dX5_number_14 ?_
            refine lv_iload_n hx hb dX5_number_15 rfl (lv_at hl 1 rfl) ?_
            refine lv_icmp_ne (tgt := 21) hx hb dX5_number_16 (by decide) (fun c24 => ?_) (fun c24 => ?_)
            · refine lv_iinc (v := 6) (lv' := [(1, .int 6), (0, .int p0)]) hx hb dX5_number_21 hl (k := 0) rfl (by decide) (by decide) rfl (fun ls hl => ?_)
              refine lv_goto (tgt := 2) hx hb dX5_number_24 (by decide) ?_
              refine lv_iload_n hx hb dX5_number_2 rfl (lv_at hl 0 rfl) ?_
              obtain ⟨t25, zt25, Tt25⟩ := E.W
              refine va_gets hx hb zt25 hS hown (hts (.fieldLink RX5 7 "LastMap$Signs" "WRITTEN" "[I") (by decide +kernel)) (fun _ h9 => h9) dX5_number_3 ?_
              refine va_tlen (v := 6) hx hb Tt25 hS (by decide) dX5_number_6 ?_
              refine lv_icmp_ge (tgt := 27) hx hb dX5_number_7 (by decide) (fun _ => ?_) (fun c26 => False.elim (by revert c26; decide))
              refine lv_iconst (v := (-1)) hx hb dX5_number_27 (by decide) ?_
              have hP9 := hP.sub (ws' := []) [] rfl
              have hD9 := hD.sub (ws' := []) [] (by decide) rfl
              exact W.iret (v := (-1)) hx hb hr (fun t ht hW => ⟨⟨(-1), (), rfl, by dsimp only; symm; unfold num; (repeat (first | (refine Eq.trans (cIf_t ?_) ?_; · first | assumption | ((try simp only [inR, inS, i3_lt, i3_le, i3_eq, i6_lt, i6_le, Int32.toInt_toInt64, lg_cmp_lt, lg_cmp_gt, lg_cmp_ge, lg_cmp_le, Int32.reduceToInt, Int64.reduceToInt] at c4 c8 c12 c16 c20 c24 ⊢); omega)) | (refine Eq.trans (cIf_f ?_) ?_; · first | assumption | ((try simp only [inR, inS, i3_lt, i3_le, i3_eq, i6_lt, i6_le, Int32.toInt_toInt64, lg_cmp_lt, lg_cmp_gt, lg_cmp_ge, lg_cmp_le, Int32.reduceToInt, Int64.reduceToInt] at c4 c8 c12 c16 c20 c24 ⊢); omega)))); first | rfl | (exfalso; ((try simp only [inR, inS, i3_lt, i3_le, i3_eq, i6_lt, i6_le, Int32.toInt_toInt64, lg_cmp_lt, lg_cmp_gt, lg_cmp_ge, lg_cmp_le, Int32.reduceToInt, Int64.reduceToInt] at c4 c8 c12 c16 c20 c24); omega)), by rw [ht]; exact hP9, hD9⟩, hS.F ht⟩) hS.2.2 dX5_number_28
            · refine lv_iload_n hx hb dX5_number_19 rfl (lv_at hl 0 rfl) ?_
              have hP9 := hP.sub (ws' := []) [] rfl
              have hD9 := hD.sub (ws' := []) [] (by decide) rfl
              exact W.iret (v := 5) hx hb hr (fun t ht hW => ⟨⟨5, (), rfl, by dsimp only; symm; unfold num; (repeat (first | (refine Eq.trans (cIf_t ?_) ?_; · first | assumption | ((try simp only [inR, inS, i3_lt, i3_le, i3_eq, i6_lt, i6_le, Int32.toInt_toInt64, lg_cmp_lt, lg_cmp_gt, lg_cmp_ge, lg_cmp_le, Int32.reduceToInt, Int64.reduceToInt] at c4 c8 c12 c16 c20 c24 ⊢); omega)) | (refine Eq.trans (cIf_f ?_) ?_; · first | assumption | ((try simp only [inR, inS, i3_lt, i3_le, i3_eq, i6_lt, i6_le, Int32.toInt_toInt64, lg_cmp_lt, lg_cmp_gt, lg_cmp_ge, lg_cmp_le, Int32.reduceToInt, Int64.reduceToInt] at c4 c8 c12 c16 c20 c24 ⊢); omega)))); first | rfl | (exfalso; ((try simp only [inR, inS, i3_lt, i3_le, i3_eq, i6_lt, i6_le, Int32.toInt_toInt64, lg_cmp_lt, lg_cmp_gt, lg_cmp_ge, lg_cmp_le, Int32.reduceToInt, Int64.reduceToInt] at c4 c8 c12 c16 c20 c24); omega)), by rw [ht]; exact hP9, hD9⟩, hS.F ht⟩) hS.2.2 dX5_number_20
          · refine lv_iload_n hx hb dX5_number_19 rfl (lv_at hl 0 rfl) ?_
            have hP9 := hP.sub (ws' := []) [] rfl
            have hD9 := hD.sub (ws' := []) [] (by decide) rfl
            exact W.iret (v := 4) hx hb hr (fun t ht hW => ⟨⟨4, (), rfl, by dsimp only; symm; unfold num; (repeat (first | (refine Eq.trans (cIf_t ?_) ?_; · first | assumption | ((try simp only [inR, inS, i3_lt, i3_le, i3_eq, i6_lt, i6_le, Int32.toInt_toInt64, lg_cmp_lt, lg_cmp_gt, lg_cmp_ge, lg_cmp_le, Int32.reduceToInt, Int64.reduceToInt] at c4 c8 c12 c16 c20 ⊢); omega)) | (refine Eq.trans (cIf_f ?_) ?_; · first | assumption | ((try simp only [inR, inS, i3_lt, i3_le, i3_eq, i6_lt, i6_le, Int32.toInt_toInt64, lg_cmp_lt, lg_cmp_gt, lg_cmp_ge, lg_cmp_le, Int32.reduceToInt, Int64.reduceToInt] at c4 c8 c12 c16 c20 ⊢); omega)))); first | rfl | (exfalso; ((try simp only [inR, inS, i3_lt, i3_le, i3_eq, i6_lt, i6_le, Int32.toInt_toInt64, lg_cmp_lt, lg_cmp_gt, lg_cmp_ge, lg_cmp_le, Int32.reduceToInt, Int64.reduceToInt] at c4 c8 c12 c16 c20); omega)), by rw [ht]; exact hP9, hD9⟩, hS.F ht⟩) hS.2.2 dX5_number_20
        · refine lv_iload_n hx hb dX5_number_19 rfl (lv_at hl 0 rfl) ?_
          have hP9 := hP.sub (ws' := []) [] rfl
          have hD9 := hD.sub (ws' := []) [] (by decide) rfl
          exact W.iret (v := 3) hx hb hr (fun t ht hW => ⟨⟨3, (), rfl, by dsimp only; symm; unfold num; (repeat (first | (refine Eq.trans (cIf_t ?_) ?_; · first | assumption | ((try simp only [inR, inS, i3_lt, i3_le, i3_eq, i6_lt, i6_le, Int32.toInt_toInt64, lg_cmp_lt, lg_cmp_gt, lg_cmp_ge, lg_cmp_le, Int32.reduceToInt, Int64.reduceToInt] at c4 c8 c12 c16 ⊢); omega)) | (refine Eq.trans (cIf_f ?_) ?_; · first | assumption | ((try simp only [inR, inS, i3_lt, i3_le, i3_eq, i6_lt, i6_le, Int32.toInt_toInt64, lg_cmp_lt, lg_cmp_gt, lg_cmp_ge, lg_cmp_le, Int32.reduceToInt, Int64.reduceToInt] at c4 c8 c12 c16 ⊢); omega)))); first | rfl | (exfalso; ((try simp only [inR, inS, i3_lt, i3_le, i3_eq, i6_lt, i6_le, Int32.toInt_toInt64, lg_cmp_lt, lg_cmp_gt, lg_cmp_ge, lg_cmp_le, Int32.reduceToInt, Int64.reduceToInt] at c4 c8 c12 c16); omega)), by rw [ht]; exact hP9, hD9⟩, hS.F ht⟩) hS.2.2 dX5_number_20
      · refine lv_iload_n hx hb dX5_number_19 rfl (lv_at hl 0 rfl) ?_
        have hP9 := hP.sub (ws' := []) [] rfl
        have hD9 := hD.sub (ws' := []) [] (by decide) rfl
        exact W.iret (v := 2) hx hb hr (fun t ht hW => ⟨⟨2, (), rfl, by dsimp only; symm; unfold num; (repeat (first | (refine Eq.trans (cIf_t ?_) ?_; · first | assumption | ((try simp only [inR, inS, i3_lt, i3_le, i3_eq, i6_lt, i6_le, Int32.toInt_toInt64, lg_cmp_lt, lg_cmp_gt, lg_cmp_ge, lg_cmp_le, Int32.reduceToInt, Int64.reduceToInt] at c4 c8 c12 ⊢); omega)) | (refine Eq.trans (cIf_f ?_) ?_; · first | assumption | ((try simp only [inR, inS, i3_lt, i3_le, i3_eq, i6_lt, i6_le, Int32.toInt_toInt64, lg_cmp_lt, lg_cmp_gt, lg_cmp_ge, lg_cmp_le, Int32.reduceToInt, Int64.reduceToInt] at c4 c8 c12 ⊢); omega)))); first | rfl | (exfalso; ((try simp only [inR, inS, i3_lt, i3_le, i3_eq, i6_lt, i6_le, Int32.toInt_toInt64, lg_cmp_lt, lg_cmp_gt, lg_cmp_ge, lg_cmp_le, Int32.reduceToInt, Int64.reduceToInt] at c4 c8 c12); omega)), by rw [ht]; exact hP9, hD9⟩, hS.F ht⟩) hS.2.2 dX5_number_20
    · refine lv_iload_n hx hb dX5_number_19 rfl (lv_at hl 0 rfl) ?_
      have hP9 := hP.sub (ws' := []) [] rfl
      have hD9 := hD.sub (ws' := []) [] (by decide) rfl
      exact W.iret (v := 1) hx hb hr (fun t ht hW => ⟨⟨1, (), rfl, by dsimp only; symm; unfold num; (repeat (first | (refine Eq.trans (cIf_t ?_) ?_; · first | assumption | ((try simp only [inR, inS, i3_lt, i3_le, i3_eq, i6_lt, i6_le, Int32.toInt_toInt64, lg_cmp_lt, lg_cmp_gt, lg_cmp_ge, lg_cmp_le, Int32.reduceToInt, Int64.reduceToInt] at c4 c8 ⊢); omega)) | (refine Eq.trans (cIf_f ?_) ?_; · first | assumption | ((try simp only [inR, inS, i3_lt, i3_le, i3_eq, i6_lt, i6_le, Int32.toInt_toInt64, lg_cmp_lt, lg_cmp_gt, lg_cmp_ge, lg_cmp_le, Int32.reduceToInt, Int64.reduceToInt] at c4 c8 ⊢); omega)))); first | rfl | (exfalso; ((try simp only [inR, inS, i3_lt, i3_le, i3_eq, i6_lt, i6_le, Int32.toInt_toInt64, lg_cmp_lt, lg_cmp_gt, lg_cmp_ge, lg_cmp_le, Int32.reduceToInt, Int64.reduceToInt] at c4 c8); omega)), by rw [ht]; exact hP9, hD9⟩, hS.F ht⟩) hS.2.2 dX5_number_20
  · refine lv_iload_n hx hb dX5_number_19 rfl (lv_at hl 0 rfl) ?_
    have hP9 := hP.sub (ws' := []) [] rfl
    have hD9 := hD.sub (ws' := []) [] (by decide) rfl
    exact W.iret (v := 0) hx hb hr (fun t ht hW => ⟨⟨0, (), rfl, by dsimp only; symm; unfold num; (repeat (first | (refine Eq.trans (cIf_t ?_) ?_; · first | assumption | ((try simp only [inR, inS, i3_lt, i3_le, i3_eq, i6_lt, i6_le, Int32.toInt_toInt64, lg_cmp_lt, lg_cmp_gt, lg_cmp_ge, lg_cmp_le, Int32.reduceToInt, Int64.reduceToInt] at c4 ⊢); omega)) | (refine Eq.trans (cIf_f ?_) ?_; · first | assumption | ((try simp only [inR, inS, i3_lt, i3_le, i3_eq, i6_lt, i6_le, Int32.toInt_toInt64, lg_cmp_lt, lg_cmp_gt, lg_cmp_ge, lg_cmp_le, Int32.reduceToInt, Int64.reduceToInt] at c4 ⊢); omega)))); first | rfl | (exfalso; ((try simp only [inR, inS, i3_lt, i3_le, i3_eq, i6_lt, i6_le, Int32.toInt_toInt64, lg_cmp_lt, lg_cmp_gt, lg_cmp_ge, lg_cmp_le, Int32.reduceToInt, Int64.reduceToInt] at c4); omega)), by rw [ht]; exact hP9, hD9⟩, hS.F ht⟩) hS.2.2 dX5_number_20
