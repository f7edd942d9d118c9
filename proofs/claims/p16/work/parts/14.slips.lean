set_option maxHeartbeats 1000000 in
set_option maxRecDepth 100000 in
theorem c_goalWith (l : Launch) (G : Gy) (sz : Nat) (p0 : Int32) (p1 : Int32) (p2 : Int32)  : Ci l G yX0_with wsX0_with ({ frames := 0, cells := 0, slots := 0, locals := 0 }) [.int p0, .int p1, .int p2] [] sz (fun (r : Int32) (_ : Unit) => r = p0 ||| (p2 <<< ((3 * p1) &&& 31))) (fun (_ : Unit) => []) 0 0 := by
  refine Met.ofW (cc := cX0_with) (maxL := 3) (ret := (some .int)) (by decide) rfl ?_
  intro p e s m args below meth c s₁ B hml hv
  obtain ⟨rfl, hsz, hP, hD0, E0⟩ := hv
  have hx := B.exec
  have hb := B.bytes
  have hr := B.returns
  have hts := atoms_spec (ws := wsX0_with) B.pre
  have hown : s.vm.findClass RX0 = some m.cls := findClass_of_methodNamed B.named
  have hlocks := B.notSynchronized
  subst hsz
  have hD := hD0.self (sz := s.heap.size)
  generalize hAe : va_A [] s.heap.size = A at hD E0 ⊢
  have E : EV G A s s.heap := E0
  have hA : ∀ q : Nat, s.heap.size ≤ q → A q := fun q h => by rw [← hAe]; exact Or.inr h
  have hS : va_S A s.heap s.heap [] := va_S.rf
  have hl := lv_entry ([.int p0, .int p1, .int p2]) (n := 3) (Nat.le_of_ble_eq_true rfl)
  rw [lg_entry_eq]
  generalize (lg_sl ([.int p0, .int p1, .int p2]) ++ List.replicate (3 - (lg_sl ([.int p0, .int p1, .int p2])).length) Slot.unset).toArray = ls at hl ⊢
  have hl : lv_has ls 3 [(0, .int p0), (1, .int p1), (2, .int p2)] := hl
  have hP : va_P G.1 vwCl [] s.heap := hP
  refine lv_iload_n hx hb dX0_with_0 rfl (lv_at hl 0 rfl) ?_
  refine lv_iload_n hx hb dX0_with_1 rfl (lv_at hl 2 rfl) ?_
  refine lv_iconst (v := 3) hx hb dX0_with_2 (by decide) ?_
  refine lv_iload_n hx hb dX0_with_3 rfl (lv_at hl 1 rfl) ?_
  refine lv_imul hx hb dX0_with_4 ?_
  refine lv_topi (fun x1 ex1 => ?_)
  refine lv_ishl hx hb dX0_with_5 ?_
  refine lv_topi (fun x2 ex2 => ?_)
  refine lv_ior hx hb dX0_with_6 ?_
  refine lv_topi (fun x3 ex3 => ?_)
  have hP9 := hP.sub (ws' := []) [] rfl
  have hD9 := hD.sub (ws' := []) [] (by decide) rfl
  exact W.iret (v := x3) hx hb hr (fun t ht hW => ⟨⟨x3, (), rfl, by dsimp only; (try simp only [ex1, ex2, ex3]); first | done | rfl, by rw [ht]; exact hP9, hD9⟩, hS.F ht⟩) hS.2.2 dX0_with_7

set_option maxHeartbeats 1000000 in
set_option maxRecDepth 100000 in
theorem c_goalMark (l : Launch) (G : Gy) (sz : Nat) (p0 : Int32) (p1 : Int32)  : Ci l G yX0_markAt wsX0_markAt ({ frames := 0, cells := 0, slots := 0, locals := 0 }) [.int p0, .int p1] [] sz (fun (r : Int32) (_ : Unit) => r = (p0 >>> ((3 * p1) &&& 31)) &&& 7) (fun (_ : Unit) => []) 0 0 := by
  refine Met.ofW (cc := cX0_markAt) (maxL := 2) (ret := (some .int)) (by decide) rfl ?_
  intro p e s m args below meth c s₁ B hml hv
  obtain ⟨rfl, hsz, hP, hD0, E0⟩ := hv
  have hx := B.exec
  have hb := B.bytes
  have hr := B.returns
  have hts := atoms_spec (ws := wsX0_markAt) B.pre
  have hown : s.vm.findClass RX0 = some m.cls := findClass_of_methodNamed B.named
  have hlocks := B.notSynchronized
  subst hsz
  have hD := hD0.self (sz := s.heap.size)
  generalize hAe : va_A [] s.heap.size = A at hD E0 ⊢
  have E : EV G A s s.heap := E0
  have hA : ∀ q : Nat, s.heap.size ≤ q → A q := fun q h => by rw [← hAe]; exact Or.inr h
  have hS : va_S A s.heap s.heap [] := va_S.rf
  have hl := lv_entry ([.int p0, .int p1]) (n := 2) (Nat.le_of_ble_eq_true rfl)
  rw [lg_entry_eq]
  generalize (lg_sl ([.int p0, .int p1]) ++ List.replicate (2 - (lg_sl ([.int p0, .int p1])).length) Slot.unset).toArray = ls at hl ⊢
  have hl : lv_has ls 2 [(0, .int p0), (1, .int p1)] := hl
  have hP : va_P G.1 vwCl [] s.heap := hP
  refine lv_iload_n hx hb dX0_markAt_0 rfl (lv_at hl 0 rfl) ?_
  refine lv_iconst (v := 3) hx hb dX0_markAt_1 (by decide) ?_
  refine lv_iload_n hx hb dX0_markAt_2 rfl (lv_at hl 1 rfl) ?_
  refine lv_imul hx hb dX0_markAt_3 ?_
  refine lv_topi (fun x1 ex1 => ?_)
  refine lv_ishr hx hb dX0_markAt_4 ?_
  refine lv_topi (fun x2 ex2 => ?_)
  refine lv_bipush (v := 7) hx hb dX0_markAt_5 (by decide) ?_
  refine lv_iand hx hb dX0_markAt_7 ?_
  refine lv_topi (fun x3 ex3 => ?_)
  have hP9 := hP.sub (ws' := []) [] rfl
  have hD9 := hD.sub (ws' := []) [] (by decide) rfl
  exact W.iret (v := x3) hx hb hr (fun t ht hW => ⟨⟨x3, (), rfl, by dsimp only; (try simp only [ex1, ex2, ex3]); first | done | rfl, by rw [ht]; exact hP9, hD9⟩, hS.F ht⟩) hS.2.2 dX0_markAt_8

set_option maxHeartbeats 1000000 in
set_option maxRecDepth 100000 in
theorem c_slipNumber (l : Launch) (G : Gy) (sz : Nat) (p0 : Int32) (p1 : Int32) (p2 : Int32)  : Ci l G yX6_number wsX6_number ({ frames := 0, cells := 0, slots := 0, locals := 0 }) [.int p0, .int p1, .int p2] [] sz (fun (r : Int32) (_ : Unit) => r = 100 * p0 + 10 * p1 + p2) (fun (_ : Unit) => []) 0 0 := by
  refine Met.ofW (cc := cX6_number) (maxL := 3) (ret := (some .int)) (by decide) rfl ?_
  intro p e s m args below meth c s₁ B hml hv
  obtain ⟨rfl, hsz, hP, hD0, E0⟩ := hv
  have hx := B.exec
  have hb := B.bytes
  have hr := B.returns
  have hts := atoms_spec (ws := wsX6_number) B.pre
  have hown : s.vm.findClass RX6 = some m.cls := findClass_of_methodNamed B.named
  have hlocks := B.notSynchronized
  subst hsz
  have hD := hD0.self (sz := s.heap.size)
  generalize hAe : va_A [] s.heap.size = A at hD E0 ⊢
  have E : EV G A s s.heap := E0
  have hA : ∀ q : Nat, s.heap.size ≤ q → A q := fun q h => by rw [← hAe]; exact Or.inr h
  have hS : va_S A s.heap s.heap [] := va_S.rf
  have hl := lv_entry ([.int p0, .int p1, .int p2]) (n := 3) (Nat.le_of_ble_eq_true rfl)
  rw [lg_entry_eq]
  generalize (lg_sl ([.int p0, .int p1, .int p2]) ++ List.replicate (3 - (lg_sl ([.int p0, .int p1, .int p2])).length) Slot.unset).toArray = ls at hl ⊢
  have hl : lv_has ls 3 [(0, .int p0), (1, .int p1), (2, .int p2)] := hl
  have hP : va_P G.1 vwCl [] s.heap := hP
  refine lv_bipush (v := 100) hx hb dX6_number_0 (by decide) ?_
  refine lv_iload_n hx hb dX6_number_2 rfl (lv_at hl 0 rfl) ?_
  refine lv_imul hx hb dX6_number_3 ?_
  refine lv_topi (fun x1 ex1 => ?_)
  refine lv_bipush (v := 10) hx hb dX6_number_4 (by decide) ?_
  refine lv_iload_n hx hb dX6_number_6 rfl (lv_at hl 1 rfl) ?_
  refine lv_imul hx hb dX6_number_7 ?_
  refine lv_topi (fun x2 ex2 => ?_)
  refine lv_iadd hx hb dX6_number_8 ?_
  refine lv_topi (fun x3 ex3 => ?_)
  refine lv_iload_n hx hb dX6_number_9 rfl (lv_at hl 2 rfl) ?_
  refine lv_iadd hx hb dX6_number_10 ?_
  refine lv_topi (fun x4 ex4 => ?_)
  have hP9 := hP.sub (ws' := []) [] rfl
  have hD9 := hD.sub (ws' := []) [] (by decide) rfl
  exact W.iret (v := x4) hx hb hr (fun t ht hW => ⟨⟨x4, (), rfl, by dsimp only; (try simp only [ex1, ex2, ex3, ex4]); first | done | rfl, by rw [ht]; exact hP9, hD9⟩, hS.F ht⟩) hS.2.2 dX6_number_11

set_option maxHeartbeats 1000000 in
set_option maxRecDepth 100000 in
theorem c_sitesFor (l : Launch) (G : Gy) (sz : Nat) (p0 : Int32) (p1 : Int32)  : Ci l G yX6_sitesFor wsX6_sitesFor ({ frames := 0, cells := 0, slots := 0, locals := 0 }) [.int p0, .int p1] [] sz (fun (r : Int32) (_ : Unit) => r = stf p0 p1) (fun (_ : Unit) => []) 0 0 := by
  refine Met.ofW (cc := cX6_sitesFor) (maxL := 2) (ret := (some .int)) (by decide) rfl ?_
  intro p e s m args below meth c s₁ B hml hv
  obtain ⟨rfl, hsz, hP, hD0, E0⟩ := hv
  have hx := B.exec
  have hb := B.bytes
  have hr := B.returns
  have hts := atoms_spec (ws := wsX6_sitesFor) B.pre
  have hown : s.vm.findClass RX6 = some m.cls := findClass_of_methodNamed B.named
  have hlocks := B.notSynchronized
  subst hsz
  have hD := hD0.self (sz := s.heap.size)
  generalize hAe : va_A [] s.heap.size = A at hD E0 ⊢
  have E : EV G A s s.heap := E0
  have hA : ∀ q : Nat, s.heap.size ≤ q → A q := fun q h => by rw [← hAe]; exact Or.inr h
  have hS : va_S A s.heap s.heap [] := va_S.rf
  have hl := lv_entry ([.int p0, .int p1]) (n := 2) (Nat.le_of_ble_eq_true rfl)
  rw [lg_entry_eq]
  generalize (lg_sl ([.int p0, .int p1]) ++ List.replicate (2 - (lg_sl ([.int p0, .int p1])).length) Slot.unset).toArray = ls at hl ⊢
  have hl : lv_has ls 2 [(0, .int p0), (1, .int p1)] := hl
  have hP : va_P G.1 vwCl [] s.heap := hP
  refine lv_iload_n hx hb dX6_sitesFor_0 rfl (lv_at hl 0 rfl) ?_
  refine lv_iconst (v := 1) hx hb dX6_sitesFor_1 (by decide) ?_
  refine lv_icmp_eq (tgt := 10) hx hb dX6_sitesFor_2 (by decide) (fun c1 => ?_) (fun c1 => ?_)
  · refine lv_iload_n hx hb dX6_sitesFor_10 rfl (lv_at hl 1 rfl) ?_
    refine lv_iconst (v := 1) hx hb dX6_sitesFor_11 (by decide) ?_
    refine lv_isub hx hb dX6_sitesFor_12 ?_
    refine lv_topi (fun x2 ex2 => ?_)
    refine lv_goto (tgt := 17) hx hb dX6_sitesFor_13 (by decide) ?_
    have hP9 := hP.sub (ws' := []) [] rfl
    have hD9 := hD.sub (ws' := []) [] (by decide) rfl
    exact W.iret (v := x2) hx hb hr (fun t ht hW => ⟨⟨x2, (), rfl, by dsimp only; (try simp only [ex2]); symm; unfold stf; (repeat (first | (refine Eq.trans (cIf_t ?_) ?_; · first | assumption | ((try simp only [inR, inS, i3_lt, i3_le, i3_eq, i6_lt, i6_le, Int32.toInt_toInt64, lg_cmp_lt, lg_cmp_gt, lg_cmp_ge, lg_cmp_le, Int32.reduceToInt, Int64.reduceToInt] at c1 ⊢); omega)) | (refine Eq.trans (cIf_f ?_) ?_; · first | assumption | ((try simp only [inR, inS, i3_lt, i3_le, i3_eq, i6_lt, i6_le, Int32.toInt_toInt64, lg_cmp_lt, lg_cmp_gt, lg_cmp_ge, lg_cmp_le, Int32.reduceToInt, Int64.reduceToInt] at c1 ⊢); omega)))); first | rfl | (exfalso; ((try simp only [inR, inS, i3_lt, i3_le, i3_eq, i6_lt, i6_le, Int32.toInt_toInt64, lg_cmp_lt, lg_cmp_gt, lg_cmp_ge, lg_cmp_le, Int32.reduceToInt, Int64.reduceToInt] at c1); omega)), by rw [ht]; exact hP9, hD9⟩, hS.F ht⟩) hS.2.2 dX6_sitesFor_17
  · refine lv_iload_n hx hb dX6_sitesFor_5 rfl (lv_at hl 0 rfl) ?_
    refine lv_iconst (v := 2) hx hb dX6_sitesFor_6 (by decide) ?_
    refine lv_icmp_ne (tgt := 16) hx hb dX6_sitesFor_7 (by decide) (fun c3 => ?_) (fun c3 => ?_)
    · refine lv_iload_n hx hb dX6_sitesFor_16 rfl (lv_at hl 1 rfl) ?_
      have hP9 := hP.sub (ws' := []) [] rfl
      have hD9 := hD.sub (ws' := []) [] (by decide) rfl
      exact W.iret (v := p1) hx hb hr (fun t ht hW => ⟨⟨p1, (), rfl, by dsimp only; symm; unfold stf; (repeat (first | (refine Eq.trans (cIf_t ?_) ?_; · first | assumption | ((try simp only [inR, inS, i3_lt, i3_le, i3_eq, i6_lt, i6_le, Int32.toInt_toInt64, lg_cmp_lt, lg_cmp_gt, lg_cmp_ge, lg_cmp_le, Int32.reduceToInt, Int64.reduceToInt] at c1 c3 ⊢); omega)) | (refine Eq.trans (cIf_f ?_) ?_; · first | assumption | ((try simp only [inR, inS, i3_lt, i3_le, i3_eq, i6_lt, i6_le, Int32.toInt_toInt64, lg_cmp_lt, lg_cmp_gt, lg_cmp_ge, lg_cmp_le, Int32.reduceToInt, Int64.reduceToInt] at c1 c3 ⊢); omega)))); first | rfl | (exfalso; ((try simp only [inR, inS, i3_lt, i3_le, i3_eq, i6_lt, i6_le, Int32.toInt_toInt64, lg_cmp_lt, lg_cmp_gt, lg_cmp_ge, lg_cmp_le, Int32.reduceToInt, Int64.reduceToInt] at c1 c3); omega)), by rw [ht]; exact hP9, hD9⟩, hS.F ht⟩) hS.2.2 dX6_sitesFor_17
    · refine lv_iload_n hx hb dX6_sitesFor_10 rfl (lv_at hl 1 rfl) ?_
      refine lv_iconst (v := 1) hx hb dX6_sitesFor_11 (by decide) ?_
      refine lv_isub hx hb dX6_sitesFor_12 ?_
      refine lv_topi (fun x4 ex4 => ?_)
      refine lv_goto (tgt := 17) hx hb dX6_sitesFor_13 (by decide) ?_
      have hP9 := hP.sub (ws' := []) [] rfl
      have hD9 := hD.sub (ws' := []) [] (by decide) rfl
      exact W.iret (v := x4) hx hb hr (fun t ht hW => ⟨⟨x4, (), rfl, by dsimp only; (try simp only [ex4]); symm; unfold stf; (repeat (first | (refine Eq.trans (cIf_t ?_) ?_; · first | assumption | ((try simp only [inR, inS, i3_lt, i3_le, i3_eq, i6_lt, i6_le, Int32.toInt_toInt64, lg_cmp_lt, lg_cmp_gt, lg_cmp_ge, lg_cmp_le, Int32.reduceToInt, Int64.reduceToInt] at c1 c3 ⊢); omega)) | (refine Eq.trans (cIf_f ?_) ?_; · first | assumption | ((try simp only [inR, inS, i3_lt, i3_le, i3_eq, i6_lt, i6_le, Int32.toInt_toInt64, lg_cmp_lt, lg_cmp_gt, lg_cmp_ge, lg_cmp_le, Int32.reduceToInt, Int64.reduceToInt] at c1 c3 ⊢); omega)))); first | rfl | (exfalso; ((try simp only [inR, inS, i3_lt, i3_le, i3_eq, i6_lt, i6_le, Int32.toInt_toInt64, lg_cmp_lt, lg_cmp_gt, lg_cmp_ge, lg_cmp_le, Int32.reduceToInt, Int64.reduceToInt] at c1 c3); omega)), by rw [ht]; exact hP9, hD9⟩, hS.F ht⟩) hS.2.2 dX6_sitesFor_17

set_option maxHeartbeats 1000000 in
set_option maxRecDepth 100000 in
theorem c_isMade (l : Launch) (G : Gy) (sz : Nat) (p0 : Int32) (p1 : Int32) (p2 : Int32)  : Ci l G yX6_isMade wsX6_isMade ({ frames := 1, cells := 0, slots := 0, locals := 21 }) [.int p0, .int p1, .int p2] [] sz (fun (r : Int32) (_ : Unit) => (r = 1 ∧ mdP p0 p1 p2) ∨ (r = 0 ∧ ¬ mdP p0 p1 p2)) (fun (_ : Unit) => []) 0 0 := by
  refine Met.ofW (cc := cX6_isMade) (maxL := 4) (ret := (some .boolean)) (by decide) rfl ?_
  intro p e s m args below meth c s₁ B hml hv
  obtain ⟨rfl, hsz, hP, hD0, E0⟩ := hv
  have hx := B.exec
  have hb := B.bytes
  have hr := B.returns
  have hts := atoms_spec (ws := wsX6_isMade) B.pre
  have hown : s.vm.findClass RX6 = some m.cls := findClass_of_methodNamed B.named
  have hlocks := B.notSynchronized
  subst hsz
  have hD := hD0.self (sz := s.heap.size)
  generalize hAe : va_A [] s.heap.size = A at hD E0 ⊢
  have E : EV G A s s.heap := E0
  have hA : ∀ q : Nat, s.heap.size ≤ q → A q := fun q h => by rw [← hAe]; exact Or.inr h
  have hS : va_S A s.heap s.heap [] := va_S.rf
  have hl := lv_entry ([.int p0, .int p1, .int p2]) (n := 4) (Nat.le_of_ble_eq_true rfl)
  rw [lg_entry_eq]
  generalize (lg_sl ([.int p0, .int p1, .int p2]) ++ List.replicate (4 - (lg_sl ([.int p0, .int p1, .int p2])).length) Slot.unset).toArray = ls at hl ⊢
  have hl : lv_has ls 4 [(0, .int p0), (1, .int p1), (2, .int p2)] := hl
  have hP : va_P G.1 vwCl [] s.heap := hP
  refine lv_iload_n hx hb dX6_isMade_0 rfl (lv_at hl 0 rfl) ?_
  refine lv_bipush (v := 100) hx hb dX6_isMade_1 (by decide) ?_
  refine lv_idiv hx hb dX6_isMade_3 (by decide) ?_
  refine lv_topi (fun x1 ex1 => ?_)
  refine lv_istore_n (lv' := [(3, .int x1), (0, .int p0), (1, .int p1), (2, .int p2)]) hx hb dX6_isMade_4 rfl hl (by decide) rfl (fun ls hl => ?_)
  refine lv_iload_n hx hb dX6_isMade_5 rfl (lv_at hl 1 rfl) ?_
  refine lv_if_lt (tgt := 36) hx hb dX6_isMade_6 (by decide) (fun c2 => ?_) (fun c2 => ?_)
  · refine lv_iconst (v := 0) hx hb dX6_isMade_36 (by decide) ?_
    have hP9 := hP.sub (ws' := []) [] rfl
    have hD9 := hD.sub (ws' := []) [] (by decide) rfl
    exact W.zret (v := 0) hx hb hr (by decide) (fun t ht hW => ⟨⟨0, (), rfl, Or.inr ⟨rfl, fun h => by have g := h.1; ((try simp only [inR, inS, i3_lt, i3_le, i3_eq, i6_lt, i6_le, Int32.toInt_toInt64, lg_cmp_lt, lg_cmp_gt, lg_cmp_ge, lg_cmp_le, Int32.reduceToInt, Int64.reduceToInt] at c2 g); omega)⟩, by rw [ht]; exact hP9, hD9⟩, hS.F ht⟩) hS.2.2 dX6_isMade_37
  · refine lv_iload_n hx hb dX6_isMade_9 rfl (lv_at hl 2 rfl) ?_
    refine lv_iload_n hx hb dX6_isMade_10 rfl (lv_at hl 0 rfl) ?_
    refine lv_ishr hx hb dX6_isMade_11 ?_
    refine lv_topi (fun x3 ex3 => ?_)
    refine lv_iconst (v := 1) hx hb dX6_isMade_12 (by decide) ?_
    refine lv_iand hx hb dX6_isMade_13 ?_
    refine lv_topi (fun x4 ex4 => ?_)
    refine lv_if_eq (tgt := 36) hx hb dX6_isMade_14 (by decide) (fun c5 => ?_) (fun c5 => ?_)
    · refine lv_iconst (v := 0) hx hb dX6_isMade_36 (by decide) ?_
      have hP9 := hP.sub (ws' := []) [] rfl
      have hD9 := hD.sub (ws' := []) [] (by decide) rfl
      exact W.zret (v := 0) hx hb hr (by decide) (fun t ht hW => ⟨⟨0, (), rfl, Or.inr ⟨rfl, fun h => h.2.1 (by (try simp only [ex1, ex3, ex4] at c5); exact c5)⟩, by rw [ht]; exact hP9, hD9⟩, hS.F ht⟩) hS.2.2 dX6_isMade_37
    · refine lv_iload_n hx hb dX6_isMade_17 rfl (lv_at hl 1 rfl) ?_
      refine lv_bipush (v := 10) hx hb dX6_isMade_18 (by decide) ?_
      refine lv_idiv hx hb dX6_isMade_20 (by decide) ?_
      refine lv_topi (fun x6 ex6 => ?_)
      refine lv_bipush (v := 10) hx hb dX6_isMade_21 (by decide) ?_
      refine lv_irem hx hb dX6_isMade_23 (by decide) ?_
      refine lv_topi (fun x7 ex7 => ?_)
      refine lv_iload_n hx hb dX6_isMade_24 rfl (lv_at hl 0 rfl) ?_
      refine lv_iload_n hx hb dX6_isMade_25 rfl (lv_at hl 3 rfl) ?_
      refine ca_iR (va_runS (As := [.int x1, .int p2]) (rest := [.int x7]) ⟨hx, hb, hml, hown, hts⟩ (c_sitesFor l G s.heap.size x1 p2) (va_cwS 2 hts gX6_isMade_X6_sitesFor rfl rfl rfl (by decide +kernel) ⟨by decide +kernel, by decide +kernel⟩) (pre_S E hP hD hS hA [] (by decide) rfl) rfl rfl hl.1 rfl (lv_room (Nat.le_of_ble_eq_true rfl)) dX6_isMade_26 ⟨by decide +kernel, by decide +kernel⟩) hS hP hD hA [] rfl (fun r9 _ H locs w8 hP hS => ?_)
      refine lv_icmp_ge (tgt := 36) hx hb dX6_isMade_29 (by decide) (fun c10 => ?_) (fun c10 => ?_)
      · refine lv_iconst (v := 0) hx hb dX6_isMade_36 (by decide) ?_
        have hP9 := hP.sub (ws' := []) [] rfl
        have hD9 := hD.sub (ws' := []) [] (by decide) rfl
        exact W.zret (v := 0) hx hb hr (by decide) (fun t ht hW => ⟨⟨0, (), rfl, Or.inr ⟨rfl, fun h => by have g := h.2.2; unfold q10 at g; (try simp only [ex1, ex3, ex4, ex6, ex7, w8] at c10); simp only [i3_lt, i3_le] at g c10; omega⟩, by rw [ht]; exact hP9, hD9⟩, hS.F ht⟩) hS.2.2 dX6_isMade_37
      · refine lv_iconst (v := 1) hx hb dX6_isMade_32 (by decide) ?_
        refine lv_goto (tgt := 37) hx hb dX6_isMade_33 (by decide) ?_
        have hP9 := hP.sub (ws' := []) [] rfl
        have hD9 := hD.sub (ws' := []) [] (by decide) rfl
        exact W.zret (v := 1) hx hb hr (by decide) (fun t ht hW => ⟨⟨1, (), rfl, Or.inl ⟨rfl, ⟨by ((try simp only [inR, inS, i3_lt, i3_le, i3_eq, i6_lt, i6_le, Int32.toInt_toInt64, lg_cmp_lt, lg_cmp_gt, lg_cmp_ge, lg_cmp_le, Int32.reduceToInt, Int64.reduceToInt] at c2 ⊢); omega), by (try simp only [ex1, ex3, ex4, ex6, ex7, w8] at c5); exact c5, by unfold q10; (try simp only [ex1, ex3, ex4, ex6, ex7, w8] at c10); simpa [i3_lt, i3_le] using c10⟩⟩, by rw [ht]; exact hP9, hD9⟩, hS.F ht⟩) hS.2.2 dX6_isMade_37

set_option maxHeartbeats 1000000 in
set_option maxRecDepth 100000 in
theorem c_after (l : Launch) (G : Gy) (sz : Nat) (p0 : Int32) (p1 : Int32)  : Ci l G yX6_after wsX6_after ({ frames := 3, cells := 0, slots := 0, locals := 64 }) [.int p0, .int p1] [] sz (fun (r : Int32) (_ : Unit) => r = aft p0 p1) (fun (_ : Unit) => []) 0 0 := by
  refine Met.ofW (cc := cX6_after) (maxL := 4) (ret := (some .int)) (by decide) rfl ?_
  intro p e s m args below meth c s₁ B hml hv
  obtain ⟨rfl, hsz, hP, hD0, E0⟩ := hv
  have hx := B.exec
  have hb := B.bytes
  have hr := B.returns
  have hts := atoms_spec (ws := wsX6_after) B.pre
  have hown : s.vm.findClass RX6 = some m.cls := findClass_of_methodNamed B.named
  have hlocks := B.notSynchronized
  subst hsz
  have hD := hD0.self (sz := s.heap.size)
  generalize hAe : va_A [] s.heap.size = A at hD E0 ⊢
  have E : EV G A s s.heap := E0
  have hA : ∀ q : Nat, s.heap.size ≤ q → A q := fun q h => by rw [← hAe]; exact Or.inr h
  have hS : va_S A s.heap s.heap [] := va_S.rf
  have hl := lv_entry ([.int p0, .int p1]) (n := 4) (Nat.le_of_ble_eq_true rfl)
  rw [lg_entry_eq]
  generalize (lg_sl ([.int p0, .int p1]) ++ List.replicate (4 - (lg_sl ([.int p0, .int p1])).length) Slot.unset).toArray = ls at hl ⊢
  have hl : lv_has ls 4 [(0, .int p0), (1, .int p1)] := hl
  have hP : va_P G.1 vwCl [] s.heap := hP
  refine lv_iload_n hx hb dX6_after_0 rfl (lv_at hl 1 rfl) ?_
  refine lv_if_ge (tgt := 6) hx hb dX6_after_1 (by decide) (fun c1 => ?_) (fun c1 => ?_)
  · refine lv_iload_n hx hb dX6_after_6 rfl (lv_at hl 1 rfl) ?_
    refine lv_bipush (v := 10) hx hb dX6_after_7 (by decide) ?_
    refine lv_idiv hx hb dX6_after_9 (by decide) ?_
    refine lv_topi (fun x2 ex2 => ?_)
    refine lv_bipush (v := 10) hx hb dX6_after_10 (by decide) ?_
    refine lv_irem hx hb dX6_after_12 (by decide) ?_
    refine lv_topi (fun x3 ex3 => ?_)
    refine lv_istore_n (lv' := [(2, .int x3), (0, .int p0), (1, .int p1)]) hx hb dX6_after_13 rfl hl (by decide) rfl (fun ls hl => ?_)
    refine lv_iload_n hx hb dX6_after_14 rfl (lv_at hl 1 rfl) ?_
    refine lv_iload_n hx hb dX6_after_15 rfl (lv_at hl 0 rfl) ?_
    refine ca_iR (va_runS (As := [.int p0, .int x3]) (rest := []) ⟨hx, hb, hml, hown, hts⟩ (c_signAt l G s.heap.size p0 x3) (va_cwS 2 hts gX6_after_X1_signAt rfl rfl rfl (by decide +kernel) ⟨by decide +kernel, by decide +kernel⟩) (pre_S E hP hD hS hA [] (by decide) rfl) rfl rfl hl.1 rfl (lv_room (Nat.le_of_ble_eq_true rfl)) dX6_after_16 ⟨by decide +kernel, by decide +kernel⟩) hS hP hD hA [] rfl (fun r5 _ H locs w4 hP hS => ?_)
    refine lv_istore_n (lv' := [(3, .int r5), (2, .int x3), (0, .int p0), (1, .int p1)]) hx hb dX6_after_19 rfl hl (by decide) rfl (fun ls hl => ?_)
    refine lv_iload_n hx hb dX6_after_20 rfl (lv_at hl 3 rfl) ?_
    refine lv_bipush (v := 100) hx hb dX6_after_21 (by decide) ?_
    refine lv_idiv hx hb dX6_after_23 (by decide) ?_
    refine lv_topi (fun x6 ex6 => ?_)
    by_cases c90 : x6 = 0
    · refine lv_tableIn (off := 32) (tgt := 56) hx hb dX6_after_24 (by rw [c90]; decide) (by rw [c90]; decide) (by rw [c90]; decide) (by decide) ?_
      refine lv_iload_n hx hb dX6_after_56 rfl (lv_at hl 2 rfl) ?_
      refine lv_iload_n hx hb dX6_after_57 rfl (lv_at hl 1 rfl) ?_
      refine lv_iload_n hx hb dX6_after_58 rfl (lv_at hl 3 rfl) ?_
      refine lv_bipush (v := 10) hx hb dX6_after_59 (by decide) ?_
      refine lv_irem hx hb dX6_after_61 (by decide) ?_
      refine lv_topi (fun x7 ex7 => ?_)
      refine ca_iR (va_runS (As := [.int p0, .int x3, .int x7]) (rest := []) ⟨hx, hb, hml, hown, hts⟩ (c_with l G H.size p0 x3 x7) (va_cwS 3 hts gX6_after_X1_with rfl rfl rfl (by decide +kernel) ⟨by decide +kernel, by decide +kernel⟩) (pre_S E hP hD hS hA [] (by decide) rfl) rfl rfl hl.1 rfl (lv_room (Nat.le_of_ble_eq_true rfl)) dX6_after_62 ⟨by decide +kernel, by decide +kernel⟩) hS hP hD hA [] rfl (fun r9 _ H locs w8 hP hS => ?_)
      have hP9 := hP.sub (ws' := []) [] rfl
      have hD9 := hD.sub (ws' := []) [] (by decide) rfl
      exact W.iret (v := r9) hx hb hr (fun t ht hW => ⟨⟨r9, (), rfl, by dsimp only; (try simp only [ex2, ex3, w4, ex6, ex7, w8] at c90); (try simp only [ex2, ex3, w4, ex6, ex7, w8]); symm; unfold aft; refine (cIf_t (by ((try simp only [inR, inS, i3_lt, i3_le, i3_eq, i6_lt, i6_le, Int32.toInt_toInt64, lg_cmp_lt, lg_cmp_gt, lg_cmp_ge, lg_cmp_le, Int32.reduceToInt, Int64.reduceToInt] at c1 ⊢); omega))).trans ?_; refine (cIf_t (by assumption)).trans ?_; first | rfl | (unfold q10; rfl), by rw [ht]; exact hP9, hD9⟩, hS.F ht⟩) hS.2.2 dX6_after_65
    by_cases c91 : x6 = 1
    · refine lv_tableIn (off := 42) (tgt := 66) hx hb dX6_after_24 (by rw [c91]; decide) (by rw [c91]; decide) (by rw [c91]; decide) (by decide) ?_
      refine lv_iload_n hx hb dX6_after_66 rfl (lv_at hl 2 rfl) ?_
      refine lv_iload_n hx hb dX6_after_67 rfl (lv_at hl 1 rfl) ?_
      refine lv_iload_n hx hb dX6_after_68 rfl (lv_at hl 2 rfl) ?_
      refine lv_iload_n hx hb dX6_after_69 rfl (lv_at hl 1 rfl) ?_
      refine lv_iconst (v := 1) hx hb dX6_after_70 (by decide) ?_
      refine lv_iadd hx hb dX6_after_71 ?_
      refine lv_topi (fun x10 ex10 => ?_)
      refine ca_iR (va_runS (As := [.int p0, .int x10]) (rest := [.int x3, .int p0]) ⟨hx, hb, hml, hown, hts⟩ (c_signAt l G H.size p0 x10) (va_cwS 2 hts gX6_after_X1_signAt rfl rfl rfl (by decide +kernel) ⟨by decide +kernel, by decide +kernel⟩) (pre_S E hP hD hS hA [] (by decide) rfl) rfl rfl hl.1 rfl (lv_room (Nat.le_of_ble_eq_true rfl)) dX6_after_72 ⟨by decide +kernel, by decide +kernel⟩) hS hP hD hA [] rfl (fun r12 _ H locs w11 hP hS => ?_)
      refine ca_iR (va_runS (As := [.int p0, .int x3, .int r12]) (rest := []) ⟨hx, hb, hml, hown, hts⟩ (c_with l G H.size p0 x3 r12) (va_cwS 3 hts gX6_after_X1_with rfl rfl rfl (by decide +kernel) ⟨by decide +kernel, by decide +kernel⟩) (pre_S E hP hD hS hA [] (by decide) rfl) rfl rfl hl.1 rfl (lv_room (Nat.le_of_ble_eq_true rfl)) dX6_after_75 ⟨by decide +kernel, by decide +kernel⟩) hS hP hD hA [] rfl (fun r14 _ H locs w13 hP hS => ?_)
      refine lv_iload_n hx hb dX6_after_78 rfl (lv_at hl 1 rfl) ?_
      refine lv_iconst (v := 1) hx hb dX6_after_79 (by decide) ?_
      refine lv_iadd hx hb dX6_after_80 ?_
      refine lv_topi (fun x15 ex15 => ?_)
      refine lv_iload_n hx hb dX6_after_81 rfl (lv_at hl 0 rfl) ?_
      refine ca_iR (va_runS (As := [.int r14, .int x15, .int r5]) (rest := []) ⟨hx, hb, hml, hown, hts⟩ (c_with l G H.size r14 x15 r5) (va_cwS 3 hts gX6_after_X1_with rfl rfl rfl (by decide +kernel) ⟨by decide +kernel, by decide +kernel⟩) (pre_S E hP hD hS hA [] (by decide) rfl) rfl rfl hl.1 rfl (lv_room (Nat.le_of_ble_eq_true rfl)) dX6_after_82 ⟨by decide +kernel, by decide +kernel⟩) hS hP hD hA [] rfl (fun r17 _ H locs w16 hP hS => ?_)
      have hP9 := hP.sub (ws' := []) [] rfl
      have hD9 := hD.sub (ws' := []) [] (by decide) rfl
      exact W.iret (v := r17) hx hb hr (fun t ht hW => ⟨⟨r17, (), rfl, by dsimp only; (try simp only [ex2, ex3, w4, ex6, ex10, w11, w13, ex15, w16] at c90 c91); (try simp only [ex2, ex3, w4, ex6, ex10, w11, w13, ex15, w16]); symm; unfold aft; refine (cIf_t (by ((try simp only [inR, inS, i3_lt, i3_le, i3_eq, i6_lt, i6_le, Int32.toInt_toInt64, lg_cmp_lt, lg_cmp_gt, lg_cmp_ge, lg_cmp_le, Int32.reduceToInt, Int64.reduceToInt] at c1 ⊢); omega))).trans ?_; refine (cIf_f (by assumption)).trans ?_; refine (cIf_t (by assumption)).trans ?_; first | rfl | (unfold q10; rfl), by rw [ht]; exact hP9, hD9⟩, hS.F ht⟩) hS.2.2 dX6_after_85
    by_cases c92 : x6 = 2
    · refine lv_tableIn (off := 62) (tgt := 86) hx hb dX6_after_24 (by rw [c92]; decide) (by rw [c92]; decide) (by rw [c92]; decide) (by decide) ?_
      refine lv_iload_n hx hb dX6_after_86 rfl (lv_at hl 2 rfl) ?_
      refine lv_iload_n hx hb dX6_after_87 rfl (lv_at hl 1 rfl) ?_
      refine lv_iconst (v := 1) hx hb dX6_after_88 (by decide) ?_
      refine lv_iadd hx hb dX6_after_89 ?_
      refine lv_topi (fun x18 ex18 => ?_)
      refine lv_iload_n hx hb dX6_after_90 rfl (lv_at hl 0 rfl) ?_
      refine ca_iR (va_runS (As := [.int p0, .int x18, .int r5]) (rest := []) ⟨hx, hb, hml, hown, hts⟩ (c_with l G H.size p0 x18 r5) (va_cwS 3 hts gX6_after_X1_with rfl rfl rfl (by decide +kernel) ⟨by decide +kernel, by decide +kernel⟩) (pre_S E hP hD hS hA [] (by decide) rfl) rfl rfl hl.1 rfl (lv_room (Nat.le_of_ble_eq_true rfl)) dX6_after_91 ⟨by decide +kernel, by decide +kernel⟩) hS hP hD hA [] rfl (fun r20 _ H locs w19 hP hS => ?_)
      have hP9 := hP.sub (ws' := []) [] rfl
      have hD9 := hD.sub (ws' := []) [] (by decide) rfl
      exact W.iret (v := r20) hx hb hr (fun t ht hW => ⟨⟨r20, (), rfl, by dsimp only; (try simp only [ex2, ex3, w4, ex6, ex18, w19] at c90 c91 c92); (try simp only [ex2, ex3, w4, ex6, ex18, w19]); symm; unfold aft; refine (cIf_t (by ((try simp only [inR, inS, i3_lt, i3_le, i3_eq, i6_lt, i6_le, Int32.toInt_toInt64, lg_cmp_lt, lg_cmp_gt, lg_cmp_ge, lg_cmp_le, Int32.reduceToInt, Int64.reduceToInt] at c1 ⊢); omega))).trans ?_; refine (cIf_f (by assumption)).trans ?_; refine (cIf_f (by assumption)).trans ?_; refine (cIf_t (by assumption)).trans ?_; first | rfl | (unfold q10; rfl), by rw [ht]; exact hP9, hD9⟩, hS.F ht⟩) hS.2.2 dX6_after_94
    by_cases c93 : x6 = 3
    · refine lv_tableIn (off := 71) (tgt := 95) hx hb dX6_after_24 (by rw [c93]; decide) (by rw [c93]; decide) (by rw [c93]; decide) (by decide) ?_
      refine lv_iload_n hx hb dX6_after_95 rfl (lv_at hl 2 rfl) ?_
      refine lv_iload_n hx hb dX6_after_96 rfl (lv_at hl 1 rfl) ?_
      refine lv_iconst (v := 4) hx hb dX6_after_97 (by decide) ?_
      refine ca_iR (va_runS (As := [.int p0, .int x3, .int 4]) (rest := []) ⟨hx, hb, hml, hown, hts⟩ (c_with l G H.size p0 x3 4) (va_cwS 3 hts gX6_after_X1_with rfl rfl rfl (by decide +kernel) ⟨by decide +kernel, by decide +kernel⟩) (pre_S E hP hD hS hA [] (by decide) rfl) rfl rfl hl.1 rfl (lv_room (Nat.le_of_ble_eq_true rfl)) dX6_after_98 ⟨by decide +kernel, by decide +kernel⟩) hS hP hD hA [] rfl (fun r22 _ H locs w21 hP hS => ?_)
      have hP9 := hP.sub (ws' := []) [] rfl
      have hD9 := hD.sub (ws' := []) [] (by decide) rfl
      exact W.iret (v := r22) hx hb hr (fun t ht hW => ⟨⟨r22, (), rfl, by dsimp only; (try simp only [ex2, ex3, w4, ex6, w21] at c90 c91 c92 c93); (try simp only [ex2, ex3, w4, ex6, w21]); symm; unfold aft; refine (cIf_t (by ((try simp only [inR, inS, i3_lt, i3_le, i3_eq, i6_lt, i6_le, Int32.toInt_toInt64, lg_cmp_lt, lg_cmp_gt, lg_cmp_ge, lg_cmp_le, Int32.reduceToInt, Int64.reduceToInt] at c1 ⊢); omega))).trans ?_; refine (cIf_f (by assumption)).trans ?_; refine (cIf_f (by assumption)).trans ?_; refine (cIf_f (by assumption)).trans ?_; refine (cIf_t (by assumption)).trans ?_; first | rfl | (unfold q10; rfl), by rw [ht]; exact hP9, hD9⟩, hS.F ht⟩) hS.2.2 dX6_after_101
    refine lv_tableOut (tgt := 102) hx hb dX6_after_24 (by ((try simp only [inR, inS, i3_lt, i3_le, i3_eq, i6_lt, i6_le, Int32.toInt_toInt64, lg_cmp_lt, lg_cmp_gt, lg_cmp_ge, lg_cmp_le, Int32.reduceToInt, Int64.reduceToInt] at c90 c91 c92 c93 ⊢); omega)) (by decide) ?_
    refine lv_iload_n hx hb dX6_after_102 rfl (lv_at hl 2 rfl) ?_
    have hP9 := hP.sub (ws' := []) [] rfl
    have hD9 := hD.sub (ws' := []) [] (by decide) rfl
    exact W.iret (v := p0) hx hb hr (fun t ht hW => ⟨⟨p0, (), rfl, by dsimp only; (try simp only [ex2, ex3, w4, ex6] at c90 c91 c92 c93); (try simp only [ex2, ex3, w4, ex6]); symm; unfold aft; refine (cIf_t (by ((try simp only [inR, inS, i3_lt, i3_le, i3_eq, i6_lt, i6_le, Int32.toInt_toInt64, lg_cmp_lt, lg_cmp_gt, lg_cmp_ge, lg_cmp_le, Int32.reduceToInt, Int64.reduceToInt] at c1 ⊢); omega))).trans ?_; refine (cIf_f (by assumption)).trans ?_; refine (cIf_f (by assumption)).trans ?_; refine (cIf_f (by assumption)).trans ?_; refine (cIf_f (by assumption)).trans ?_; first | rfl | (unfold q10; rfl), by rw [ht]; exact hP9, hD9⟩, hS.F ht⟩) hS.2.2 dX6_after_103
  · refine lv_iload_n hx hb dX6_after_4 rfl (lv_at hl 0 rfl) ?_
    have hP9 := hP.sub (ws' := []) [] rfl
    have hD9 := hD.sub (ws' := []) [] (by decide) rfl
    exact W.iret (v := p0) hx hb hr (fun t ht hW => ⟨⟨p0, (), rfl, by dsimp only; symm; unfold aft; exact cIf_f (by ((try simp only [inR, inS, i3_lt, i3_le, i3_eq, i6_lt, i6_le, Int32.toInt_toInt64, lg_cmp_lt, lg_cmp_gt, lg_cmp_ge, lg_cmp_le, Int32.reduceToInt, Int64.reduceToInt] at c1 ⊢); omega)), by rw [ht]; exact hP9, hD9⟩, hS.F ht⟩) hS.2.2 dX6_after_5
