set_option maxHeartbeats 1000000 in
set_option maxRecDepth 100000 in
theorem c_isMap (l : Launch) (G : Gy) (sz : Nat) (p0 : Int32)  : Ci l G yX9_isMap wsX9_isMap ({ frames := 0, cells := 0, slots := 0, locals := 0 }) [.int p0] [] sz (fun (r : Int32) (_ : Unit) => (r = 1 ∧ inR p0 0 5) ∨ (r = 0 ∧ ¬ inR p0 0 5)) (fun (_ : Unit) => []) 0 0 := by
  refine Met.ofW (cc := cX9_isMap) (maxL := 1) (ret := (some .boolean)) (by decide) rfl ?_
  intro p e s m args below meth c s₁ B hml hv
  obtain ⟨rfl, hsz, hP, hD0, E0⟩ := hv
  have hx := B.exec
  have hb := B.bytes
  have hr := B.returns
  have hts := atoms_spec (ws := wsX9_isMap) B.pre
  have hown : s.vm.findClass RX9 = some m.cls := findClass_of_methodNamed B.named
  have hlocks := B.notSynchronized
  subst hsz
  have hD := hD0.self (sz := s.heap.size)
  generalize hAe : va_A [] s.heap.size = A at hD E0 ⊢
  have E : EV G A s s.heap := E0
  have hA : ∀ q : Nat, s.heap.size ≤ q → A q := fun q h => by rw [← hAe]; exact Or.inr h
  have hS : va_S A s.heap s.heap [] := va_S.rf
  have hl := lv_entry ([.int p0]) (n := 1) (Nat.le_of_ble_eq_true rfl)
  rw [lg_entry_eq]
  generalize (lg_sl ([.int p0]) ++ List.replicate (1 - (lg_sl ([.int p0])).length) Slot.unset).toArray = ls at hl ⊢
  have hl : lv_has ls 1 [(0, .int p0)] := hl
  have hP : va_P G.1 vwCl [] s.heap := hP
  refine lv_iload_n hx hb dX9_isMap_0 rfl (lv_at hl 0 rfl) ?_
  refine lv_if_lt (tgt := 14) hx hb dX9_isMap_1 (by decide) (fun c1 => ?_) (fun c1 => ?_)
  · refine lv_iconst (v := 0) hx hb dX9_isMap_14 (by decide) ?_
    have hP9 := hP.sub (ws' := []) [] rfl
    have hD9 := hD.sub (ws' := []) [] (by decide) rfl
    exact W.zret (v := 0) hx hb hr (by decide) (fun t ht hW => ⟨⟨0, (), rfl, Or.inr ⟨rfl, by ((try simp only [inR, inS, i3_lt, i3_le, i3_eq, i6_lt, i6_le, Int32.toInt_toInt64, lg_cmp_lt, lg_cmp_gt, lg_cmp_ge, lg_cmp_le, Int32.reduceToInt, Int64.reduceToInt] at c1 ⊢); omega)⟩, by rw [ht]; exact hP9, hD9⟩, hS.F ht⟩) hS.2.2 dX9_isMap_15
  · refine lv_iload_n hx hb dX9_isMap_4 rfl (lv_at hl 0 rfl) ?_
    refine lv_bipush (v := 6) hx hb dX9_isMap_5 (by decide) ?_
    refine lv_icmp_ge (tgt := 14) hx hb dX9_isMap_7 (by decide) (fun c2 => ?_) (fun c2 => ?_)
    · refine lv_iconst (v := 0) hx hb dX9_isMap_14 (by decide) ?_
      have hP9 := hP.sub (ws' := []) [] rfl
      have hD9 := hD.sub (ws' := []) [] (by decide) rfl
      exact W.zret (v := 0) hx hb hr (by decide) (fun t ht hW => ⟨⟨0, (), rfl, Or.inr ⟨rfl, by ((try simp only [inR, inS, i3_lt, i3_le, i3_eq, i6_lt, i6_le, Int32.toInt_toInt64, lg_cmp_lt, lg_cmp_gt, lg_cmp_ge, lg_cmp_le, Int32.reduceToInt, Int64.reduceToInt] at c1 c2 ⊢); omega)⟩, by rw [ht]; exact hP9, hD9⟩, hS.F ht⟩) hS.2.2 dX9_isMap_15
    · refine lv_iconst (v := 1) hx hb dX9_isMap_10 (by decide) ?_
      refine lv_goto (tgt := 15) hx hb dX9_isMap_11 (by decide) ?_
      have hP9 := hP.sub (ws' := []) [] rfl
      have hD9 := hD.sub (ws' := []) [] (by decide) rfl
      exact W.zret (v := 1) hx hb hr (by decide) (fun t ht hW => ⟨⟨1, (), rfl, Or.inl ⟨rfl, by ((try simp only [inR, inS, i3_lt, i3_le, i3_eq, i6_lt, i6_le, Int32.toInt_toInt64, lg_cmp_lt, lg_cmp_gt, lg_cmp_ge, lg_cmp_le, Int32.reduceToInt, Int64.reduceToInt] at c1 c2 ⊢); omega)⟩, by rw [ht]; exact hP9, hD9⟩, hS.F ht⟩) hS.2.2 dX9_isMap_15

set_option maxHeartbeats 1000000 in
set_option maxRecDepth 100000 in
theorem c_isHand (l : Launch) (G : Gy) (sz : Nat) (p0 : Int32)  : Ci l G yX9_isHand wsX9_isHand ({ frames := 0, cells := 0, slots := 0, locals := 0 }) [.int p0] [] sz (fun (r : Int32) (_ : Unit) => (r = 1 ∧ inR p0 0 3) ∨ (r = 0 ∧ ¬ inR p0 0 3)) (fun (_ : Unit) => []) 0 0 := by
  refine Met.ofW (cc := cX9_isHand) (maxL := 1) (ret := (some .boolean)) (by decide) rfl ?_
  intro p e s m args below meth c s₁ B hml hv
  obtain ⟨rfl, hsz, hP, hD0, E0⟩ := hv
  have hx := B.exec
  have hb := B.bytes
  have hr := B.returns
  have hts := atoms_spec (ws := wsX9_isHand) B.pre
  have hown : s.vm.findClass RX9 = some m.cls := findClass_of_methodNamed B.named
  have hlocks := B.notSynchronized
  subst hsz
  have hD := hD0.self (sz := s.heap.size)
  generalize hAe : va_A [] s.heap.size = A at hD E0 ⊢
  have E : EV G A s s.heap := E0
  have hA : ∀ q : Nat, s.heap.size ≤ q → A q := fun q h => by rw [← hAe]; exact Or.inr h
  have hS : va_S A s.heap s.heap [] := va_S.rf
  have hl := lv_entry ([.int p0]) (n := 1) (Nat.le_of_ble_eq_true rfl)
  rw [lg_entry_eq]
  generalize (lg_sl ([.int p0]) ++ List.replicate (1 - (lg_sl ([.int p0])).length) Slot.unset).toArray = ls at hl ⊢
  have hl : lv_has ls 1 [(0, .int p0)] := hl
  have hP : va_P G.1 vwCl [] s.heap := hP
  refine lv_iload_n hx hb dX9_isHand_0 rfl (lv_at hl 0 rfl) ?_
  refine lv_if_lt (tgt := 13) hx hb dX9_isHand_1 (by decide) (fun c1 => ?_) (fun c1 => ?_)
  · refine lv_iconst (v := 0) hx hb dX9_isHand_13 (by decide) ?_
    have hP9 := hP.sub (ws' := []) [] rfl
    have hD9 := hD.sub (ws' := []) [] (by decide) rfl
    exact W.zret (v := 0) hx hb hr (by decide) (fun t ht hW => ⟨⟨0, (), rfl, Or.inr ⟨rfl, by ((try simp only [inR, inS, i3_lt, i3_le, i3_eq, i6_lt, i6_le, Int32.toInt_toInt64, lg_cmp_lt, lg_cmp_gt, lg_cmp_ge, lg_cmp_le, Int32.reduceToInt, Int64.reduceToInt] at c1 ⊢); omega)⟩, by rw [ht]; exact hP9, hD9⟩, hS.F ht⟩) hS.2.2 dX9_isHand_14
  · refine lv_iload_n hx hb dX9_isHand_4 rfl (lv_at hl 0 rfl) ?_
    refine lv_iconst (v := 4) hx hb dX9_isHand_5 (by decide) ?_
    refine lv_icmp_ge (tgt := 13) hx hb dX9_isHand_6 (by decide) (fun c2 => ?_) (fun c2 => ?_)
    · refine lv_iconst (v := 0) hx hb dX9_isHand_13 (by decide) ?_
      have hP9 := hP.sub (ws' := []) [] rfl
      have hD9 := hD.sub (ws' := []) [] (by decide) rfl
      exact W.zret (v := 0) hx hb hr (by decide) (fun t ht hW => ⟨⟨0, (), rfl, Or.inr ⟨rfl, by ((try simp only [inR, inS, i3_lt, i3_le, i3_eq, i6_lt, i6_le, Int32.toInt_toInt64, lg_cmp_lt, lg_cmp_gt, lg_cmp_ge, lg_cmp_le, Int32.reduceToInt, Int64.reduceToInt] at c1 c2 ⊢); omega)⟩, by rw [ht]; exact hP9, hD9⟩, hS.F ht⟩) hS.2.2 dX9_isHand_14
    · refine lv_iconst (v := 1) hx hb dX9_isHand_9 (by decide) ?_
      refine lv_goto (tgt := 14) hx hb dX9_isHand_10 (by decide) ?_
      have hP9 := hP.sub (ws' := []) [] rfl
      have hD9 := hD.sub (ws' := []) [] (by decide) rfl
      exact W.zret (v := 1) hx hb hr (by decide) (fun t ht hW => ⟨⟨1, (), rfl, Or.inl ⟨rfl, by ((try simp only [inR, inS, i3_lt, i3_le, i3_eq, i6_lt, i6_le, Int32.toInt_toInt64, lg_cmp_lt, lg_cmp_gt, lg_cmp_ge, lg_cmp_le, Int32.reduceToInt, Int64.reduceToInt] at c1 c2 ⊢); omega)⟩, by rw [ht]; exact hP9, hD9⟩, hS.F ht⟩) hS.2.2 dX9_isHand_14

set_option maxHeartbeats 1000000 in
set_option maxRecDepth 100000 in
theorem c_isSet (l : Launch) (G : Gy) (sz : Nat) (p0 : Int32)  : Ci l G yX9_isSet wsX9_isSet ({ frames := 0, cells := 0, slots := 0, locals := 0 }) [.int p0] [] sz (fun (r : Int32) (_ : Unit) => (r = 1 ∧ inR p0 1 63) ∨ (r = 0 ∧ ¬ inR p0 1 63)) (fun (_ : Unit) => []) 0 0 := by
  refine Met.ofW (cc := cX9_isSet) (maxL := 1) (ret := (some .boolean)) (by decide) rfl ?_
  intro p e s m args below meth c s₁ B hml hv
  obtain ⟨rfl, hsz, hP, hD0, E0⟩ := hv
  have hx := B.exec
  have hb := B.bytes
  have hr := B.returns
  have hts := atoms_spec (ws := wsX9_isSet) B.pre
  have hown : s.vm.findClass RX9 = some m.cls := findClass_of_methodNamed B.named
  have hlocks := B.notSynchronized
  subst hsz
  have hD := hD0.self (sz := s.heap.size)
  generalize hAe : va_A [] s.heap.size = A at hD E0 ⊢
  have E : EV G A s s.heap := E0
  have hA : ∀ q : Nat, s.heap.size ≤ q → A q := fun q h => by rw [← hAe]; exact Or.inr h
  have hS : va_S A s.heap s.heap [] := va_S.rf
  have hl := lv_entry ([.int p0]) (n := 1) (Nat.le_of_ble_eq_true rfl)
  rw [lg_entry_eq]
  generalize (lg_sl ([.int p0]) ++ List.replicate (1 - (lg_sl ([.int p0])).length) Slot.unset).toArray = ls at hl ⊢
  have hl : lv_has ls 1 [(0, .int p0)] := hl
  have hP : va_P G.1 vwCl [] s.heap := hP
  refine lv_iload_n hx hb dX9_isSet_0 rfl (lv_at hl 0 rfl) ?_
  refine lv_iconst (v := 1) hx hb dX9_isSet_1 (by decide) ?_
  refine lv_icmp_lt (tgt := 15) hx hb dX9_isSet_2 (by decide) (fun c1 => ?_) (fun c1 => ?_)
  · refine lv_iconst (v := 0) hx hb dX9_isSet_15 (by decide) ?_
    have hP9 := hP.sub (ws' := []) [] rfl
    have hD9 := hD.sub (ws' := []) [] (by decide) rfl
    exact W.zret (v := 0) hx hb hr (by decide) (fun t ht hW => ⟨⟨0, (), rfl, Or.inr ⟨rfl, by ((try simp only [inR, inS, i3_lt, i3_le, i3_eq, i6_lt, i6_le, Int32.toInt_toInt64, lg_cmp_lt, lg_cmp_gt, lg_cmp_ge, lg_cmp_le, Int32.reduceToInt, Int64.reduceToInt] at c1 ⊢); omega)⟩, by rw [ht]; exact hP9, hD9⟩, hS.F ht⟩) hS.2.2 dX9_isSet_16
  · refine lv_iload_n hx hb dX9_isSet_5 rfl (lv_at hl 0 rfl) ?_
    refine lv_bipush (v := 63) hx hb dX9_isSet_6 (by decide) ?_
    refine lv_icmp_gt (tgt := 15) hx hb dX9_isSet_8 (by decide) (fun c2 => ?_) (fun c2 => ?_)
    · refine lv_iconst (v := 0) hx hb dX9_isSet_15 (by decide) ?_
      have hP9 := hP.sub (ws' := []) [] rfl
      have hD9 := hD.sub (ws' := []) [] (by decide) rfl
      exact W.zret (v := 0) hx hb hr (by decide) (fun t ht hW => ⟨⟨0, (), rfl, Or.inr ⟨rfl, by ((try simp only [inR, inS, i3_lt, i3_le, i3_eq, i6_lt, i6_le, Int32.toInt_toInt64, lg_cmp_lt, lg_cmp_gt, lg_cmp_ge, lg_cmp_le, Int32.reduceToInt, Int64.reduceToInt] at c1 c2 ⊢); omega)⟩, by rw [ht]; exact hP9, hD9⟩, hS.F ht⟩) hS.2.2 dX9_isSet_16
    · refine lv_iconst (v := 1) hx hb dX9_isSet_11 (by decide) ?_
      refine lv_goto (tgt := 16) hx hb dX9_isSet_12 (by decide) ?_
      have hP9 := hP.sub (ws' := []) [] rfl
      have hD9 := hD.sub (ws' := []) [] (by decide) rfl
      exact W.zret (v := 1) hx hb hr (by decide) (fun t ht hW => ⟨⟨1, (), rfl, Or.inl ⟨rfl, by ((try simp only [inR, inS, i3_lt, i3_le, i3_eq, i6_lt, i6_le, Int32.toInt_toInt64, lg_cmp_lt, lg_cmp_gt, lg_cmp_ge, lg_cmp_le, Int32.reduceToInt, Int64.reduceToInt] at c1 c2 ⊢); omega)⟩, by rw [ht]; exact hP9, hD9⟩, hS.F ht⟩) hS.2.2 dX9_isSet_16

set_option maxHeartbeats 1000000 in
set_option maxRecDepth 100000 in
theorem c_isOf (l : Launch) (G : Gy) (sz : Nat) (p0 : Int32) (p1 : Int32)  : Ci l G yX9_isOf wsX9_isOf ({ frames := 1, cells := 0, slots := 0, locals := 20 }) [.int p0, .int p1] [] sz (fun (r : Int32) (_ : Unit) => (r = 1 ∧ isOfP p0 p1) ∨ (r = 0 ∧ ¬ isOfP p0 p1)) (fun (_ : Unit) => []) 0 0 := by
  refine Met.ofW (cc := cX9_isOf) (maxL := 2) (ret := (some .boolean)) (by decide) rfl ?_
  intro p e s m args below meth c s₁ B hml hv
  obtain ⟨rfl, hsz, hP, hD0, E0⟩ := hv
  have hx := B.exec
  have hb := B.bytes
  have hr := B.returns
  have hts := atoms_spec (ws := wsX9_isOf) B.pre
  have hown : s.vm.findClass RX9 = some m.cls := findClass_of_methodNamed B.named
  have hlocks := B.notSynchronized
  subst hsz
  have hD := hD0.self (sz := s.heap.size)
  generalize hAe : va_A [] s.heap.size = A at hD E0 ⊢
  have E : EV G A s s.heap := E0
  have hA : ∀ q : Nat, s.heap.size ≤ q → A q := fun q h => by rw [← hAe]; exact Or.inr h
  have hS : va_S A s.heap s.heap [] := va_S.rf
  have hl := lv_entry ([.int p0, .int p1]) (n := 2) (Nat.le_of_ble_eq_true rfl)
  rw [lg_entry_eq]
  generalize (lg_sl ([.int p0, .int p1]) ++ List.replicate (2 - (lg_sl ([.int p0, .int p1])).length) Slot.unset).toArray = ls at hl ⊢
  have hl : lv_has ls 2 [(0, .int p0), (1, .int p1)] := hl
  have hP : va_P G.1 vwCl [] s.heap := hP
  refine lv_iload_n hx hb dX9_isOf_0 rfl (lv_at hl 1 rfl) ?_
  refine ca_iR (va_runS (As := [.int p1]) (rest := []) ⟨hx, hb, hml, hown, hts⟩ (c_isMap l G s.heap.size p1) (va_cwS 1 hts gX9_isOf_X9_isMap rfl rfl rfl (by decide +kernel) ⟨by decide +kernel, by decide +kernel⟩) (pre_S E hP hD hS hA [] (by decide) rfl) rfl rfl hl.1 rfl (lv_room (Nat.le_of_ble_eq_true rfl)) dX9_isOf_1 ⟨by decide +kernel, by decide +kernel⟩) hS hP hD hA [] rfl (fun r2 _ H locs w1 hP hS => ?_)
  rcases w1 with ⟨rfl, b3⟩ | ⟨rfl, b3⟩
  · refine lv_if_eq (tgt := 19) hx hb dX9_isOf_4 (by decide) (fun c4 => False.elim (by revert c4; decide)) (fun _ => ?_)
    refine lv_iload_n hx hb dX9_isOf_7 rfl (lv_at hl 0 rfl) ?_
    refine lv_iload_n hx hb dX9_isOf_8 rfl (lv_at hl 1 rfl) ?_
    refine lv_ishr hx hb dX9_isOf_9 ?_
    refine lv_topi (fun x5 ex5 => ?_)
    refine lv_iconst (v := 1) hx hb dX9_isOf_10 (by decide) ?_
    refine lv_iand hx hb dX9_isOf_11 ?_
    refine lv_topi (fun x6 ex6 => ?_)
    refine lv_if_eq (tgt := 19) hx hb dX9_isOf_12 (by decide) (fun c7 => ?_) (fun c7 => ?_)
    · refine lv_iconst (v := 0) hx hb dX9_isOf_19 (by decide) ?_
      have hP9 := hP.sub (ws' := []) [] rfl
      have hD9 := hD.sub (ws' := []) [] (by decide) rfl
      exact W.zret (v := 0) hx hb hr (by decide) (fun t ht hW => ⟨⟨0, (), rfl, Or.inr ⟨rfl, fun h => h.2 (by rw [← ex5, ← ex6]; exact c7)⟩, by rw [ht]; exact hP9, hD9⟩, hS.F ht⟩) hS.2.2 dX9_isOf_20
    · refine lv_iconst (v := 1) hx hb dX9_isOf_15 (by decide) ?_
      refine lv_goto (tgt := 20) hx hb dX9_isOf_16 (by decide) ?_
      have hP9 := hP.sub (ws' := []) [] rfl
      have hD9 := hD.sub (ws' := []) [] (by decide) rfl
      exact W.zret (v := 1) hx hb hr (by decide) (fun t ht hW => ⟨⟨1, (), rfl, Or.inl ⟨rfl, ⟨b3, by rw [← ex5, ← ex6]; exact c7⟩⟩, by rw [ht]; exact hP9, hD9⟩, hS.F ht⟩) hS.2.2 dX9_isOf_20
  · refine lv_if_eq (tgt := 19) hx hb dX9_isOf_4 (by decide) (fun _ => ?_) (fun c8 => False.elim (by revert c8; decide))
    refine lv_iconst (v := 0) hx hb dX9_isOf_19 (by decide) ?_
    have hP9 := hP.sub (ws' := []) [] rfl
    have hD9 := hD.sub (ws' := []) [] (by decide) rfl
    exact W.zret (v := 0) hx hb hr (by decide) (fun t ht hW => ⟨⟨0, (), rfl, Or.inr ⟨rfl, fun h => b3 h.1⟩, by rw [ht]; exact hP9, hD9⟩, hS.F ht⟩) hS.2.2 dX9_isOf_20

set_option maxHeartbeats 1000000 in
set_option maxRecDepth 100000 in
theorem c_isTreeQuestion (l : Launch) (G : Gy) (sz : Nat) (p0 : Int32) (p1 : Int32)  : Ci l G yX9_isTreeQuestion wsX9_isTreeQuestion ({ frames := 2, cells := 0, slots := 0, locals := 41 }) [.int p0, .int p1] [] sz (fun (r : Int32) (_ : Unit) => (r = 1 ∧ tqP p0 p1) ∨ (r = 0 ∧ ¬ tqP p0 p1)) (fun (_ : Unit) => []) 0 0 := by
  refine Met.ofW (cc := cX9_isTreeQuestion) (maxL := 2) (ret := (some .boolean)) (by decide) rfl ?_
  intro p e s m args below meth c s₁ B hml hv
  obtain ⟨rfl, hsz, hP, hD0, E0⟩ := hv
  have hx := B.exec
  have hb := B.bytes
  have hr := B.returns
  have hts := atoms_spec (ws := wsX9_isTreeQuestion) B.pre
  have hown : s.vm.findClass RX9 = some m.cls := findClass_of_methodNamed B.named
  have hlocks := B.notSynchronized
  subst hsz
  have hD := hD0.self (sz := s.heap.size)
  generalize hAe : va_A [] s.heap.size = A at hD E0 ⊢
  have E : EV G A s s.heap := E0
  have hA : ∀ q : Nat, s.heap.size ≤ q → A q := fun q h => by rw [← hAe]; exact Or.inr h
  have hS : va_S A s.heap s.heap [] := va_S.rf
  have hl := lv_entry ([.int p0, .int p1]) (n := 2) (Nat.le_of_ble_eq_true rfl)
  rw [lg_entry_eq]
  generalize (lg_sl ([.int p0, .int p1]) ++ List.replicate (2 - (lg_sl ([.int p0, .int p1])).length) Slot.unset).toArray = ls at hl ⊢
  have hl : lv_has ls 2 [(0, .int p0), (1, .int p1)] := hl
  have hP : va_P G.1 vwCl [] s.heap := hP
  refine lv_iload_n hx hb dX9_isTreeQuestion_0 rfl (lv_at hl 1 rfl) ?_
  refine lv_if_eq (tgt := 26) hx hb dX9_isTreeQuestion_1 (by decide) (fun c1 => ?_) (fun c1 => ?_)
  · refine lv_iconst (v := 1) hx hb dX9_isTreeQuestion_26 (by decide) ?_
    refine lv_goto (tgt := 31) hx hb dX9_isTreeQuestion_27 (by decide) ?_
    have hP9 := hP.sub (ws' := []) [] rfl
    have hD9 := hD.sub (ws' := []) [] (by decide) rfl
    exact W.zret (v := 1) hx hb hr (by decide) (fun t ht hW => ⟨⟨1, (), rfl, Or.inl ⟨rfl, by first | exact Or.inl (by assumption) | exact Or.inr (Or.inl (by assumption)) | exact Or.inr (Or.inr ⟨by ((try simp only [inR, inS, i3_lt, i3_le, i3_eq, i6_lt, i6_le, Int32.toInt_toInt64, lg_cmp_lt, lg_cmp_gt, lg_cmp_ge, lg_cmp_le, Int32.reduceToInt, Int64.reduceToInt] at c1 ⊢); omega), by subst_vars; assumption⟩) | (rintro (h | h | ⟨h, g⟩) <;> first | (exact absurd h (by assumption)) | (exact absurd g (by subst_vars; assumption)) | (((try simp only [inR, inS, i3_lt, i3_le, i3_eq, i6_lt, i6_le, Int32.toInt_toInt64, lg_cmp_lt, lg_cmp_gt, lg_cmp_ge, lg_cmp_le, Int32.reduceToInt, Int64.reduceToInt] at c1 h); omega)))⟩, by rw [ht]; exact hP9, hD9⟩, hS.F ht⟩) hS.2.2 dX9_isTreeQuestion_31
  · refine lv_iload_n hx hb dX9_isTreeQuestion_4 rfl (lv_at hl 1 rfl) ?_
    refine lv_iconst (v := 1) hx hb dX9_isTreeQuestion_5 (by decide) ?_
    refine lv_icmp_eq (tgt := 26) hx hb dX9_isTreeQuestion_6 (by decide) (fun c2 => ?_) (fun c2 => ?_)
    · refine lv_iconst (v := 1) hx hb dX9_isTreeQuestion_26 (by decide) ?_
      refine lv_goto (tgt := 31) hx hb dX9_isTreeQuestion_27 (by decide) ?_
      have hP9 := hP.sub (ws' := []) [] rfl
      have hD9 := hD.sub (ws' := []) [] (by decide) rfl
      exact W.zret (v := 1) hx hb hr (by decide) (fun t ht hW => ⟨⟨1, (), rfl, Or.inl ⟨rfl, by first | exact Or.inl (by assumption) | exact Or.inr (Or.inl (by assumption)) | exact Or.inr (Or.inr ⟨by ((try simp only [inR, inS, i3_lt, i3_le, i3_eq, i6_lt, i6_le, Int32.toInt_toInt64, lg_cmp_lt, lg_cmp_gt, lg_cmp_ge, lg_cmp_le, Int32.reduceToInt, Int64.reduceToInt] at c1 c2 ⊢); omega), by subst_vars; assumption⟩) | (rintro (h | h | ⟨h, g⟩) <;> first | (exact absurd h (by assumption)) | (exact absurd g (by subst_vars; assumption)) | (((try simp only [inR, inS, i3_lt, i3_le, i3_eq, i6_lt, i6_le, Int32.toInt_toInt64, lg_cmp_lt, lg_cmp_gt, lg_cmp_ge, lg_cmp_le, Int32.reduceToInt, Int64.reduceToInt] at c1 c2 h); omega)))⟩, by rw [ht]; exact hP9, hD9⟩, hS.F ht⟩) hS.2.2 dX9_isTreeQuestion_31
    · refine lv_iload_n hx hb dX9_isTreeQuestion_9 rfl (lv_at hl 1 rfl) ?_
      refine lv_bipush (v := 10) hx hb dX9_isTreeQuestion_10 (by decide) ?_
      refine lv_icmp_lt (tgt := 30) hx hb dX9_isTreeQuestion_12 (by decide) (fun c3 => ?_) (fun c3 => ?_)
      · refine lv_iconst (v := 0) hx hb dX9_isTreeQuestion_30 (by decide) ?_
        have hP9 := hP.sub (ws' := []) [] rfl
        have hD9 := hD.sub (ws' := []) [] (by decide) rfl
        exact W.zret (v := 0) hx hb hr (by decide) (fun t ht hW => ⟨⟨0, (), rfl, Or.inr ⟨rfl, by first | exact Or.inl (by assumption) | exact Or.inr (Or.inl (by assumption)) | exact Or.inr (Or.inr ⟨by ((try simp only [inR, inS, i3_lt, i3_le, i3_eq, i6_lt, i6_le, Int32.toInt_toInt64, lg_cmp_lt, lg_cmp_gt, lg_cmp_ge, lg_cmp_le, Int32.reduceToInt, Int64.reduceToInt] at c1 c2 c3 ⊢); omega), by subst_vars; assumption⟩) | (rintro (h | h | ⟨h, g⟩) <;> first | (exact absurd h (by assumption)) | (exact absurd g (by subst_vars; assumption)) | (((try simp only [inR, inS, i3_lt, i3_le, i3_eq, i6_lt, i6_le, Int32.toInt_toInt64, lg_cmp_lt, lg_cmp_gt, lg_cmp_ge, lg_cmp_le, Int32.reduceToInt, Int64.reduceToInt] at c1 c2 c3 h); omega)))⟩, by rw [ht]; exact hP9, hD9⟩, hS.F ht⟩) hS.2.2 dX9_isTreeQuestion_31
      · refine lv_iload_n hx hb dX9_isTreeQuestion_15 rfl (lv_at hl 0 rfl) ?_
        refine lv_iload_n hx hb dX9_isTreeQuestion_16 rfl (lv_at hl 1 rfl) ?_
        refine lv_bipush (v := 10) hx hb dX9_isTreeQuestion_17 (by decide) ?_
        refine lv_isub hx hb dX9_isTreeQuestion_19 ?_
        refine lv_topi (fun x4 ex4 => ?_)
        refine ca_iR (va_runS (As := [.int p0, .int x4]) (rest := []) ⟨hx, hb, hml, hown, hts⟩ (c_isOf l G s.heap.size p0 x4) (va_cwS 2 hts gX9_isTreeQuestion_X9_isOf rfl rfl rfl (by decide +kernel) ⟨by decide +kernel, by decide +kernel⟩) (pre_S E hP hD hS hA [] (by decide) rfl) rfl rfl hl.1 rfl (lv_room (Nat.le_of_ble_eq_true rfl)) dX9_isTreeQuestion_20 ⟨by decide +kernel, by decide +kernel⟩) hS hP hD hA [] rfl (fun r6 _ H locs w5 hP hS => ?_)
        rcases w5 with ⟨rfl, b7⟩ | ⟨rfl, b7⟩
        · refine lv_if_eq (tgt := 30) hx hb dX9_isTreeQuestion_23 (by decide) (fun c8 => False.elim (by revert c8; decide)) (fun _ => ?_)
          refine lv_iconst (v := 1) hx hb dX9_isTreeQuestion_26 (by decide) ?_
          refine lv_goto (tgt := 31) hx hb dX9_isTreeQuestion_27 (by decide) ?_
          have hP9 := hP.sub (ws' := []) [] rfl
          have hD9 := hD.sub (ws' := []) [] (by decide) rfl
          exact W.zret (v := 1) hx hb hr (by decide) (fun t ht hW => ⟨⟨1, (), rfl, Or.inl ⟨rfl, by first | exact Or.inl (by assumption) | exact Or.inr (Or.inl (by assumption)) | exact Or.inr (Or.inr ⟨by ((try simp only [inR, inS, i3_lt, i3_le, i3_eq, i6_lt, i6_le, Int32.toInt_toInt64, lg_cmp_lt, lg_cmp_gt, lg_cmp_ge, lg_cmp_le, Int32.reduceToInt, Int64.reduceToInt] at c1 c2 c3 ⊢); omega), by subst_vars; assumption⟩) | (rintro (h | h | ⟨h, g⟩) <;> first | (exact absurd h (by assumption)) | (exact absurd g (by subst_vars; assumption)) | (((try simp only [inR, inS, i3_lt, i3_le, i3_eq, i6_lt, i6_le, Int32.toInt_toInt64, lg_cmp_lt, lg_cmp_gt, lg_cmp_ge, lg_cmp_le, Int32.reduceToInt, Int64.reduceToInt] at c1 c2 c3 h); omega)))⟩, by rw [ht]; exact hP9, hD9⟩, hS.F ht⟩) hS.2.2 dX9_isTreeQuestion_31
        · refine lv_if_eq (tgt := 30) hx hb dX9_isTreeQuestion_23 (by decide) (fun _ => ?_) (fun c9 => False.elim (by revert c9; decide))
          refine lv_iconst (v := 0) hx hb dX9_isTreeQuestion_30 (by decide) ?_
          have hP9 := hP.sub (ws' := []) [] rfl
          have hD9 := hD.sub (ws' := []) [] (by decide) rfl
          exact W.zret (v := 0) hx hb hr (by decide) (fun t ht hW => ⟨⟨0, (), rfl, Or.inr ⟨rfl, by first | exact Or.inl (by assumption) | exact Or.inr (Or.inl (by assumption)) | exact Or.inr (Or.inr ⟨by ((try simp only [inR, inS, i3_lt, i3_le, i3_eq, i6_lt, i6_le, Int32.toInt_toInt64, lg_cmp_lt, lg_cmp_gt, lg_cmp_ge, lg_cmp_le, Int32.reduceToInt, Int64.reduceToInt] at c1 c2 c3 ⊢); omega), by subst_vars; assumption⟩) | (rintro (h | h | ⟨h, g⟩) <;> first | (exact absurd h (by assumption)) | (exact absurd g (by subst_vars; assumption)) | (((try simp only [inR, inS, i3_lt, i3_le, i3_eq, i6_lt, i6_le, Int32.toInt_toInt64, lg_cmp_lt, lg_cmp_gt, lg_cmp_ge, lg_cmp_le, Int32.reduceToInt, Int64.reduceToInt] at c1 c2 c3 h); omega)))⟩, by rw [ht]; exact hP9, hD9⟩, hS.F ht⟩) hS.2.2 dX9_isTreeQuestion_31

set_option maxHeartbeats 1000000 in
set_option maxRecDepth 100000 in
theorem c_isSite (l : Launch) (G : Gy) (sz : Nat) (h0 : Nat) (pad : Nat) (pp : Nat) (im : Nat) (vse : Value) (vtr : Value) (ac : Nat) (ak : Nat) (n : Int32) (told : Int32) (sp : Int32) (gr : Int32) (p0 : Int32)  : Ci l G yX9_isSite wsX9_isSite ({ frames := 0, cells := 0, slots := 0, locals := 0 }) [.ref h0, .int p0] [(h0, .inr (5, [.ref pad, .ref pp, .ref im, vse, vtr])), (pp, .inr (1, [.int n, .int told, .int sp, .int gr, .ref ac, .ref ak]))] sz (fun (r : Int32) (_ : Unit) => (r = 1 ∧ inS p0 n) ∨ (r = 0 ∧ ¬ inS p0 n)) (fun (_ : Unit) => [(h0, .inr (5, [.ref pad, .ref pp, .ref im, vse, vtr])), (pp, .inr (1, [.int n, .int told, .int sp, .int gr, .ref ac, .ref ak]))]) 0 0 := by
  refine Met.ofW (cc := cX9_isSite) (maxL := 2) (ret := (some .boolean)) (by decide) rfl ?_
  intro p e s m args below meth c s₁ B hml hv
  obtain ⟨rfl, hsz, hP, hD0, E0⟩ := hv
  have hx := B.exec
  have hb := B.bytes
  have hr := B.returns
  have hts := atoms_spec (ws := wsX9_isSite) B.pre
  have hown : s.vm.findClass RX9 = some m.cls := findClass_of_methodNamed B.named
  have hlocks := B.notSynchronized
  subst hsz
  have hD := hD0.self (sz := s.heap.size)
  generalize hAe : va_A [(h0, .inr (5, [.ref pad, .ref pp, .ref im, vse, vtr])), (pp, .inr (1, [.int n, .int told, .int sp, .int gr, .ref ac, .ref ak]))] s.heap.size = A at hD E0 ⊢
  have E : EV G A s s.heap := E0
  have hA : ∀ q : Nat, s.heap.size ≤ q → A q := fun q h => by rw [← hAe]; exact Or.inr h
  have hS : va_S A s.heap s.heap [] := va_S.rf
  have hl := lv_entry ([.ref h0, .int p0]) (n := 2) (Nat.le_of_ble_eq_true rfl)
  rw [lg_entry_eq]
  generalize (lg_sl ([.ref h0, .int p0]) ++ List.replicate (2 - (lg_sl ([.ref h0, .int p0])).length) Slot.unset).toArray = ls at hl ⊢
  have hl : lv_has ls 2 [(0, .ref h0), (1, .int p0)] := hl
  have hP : va_P G.1 vwCl [(h0, .inr (5, [.ref pad, .ref pp, .ref im, vse, vtr])), (pp, .inr (1, [.int n, .int told, .int sp, .int gr, .ref ac, .ref ak]))] s.heap := hP
  refine lv_iload_n hx hb dX9_isSite_0 rfl (lv_at hl 1 rfl) ?_
  refine lv_if_lt (tgt := 19) hx hb dX9_isSite_1 (by decide) (fun c1 => ?_) (fun c1 => ?_)
  · refine lv_iconst (v := 0) hx hb dX9_isSite_19 (by decide) ?_
    have hP9 := hP.sub (ws' := [(h0, .inr (5, [.ref pad, .ref pp, .ref im, vse, vtr])), (pp, .inr (1, [.int n, .int told, .int sp, .int gr, .ref ac, .ref ak]))]) [0, 1] rfl
    have hD9 := hD.sub (ws' := [(h0, .inr (5, [.ref pad, .ref pp, .ref im, vse, vtr])), (pp, .inr (1, [.int n, .int told, .int sp, .int gr, .ref ac, .ref ak]))]) [0, 1] (by decide) rfl
    exact W.zret (v := 0) hx hb hr (by decide) (fun t ht hW => ⟨⟨0, (), rfl, Or.inr ⟨rfl, by unfold inS; ((try simp only [inR, inS, i3_lt, i3_le, i3_eq, i6_lt, i6_le, Int32.toInt_toInt64, lg_cmp_lt, lg_cmp_gt, lg_cmp_ge, lg_cmp_le, Int32.reduceToInt, Int64.reduceToInt] at c1 ⊢); omega)⟩, by rw [ht]; exact hP9, hD9⟩, hS.F ht⟩) hS.2.2 dX9_isSite_20
  · refine lv_iload_n hx hb dX9_isSite_4 rfl (lv_at hl 1 rfl) ?_
    refine lv_aload_n hx hb dX9_isSite_5 rfl (lv_at hl 0 rfl) ?_
    refine va_get (D := G.1) (ci := 5) (v := .ref pp) (C := RX9) (T := TX9) (N := 5) hx hb hts (fun _ h => List.mem_cons_of_mem _ (List.mem_append_left _ (List.mem_append_right _ h))) hown E.K hP 0 rfl rfl 1 (by decide) (hts (.fieldLink RX9 19 "LastMap" "papers" "LLastMap$Papers;") (by decide +kernel)) (fun _ h9 => h9) rfl dX9_isSite_6 ?_
    refine va_get (D := G.1) (ci := 1) (v := .int n) (C := RX3) (T := TX3) (N := 6) hx hb hts (fun _ h => List.mem_cons_of_mem _ (List.mem_append_right _ h)) hown E.K hP 1 rfl rfl 0 (by decide) (hts (.fieldLink RX9 27 "LastMap$Papers" "siteCount" "I") (by decide +kernel)) (fun _ h9 => h9) rfl dX9_isSite_9 ?_
    refine lv_icmp_ge (tgt := 19) hx hb dX9_isSite_12 (by decide) (fun c2 => ?_) (fun c2 => ?_)
    · refine lv_iconst (v := 0) hx hb dX9_isSite_19 (by decide) ?_
      have hP9 := hP.sub (ws' := [(h0, .inr (5, [.ref pad, .ref pp, .ref im, vse, vtr])), (pp, .inr (1, [.int n, .int told, .int sp, .int gr, .ref ac, .ref ak]))]) [0, 1] rfl
      have hD9 := hD.sub (ws' := [(h0, .inr (5, [.ref pad, .ref pp, .ref im, vse, vtr])), (pp, .inr (1, [.int n, .int told, .int sp, .int gr, .ref ac, .ref ak]))]) [0, 1] (by decide) rfl
      exact W.zret (v := 0) hx hb hr (by decide) (fun t ht hW => ⟨⟨0, (), rfl, Or.inr ⟨rfl, by unfold inS; ((try simp only [inR, inS, i3_lt, i3_le, i3_eq, i6_lt, i6_le, Int32.toInt_toInt64, lg_cmp_lt, lg_cmp_gt, lg_cmp_ge, lg_cmp_le, Int32.reduceToInt, Int64.reduceToInt] at c1 c2 ⊢); omega)⟩, by rw [ht]; exact hP9, hD9⟩, hS.F ht⟩) hS.2.2 dX9_isSite_20
    · refine lv_iconst (v := 1) hx hb dX9_isSite_15 (by decide) ?_
      refine lv_goto (tgt := 20) hx hb dX9_isSite_16 (by decide) ?_
      have hP9 := hP.sub (ws' := [(h0, .inr (5, [.ref pad, .ref pp, .ref im, vse, vtr])), (pp, .inr (1, [.int n, .int told, .int sp, .int gr, .ref ac, .ref ak]))]) [0, 1] rfl
      have hD9 := hD.sub (ws' := [(h0, .inr (5, [.ref pad, .ref pp, .ref im, vse, vtr])), (pp, .inr (1, [.int n, .int told, .int sp, .int gr, .ref ac, .ref ak]))]) [0, 1] (by decide) rfl
      exact W.zret (v := 1) hx hb hr (by decide) (fun t ht hW => ⟨⟨1, (), rfl, Or.inl ⟨rfl, by unfold inS; ((try simp only [inR, inS, i3_lt, i3_le, i3_eq, i6_lt, i6_le, Int32.toInt_toInt64, lg_cmp_lt, lg_cmp_gt, lg_cmp_ge, lg_cmp_le, Int32.reduceToInt, Int64.reduceToInt] at c1 c2 ⊢); omega)⟩, by rw [ht]; exact hP9, hD9⟩, hS.F ht⟩) hS.2.2 dX9_isSite_20

set_option maxHeartbeats 1000000 in
set_option maxRecDepth 100000 in
theorem c_isTold (l : Launch) (G : Gy) (sz : Nat) (h0 : Nat) (pad : Nat) (pp : Nat) (im : Nat) (vse : Value) (vtr : Value) (ac : Nat) (ak : Nat) (n : Int32) (told : Int32) (sp : Int32) (gr : Int32) (p0 : Int32)  : Ci l G yX9_isTold wsX9_isTold ({ frames := 2, cells := 0, slots := 0, locals := 41 }) [.ref h0, .int p0] [(h0, .inr (5, [.ref pad, .ref pp, .ref im, vse, vtr])), (pp, .inr (1, [.int n, .int told, .int sp, .int gr, .ref ac, .ref ak]))] sz (fun (r : Int32) (_ : Unit) => (r = 1 ∧ isOfP told p0) ∨ (r = 0 ∧ ¬ isOfP told p0)) (fun (_ : Unit) => [(h0, .inr (5, [.ref pad, .ref pp, .ref im, vse, vtr])), (pp, .inr (1, [.int n, .int told, .int sp, .int gr, .ref ac, .ref ak]))]) 0 0 := by
  refine Met.ofW (cc := cX9_isTold) (maxL := 2) (ret := (some .boolean)) (by decide) rfl ?_
  intro p e s m args below meth c s₁ B hml hv
  obtain ⟨rfl, hsz, hP, hD0, E0⟩ := hv
  have hx := B.exec
  have hb := B.bytes
  have hr := B.returns
  have hts := atoms_spec (ws := wsX9_isTold) B.pre
  have hown : s.vm.findClass RX9 = some m.cls := findClass_of_methodNamed B.named
  have hlocks := B.notSynchronized
  subst hsz
  have hD := hD0.self (sz := s.heap.size)
  generalize hAe : va_A [(h0, .inr (5, [.ref pad, .ref pp, .ref im, vse, vtr])), (pp, .inr (1, [.int n, .int told, .int sp, .int gr, .ref ac, .ref ak]))] s.heap.size = A at hD E0 ⊢
  have E : EV G A s s.heap := E0
  have hA : ∀ q : Nat, s.heap.size ≤ q → A q := fun q h => by rw [← hAe]; exact Or.inr h
  have hS : va_S A s.heap s.heap [] := va_S.rf
  have hl := lv_entry ([.ref h0, .int p0]) (n := 2) (Nat.le_of_ble_eq_true rfl)
  rw [lg_entry_eq]
  generalize (lg_sl ([.ref h0, .int p0]) ++ List.replicate (2 - (lg_sl ([.ref h0, .int p0])).length) Slot.unset).toArray = ls at hl ⊢
  have hl : lv_has ls 2 [(0, .ref h0), (1, .int p0)] := hl
  have hP : va_P G.1 vwCl [(h0, .inr (5, [.ref pad, .ref pp, .ref im, vse, vtr])), (pp, .inr (1, [.int n, .int told, .int sp, .int gr, .ref ac, .ref ak]))] s.heap := hP
  refine lv_aload_n hx hb dX9_isTold_0 rfl (lv_at hl 0 rfl) ?_
  refine va_get (D := G.1) (ci := 5) (v := .ref pp) (C := RX9) (T := TX9) (N := 5) hx hb hts (fun _ h => List.mem_cons_of_mem _ (List.mem_append_left _ (List.mem_append_right _ h))) hown E.K hP 0 rfl rfl 1 (by decide) (hts (.fieldLink RX9 19 "LastMap" "papers" "LLastMap$Papers;") (by decide +kernel)) (fun _ h9 => h9) rfl dX9_isTold_1 ?_
  refine va_get (D := G.1) (ci := 1) (v := .int told) (C := RX3) (T := TX3) (N := 6) hx hb hts (fun _ h => List.mem_cons_of_mem _ (List.mem_append_right _ h)) hown E.K hP 1 rfl rfl 1 (by decide) (hts (.fieldLink RX9 31 "LastMap$Papers" "toldMaps" "I") (by decide +kernel)) (fun _ h9 => h9) rfl dX9_isTold_4 ?_
  refine lv_iload_n hx hb dX9_isTold_7 rfl (lv_at hl 1 rfl) ?_
  refine ca_iR (va_runS (As := [.int told, .int p0]) (rest := []) ⟨hx, hb, hml, hown, hts⟩ (c_isOf l G s.heap.size told p0) (va_cwS 2 hts gX9_isTold_X9_isOf rfl rfl rfl (by decide +kernel) ⟨by decide +kernel, by decide +kernel⟩) (pre_S E hP hD hS hA [] (by decide) rfl) rfl rfl hl.1 rfl (lv_room (Nat.le_of_ble_eq_true rfl)) dX9_isTold_8 ⟨by decide +kernel, by decide +kernel⟩) hS hP hD hA [] rfl (fun r2 _ H locs w1 hP hS => ?_)
  rcases w1 with ⟨rfl, b3⟩ | ⟨rfl, b3⟩
  · have hP9 := hP.sub (ws' := [(h0, .inr (5, [.ref pad, .ref pp, .ref im, vse, vtr])), (pp, .inr (1, [.int n, .int told, .int sp, .int gr, .ref ac, .ref ak]))]) [0, 1] rfl
    have hD9 := hD.sub (ws' := [(h0, .inr (5, [.ref pad, .ref pp, .ref im, vse, vtr])), (pp, .inr (1, [.int n, .int told, .int sp, .int gr, .ref ac, .ref ak]))]) [0, 1] (by decide) rfl
    exact W.zret (v := 1) hx hb hr (by decide) (fun t ht hW => ⟨⟨1, (), rfl, Or.inl ⟨rfl, b3⟩, by rw [ht]; exact hP9, hD9⟩, hS.F ht⟩) hS.2.2 dX9_isTold_11
  · have hP9 := hP.sub (ws' := [(h0, .inr (5, [.ref pad, .ref pp, .ref im, vse, vtr])), (pp, .inr (1, [.int n, .int told, .int sp, .int gr, .ref ac, .ref ak]))]) [0, 1] rfl
    have hD9 := hD.sub (ws' := [(h0, .inr (5, [.ref pad, .ref pp, .ref im, vse, vtr])), (pp, .inr (1, [.int n, .int told, .int sp, .int gr, .ref ac, .ref ak]))]) [0, 1] (by decide) rfl
    exact W.zret (v := 0) hx hb hr (by decide) (fun t ht hW => ⟨⟨0, (), rfl, Or.inr ⟨rfl, b3⟩, by rw [ht]; exact hP9, hD9⟩, hS.F ht⟩) hS.2.2 dX9_isTold_11

set_option maxHeartbeats 1000000 in
set_option maxRecDepth 100000 in
theorem c_areTold (l : Launch) (G : Gy) (sz : Nat) (h0 : Nat) (pad : Nat) (pp : Nat) (im : Nat) (vse : Value) (vtr : Value) (ac : Nat) (ak : Nat) (n : Int32) (told : Int32) (sp : Int32) (gr : Int32) (p0 : Int32)  : Ci l G yX9_areTold wsX9_areTold ({ frames := 0, cells := 0, slots := 0, locals := 0 }) [.ref h0, .int p0] [(h0, .inr (5, [.ref pad, .ref pp, .ref im, vse, vtr])), (pp, .inr (1, [.int n, .int told, .int sp, .int gr, .ref ac, .ref ak]))] sz (fun (r : Int32) (_ : Unit) => (r = 1 ∧ told &&& p0 = p0) ∨ (r = 0 ∧ ¬ told &&& p0 = p0)) (fun (_ : Unit) => [(h0, .inr (5, [.ref pad, .ref pp, .ref im, vse, vtr])), (pp, .inr (1, [.int n, .int told, .int sp, .int gr, .ref ac, .ref ak]))]) 0 0 := by
  refine Met.ofW (cc := cX9_areTold) (maxL := 2) (ret := (some .boolean)) (by decide) rfl ?_
  intro p e s m args below meth c s₁ B hml hv
  obtain ⟨rfl, hsz, hP, hD0, E0⟩ := hv
  have hx := B.exec
  have hb := B.bytes
  have hr := B.returns
  have hts := atoms_spec (ws := wsX9_areTold) B.pre
  have hown : s.vm.findClass RX9 = some m.cls := findClass_of_methodNamed B.named
  have hlocks := B.notSynchronized
  subst hsz
  have hD := hD0.self (sz := s.heap.size)
  generalize hAe : va_A [(h0, .inr (5, [.ref pad, .ref pp, .ref im, vse, vtr])), (pp, .inr (1, [.int n, .int told, .int sp, .int gr, .ref ac, .ref ak]))] s.heap.size = A at hD E0 ⊢
  have E : EV G A s s.heap := E0
  have hA : ∀ q : Nat, s.heap.size ≤ q → A q := fun q h => by rw [← hAe]; exact Or.inr h
  have hS : va_S A s.heap s.heap [] := va_S.rf
  have hl := lv_entry ([.ref h0, .int p0]) (n := 2) (Nat.le_of_ble_eq_true rfl)
  rw [lg_entry_eq]
  generalize (lg_sl ([.ref h0, .int p0]) ++ List.replicate (2 - (lg_sl ([.ref h0, .int p0])).length) Slot.unset).toArray = ls at hl ⊢
  have hl : lv_has ls 2 [(0, .ref h0), (1, .int p0)] := hl
  have hP : va_P G.1 vwCl [(h0, .inr (5, [.ref pad, .ref pp, .ref im, vse, vtr])), (pp, .inr (1, [.int n, .int told, .int sp, .int gr, .ref ac, .ref ak]))] s.heap := hP
  refine lv_aload_n hx hb dX9_areTold_0 rfl (lv_at hl 0 rfl) ?_
  refine va_get (D := G.1) (ci := 5) (v := .ref pp) (C := RX9) (T := TX9) (N := 5) hx hb hts (fun _ h => List.mem_cons_of_mem _ (List.mem_append_left _ (List.mem_append_right _ h))) hown E.K hP 0 rfl rfl 1 (by decide) (hts (.fieldLink RX9 19 "LastMap" "papers" "LLastMap$Papers;") (by decide +kernel)) (fun _ h9 => h9) rfl dX9_areTold_1 ?_
  refine va_get (D := G.1) (ci := 1) (v := .int told) (C := RX3) (T := TX3) (N := 6) hx hb hts (fun _ h => List.mem_cons_of_mem _ (List.mem_append_right _ h)) hown E.K hP 1 rfl rfl 1 (by decide) (hts (.fieldLink RX9 31 "LastMap$Papers" "toldMaps" "I") (by decide +kernel)) (fun _ h9 => h9) rfl dX9_areTold_4 ?_
  refine lv_iload_n hx hb dX9_areTold_7 rfl (lv_at hl 1 rfl) ?_
  refine lv_iand hx hb dX9_areTold_8 ?_
  refine lv_topi (fun x1 ex1 => ?_)
  refine lv_iload_n hx hb dX9_areTold_9 rfl (lv_at hl 1 rfl) ?_
  refine lv_icmp_ne (tgt := 17) hx hb dX9_areTold_10 (by decide) (fun c2 => ?_) (fun c2 => ?_)
  · refine lv_iconst (v := 0) hx hb dX9_areTold_17 (by decide) ?_
    have hP9 := hP.sub (ws' := [(h0, .inr (5, [.ref pad, .ref pp, .ref im, vse, vtr])), (pp, .inr (1, [.int n, .int told, .int sp, .int gr, .ref ac, .ref ak]))]) [0, 1] rfl
    have hD9 := hD.sub (ws' := [(h0, .inr (5, [.ref pad, .ref pp, .ref im, vse, vtr])), (pp, .inr (1, [.int n, .int told, .int sp, .int gr, .ref ac, .ref ak]))]) [0, 1] (by decide) rfl
    exact W.zret (v := 0) hx hb hr (by decide) (fun t ht hW => ⟨⟨0, (), rfl, Or.inr ⟨rfl, by rw [← ex1]; exact c2⟩, by rw [ht]; exact hP9, hD9⟩, hS.F ht⟩) hS.2.2 dX9_areTold_18
  · refine lv_iconst (v := 1) hx hb dX9_areTold_13 (by decide) ?_
    refine lv_goto (tgt := 18) hx hb dX9_areTold_14 (by decide) ?_
    have hP9 := hP.sub (ws' := [(h0, .inr (5, [.ref pad, .ref pp, .ref im, vse, vtr])), (pp, .inr (1, [.int n, .int told, .int sp, .int gr, .ref ac, .ref ak]))]) [0, 1] rfl
    have hD9 := hD.sub (ws' := [(h0, .inr (5, [.ref pad, .ref pp, .ref im, vse, vtr])), (pp, .inr (1, [.int n, .int told, .int sp, .int gr, .ref ac, .ref ak]))]) [0, 1] (by decide) rfl
    exact W.zret (v := 1) hx hb hr (by decide) (fun t ht hW => ⟨⟨1, (), rfl, Or.inl ⟨rfl, by rw [← ex1]; exact c2⟩, by rw [ht]; exact hP9, hD9⟩, hS.F ht⟩) hS.2.2 dX9_areTold_18
