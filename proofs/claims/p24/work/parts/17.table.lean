set_option maxHeartbeats 1000000 in
set_option maxRecDepth 100000 in
theorem c_isFor (l : Launch) (G : Gy) (sz : Nat) (t : Nat) (ta : Nat) (tq : Nat) (qd : Int32) (se : Int32) (go : Int32) (ki : Int32) (nn : Int32) (fs : Nat → Int32) (fq : Nat → Int32) (p0 : Int32) (p1 : Int32) (p2 : Int32)  : Ci l G yX7_isFor wsX7_isFor ({ frames := 0, cells := 0, slots := 0, locals := 0 }) [.ref t, .int p0, .int p1, .int p2] [(t, .inr (3, [.ref ta, .ref tq, .int qd, .int se, .int go, .int ki, .int nn])), (ta, .inl (gB G, 15625, .inl fs)), (tq, .inl (gI G, 15625, .inl fq))] sz (fun (r : Int32) (_ : Unit) => (r = 1 ∧ (go = p0 ∧ ki = p1 ∧ nn = p2)) ∨ (r = 0 ∧ ¬ (go = p0 ∧ ki = p1 ∧ nn = p2))) (fun (_ : Unit) => [(t, .inr (3, [.ref ta, .ref tq, .int qd, .int se, .int go, .int ki, .int nn])), (ta, .inl (gB G, 15625, .inl fs)), (tq, .inl (gI G, 15625, .inl fq))]) 0 0 := by
  refine Met.ofW (cc := cX7_isFor) (maxL := 4) (ret := (some .boolean)) (by decide) rfl ?_
  intro p e s m args below meth c s₁ B hml hv
  obtain ⟨rfl, hsz, hP, hD0, E0⟩ := hv
  have hx := B.exec
  have hb := B.bytes
  have hr := B.returns
  have hts := atoms_spec (ws := wsX7_isFor) B.pre
  have hown : s.vm.findClass RX7 = some m.cls := findClass_of_methodNamed B.named
  have hlocks := B.notSynchronized
  subst hsz
  have hD := hD0.self (sz := s.heap.size)
  generalize hAe : va_A [(t, .inr (3, [.ref ta, .ref tq, .int qd, .int se, .int go, .int ki, .int nn])), (ta, .inl (gB G, 15625, .inl fs)), (tq, .inl (gI G, 15625, .inl fq))] s.heap.size = A at hD E0 ⊢
  have E : EV G A s s.heap := E0
  have hA : ∀ q : Nat, s.heap.size ≤ q → A q := fun q h => by rw [← hAe]; exact Or.inr h
  have hS : va_S A s.heap s.heap [] := va_S.rf
  have hl := lv_entry ([.ref t, .int p0, .int p1, .int p2]) (n := 4) (Nat.le_of_ble_eq_true rfl)
  rw [lg_entry_eq]
  generalize (lg_sl ([.ref t, .int p0, .int p1, .int p2]) ++ List.replicate (4 - (lg_sl ([.ref t, .int p0, .int p1, .int p2])).length) Slot.unset).toArray = ls at hl ⊢
  have hl : lv_has ls 4 [(0, .ref t), (1, .int p0), (2, .int p1), (3, .int p2)] := hl
  have hP : va_P G.1 vwCl [(t, .inr (3, [.ref ta, .ref tq, .int qd, .int se, .int go, .int ki, .int nn])), (ta, .inl (gB G, 15625, .inl fs)), (tq, .inl (gI G, 15625, .inl fq))] s.heap := hP
  refine lv_aload_n hx hb dX7_isFor_0 rfl (lv_at hl 0 rfl) ?_
  refine va_get (D := G.1) (ci := 3) (v := .int go) (C := RX7) (T := TX7) (N := 7) hx hb hts (fun _ h => List.mem_cons_of_mem _ (List.mem_append_right _ h)) hown E.K hP 0 rfl rfl 4 (by decide) (hts (.fieldLink RX7 21 "LastMap$Table" "goal" "I") (by decide +kernel)) (fun _ h9 => h9) rfl dX7_isFor_1 ?_
  refine lv_iload_n hx hb dX7_isFor_4 rfl (lv_at hl 1 rfl) ?_
  refine lv_icmp_ne (tgt := 28) hx hb dX7_isFor_5 (by decide) (fun c1 => ?_) (fun c1 => ?_)
  · refine lv_iconst (v := 0) hx hb dX7_isFor_28 (by decide) ?_
    have hP9 := hP.sub (ws' := [(t, .inr (3, [.ref ta, .ref tq, .int qd, .int se, .int go, .int ki, .int nn])), (ta, .inl (gB G, 15625, .inl fs)), (tq, .inl (gI G, 15625, .inl fq))]) [0, 1, 2] rfl
    have hD9 := hD.sub (ws' := [(t, .inr (3, [.ref ta, .ref tq, .int qd, .int se, .int go, .int ki, .int nn])), (ta, .inl (gB G, 15625, .inl fs)), (tq, .inl (gI G, 15625, .inl fq))]) [0, 1, 2] (by decide) rfl
    exact W.zret (v := 0) hx hb hr (by decide) (fun t ht hW => ⟨⟨0, (), rfl, Or.inr ⟨rfl, by ((try simp only [inR, inS, i3_lt, i3_le, i3_eq, i6_lt, i6_le, Int32.toInt_toInt64, lg_cmp_lt, lg_cmp_gt, lg_cmp_ge, lg_cmp_le, Int32.reduceToInt, Int64.reduceToInt] at c1 ⊢); omega)⟩, by rw [ht]; exact hP9, hD9⟩, hS.F ht⟩) hS.2.2 dX7_isFor_29
  · refine lv_aload_n hx hb dX7_isFor_8 rfl (lv_at hl 0 rfl) ?_
    refine va_get (D := G.1) (ci := 3) (v := .int ki) (C := RX7) (T := TX7) (N := 7) hx hb hts (fun _ h => List.mem_cons_of_mem _ (List.mem_append_right _ h)) hown E.K hP 0 rfl rfl 5 (by decide) (hts (.fieldLink RX7 25 "LastMap$Table" "kinds" "I") (by decide +kernel)) (fun _ h9 => h9) rfl dX7_isFor_9 ?_
    refine lv_iload_n hx hb dX7_isFor_12 rfl (lv_at hl 2 rfl) ?_
    refine lv_icmp_ne (tgt := 28) hx hb dX7_isFor_13 (by decide) (fun c2 => ?_) (fun c2 => ?_)
    · refine lv_iconst (v := 0) hx hb dX7_isFor_28 (by decide) ?_
      have hP9 := hP.sub (ws' := [(t, .inr (3, [.ref ta, .ref tq, .int qd, .int se, .int go, .int ki, .int nn])), (ta, .inl (gB G, 15625, .inl fs)), (tq, .inl (gI G, 15625, .inl fq))]) [0, 1, 2] rfl
      have hD9 := hD.sub (ws' := [(t, .inr (3, [.ref ta, .ref tq, .int qd, .int se, .int go, .int ki, .int nn])), (ta, .inl (gB G, 15625, .inl fs)), (tq, .inl (gI G, 15625, .inl fq))]) [0, 1, 2] (by decide) rfl
      exact W.zret (v := 0) hx hb hr (by decide) (fun t ht hW => ⟨⟨0, (), rfl, Or.inr ⟨rfl, by ((try simp only [inR, inS, i3_lt, i3_le, i3_eq, i6_lt, i6_le, Int32.toInt_toInt64, lg_cmp_lt, lg_cmp_gt, lg_cmp_ge, lg_cmp_le, Int32.reduceToInt, Int64.reduceToInt] at c1 c2 ⊢); omega)⟩, by rw [ht]; exact hP9, hD9⟩, hS.F ht⟩) hS.2.2 dX7_isFor_29
    · refine lv_aload_n hx hb dX7_isFor_16 rfl (lv_at hl 0 rfl) ?_
      refine va_get (D := G.1) (ci := 3) (v := .int nn) (C := RX7) (T := TX7) (N := 7) hx hb hts (fun _ h => List.mem_cons_of_mem _ (List.mem_append_right _ h)) hown E.K hP 0 rfl rfl 6 (by decide) (hts (.fieldLink RX7 28 "LastMap$Table" "n" "I") (by decide +kernel)) (fun _ h9 => h9) rfl dX7_isFor_17 ?_
      refine lv_iload_n hx hb dX7_isFor_20 rfl (lv_at hl 3 rfl) ?_
      refine lv_icmp_ne (tgt := 28) hx hb dX7_isFor_21 (by decide) (fun c3 => ?_) (fun c3 => ?_)
      · refine lv_iconst (v := 0) hx hb dX7_isFor_28 (by decide) ?_
        have hP9 := hP.sub (ws' := [(t, .inr (3, [.ref ta, .ref tq, .int qd, .int se, .int go, .int ki, .int nn])), (ta, .inl (gB G, 15625, .inl fs)), (tq, .inl (gI G, 15625, .inl fq))]) [0, 1, 2] rfl
        have hD9 := hD.sub (ws' := [(t, .inr (3, [.ref ta, .ref tq, .int qd, .int se, .int go, .int ki, .int nn])), (ta, .inl (gB G, 15625, .inl fs)), (tq, .inl (gI G, 15625, .inl fq))]) [0, 1, 2] (by decide) rfl
        exact W.zret (v := 0) hx hb hr (by decide) (fun t ht hW => ⟨⟨0, (), rfl, Or.inr ⟨rfl, by ((try simp only [inR, inS, i3_lt, i3_le, i3_eq, i6_lt, i6_le, Int32.toInt_toInt64, lg_cmp_lt, lg_cmp_gt, lg_cmp_ge, lg_cmp_le, Int32.reduceToInt, Int64.reduceToInt] at c1 c2 c3 ⊢); omega)⟩, by rw [ht]; exact hP9, hD9⟩, hS.F ht⟩) hS.2.2 dX7_isFor_29
      · refine lv_iconst (v := 1) hx hb dX7_isFor_24 (by decide) ?_
        refine lv_goto (tgt := 29) hx hb dX7_isFor_25 (by decide) ?_
        have hP9 := hP.sub (ws' := [(t, .inr (3, [.ref ta, .ref tq, .int qd, .int se, .int go, .int ki, .int nn])), (ta, .inl (gB G, 15625, .inl fs)), (tq, .inl (gI G, 15625, .inl fq))]) [0, 1, 2] rfl
        have hD9 := hD.sub (ws' := [(t, .inr (3, [.ref ta, .ref tq, .int qd, .int se, .int go, .int ki, .int nn])), (ta, .inl (gB G, 15625, .inl fs)), (tq, .inl (gI G, 15625, .inl fq))]) [0, 1, 2] (by decide) rfl
        exact W.zret (v := 1) hx hb hr (by decide) (fun t ht hW => ⟨⟨1, (), rfl, Or.inl ⟨rfl, by ((try simp only [inR, inS, i3_lt, i3_le, i3_eq, i6_lt, i6_le, Int32.toInt_toInt64, lg_cmp_lt, lg_cmp_gt, lg_cmp_ge, lg_cmp_le, Int32.reduceToInt, Int64.reduceToInt] at c1 c2 c3 ⊢); omega)⟩, by rw [ht]; exact hP9, hD9⟩, hS.F ht⟩) hS.2.2 dX7_isFor_29

set_option maxHeartbeats 1000000 in
set_option maxRecDepth 100000 in
theorem c_known (l : Launch) (G : Gy) (sz : Nat) (t : Nat) (ta : Nat) (tq : Nat) (qd : Int32) (se : Int32) (go : Int32) (ki : Int32) (nn : Int32) (fs : Nat → Int32) (fq : Nat → Int32) (p0 : Int32)  : Ci l G yX7_known wsX7_known ({ frames := 0, cells := 0, slots := 0, locals := 0 }) [.ref t, .int p0] [(t, .inr (3, [.ref ta, .ref tq, .int qd, .int se, .int go, .int ki, .int nn])), (ta, .inl (gB G, 15625, .inl fs)), (tq, .inl (gI G, 15625, .inl fq))] sz (fun (r : Int32) (_ : Unit) => r = cIf (inR p0 0 15624) (fs p0.toNatClampNeg) (-6)) (fun (_ : Unit) => [(t, .inr (3, [.ref ta, .ref tq, .int qd, .int se, .int go, .int ki, .int nn])), (ta, .inl (gB G, 15625, .inl fs)), (tq, .inl (gI G, 15625, .inl fq))]) 0 0 := by
  refine Met.ofW (cc := cX7_known) (maxL := 2) (ret := (some .int)) (by decide) rfl ?_
  intro p e s m args below meth c s₁ B hml hv
  obtain ⟨rfl, hsz, hP, hD0, E0⟩ := hv
  have hx := B.exec
  have hb := B.bytes
  have hr := B.returns
  have hts := atoms_spec (ws := wsX7_known) B.pre
  have hown : s.vm.findClass RX7 = some m.cls := findClass_of_methodNamed B.named
  have hlocks := B.notSynchronized
  subst hsz
  have hD := hD0.self (sz := s.heap.size)
  generalize hAe : va_A [(t, .inr (3, [.ref ta, .ref tq, .int qd, .int se, .int go, .int ki, .int nn])), (ta, .inl (gB G, 15625, .inl fs)), (tq, .inl (gI G, 15625, .inl fq))] s.heap.size = A at hD E0 ⊢
  have E : EV G A s s.heap := E0
  have hA : ∀ q : Nat, s.heap.size ≤ q → A q := fun q h => by rw [← hAe]; exact Or.inr h
  have hS : va_S A s.heap s.heap [] := va_S.rf
  have hl := lv_entry ([.ref t, .int p0]) (n := 2) (Nat.le_of_ble_eq_true rfl)
  rw [lg_entry_eq]
  generalize (lg_sl ([.ref t, .int p0]) ++ List.replicate (2 - (lg_sl ([.ref t, .int p0])).length) Slot.unset).toArray = ls at hl ⊢
  have hl : lv_has ls 2 [(0, .ref t), (1, .int p0)] := hl
  have hP : va_P G.1 vwCl [(t, .inr (3, [.ref ta, .ref tq, .int qd, .int se, .int go, .int ki, .int nn])), (ta, .inl (gB G, 15625, .inl fs)), (tq, .inl (gI G, 15625, .inl fq))] s.heap := hP
  refine lv_iload_n hx hb dX7_known_0 rfl (lv_at hl 1 rfl) ?_
  refine lv_if_lt (tgt := 22) hx hb dX7_known_1 (by decide) (fun c1 => ?_) (fun c1 => ?_)
  · refine lv_bipush (v := (-6)) hx hb dX7_known_22 (by decide) ?_
    have hP9 := hP.sub (ws' := [(t, .inr (3, [.ref ta, .ref tq, .int qd, .int se, .int go, .int ki, .int nn])), (ta, .inl (gB G, 15625, .inl fs)), (tq, .inl (gI G, 15625, .inl fq))]) [0, 1, 2] rfl
    have hD9 := hD.sub (ws' := [(t, .inr (3, [.ref ta, .ref tq, .int qd, .int se, .int go, .int ki, .int nn])), (ta, .inl (gB G, 15625, .inl fs)), (tq, .inl (gI G, 15625, .inl fq))]) [0, 1, 2] (by decide) rfl
    exact W.iret (v := (-6)) hx hb hr (fun t ht hW => ⟨⟨(-6), (), rfl, (cIf_f (by ((try simp only [inR, inS, i3_lt, i3_le, i3_eq, i6_lt, i6_le, Int32.toInt_toInt64, lg_cmp_lt, lg_cmp_gt, lg_cmp_ge, lg_cmp_le, Int32.reduceToInt, Int64.reduceToInt] at c1 ⊢); omega))).symm, by rw [ht]; exact hP9, hD9⟩, hS.F ht⟩) hS.2.2 dX7_known_24
  · refine lv_iload_n hx hb dX7_known_4 rfl (lv_at hl 1 rfl) ?_
    refine lv_aload_n hx hb dX7_known_5 rfl (lv_at hl 0 rfl) ?_
    refine va_get (D := G.1) (ci := 3) (v := .ref ta) (C := RX7) (T := TX7) (N := 7) hx hb hts (fun _ h => List.mem_cons_of_mem _ (List.mem_append_right _ h)) hown E.K hP 0 rfl rfl 0 (by decide) (hts (.fieldLink RX7 11 "LastMap$Table" "slips" "[B") (by decide +kernel)) (fun _ h9 => h9) rfl dX7_known_6 ?_
    refine va_alen (v := 15625) hx hb E.K hP 1 0 rfl rfl rfl dX7_known_9 ?_
    refine lv_icmp_ge (tgt := 22) hx hb dX7_known_10 (by decide) (fun c2 => ?_) (fun c2 => ?_)
    · refine lv_bipush (v := (-6)) hx hb dX7_known_22 (by decide) ?_
      have hP9 := hP.sub (ws' := [(t, .inr (3, [.ref ta, .ref tq, .int qd, .int se, .int go, .int ki, .int nn])), (ta, .inl (gB G, 15625, .inl fs)), (tq, .inl (gI G, 15625, .inl fq))]) [0, 1, 2] rfl
      have hD9 := hD.sub (ws' := [(t, .inr (3, [.ref ta, .ref tq, .int qd, .int se, .int go, .int ki, .int nn])), (ta, .inl (gB G, 15625, .inl fs)), (tq, .inl (gI G, 15625, .inl fq))]) [0, 1, 2] (by decide) rfl
      exact W.iret (v := (-6)) hx hb hr (fun t ht hW => ⟨⟨(-6), (), rfl, (cIf_f (by ((try simp only [inR, inS, i3_lt, i3_le, i3_eq, i6_lt, i6_le, Int32.toInt_toInt64, lg_cmp_lt, lg_cmp_gt, lg_cmp_ge, lg_cmp_le, Int32.reduceToInt, Int64.reduceToInt] at c1 c2 ⊢); omega))).symm, by rw [ht]; exact hP9, hD9⟩, hS.F ht⟩) hS.2.2 dX7_known_24
    · refine lv_aload_n hx hb dX7_known_13 rfl (lv_at hl 0 rfl) ?_
      refine va_get (D := G.1) (ci := 3) (v := .ref ta) (C := RX7) (T := TX7) (N := 7) hx hb hts (fun _ h => List.mem_cons_of_mem _ (List.mem_append_right _ h)) hown E.K hP 0 rfl rfl 0 (by decide) (hts (.fieldLink RX7 11 "LastMap$Table" "slips" "[B") (by decide +kernel)) (fun _ h9 => h9) rfl dX7_known_14 ?_
      refine lv_iload_n hx hb dX7_known_17 rfl (lv_at hl 1 rfl) ?_
      refine va_bald hx hb E.K hP 1 0 rfl rfl (i := p0) (vp_in_iff.mpr (by ((try simp only [inR, inS, i3_lt, i3_le, i3_eq, i6_lt, i6_le, Int32.toInt_toInt64, lg_cmp_lt, lg_cmp_gt, lg_cmp_ge, lg_cmp_le, Int32.reduceToInt, Int64.reduceToInt] at c1 c2 ⊢); omega))) dX7_known_18 ?_
      refine lv_topi (fun x3 ex3 => ?_)
      refine lv_goto (tgt := 24) hx hb dX7_known_19 (by decide) ?_
      have hP9 := hP.sub (ws' := [(t, .inr (3, [.ref ta, .ref tq, .int qd, .int se, .int go, .int ki, .int nn])), (ta, .inl (gB G, 15625, .inl fs)), (tq, .inl (gI G, 15625, .inl fq))]) [0, 1, 2] rfl
      have hD9 := hD.sub (ws' := [(t, .inr (3, [.ref ta, .ref tq, .int qd, .int se, .int go, .int ki, .int nn])), (ta, .inl (gB G, 15625, .inl fs)), (tq, .inl (gI G, 15625, .inl fq))]) [0, 1, 2] (by decide) rfl
      exact W.iret (v := x3) hx hb hr (fun t ht hW => ⟨⟨x3, (), rfl, by rw [ex3]; exact (cIf_t (by ((try simp only [inR, inS, i3_lt, i3_le, i3_eq, i6_lt, i6_le, Int32.toInt_toInt64, lg_cmp_lt, lg_cmp_gt, lg_cmp_ge, lg_cmp_le, Int32.reduceToInt, Int64.reduceToInt] at c1 c2 ⊢); omega))).symm, by rw [ht]; exact hP9, hD9⟩, hS.F ht⟩) hS.2.2 dX7_known_24

set_option maxHeartbeats 1000000 in
set_option maxRecDepth 100000 in
theorem c_canHaveMade (l : Launch) (G : Gy) (sz : Nat) (t : Nat) (ta : Nat) (tq : Nat) (qd : Int32) (se : Int32) (go : Int32) (ki : Int32) (nn : Int32) (fs : Nat → Int32) (fq : Nat → Int32) (p0 : Int32) (p1 : Int32)  : Ci l G yX7_canHaveMade wsX7_canHaveMade ({ frames := 0, cells := 0, slots := 0, locals := 0 }) [.ref t, .int p0, .int p1] [(t, .inr (3, [.ref ta, .ref tq, .int qd, .int se, .int go, .int ki, .int nn])), (ta, .inl (gB G, 15625, .inl fs)), (tq, .inl (gI G, 15625, .inl fq))] sz (fun (r : Int32) (_ : Unit) => (r = 1 ∧ True) ∨ (r = 0 ∧ True)) (fun (_ : Unit) => [(t, .inr (3, [.ref ta, .ref tq, .int qd, .int se, .int go, .int ki, .int nn])), (ta, .inl (gB G, 15625, .inl fs)), (tq, .inl (gI G, 15625, .inl fq))]) 0 0 := by
  refine Met.ofW (cc := cX7_canHaveMade) (maxL := 3) (ret := (some .boolean)) (by decide) rfl ?_
  intro p e s m args below meth c s₁ B hml hv
  obtain ⟨rfl, hsz, hP, hD0, E0⟩ := hv
  have hx := B.exec
  have hb := B.bytes
  have hr := B.returns
  have hts := atoms_spec (ws := wsX7_canHaveMade) B.pre
  have hown : s.vm.findClass RX7 = some m.cls := findClass_of_methodNamed B.named
  have hlocks := B.notSynchronized
  subst hsz
  have hD := hD0.self (sz := s.heap.size)
  generalize hAe : va_A [(t, .inr (3, [.ref ta, .ref tq, .int qd, .int se, .int go, .int ki, .int nn])), (ta, .inl (gB G, 15625, .inl fs)), (tq, .inl (gI G, 15625, .inl fq))] s.heap.size = A at hD E0 ⊢
  have E : EV G A s s.heap := E0
  have hA : ∀ q : Nat, s.heap.size ≤ q → A q := fun q h => by rw [← hAe]; exact Or.inr h
  have hS : va_S A s.heap s.heap [] := va_S.rf
  have hl := lv_entry ([.ref t, .int p0, .int p1]) (n := 3) (Nat.le_of_ble_eq_true rfl)
  rw [lg_entry_eq]
  generalize (lg_sl ([.ref t, .int p0, .int p1]) ++ List.replicate (3 - (lg_sl ([.ref t, .int p0, .int p1])).length) Slot.unset).toArray = ls at hl ⊢
  have hl : lv_has ls 3 [(0, .ref t), (1, .int p0), (2, .int p1)] := hl
  have hP : va_P G.1 vwCl [(t, .inr (3, [.ref ta, .ref tq, .int qd, .int se, .int go, .int ki, .int nn])), (ta, .inl (gB G, 15625, .inl fs)), (tq, .inl (gI G, 15625, .inl fq))] s.heap := hP
  refine lv_iload_n hx hb dX7_canHaveMade_0 rfl (lv_at hl 1 rfl) ?_
  refine lv_iload_n hx hb dX7_canHaveMade_1 rfl (lv_at hl 2 rfl) ?_
  refine lv_icmp_ne (tgt := 16) hx hb dX7_canHaveMade_2 (by decide) (fun c1 => ?_) (fun c1 => ?_)
  · refine lv_aload_n hx hb dX7_canHaveMade_16 rfl (lv_at hl 0 rfl) ?_
    refine va_get (D := G.1) (ci := 3) (v := .int ki) (C := RX7) (T := TX7) (N := 7) hx hb hts (fun _ h => List.mem_cons_of_mem _ (List.mem_append_right _ h)) hown E.K hP 0 rfl rfl 5 (by decide) (hts (.fieldLink RX7 25 "LastMap$Table" "kinds" "I") (by decide +kernel)) (fun _ h9 => h9) rfl dX7_canHaveMade_17 ?_
    refine lv_iload_n hx hb dX7_canHaveMade_20 rfl (lv_at hl 2 rfl) ?_
    refine lv_iconst (v := 4) hx hb dX7_canHaveMade_21 (by decide) ?_
    refine lv_icmp_ne (tgt := 29) hx hb dX7_canHaveMade_22 (by decide) (fun c2 => ?_) (fun c2 => ?_)
    · refine lv_iconst (v := 0) hx hb dX7_canHaveMade_29 (by decide) ?_
      refine lv_ishr hx hb dX7_canHaveMade_30 ?_
      refine lv_topi (fun x3 ex3 => ?_)
      refine lv_iconst (v := 1) hx hb dX7_canHaveMade_31 (by decide) ?_
      refine lv_iand hx hb dX7_canHaveMade_32 ?_
      refine lv_topi (fun x4 ex4 => ?_)
      refine lv_if_eq (tgt := 40) hx hb dX7_canHaveMade_33 (by decide) (fun c5 => ?_) (fun c5 => ?_)
      · refine lv_iconst (v := 0) hx hb dX7_canHaveMade_40 (by decide) ?_
        have hP9 := hP.sub (ws' := [(t, .inr (3, [.ref ta, .ref tq, .int qd, .int se, .int go, .int ki, .int nn])), (ta, .inl (gB G, 15625, .inl fs)), (tq, .inl (gI G, 15625, .inl fq))]) [0, 1, 2] rfl
        have hD9 := hD.sub (ws' := [(t, .inr (3, [.ref ta, .ref tq, .int qd, .int se, .int go, .int ki, .int nn])), (ta, .inl (gB G, 15625, .inl fs)), (tq, .inl (gI G, 15625, .inl fq))]) [0, 1, 2] (by decide) rfl
        exact W.zret (v := 0) hx hb hr (by decide) (fun t ht hW => ⟨⟨0, (), rfl, Or.inr ⟨rfl, trivial⟩, by rw [ht]; exact hP9, hD9⟩, hS.F ht⟩) hS.2.2 dX7_canHaveMade_41
      · refine lv_iconst (v := 1) hx hb dX7_canHaveMade_36 (by decide) ?_
        refine lv_goto (tgt := 41) hx hb dX7_canHaveMade_37 (by decide) ?_
        have hP9 := hP.sub (ws' := [(t, .inr (3, [.ref ta, .ref tq, .int qd, .int se, .int go, .int ki, .int nn])), (ta, .inl (gB G, 15625, .inl fs)), (tq, .inl (gI G, 15625, .inl fq))]) [0, 1, 2] rfl
        have hD9 := hD.sub (ws' := [(t, .inr (3, [.ref ta, .ref tq, .int qd, .int se, .int go, .int ki, .int nn])), (ta, .inl (gB G, 15625, .inl fs)), (tq, .inl (gI G, 15625, .inl fq))]) [0, 1, 2] (by decide) rfl
        exact W.zret (v := 1) hx hb hr (by decide) (fun t ht hW => ⟨⟨1, (), rfl, Or.inl ⟨rfl, trivial⟩, by rw [ht]; exact hP9, hD9⟩, hS.F ht⟩) hS.2.2 dX7_canHaveMade_41
    · refine lv_iconst (v := 3) hx hb dX7_canHaveMade_25 (by decide) ?_
      refine lv_goto (tgt := 30) hx hb dX7_canHaveMade_26 (by decide) ?_
      refine lv_ishr hx hb dX7_canHaveMade_30 ?_
      refine lv_topi (fun x6 ex6 => ?_)
      refine lv_iconst (v := 1) hx hb dX7_canHaveMade_31 (by decide) ?_
      refine lv_iand hx hb dX7_canHaveMade_32 ?_
      refine lv_topi (fun x7 ex7 => ?_)
      refine lv_if_eq (tgt := 40) hx hb dX7_canHaveMade_33 (by decide) (fun c8 => ?_) (fun c8 => ?_)
      · refine lv_iconst (v := 0) hx hb dX7_canHaveMade_40 (by decide) ?_
        have hP9 := hP.sub (ws' := [(t, .inr (3, [.ref ta, .ref tq, .int qd, .int se, .int go, .int ki, .int nn])), (ta, .inl (gB G, 15625, .inl fs)), (tq, .inl (gI G, 15625, .inl fq))]) [0, 1, 2] rfl
        have hD9 := hD.sub (ws' := [(t, .inr (3, [.ref ta, .ref tq, .int qd, .int se, .int go, .int ki, .int nn])), (ta, .inl (gB G, 15625, .inl fs)), (tq, .inl (gI G, 15625, .inl fq))]) [0, 1, 2] (by decide) rfl
        exact W.zret (v := 0) hx hb hr (by decide) (fun t ht hW => ⟨⟨0, (), rfl, Or.inr ⟨rfl, trivial⟩, by rw [ht]; exact hP9, hD9⟩, hS.F ht⟩) hS.2.2 dX7_canHaveMade_41
      · refine lv_iconst (v := 1) hx hb dX7_canHaveMade_36 (by decide) ?_
        refine lv_goto (tgt := 41) hx hb dX7_canHaveMade_37 (by decide) ?_
        have hP9 := hP.sub (ws' := [(t, .inr (3, [.ref ta, .ref tq, .int qd, .int se, .int go, .int ki, .int nn])), (ta, .inl (gB G, 15625, .inl fs)), (tq, .inl (gI G, 15625, .inl fq))]) [0, 1, 2] rfl
        have hD9 := hD.sub (ws' := [(t, .inr (3, [.ref ta, .ref tq, .int qd, .int se, .int go, .int ki, .int nn])), (ta, .inl (gB G, 15625, .inl fs)), (tq, .inl (gI G, 15625, .inl fq))]) [0, 1, 2] (by decide) rfl
        exact W.zret (v := 1) hx hb hr (by decide) (fun t ht hW => ⟨⟨1, (), rfl, Or.inl ⟨rfl, trivial⟩, by rw [ht]; exact hP9, hD9⟩, hS.F ht⟩) hS.2.2 dX7_canHaveMade_41
  · refine lv_aload_n hx hb dX7_canHaveMade_5 rfl (lv_at hl 0 rfl) ?_
    refine va_get (D := G.1) (ci := 3) (v := .int ki) (C := RX7) (T := TX7) (N := 7) hx hb hts (fun _ h => List.mem_cons_of_mem _ (List.mem_append_right _ h)) hown E.K hP 0 rfl rfl 5 (by decide) (hts (.fieldLink RX7 25 "LastMap$Table" "kinds" "I") (by decide +kernel)) (fun _ h9 => h9) rfl dX7_canHaveMade_6 ?_
    refine lv_iconst (v := 2) hx hb dX7_canHaveMade_9 (by decide) ?_
    refine lv_ishr hx hb dX7_canHaveMade_10 ?_
    refine lv_topi (fun x9 ex9 => ?_)
    refine lv_iconst (v := 1) hx hb dX7_canHaveMade_11 (by decide) ?_
    refine lv_iand hx hb dX7_canHaveMade_12 ?_
    refine lv_topi (fun x10 ex10 => ?_)
    refine lv_if_ne (tgt := 36) hx hb dX7_canHaveMade_13 (by decide) (fun c11 => ?_) (fun c11 => ?_)
    · refine lv_iconst (v := 1) hx hb dX7_canHaveMade_36 (by decide) ?_
      refine lv_goto (tgt := 41) hx hb dX7_canHaveMade_37 (by decide) ?_
      have hP9 := hP.sub (ws' := [(t, .inr (3, [.ref ta, .ref tq, .int qd, .int se, .int go, .int ki, .int nn])), (ta, .inl (gB G, 15625, .inl fs)), (tq, .inl (gI G, 15625, .inl fq))]) [0, 1, 2] rfl
      have hD9 := hD.sub (ws' := [(t, .inr (3, [.ref ta, .ref tq, .int qd, .int se, .int go, .int ki, .int nn])), (ta, .inl (gB G, 15625, .inl fs)), (tq, .inl (gI G, 15625, .inl fq))]) [0, 1, 2] (by decide) rfl
      exact W.zret (v := 1) hx hb hr (by decide) (fun t ht hW => ⟨⟨1, (), rfl, Or.inl ⟨rfl, trivial⟩, by rw [ht]; exact hP9, hD9⟩, hS.F ht⟩) hS.2.2 dX7_canHaveMade_41
    · refine lv_aload_n hx hb dX7_canHaveMade_16 rfl (lv_at hl 0 rfl) ?_
      refine va_get (D := G.1) (ci := 3) (v := .int ki) (C := RX7) (T := TX7) (N := 7) hx hb hts (fun _ h => List.mem_cons_of_mem _ (List.mem_append_right _ h)) hown E.K hP 0 rfl rfl 5 (by decide) (hts (.fieldLink RX7 25 "LastMap$Table" "kinds" "I") (by decide +kernel)) (fun _ h9 => h9) rfl dX7_canHaveMade_17 ?_
      refine lv_iload_n hx hb dX7_canHaveMade_20 rfl (lv_at hl 2 rfl) ?_
      refine lv_iconst (v := 4) hx hb dX7_canHaveMade_21 (by decide) ?_
      refine lv_icmp_ne (tgt := 29) hx hb dX7_canHaveMade_22 (by decide) (fun c12 => ?_) (fun c12 => ?_)
      · refine lv_iconst (v := 0) hx hb dX7_canHaveMade_29 (by decide) ?_
        refine lv_ishr hx hb dX7_canHaveMade_30 ?_
        refine lv_topi (fun x13 ex13 => ?_)
        refine lv_iconst (v := 1) hx hb dX7_canHaveMade_31 (by decide) ?_
        refine lv_iand hx hb dX7_canHaveMade_32 ?_
        refine lv_topi (fun x14 ex14 => ?_)
        refine lv_if_eq (tgt := 40) hx hb dX7_canHaveMade_33 (by decide) (fun c15 => ?_) (fun c15 => ?_)
        · refine lv_iconst (v := 0) hx hb dX7_canHaveMade_40 (by decide) ?_
          have hP9 := hP.sub (ws' := [(t, .inr (3, [.ref ta, .ref tq, .int qd, .int se, .int go, .int ki, .int nn])), (ta, .inl (gB G, 15625, .inl fs)), (tq, .inl (gI G, 15625, .inl fq))]) [0, 1, 2] rfl
          have hD9 := hD.sub (ws' := [(t, .inr (3, [.ref ta, .ref tq, .int qd, .int se, .int go, .int ki, .int nn])), (ta, .inl (gB G, 15625, .inl fs)), (tq, .inl (gI G, 15625, .inl fq))]) [0, 1, 2] (by decide) rfl
          exact W.zret (v := 0) hx hb hr (by decide) (fun t ht hW => ⟨⟨0, (), rfl, Or.inr ⟨rfl, trivial⟩, by rw [ht]; exact hP9, hD9⟩, hS.F ht⟩) hS.2.2 dX7_canHaveMade_41
        · refine lv_iconst (v := 1) hx hb dX7_canHaveMade_36 (by decide) ?_
          refine lv_goto (tgt := 41) hx hb dX7_canHaveMade_37 (by decide) ?_
          have hP9 := hP.sub (ws' := [(t, .inr (3, [.ref ta, .ref tq, .int qd, .int se, .int go, .int ki, .int nn])), (ta, .inl (gB G, 15625, .inl fs)), (tq, .inl (gI G, 15625, .inl fq))]) [0, 1, 2] rfl
          have hD9 := hD.sub (ws' := [(t, .inr (3, [.ref ta, .ref tq, .int qd, .int se, .int go, .int ki, .int nn])), (ta, .inl (gB G, 15625, .inl fs)), (tq, .inl (gI G, 15625, .inl fq))]) [0, 1, 2] (by decide) rfl
          exact W.zret (v := 1) hx hb hr (by decide) (fun t ht hW => ⟨⟨1, (), rfl, Or.inl ⟨rfl, trivial⟩, by rw [ht]; exact hP9, hD9⟩, hS.F ht⟩) hS.2.2 dX7_canHaveMade_41
      · refine lv_iconst (v := 3) hx hb dX7_canHaveMade_25 (by decide) ?_
        refine lv_goto (tgt := 30) hx hb dX7_canHaveMade_26 (by decide) ?_
        refine lv_ishr hx hb dX7_canHaveMade_30 ?_
        refine lv_topi (fun x16 ex16 => ?_)
        refine lv_iconst (v := 1) hx hb dX7_canHaveMade_31 (by decide) ?_
        refine lv_iand hx hb dX7_canHaveMade_32 ?_
        refine lv_topi (fun x17 ex17 => ?_)
        refine lv_if_eq (tgt := 40) hx hb dX7_canHaveMade_33 (by decide) (fun c18 => ?_) (fun c18 => ?_)
        · refine lv_iconst (v := 0) hx hb dX7_canHaveMade_40 (by decide) ?_
          have hP9 := hP.sub (ws' := [(t, .inr (3, [.ref ta, .ref tq, .int qd, .int se, .int go, .int ki, .int nn])), (ta, .inl (gB G, 15625, .inl fs)), (tq, .inl (gI G, 15625, .inl fq))]) [0, 1, 2] rfl
          have hD9 := hD.sub (ws' := [(t, .inr (3, [.ref ta, .ref tq, .int qd, .int se, .int go, .int ki, .int nn])), (ta, .inl (gB G, 15625, .inl fs)), (tq, .inl (gI G, 15625, .inl fq))]) [0, 1, 2] (by decide) rfl
          exact W.zret (v := 0) hx hb hr (by decide) (fun t ht hW => ⟨⟨0, (), rfl, Or.inr ⟨rfl, trivial⟩, by rw [ht]; exact hP9, hD9⟩, hS.F ht⟩) hS.2.2 dX7_canHaveMade_41
        · refine lv_iconst (v := 1) hx hb dX7_canHaveMade_36 (by decide) ?_
          refine lv_goto (tgt := 41) hx hb dX7_canHaveMade_37 (by decide) ?_
          have hP9 := hP.sub (ws' := [(t, .inr (3, [.ref ta, .ref tq, .int qd, .int se, .int go, .int ki, .int nn])), (ta, .inl (gB G, 15625, .inl fs)), (tq, .inl (gI G, 15625, .inl fq))]) [0, 1, 2] rfl
          have hD9 := hD.sub (ws' := [(t, .inr (3, [.ref ta, .ref tq, .int qd, .int se, .int go, .int ki, .int nn])), (ta, .inl (gB G, 15625, .inl fs)), (tq, .inl (gI G, 15625, .inl fq))]) [0, 1, 2] (by decide) rfl
          exact W.zret (v := 1) hx hb hr (by decide) (fun t ht hW => ⟨⟨1, (), rfl, Or.inl ⟨rfl, trivial⟩, by rw [ht]; exact hP9, hD9⟩, hS.F ht⟩) hS.2.2 dX7_canHaveMade_41

set_option maxHeartbeats 1000000 in
set_option maxRecDepth 100000 in
theorem c_reach (l : Launch) (G : Gy) (sz : Nat) (t : Nat) (ta : Nat) (tq : Nat) (qd : Int32) (se : Int32) (go : Int32) (ki : Int32) (nn : Int32) (fs : Nat → Int32) (fq : Nat → Int32) (p0 : Int32) (p1 : Int32) (hq : inR qd 0 15625) : Cv l G yX7_reach wsX7_reach ({ frames := 0, cells := 0, slots := 0, locals := 0 }) [.ref t, .int p0, .int p1] [(t, .inr (3, [.ref ta, .ref tq, .int qd, .int se, .int go, .int ki, .int nn])), (ta, .inl (gB G, 15625, .inl fs)), (tq, .inl (gI G, 15625, .inl fq))] sz (fun (u : Int32 × (Nat → Int32) × (Nat → Int32)) => match u with | (qd1, fs1, fq1) => inR qd1 0 15625) (fun (u : Int32 × (Nat → Int32) × (Nat → Int32)) => match u with | (qd1, fs1, fq1) => [(t, .inr (3, [.ref ta, .ref tq, .int qd1, .int se, .int go, .int ki, .int nn])), (ta, .inl (gB G, 15625, .inl fs1)), (tq, .inl (gI G, 15625, .inl fq1))]) 0 0 := by
  refine Met.ofW (cc := cX7_reach) (maxL := 3) (ret := none) (by decide) rfl ?_
  intro p e s m args below meth c s₁ B hml hv
  obtain ⟨rfl, hsz, hP, hD0, E0⟩ := hv
  have hx := B.exec
  have hb := B.bytes
  have hr := B.returns
  have hts := atoms_spec (ws := wsX7_reach) B.pre
  have hown : s.vm.findClass RX7 = some m.cls := findClass_of_methodNamed B.named
  have hlocks := B.notSynchronized
  subst hsz
  have hD := hD0.self (sz := s.heap.size)
  generalize hAe : va_A [(t, .inr (3, [.ref ta, .ref tq, .int qd, .int se, .int go, .int ki, .int nn])), (ta, .inl (gB G, 15625, .inl fs)), (tq, .inl (gI G, 15625, .inl fq))] s.heap.size = A at hD E0 ⊢
  have E : EV G A s s.heap := E0
  have hA : ∀ q : Nat, s.heap.size ≤ q → A q := fun q h => by rw [← hAe]; exact Or.inr h
  have hS : va_S A s.heap s.heap [] := va_S.rf
  have hl := lv_entry ([.ref t, .int p0, .int p1]) (n := 3) (Nat.le_of_ble_eq_true rfl)
  rw [lg_entry_eq]
  generalize (lg_sl ([.ref t, .int p0, .int p1]) ++ List.replicate (3 - (lg_sl ([.ref t, .int p0, .int p1])).length) Slot.unset).toArray = ls at hl ⊢
  have hl : lv_has ls 3 [(0, .ref t), (1, .int p0), (2, .int p1)] := hl
  have hP : va_P G.1 vwCl [(t, .inr (3, [.ref ta, .ref tq, .int qd, .int se, .int go, .int ki, .int nn])), (ta, .inl (gB G, 15625, .inl fs)), (tq, .inl (gI G, 15625, .inl fq))] s.heap := hP
  refine lv_iload_n hx hb dX7_reach_0 rfl (lv_at hl 1 rfl) ?_
  refine lv_if_lt (tgt := 24) hx hb dX7_reach_1 (by decide) (fun c1 => ?_) (fun c1 => ?_)
  · have hP9 := hP.sub (ws' := [(t, .inr (3, [.ref ta, .ref tq, .int qd, .int se, .int go, .int ki, .int nn])), (ta, .inl (gB G, 15625, .inl fs)), (tq, .inl (gI G, 15625, .inl fq))]) [0, 1, 2] rfl
    have hD9 := hD.sub (ws' := [(t, .inr (3, [.ref ta, .ref tq, .int qd, .int se, .int go, .int ki, .int nn])), (ta, .inl (gB G, 15625, .inl fs)), (tq, .inl (gI G, 15625, .inl fq))]) [0, 1, 2] (by decide) rfl
    exact W.vret hx hb hr (fun t ht hW => ⟨⟨(qd, fs, fq), rfl, hq, by rw [ht]; exact hP9, hD9⟩, hS.F ht⟩) hS.2.2 dX7_reach_24
  · refine lv_iload_n hx hb dX7_reach_4 rfl (lv_at hl 1 rfl) ?_
    refine lv_aload_n hx hb dX7_reach_5 rfl (lv_at hl 0 rfl) ?_
    refine va_get (D := G.1) (ci := 3) (v := .ref ta) (C := RX7) (T := TX7) (N := 7) hx hb hts (fun _ h => List.mem_cons_of_mem _ (List.mem_append_right _ h)) hown E.K hP 0 rfl rfl 0 (by decide) (hts (.fieldLink RX7 11 "LastMap$Table" "slips" "[B") (by decide +kernel)) (fun _ h9 => h9) rfl dX7_reach_6 ?_
    refine va_alen (v := 15625) hx hb E.K hP 1 0 rfl rfl rfl dX7_reach_9 ?_
    refine lv_icmp_ge (tgt := 24) hx hb dX7_reach_10 (by decide) (fun c2 => ?_) (fun c2 => ?_)
    · have hP9 := hP.sub (ws' := [(t, .inr (3, [.ref ta, .ref tq, .int qd, .int se, .int go, .int ki, .int nn])), (ta, .inl (gB G, 15625, .inl fs)), (tq, .inl (gI G, 15625, .inl fq))]) [0, 1, 2] rfl
      have hD9 := hD.sub (ws' := [(t, .inr (3, [.ref ta, .ref tq, .int qd, .int se, .int go, .int ki, .int nn])), (ta, .inl (gB G, 15625, .inl fs)), (tq, .inl (gI G, 15625, .inl fq))]) [0, 1, 2] (by decide) rfl
      exact W.vret hx hb hr (fun t ht hW => ⟨⟨(qd, fs, fq), rfl, hq, by rw [ht]; exact hP9, hD9⟩, hS.F ht⟩) hS.2.2 dX7_reach_24
    · refine lv_aload_n hx hb dX7_reach_13 rfl (lv_at hl 0 rfl) ?_
      refine va_get (D := G.1) (ci := 3) (v := .ref ta) (C := RX7) (T := TX7) (N := 7) hx hb hts (fun _ h => List.mem_cons_of_mem _ (List.mem_append_right _ h)) hown E.K hP 0 rfl rfl 0 (by decide) (hts (.fieldLink RX7 11 "LastMap$Table" "slips" "[B") (by decide +kernel)) (fun _ h9 => h9) rfl dX7_reach_14 ?_
      refine lv_iload_n hx hb dX7_reach_17 rfl (lv_at hl 1 rfl) ?_
      refine va_bald hx hb E.K hP 1 0 rfl rfl (i := p0) (vp_in_iff.mpr (by ((try simp only [inR, inS, i3_lt, i3_le, i3_eq, i6_lt, i6_le, Int32.toInt_toInt64, lg_cmp_lt, lg_cmp_gt, lg_cmp_ge, lg_cmp_le, Int32.reduceToInt, Int64.reduceToInt] at c1 c2 ⊢); omega))) dX7_reach_18 ?_
      refine lv_topi (fun x3 ex3 => ?_)
      refine lv_bipush (v := (-6)) hx hb dX7_reach_19 (by decide) ?_
      refine lv_icmp_eq (tgt := 25) hx hb dX7_reach_21 (by decide) (fun c4 => ?_) (fun c4 => ?_)
      · refine lv_aload_n hx hb dX7_reach_25 rfl (lv_at hl 0 rfl) ?_
        refine va_get (D := G.1) (ci := 3) (v := .int qd) (C := RX7) (T := TX7) (N := 7) hx hb hts (fun _ h => List.mem_cons_of_mem _ (List.mem_append_right _ h)) hown E.K hP 0 rfl rfl 2 (by decide) (hts (.fieldLink RX7 31 "LastMap$Table" "queued" "I") (by decide +kernel)) (fun _ h9 => h9) rfl dX7_reach_26 ?_
        refine lv_if_lt (tgt := 72) hx hb dX7_reach_29 (by decide) (fun c5 => ?_) (fun c5 => ?_)
        · have hP9 := hP.sub (ws' := [(t, .inr (3, [.ref ta, .ref tq, .int qd, .int se, .int go, .int ki, .int nn])), (ta, .inl (gB G, 15625, .inl fs)), (tq, .inl (gI G, 15625, .inl fq))]) [0, 1, 2] rfl
          have hD9 := hD.sub (ws' := [(t, .inr (3, [.ref ta, .ref tq, .int qd, .int se, .int go, .int ki, .int nn])), (ta, .inl (gB G, 15625, .inl fs)), (tq, .inl (gI G, 15625, .inl fq))]) [0, 1, 2] (by decide) rfl
          exact W.vret hx hb hr (fun t ht hW => ⟨⟨(qd, fs, fq), rfl, hq, by rw [ht]; exact hP9, hD9⟩, hS.F ht⟩) hS.2.2 dX7_reach_72
        · refine lv_aload_n hx hb dX7_reach_32 rfl (lv_at hl 0 rfl) ?_
          refine va_get (D := G.1) (ci := 3) (v := .int qd) (C := RX7) (T := TX7) (N := 7) hx hb hts (fun _ h => List.mem_cons_of_mem _ (List.mem_append_right _ h)) hown E.K hP 0 rfl rfl 2 (by decide) (hts (.fieldLink RX7 31 "LastMap$Table" "queued" "I") (by decide +kernel)) (fun _ h9 => h9) rfl dX7_reach_33 ?_
          refine lv_aload_n hx hb dX7_reach_36 rfl (lv_at hl 0 rfl) ?_
          refine va_get (D := G.1) (ci := 3) (v := .ref tq) (C := RX7) (T := TX7) (N := 7) hx hb hts (fun _ h => List.mem_cons_of_mem _ (List.mem_append_right _ h)) hown E.K hP 0 rfl rfl 1 (by decide) (hts (.fieldLink RX7 17 "LastMap$Table" "queue" "[I") (by decide +kernel)) (fun _ h9 => h9) rfl dX7_reach_37 ?_
          refine va_alen (v := 15625) hx hb E.K hP 2 1 rfl rfl rfl dX7_reach_40 ?_
          refine lv_icmp_ge (tgt := 72) hx hb dX7_reach_41 (by decide) (fun c6 => ?_) (fun c6 => ?_)
          · have hP9 := hP.sub (ws' := [(t, .inr (3, [.ref ta, .ref tq, .int qd, .int se, .int go, .int ki, .int nn])), (ta, .inl (gB G, 15625, .inl fs)), (tq, .inl (gI G, 15625, .inl fq))]) [0, 1, 2] rfl
            have hD9 := hD.sub (ws' := [(t, .inr (3, [.ref ta, .ref tq, .int qd, .int se, .int go, .int ki, .int nn])), (ta, .inl (gB G, 15625, .inl fs)), (tq, .inl (gI G, 15625, .inl fq))]) [0, 1, 2] (by decide) rfl
            exact W.vret hx hb hr (fun t ht hW => ⟨⟨(qd, fs, fq), rfl, hq, by rw [ht]; exact hP9, hD9⟩, hS.F ht⟩) hS.2.2 dX7_reach_72
          · refine lv_aload_n hx hb dX7_reach_44 rfl (lv_at hl 0 rfl) ?_
            refine va_get (D := G.1) (ci := 3) (v := .ref ta) (C := RX7) (T := TX7) (N := 7) hx hb hts (fun _ h => List.mem_cons_of_mem _ (List.mem_append_right _ h)) hown E.K hP 0 rfl rfl 0 (by decide) (hts (.fieldLink RX7 11 "LastMap$Table" "slips" "[B") (by decide +kernel)) (fun _ h9 => h9) rfl dX7_reach_45 ?_
            refine lv_iload_n hx hb dX7_reach_48 rfl (lv_at hl 1 rfl) ?_
            refine lv_iload_n hx hb dX7_reach_49 rfl (lv_at hl 2 rfl) ?_
            refine lv_i2b hx hb dX7_reach_50 rfl ?_
            refine lv_topi (fun x7 ex7 => ?_)
            refine va_bast hx hb E.K hP hD hS 1 0 rfl rfl (i := p0) (vp_in_iff.mpr (by ((try simp only [inR, inS, i3_lt, i3_le, i3_eq, i6_lt, i6_le, Int32.toInt_toInt64, lg_cmp_lt, lg_cmp_gt, lg_cmp_ge, lg_cmp_le, Int32.reduceToInt, Int64.reduceToInt] at c1 c2 c4 c5 c6 ⊢); omega))) dX7_reach_51 (fun H locs hP hD hS => ?_)
            obtain ⟨f8, ef8⟩ : ∃ yy_ : Nat → Int32, yy_ = upd fs p0.toNatClampNeg (vp_nar .byte x7) := ⟨_, rfl⟩
            have hP : va_P G.1 vwCl [(t, .inr (3, [.ref ta, .ref tq, .int qd, .int se, .int go, .int ki, .int nn])), (ta, .inl (gB G, 15625, .inl f8)), (tq, .inl (gI G, 15625, .inl fq))] H := by rw [ef8]; exact hP
            have hD : va_D A [(t, .inr (3, [.ref ta, .ref tq, .int qd, .int se, .int go, .int ki, .int nn])), (ta, .inl (gB G, 15625, .inl f8)), (tq, .inl (gI G, 15625, .inl fq))] := by rw [ef8]; exact hD
            refine lv_aload_n hx hb dX7_reach_52 rfl (lv_at hl 0 rfl) ?_
            refine va_get (D := G.1) (ci := 3) (v := .ref tq) (C := RX7) (T := TX7) (N := 7) hx hb hts (fun _ h => List.mem_cons_of_mem _ (List.mem_append_right _ h)) hown E.K hP 0 rfl rfl 1 (by decide) (hts (.fieldLink RX7 17 "LastMap$Table" "queue" "[I") (by decide +kernel)) (fun _ h9 => h9) rfl dX7_reach_53 ?_
            refine lv_aload_n hx hb dX7_reach_56 rfl (lv_at hl 0 rfl) ?_
            refine va_get (D := G.1) (ci := 3) (v := .int qd) (C := RX7) (T := TX7) (N := 7) hx hb hts (fun _ h => List.mem_cons_of_mem _ (List.mem_append_right _ h)) hown E.K hP 0 rfl rfl 2 (by decide) (hts (.fieldLink RX7 31 "LastMap$Table" "queued" "I") (by decide +kernel)) (fun _ h9 => h9) rfl dX7_reach_57 ?_
            refine lv_iload_n hx hb dX7_reach_60 rfl (lv_at hl 1 rfl) ?_
            refine va_iast hx hb E.K hP hD hS 2 1 rfl rfl (i := qd) (vp_in_iff.mpr (by ((try simp only [inR, inS, i3_lt, i3_le, i3_eq, i6_lt, i6_le, Int32.toInt_toInt64, lg_cmp_lt, lg_cmp_gt, lg_cmp_ge, lg_cmp_le, Int32.reduceToInt, Int64.reduceToInt] at c1 c2 c4 c5 c6 ⊢); omega))) dX7_reach_61 (fun H locs hP hD hS => ?_)
            obtain ⟨f9, ef9⟩ : ∃ yy_ : Nat → Int32, yy_ = upd fq qd.toNatClampNeg p0 := ⟨_, rfl⟩
            have hP : va_P G.1 vwCl [(t, .inr (3, [.ref ta, .ref tq, .int qd, .int se, .int go, .int ki, .int nn])), (ta, .inl (gB G, 15625, .inl f8)), (tq, .inl (gI G, 15625, .inl f9))] H := by rw [ef9]; exact hP
            have hD : va_D A [(t, .inr (3, [.ref ta, .ref tq, .int qd, .int se, .int go, .int ki, .int nn])), (ta, .inl (gB G, 15625, .inl f8)), (tq, .inl (gI G, 15625, .inl f9))] := by rw [ef9]; exact hD
            refine lv_aload_n hx hb dX7_reach_62 rfl (lv_at hl 0 rfl) ?_
            refine lv_dup hx hb dX7_reach_63 rfl ?_
            refine va_get (D := G.1) (ci := 3) (v := .int qd) (C := RX7) (T := TX7) (N := 7) hx hb hts (fun _ h => List.mem_cons_of_mem _ (List.mem_append_right _ h)) hown E.K hP 0 rfl rfl 2 (by decide) (hts (.fieldLink RX7 31 "LastMap$Table" "queued" "I") (by decide +kernel)) (fun _ h9 => h9) rfl dX7_reach_64 ?_
            refine lv_iconst (v := 1) hx hb dX7_reach_67 (by decide) ?_
            refine lv_iadd hx hb dX7_reach_68 ?_
            refine lv_topi (fun x10 ex10 => ?_)
            refine va_put (D := G.1) (ci := 3) (v := .int x10) (ty := .int) (C := RX7) (T := TX7) (N := 7) hx hb hts (fun _ h => List.mem_cons_of_mem _ (List.mem_append_right _ h)) tyX7 tyX7_ok nmX7 hown E.K hP hD hS 0 rfl rfl 2 (by decide) (hts (.fieldLink RX7 31 "LastMap$Table" "queued" "I") (by decide +kernel)) (fun _ h9 => h9) rfl (by decide +kernel) rfl rfl (Nat.le_of_ble_eq_true rfl) dX7_reach_69 (fun H locs hP hD hS => ?_)
            have hP : va_P G.1 vwCl [(t, .inr (3, [.ref ta, .ref tq, .int x10, .int se, .int go, .int ki, .int nn])), (ta, .inl (gB G, 15625, .inl f8)), (tq, .inl (gI G, 15625, .inl f9))] H := hP
            have hD : va_D A [(t, .inr (3, [.ref ta, .ref tq, .int x10, .int se, .int go, .int ki, .int nn])), (ta, .inl (gB G, 15625, .inl f8)), (tq, .inl (gI G, 15625, .inl f9))] := hD
            have hP9 := hP.sub (ws' := [(t, .inr (3, [.ref ta, .ref tq, .int x10, .int se, .int go, .int ki, .int nn])), (ta, .inl (gB G, 15625, .inl f8)), (tq, .inl (gI G, 15625, .inl f9))]) [0, 1, 2] rfl
            have hD9 := hD.sub (ws' := [(t, .inr (3, [.ref ta, .ref tq, .int x10, .int se, .int go, .int ki, .int nn])), (ta, .inl (gB G, 15625, .inl f8)), (tq, .inl (gI G, 15625, .inl f9))]) [0, 1, 2] (by decide) rfl
            exact W.vret hx hb hr (fun t ht hW => ⟨⟨(x10, f8, f9), rfl, by dsimp only; have q0 : qd.toInt < (15625 : Int32).toInt := (by ((try simp only [inR, inS, i3_lt, i3_le, i3_eq, i6_lt, i6_le, Int32.toInt_toInt64, lg_cmp_lt, lg_cmp_gt, lg_cmp_ge, lg_cmp_le, Int32.reduceToInt, Int64.reduceToInt] at c1 c2 c4 c5 c6 ⊢); omega)); have q := inc_lt q0 ex10; simp only [Int32.reduceToInt] at q0; simp only [inR, i3_le, Int32.reduceToInt] at hq ⊢; omega, by rw [ht]; exact hP9, hD9⟩, hS.F ht⟩) hS.2.2 dX7_reach_72
      · have hP9 := hP.sub (ws' := [(t, .inr (3, [.ref ta, .ref tq, .int qd, .int se, .int go, .int ki, .int nn])), (ta, .inl (gB G, 15625, .inl fs)), (tq, .inl (gI G, 15625, .inl fq))]) [0, 1, 2] rfl
        have hD9 := hD.sub (ws' := [(t, .inr (3, [.ref ta, .ref tq, .int qd, .int se, .int go, .int ki, .int nn])), (ta, .inl (gB G, 15625, .inl fs)), (tq, .inl (gI G, 15625, .inl fq))]) [0, 1, 2] (by decide) rfl
        exact W.vret hx hb hr (fun t ht hW => ⟨⟨(qd, fs, fq), rfl, hq, by rw [ht]; exact hP9, hD9⟩, hS.F ht⟩) hS.2.2 dX7_reach_24

set_option maxHeartbeats 1000000 in
set_option maxRecDepth 100000 in
theorem c_queueBefore (l : Launch) (G : Gy) (sz : Nat) (t : Nat) (ta : Nat) (tq : Nat) (qd : Int32) (se : Int32) (go : Int32) (ki : Int32) (nn : Int32) (fs : Nat → Int32) (fq : Nat → Int32) (p0 : Int32) (hq : inR qd 0 15625) : Cv l G yX7_queueBefore wsX7_queueBefore ({ frames := 1, cells := 0, slots := 0, locals := 22 }) [.ref t, .int p0] [(t, .inr (3, [.ref ta, .ref tq, .int qd, .int se, .int go, .int ki, .int nn])), (ta, .inl (gB G, 15625, .inl fs)), (tq, .inl (gI G, 15625, .inl fq))] sz (fun (u : Int32 × (Nat → Int32) × (Nat → Int32)) => match u with | (qd1, fs1, fq1) => inR qd1 0 15625) (fun (u : Int32 × (Nat → Int32) × (Nat → Int32)) => match u with | (qd1, fs1, fq1) => [(t, .inr (3, [.ref ta, .ref tq, .int qd1, .int se, .int go, .int ki, .int nn])), (ta, .inl (gB G, 15625, .inl fs1)), (tq, .inl (gI G, 15625, .inl fq1))]) 0 0 := by
  refine Met.ofW (cc := cX7_queueBefore) (maxL := 9) (ret := none) (by decide) rfl ?_
  intro p e s m args below meth c s₁ B hml hv
  obtain ⟨rfl, hsz, hP, hD0, E0⟩ := hv
  have hx := B.exec
  have hb := B.bytes
  have hr := B.returns
  have hts := atoms_spec (ws := wsX7_queueBefore) B.pre
  have hown : s.vm.findClass RX7 = some m.cls := findClass_of_methodNamed B.named
  have hlocks := B.notSynchronized
  subst hsz
  have hD := hD0.self (sz := s.heap.size)
  generalize hAe : va_A [(t, .inr (3, [.ref ta, .ref tq, .int qd, .int se, .int go, .int ki, .int nn])), (ta, .inl (gB G, 15625, .inl fs)), (tq, .inl (gI G, 15625, .inl fq))] s.heap.size = A at hD E0 ⊢
  have E : EV G A s s.heap := E0
  have hA : ∀ q : Nat, s.heap.size ≤ q → A q := fun q h => by rw [← hAe]; exact Or.inr h
  have hS : va_S A s.heap s.heap [] := va_S.rf
  have hl := lv_entry ([.ref t, .int p0]) (n := 9) (Nat.le_of_ble_eq_true rfl)
  rw [lg_entry_eq]
  generalize (lg_sl ([.ref t, .int p0]) ++ List.replicate (9 - (lg_sl ([.ref t, .int p0])).length) Slot.unset).toArray = ls at hl ⊢
  have hl : lv_has ls 9 [(0, .ref t), (1, .int p0)] := hl
  have hP : va_P G.1 vwCl [(t, .inr (3, [.ref ta, .ref tq, .int qd, .int se, .int go, .int ki, .int nn])), (ta, .inl (gB G, 15625, .inl fs)), (tq, .inl (gI G, 15625, .inl fq))] s.heap := hP
  refine lv_aload_n hx hb dX7_queueBefore_0 rfl (lv_at hl 0 rfl) ?_
  refine lv_iload_n hx hb dX7_queueBefore_1 rfl (lv_at hl 1 rfl) ?_
  refine ca_iR (va_runV (As := [.int p0]) (rest := []) ⟨hx, hb, hml, hown, hts⟩ (c_known l G s.heap.size t ta tq qd se go ki nn fs fq p0) (cwV 1 hts gX7_queueBefore_X7_known rfl rfl rfl (by decide +kernel) ⟨by decide +kernel, by decide +kernel⟩) (pre_V E hP hD hS hA [0, 1, 2] (by decide) rfl 0 3 rfl rfl) rfl rfl hl.1 rfl (lv_room (Nat.le_of_ble_eq_true rfl)) dX7_queueBefore_2 ⟨by decide +kernel, by decide +kernel⟩) hS hP hD hA [0, 1, 2] rfl (fun r2 _ H locs w1 hP hS => ?_)
  refine lv_iconst (v := 1) hx hb dX7_queueBefore_5 (by decide) ?_
  refine lv_iadd hx hb dX7_queueBefore_6 ?_
  refine lv_topi (fun x3 ex3 => ?_)
  refine lv_istore_n (lv' := [(2, .int x3), (0, .ref t), (1, .int p0)]) hx hb dX7_queueBefore_7 rfl hl (by decide) rfl (fun ls hl => ?_)
  refine lv_iconst (v := (-1)) hx hb dX7_queueBefore_8 (by decide) ?_
  refine lv_istore_n (lv' := [(3, .int (-1)), (2, .int x3), (0, .ref t), (1, .int p0)]) hx hb dX7_queueBefore_9 rfl hl (by decide) rfl (fun ls hl => ?_)
  refine lv_iconst (v := 0) hx hb dX7_queueBefore_10 (by decide) ?_
  refine lv_istore (lv' := [(4, .int 0), (3, .int (-1)), (2, .int x3), (0, .ref t), (1, .int p0)]) hx hb dX7_queueBefore_11 hl (by decide) rfl (fun ls hl => ?_)
  refine lp_run (x0 := (0, (-1), qd, fs, fq)) (fun xx_ : Int32 × Int32 × Int32 × (Nat → Int32) × (Nat → Int32) => match xx_ with | (x, lf, qa, fa, fb) => [(t, .inr (3, [.ref ta, .ref tq, .int qa, .int se, .int go, .int ki, .int nn])), (ta, .inl (gB G, 15625, .inl fa)), (tq, .inl (gI G, 15625, .inl fb))]) (fun xx_ : Int32 × Int32 × Int32 × (Nat → Int32) × (Nat → Int32) => match xx_ with | (x, lf, qa, fa, fb) => [(4, .int x), (3, .int lf), (2, .int x3), (0, .ref t), (1, .int p0)]) (fun xx_ : Int32 × Int32 × Int32 × (Nat → Int32) × (Nat → Int32) => match xx_ with | (x, lf, qa, fa, fb) => (0 ≤ x.toInt) ∧ (inR qa 0 15625)) (fun xx_ : Int32 × Int32 × Int32 × (Nat → Int32) × (Nat → Int32) => match xx_ with | (x, lf, qa, fa, fb) => (nn.toInt - x.toInt).toNat) (hP.sub [0, 1, 2] rfl) (hD.sub [0, 1, 2] (by decide) rfl) hS (lv_sub hl [0, 1, 2, 3, 4] rfl) ⟨show (0 : Int) ≤ (0 : Int32).toInt by first | decide | omega | assumption, by first | assumption | exact hq⟩ ?_
  intro xx_ hI ih13 H locs ls hP hD hS hl
  obtain ⟨x, lf, qa, fa, fb⟩ := xx_
  dsimp only at hI ih13 hP hD hl
  obtain ⟨hx0, hv1⟩ := hI
  have hl : lv_has ls 9 [(4, .int x), (3, .int lf), (2, .int x3), (0, .ref t), (1, .int p0)] := hl
  have hP : va_P G.1 vwCl [(t, .inr (3, [.ref ta, .ref tq, .int qa, .int se, .int go, .int ki, .int nn])), (ta, .inl (gB G, 15625, .inl fa)), (tq, .inl (gI G, 15625, .inl fb))] H := hP
  have hD : va_D A [(t, .inr (3, [.ref ta, .ref tq, .int qa, .int se, .int go, .int ki, .int nn])), (ta, .inl (gB G, 15625, .inl fa)), (tq, .inl (gI G, 15625, .inl fb))] := hD
  refine lv_iload hx hb dX7_queueBefore_13 (lv_at hl 0 rfl) ?_
  refine lv_aload_n hx hb dX7_queueBefore_15 rfl (lv_at hl 3 rfl) ?_
  refine va_get (D := G.1) (ci := 3) (v := .int nn) (C := RX7) (T := TX7) (N := 7) hx hb hts (fun _ h => List.mem_cons_of_mem _ (List.mem_append_right _ h)) hown E.K hP 0 rfl rfl 6 (by decide) (hts (.fieldLink RX7 28 "LastMap$Table" "n" "I") (by decide +kernel)) (fun _ h9 => h9) rfl dX7_queueBefore_16 ?_
  refine lv_icmp_ge (tgt := 137) hx hb dX7_queueBefore_19 (by decide) (fun c4 => ?_) (fun c4 => ?_)
  · have hP9 := hP.sub (ws' := [(t, .inr (3, [.ref ta, .ref tq, .int qa, .int se, .int go, .int ki, .int nn])), (ta, .inl (gB G, 15625, .inl fa)), (tq, .inl (gI G, 15625, .inl fb))]) [0, 1, 2] rfl
    have hD9 := hD.sub (ws' := [(t, .inr (3, [.ref ta, .ref tq, .int qa, .int se, .int go, .int ki, .int nn])), (ta, .inl (gB G, 15625, .inl fa)), (tq, .inl (gI G, 15625, .inl fb))]) [0, 1, 2] (by decide) rfl
    exact W.vret hx hb hr (fun t ht hW => ⟨⟨(qa, fa, fb), rfl, hv1, by rw [ht]; exact hP9, hD9⟩, hS.F ht⟩) hS.2.2 dX7_queueBefore_137
  · have hlt13 : x.toInt < nn.toInt := by ((try simp only [inR, inS, i3_lt, i3_le, i3_eq, i6_lt, i6_le, Int32.toInt_toInt64, lg_cmp_lt, lg_cmp_gt, lg_cmp_ge, lg_cmp_le, Int32.reduceToInt, Int64.reduceToInt] at c4 ⊢); omega)
    refine lv_iload hx hb dX7_queueBefore_22 (lv_at hl 0 rfl) ?_
    refine ca_iR (va_runS (As := [.int x]) (rest := []) ⟨hx, hb, hml, hown, hts⟩ (c_weight l G H.size x) (va_cwS 1 hts gX7_queueBefore_X1_weight rfl rfl rfl (by decide +kernel) ⟨by decide +kernel, by decide +kernel⟩) (pre_S E hP hD hS hA [] (by decide) rfl) rfl rfl hl.1 rfl (lv_room (Nat.le_of_ble_eq_true rfl)) dX7_queueBefore_24 ⟨by decide +kernel, by decide +kernel⟩) hS hP hD hA [] rfl (fun r6 _ H locs w5 hP hS => ?_)
    refine lv_istore (lv' := [(5, .int r6), (4, .int x), (3, .int lf), (2, .int x3), (0, .ref t), (1, .int p0)]) hx hb dX7_queueBefore_27 hl (by decide) rfl (fun ls hl => ?_)
    refine lv_iload_n hx hb dX7_queueBefore_29 rfl (lv_at hl 5 rfl) ?_
    refine lv_iload hx hb dX7_queueBefore_30 (lv_at hl 0 rfl) ?_
    refine ca_iR (va_runS (As := [.int p0, .int r6]) (rest := []) ⟨hx, hb, hml, hown, hts⟩ (c_signBy l G H.size p0 r6) (va_cwS 2 hts gX7_queueBefore_X1_signBy rfl rfl rfl (by decide +kernel) ⟨by decide +kernel, by decide +kernel⟩) (pre_S E hP hD hS hA [] (by decide) rfl) rfl rfl hl.1 rfl (lv_room (Nat.le_of_ble_eq_true rfl)) dX7_queueBefore_32 ⟨by decide +kernel, by decide +kernel⟩) hS hP hD hA [] rfl (fun r8 _ H locs w7 hP hS => ?_)
    refine lv_istore (lv' := [(6, .int r8), (5, .int r6), (4, .int x), (3, .int lf), (2, .int x3), (0, .ref t), (1, .int p0)]) hx hb dX7_queueBefore_35 hl (by decide) rfl (fun ls hl => ?_)
    refine lv_aload_n hx hb dX7_queueBefore_37 rfl (lv_at hl 5 rfl) ?_
    refine lv_iload_n hx hb dX7_queueBefore_38 rfl (lv_at hl 3 rfl) ?_
    refine lv_iload hx hb dX7_queueBefore_39 (lv_at hl 0 rfl) ?_
    refine ca_iR (va_runV (As := [.int lf, .int r8]) (rest := []) ⟨hx, hb, hml, hown, hts⟩ (c_canHaveMade l G H.size t ta tq qa se go ki nn fa fb lf r8) (cwV 2 hts gX7_queueBefore_X7_canHaveMade rfl rfl rfl (by decide +kernel) ⟨by decide +kernel, by decide +kernel⟩) (pre_V E hP hD hS hA [0, 1, 2] (by decide) rfl 0 3 rfl rfl) rfl rfl hl.1 rfl (lv_room (Nat.le_of_ble_eq_true rfl)) dX7_queueBefore_41 ⟨by decide +kernel, by decide +kernel⟩) hS hP hD hA [0, 1, 2] rfl (fun r10 _ H locs w9 hP hS => ?_)
    rcases w9 with ⟨rfl, b11⟩ | ⟨rfl, b11⟩
    · refine lv_if_eq (tgt := 84) hx hb dX7_queueBefore_44 (by decide) (fun c12 => False.elim (by revert c12; decide)) (fun _ => ?_)
      refine lv_iload_n hx hb dX7_queueBefore_47 rfl (lv_at hl 6 rfl) ?_
      refine lv_iload hx hb dX7_queueBefore_48 (lv_at hl 0 rfl) ?_
      refine lv_iload hx hb dX7_queueBefore_50 (lv_at hl 1 rfl) ?_
      refine lv_imul hx hb dX7_queueBefore_52 ?_
      refine lv_topi (fun x13 ex13 => ?_)
      refine lv_isub hx hb dX7_queueBefore_53 ?_
      refine lv_topi (fun x14 ex14 => ?_)
      refine lv_istore (lv' := [(7, .int x14), (6, .int r8), (5, .int r6), (4, .int x), (3, .int lf), (2, .int x3), (0, .ref t), (1, .int p0)]) hx hb dX7_queueBefore_54 hl (by decide) rfl (fun ls hl => ?_)
      refine lv_iconst (v := 0) hx hb dX7_queueBefore_56 (by decide) ?_
      refine lv_istore (lv' := [(8, .int 0), (7, .int x14), (6, .int r8), (5, .int r6), (4, .int x), (3, .int lf), (2, .int x3), (0, .ref t), (1, .int p0)]) hx hb dX7_queueBefore_57 hl (by decide) rfl (fun ls hl => ?_)
      refine lp_run (x0 := (0, qa, fa, fb)) (fun xx_ : Int32 × Int32 × (Nat → Int32) × (Nat → Int32) => match xx_ with | (y, qb, fc, fd) => [(t, .inr (3, [.ref ta, .ref tq, .int qb, .int se, .int go, .int ki, .int nn])), (ta, .inl (gB G, 15625, .inl fc)), (tq, .inl (gI G, 15625, .inl fd))]) (fun xx_ : Int32 × Int32 × (Nat → Int32) × (Nat → Int32) => match xx_ with | (y, qb, fc, fd) => [(8, .int y), (7, .int x14), (6, .int r8), (5, .int r6), (4, .int x), (3, .int lf), (2, .int x3), (0, .ref t), (1, .int p0)]) (fun xx_ : Int32 × Int32 × (Nat → Int32) × (Nat → Int32) => match xx_ with | (y, qb, fc, fd) => (0 ≤ y.toInt) ∧ (inR qb 0 15625)) (fun xx_ : Int32 × Int32 × (Nat → Int32) × (Nat → Int32) => match xx_ with | (y, qb, fc, fd) => ((5 : Int32).toInt - y.toInt).toNat) (hP.sub [0, 1, 2] rfl) (hD.sub [0, 1, 2] (by decide) rfl) hS (lv_sub hl [0, 1, 2, 3, 4, 5, 6, 7, 8] rfl) ⟨show (0 : Int) ≤ (0 : Int32).toInt by first | decide | omega | assumption, by first | exact hv1 | assumption⟩ ?_
      intro xx_ hI ih59 H locs ls hP hD hS hl
      obtain ⟨y, qb, fc, fd⟩ := xx_
      dsimp only at hI ih59 hP hD hl
      obtain ⟨hy0, hv2⟩ := hI
      have hl : lv_has ls 9 [(8, .int y), (7, .int x14), (6, .int r8), (5, .int r6), (4, .int x), (3, .int lf), (2, .int x3), (0, .ref t), (1, .int p0)] := hl
      have hP : va_P G.1 vwCl [(t, .inr (3, [.ref ta, .ref tq, .int qb, .int se, .int go, .int ki, .int nn])), (ta, .inl (gB G, 15625, .inl fc)), (tq, .inl (gI G, 15625, .inl fd))] H := hP
      have hD : va_D A [(t, .inr (3, [.ref ta, .ref tq, .int qb, .int se, .int go, .int ki, .int nn])), (ta, .inl (gB G, 15625, .inl fc)), (tq, .inl (gI G, 15625, .inl fd))] := hD
      refine lv_iload hx hb dX7_queueBefore_59 (lv_at hl 0 rfl) ?_
      refine lv_iconst (v := 5) hx hb dX7_queueBefore_61 (by decide) ?_
      refine lv_icmp_ge (tgt := 84) hx hb dX7_queueBefore_62 (by decide) (fun c15 => ?_) (fun c15 => ?_)
      · refine lv_iload_n hx hb dX7_queueBefore_84 rfl (lv_at hl 5 rfl) ?_
        refine lv_if_lt (tgt := 128) hx hb dX7_queueBefore_85 (by decide) (fun c16 => ?_) (fun c16 => ?_)
        · refine lv_iload hx hb dX7_queueBefore_128 (lv_at hl 2 rfl) ?_
          refine lv_istore_n (lv' := [(3, .int r8), (8, .int y), (7, .int x14), (6, .int r8), (5, .int r6), (4, .int x), (2, .int x3), (0, .ref t), (1, .int p0)]) hx hb dX7_queueBefore_130 rfl hl (by decide) rfl (fun ls hl => ?_)
          obtain ⟨x17, ex17⟩ : ∃ yy_ : Int32, yy_ = x + 1 := ⟨_, rfl⟩
          refine lv_iinc (v := x17) (lv' := [(4, .int x17), (3, .int r8), (8, .int y), (7, .int x14), (6, .int r8), (5, .int r6), (2, .int x3), (0, .ref t), (1, .int p0)]) hx hb dX7_queueBefore_131 hl (k := 5) rfl (by rw [ex17]; rfl) (by decide) rfl (fun ls hl => ?_)
          refine lv_goto (tgt := 13) hx hb dX7_queueBefore_134 (by decide) ?_
          have hinc13 := inc_lt hlt13 ex17
          refine ih13 (x17, r8, qb, fc, fd) ⟨?_, ?_⟩ (by first | omega | (dsimp only; omega)) H locs ls (hP.sub [0, 1, 2] rfl) (hD.sub [0, 1, 2] (by decide) rfl) hS (lv_sub hl [0, 1, 6, 7, 8] rfl)
          · try dsimp only
            omega
          · try dsimp only
            first | exact w7 | exact w5 | exact w1 | exact hv2 | exact hv1
        · refine lv_iload_n hx hb dX7_queueBefore_88 rfl (lv_at hl 5 rfl) ?_
          refine lv_iload hx hb dX7_queueBefore_89 (lv_at hl 2 rfl) ?_
          refine lv_icmp_eq (tgt := 128) hx hb dX7_queueBefore_91 (by decide) (fun c18 => ?_) (fun c18 => ?_)
          · refine lv_iload hx hb dX7_queueBefore_128 (lv_at hl 2 rfl) ?_
            refine lv_istore_n (lv' := [(3, .int r8), (8, .int y), (7, .int x14), (6, .int r8), (5, .int r6), (4, .int x), (2, .int x3), (0, .ref t), (1, .int p0)]) hx hb dX7_queueBefore_130 rfl hl (by decide) rfl (fun ls hl => ?_)
            obtain ⟨x19, ex19⟩ : ∃ yy_ : Int32, yy_ = x + 1 := ⟨_, rfl⟩
            refine lv_iinc (v := x19) (lv' := [(4, .int x19), (3, .int r8), (8, .int y), (7, .int x14), (6, .int r8), (5, .int r6), (2, .int x3), (0, .ref t), (1, .int p0)]) hx hb dX7_queueBefore_131 hl (k := 5) rfl (by rw [ex19]; rfl) (by decide) rfl (fun ls hl => ?_)
            refine lv_goto (tgt := 13) hx hb dX7_queueBefore_134 (by decide) ?_
            have hinc13 := inc_lt hlt13 ex19
            refine ih13 (x19, r8, qb, fc, fd) ⟨?_, ?_⟩ (by first | omega | (dsimp only; omega)) H locs ls (hP.sub [0, 1, 2] rfl) (hD.sub [0, 1, 2] (by decide) rfl) hS (lv_sub hl [0, 1, 6, 7, 8] rfl)
            · try dsimp only
              omega
            · try dsimp only
              first | exact w7 | exact w5 | exact w1 | exact hv2 | exact hv1
          · refine lv_aload_n hx hb dX7_queueBefore_94 rfl (lv_at hl 7 rfl) ?_
            refine va_get (D := G.1) (ci := 3) (v := .int ki) (C := RX7) (T := TX7) (N := 7) hx hb hts (fun _ h => List.mem_cons_of_mem _ (List.mem_append_right _ h)) hown E.K hP 0 rfl rfl 5 (by decide) (hts (.fieldLink RX7 25 "LastMap$Table" "kinds" "I") (by decide +kernel)) (fun _ h9 => h9) rfl dX7_queueBefore_95 ?_
            refine lv_iconst (v := 1) hx hb dX7_queueBefore_98 (by decide) ?_
            refine lv_ishr hx hb dX7_queueBefore_99 ?_
            refine lv_topi (fun x20 ex20 => ?_)
            refine lv_iconst (v := 1) hx hb dX7_queueBefore_100 (by decide) ?_
            refine lv_iand hx hb dX7_queueBefore_101 ?_
            refine lv_topi (fun x21 ex21 => ?_)
            refine lv_if_eq (tgt := 128) hx hb dX7_queueBefore_102 (by decide) (fun c22 => ?_) (fun c22 => ?_)
            · refine lv_iload hx hb dX7_queueBefore_128 (lv_at hl 2 rfl) ?_
              refine lv_istore_n (lv' := [(3, .int r8), (8, .int y), (7, .int x14), (6, .int r8), (5, .int r6), (4, .int x), (2, .int x3), (0, .ref t), (1, .int p0)]) hx hb dX7_queueBefore_130 rfl hl (by decide) rfl (fun ls hl => ?_)
              obtain ⟨x23, ex23⟩ : ∃ yy_ : Int32, yy_ = x + 1 := ⟨_, rfl⟩
              refine lv_iinc (v := x23) (lv' := [(4, .int x23), (3, .int r8), (8, .int y), (7, .int x14), (6, .int r8), (5, .int r6), (2, .int x3), (0, .ref t), (1, .int p0)]) hx hb dX7_queueBefore_131 hl (k := 5) rfl (by rw [ex23]; rfl) (by decide) rfl (fun ls hl => ?_)
              refine lv_goto (tgt := 13) hx hb dX7_queueBefore_134 (by decide) ?_
              have hinc13 := inc_lt hlt13 ex23
              refine ih13 (x23, r8, qb, fc, fd) ⟨?_, ?_⟩ (by first | omega | (dsimp only; omega)) H locs ls (hP.sub [0, 1, 2] rfl) (hD.sub [0, 1, 2] (by decide) rfl) hS (lv_sub hl [0, 1, 6, 7, 8] rfl)
              · try dsimp only
                omega
              · try dsimp only
                first | exact w7 | exact w5 | exact w1 | exact hv2 | exact hv1
            · refine lv_iconst (v := 5) hx hb dX7_queueBefore_105 (by decide) ?_
              refine lv_iload hx hb dX7_queueBefore_106 (lv_at hl 3 rfl) ?_
              refine lv_imul hx hb dX7_queueBefore_108 ?_
              refine lv_topi (fun x24 ex24 => ?_)
              refine lv_istore (lv' := [(7, .int x24), (8, .int y), (6, .int r8), (5, .int r6), (4, .int x), (3, .int lf), (2, .int x3), (0, .ref t), (1, .int p0)]) hx hb dX7_queueBefore_109 hl (by decide) rfl (fun ls hl => ?_)
              refine lv_aload_n hx hb dX7_queueBefore_111 rfl (lv_at hl 7 rfl) ?_
              refine lv_iload_n hx hb dX7_queueBefore_112 rfl (lv_at hl 8 rfl) ?_
              refine lv_iload hx hb dX7_queueBefore_113 (lv_at hl 2 rfl) ?_
              refine lv_iload_n hx hb dX7_queueBefore_115 rfl (lv_at hl 5 rfl) ?_
              refine lv_isub hx hb dX7_queueBefore_116 ?_
              refine lv_topi (fun x25 ex25 => ?_)
              refine lv_iload hx hb dX7_queueBefore_117 (lv_at hl 0 rfl) ?_
              refine lv_iload hx hb dX7_queueBefore_119 (lv_at hl 3 rfl) ?_
              refine lv_isub hx hb dX7_queueBefore_121 ?_
              refine lv_topi (fun x26 ex26 => ?_)
              refine lv_imul hx hb dX7_queueBefore_122 ?_
              refine lv_topi (fun x27 ex27 => ?_)
              refine lv_iadd hx hb dX7_queueBefore_123 ?_
              refine lv_topi (fun x28 ex28 => ?_)
              refine lv_iload_n hx hb dX7_queueBefore_124 rfl (lv_at hl 6 rfl) ?_
              refine ca_v (wr := []) (va_runV (As := [.int x28, .int x3]) (rest := []) ⟨hx, hb, hml, hown, hts⟩ (c_reach l G H.size t ta tq qb se go ki nn fc fd x28 x3 (by first | exact w7 | exact w5 | exact w1 | exact hv2 | exact hv1)) (cwV 2 hts gX7_queueBefore_X7_reach rfl rfl rfl (by decide +kernel) ⟨by decide +kernel, by decide +kernel⟩) (pre_V E hP hD hS hA [0, 1, 2] (by decide) rfl 0 3 rfl rfl) rfl rfl hl.1 rfl (lv_room (Nat.le_of_ble_eq_true rfl)) dX7_queueBefore_125 ⟨by decide +kernel, by decide +kernel⟩) hS hP hD hA [0, 1, 2] [] rfl rfl (by decide) (by decide) (fun u31 H locs w29 hP hD hS => ?_)
              obtain ⟨qd1_32, fs1_33, fq1_34⟩ := u31
              try dsimp only at w29 hP hD
              have hP := hP.sub (ws' := [(t, .inr (3, [.ref ta, .ref tq, .int qd1_32, .int se, .int go, .int ki, .int nn])), (ta, .inl (gB G, 15625, .inl fs1_33)), (tq, .inl (gI G, 15625, .inl fq1_34))]) [0, 1, 2] rfl
              have hD := hD.sub (ws' := [(t, .inr (3, [.ref ta, .ref tq, .int qd1_32, .int se, .int go, .int ki, .int nn])), (ta, .inl (gB G, 15625, .inl fs1_33)), (tq, .inl (gI G, 15625, .inl fq1_34))]) [0, 1, 2] (by decide) rfl
              refine lv_iload hx hb dX7_queueBefore_128 (lv_at hl 2 rfl) ?_
              refine lv_istore_n (lv' := [(3, .int r8), (7, .int x24), (8, .int y), (6, .int r8), (5, .int r6), (4, .int x), (2, .int x3), (0, .ref t), (1, .int p0)]) hx hb dX7_queueBefore_130 rfl hl (by decide) rfl (fun ls hl => ?_)
              obtain ⟨x35, ex35⟩ : ∃ yy_ : Int32, yy_ = x + 1 := ⟨_, rfl⟩
              refine lv_iinc (v := x35) (lv' := [(4, .int x35), (3, .int r8), (7, .int x24), (8, .int y), (6, .int r8), (5, .int r6), (2, .int x3), (0, .ref t), (1, .int p0)]) hx hb dX7_queueBefore_131 hl (k := 5) rfl (by rw [ex35]; rfl) (by decide) rfl (fun ls hl => ?_)
              refine lv_goto (tgt := 13) hx hb dX7_queueBefore_134 (by decide) ?_
              have hinc13 := inc_lt hlt13 ex35
              refine ih13 (x35, r8, qd1_32, fs1_33, fq1_34) ⟨?_, ?_⟩ (by first | omega | (dsimp only; omega)) H locs ls (hP.sub [0, 1, 2] rfl) (hD.sub [0, 1, 2] (by decide) rfl) hS (lv_sub hl [0, 1, 6, 7, 8] rfl)
              · try dsimp only
                omega
              · try dsimp only
                first | exact w29 | exact w7 | exact w5 | exact w1 | exact hv2 | exact hv1
      · have hlt59 : y.toInt < (5 : Int32).toInt := by ((try simp only [inR, inS, i3_lt, i3_le, i3_eq, i6_lt, i6_le, Int32.toInt_toInt64, lg_cmp_lt, lg_cmp_gt, lg_cmp_ge, lg_cmp_le, Int32.reduceToInt, Int64.reduceToInt] at c15 ⊢); omega)
        refine lv_aload_n hx hb dX7_queueBefore_65 rfl (lv_at hl 7 rfl) ?_
        refine lv_iload hx hb dX7_queueBefore_66 (lv_at hl 1 rfl) ?_
        refine lv_iload hx hb dX7_queueBefore_68 (lv_at hl 0 rfl) ?_
        refine lv_iload hx hb dX7_queueBefore_70 (lv_at hl 3 rfl) ?_
        refine lv_imul hx hb dX7_queueBefore_72 ?_
        refine lv_topi (fun x36 ex36 => ?_)
        refine lv_iadd hx hb dX7_queueBefore_73 ?_
        refine lv_topi (fun x37 ex37 => ?_)
        refine lv_iload_n hx hb dX7_queueBefore_74 rfl (lv_at hl 6 rfl) ?_
        refine ca_v (wr := []) (va_runV (As := [.int x37, .int x3]) (rest := []) ⟨hx, hb, hml, hown, hts⟩ (c_reach l G H.size t ta tq qb se go ki nn fc fd x37 x3 (by first | exact w7 | exact w5 | exact w1 | exact hv2 | exact hv1)) (cwV 2 hts gX7_queueBefore_X7_reach rfl rfl rfl (by decide +kernel) ⟨by decide +kernel, by decide +kernel⟩) (pre_V E hP hD hS hA [0, 1, 2] (by decide) rfl 0 3 rfl rfl) rfl rfl hl.1 rfl (lv_room (Nat.le_of_ble_eq_true rfl)) dX7_queueBefore_75 ⟨by decide +kernel, by decide +kernel⟩) hS hP hD hA [0, 1, 2] [] rfl rfl (by decide) (by decide) (fun u40 H locs w38 hP hD hS => ?_)
        obtain ⟨qd1_41, fs1_42, fq1_43⟩ := u40
        try dsimp only at w38 hP hD
        have hP := hP.sub (ws' := [(t, .inr (3, [.ref ta, .ref tq, .int qd1_41, .int se, .int go, .int ki, .int nn])), (ta, .inl (gB G, 15625, .inl fs1_42)), (tq, .inl (gI G, 15625, .inl fq1_43))]) [0, 1, 2] rfl
        have hD := hD.sub (ws' := [(t, .inr (3, [.ref ta, .ref tq, .int qd1_41, .int se, .int go, .int ki, .int nn])), (ta, .inl (gB G, 15625, .inl fs1_42)), (tq, .inl (gI G, 15625, .inl fq1_43))]) [0, 1, 2] (by decide) rfl
        obtain ⟨x44, ex44⟩ : ∃ yy_ : Int32, yy_ = y + 1 := ⟨_, rfl⟩
        refine lv_iinc (v := x44) (lv' := [(8, .int x44), (7, .int x14), (6, .int r8), (5, .int r6), (4, .int x), (3, .int lf), (2, .int x3), (0, .ref t), (1, .int p0)]) hx hb dX7_queueBefore_78 hl (k := 0) rfl (by rw [ex44]; rfl) (by decide) rfl (fun ls hl => ?_)
        refine lv_goto (tgt := 59) hx hb dX7_queueBefore_81 (by decide) ?_
        have hinc59 := inc_lt hlt59 ex44
        refine ih59 (x44, qd1_41, fs1_42, fq1_43) ⟨?_, ?_⟩ (by first | omega | (dsimp only; omega)) H locs ls (hP.sub [0, 1, 2] rfl) (hD.sub [0, 1, 2] (by decide) rfl) hS (lv_sub hl [0, 1, 2, 3, 4, 5, 6, 7, 8] rfl)
        · try dsimp only
          omega
        · try dsimp only
          first | exact w38 | exact w7 | exact w5 | exact w1 | exact hv2
    · refine lv_if_eq (tgt := 84) hx hb dX7_queueBefore_44 (by decide) (fun _ => ?_) (fun c45 => False.elim (by revert c45; decide))
      refine lv_iload_n hx hb dX7_queueBefore_84 rfl (lv_at hl 3 rfl) ?_
      refine lv_if_lt (tgt := 128) hx hb dX7_queueBefore_85 (by decide) (fun c46 => ?_) (fun c46 => ?_)
      · refine lv_iload hx hb dX7_queueBefore_128 (lv_at hl 0 rfl) ?_
        refine lv_istore_n (lv' := [(3, .int r8), (6, .int r8), (5, .int r6), (4, .int x), (2, .int x3), (0, .ref t), (1, .int p0)]) hx hb dX7_queueBefore_130 rfl hl (by decide) rfl (fun ls hl => ?_)
        obtain ⟨x47, ex47⟩ : ∃ yy_ : Int32, yy_ = x + 1 := ⟨_, rfl⟩
        refine lv_iinc (v := x47) (lv' := [(4, .int x47), (3, .int r8), (6, .int r8), (5, .int r6), (2, .int x3), (0, .ref t), (1, .int p0)]) hx hb dX7_queueBefore_131 hl (k := 3) rfl (by rw [ex47]; rfl) (by decide) rfl (fun ls hl => ?_)
        refine lv_goto (tgt := 13) hx hb dX7_queueBefore_134 (by decide) ?_
        have hinc13 := inc_lt hlt13 ex47
        refine ih13 (x47, r8, qa, fa, fb) ⟨?_, ?_⟩ (by first | omega | (dsimp only; omega)) H locs ls (hP.sub [0, 1, 2] rfl) (hD.sub [0, 1, 2] (by decide) rfl) hS (lv_sub hl [0, 1, 4, 5, 6] rfl)
        · try dsimp only
          omega
        · try dsimp only
          first | exact w7 | exact w5 | exact w1 | exact hv2 | exact hv1
      · refine lv_iload_n hx hb dX7_queueBefore_88 rfl (lv_at hl 3 rfl) ?_
        refine lv_iload hx hb dX7_queueBefore_89 (lv_at hl 0 rfl) ?_
        refine lv_icmp_eq (tgt := 128) hx hb dX7_queueBefore_91 (by decide) (fun c48 => ?_) (fun c48 => ?_)
        · refine lv_iload hx hb dX7_queueBefore_128 (lv_at hl 0 rfl) ?_
          refine lv_istore_n (lv' := [(3, .int r8), (6, .int r8), (5, .int r6), (4, .int x), (2, .int x3), (0, .ref t), (1, .int p0)]) hx hb dX7_queueBefore_130 rfl hl (by decide) rfl (fun ls hl => ?_)
          obtain ⟨x49, ex49⟩ : ∃ yy_ : Int32, yy_ = x + 1 := ⟨_, rfl⟩
          refine lv_iinc (v := x49) (lv' := [(4, .int x49), (3, .int r8), (6, .int r8), (5, .int r6), (2, .int x3), (0, .ref t), (1, .int p0)]) hx hb dX7_queueBefore_131 hl (k := 3) rfl (by rw [ex49]; rfl) (by decide) rfl (fun ls hl => ?_)
          refine lv_goto (tgt := 13) hx hb dX7_queueBefore_134 (by decide) ?_
          have hinc13 := inc_lt hlt13 ex49
          refine ih13 (x49, r8, qa, fa, fb) ⟨?_, ?_⟩ (by first | omega | (dsimp only; omega)) H locs ls (hP.sub [0, 1, 2] rfl) (hD.sub [0, 1, 2] (by decide) rfl) hS (lv_sub hl [0, 1, 4, 5, 6] rfl)
          · try dsimp only
            omega
          · try dsimp only
            first | exact w7 | exact w5 | exact w1 | exact hv2 | exact hv1
        · refine lv_aload_n hx hb dX7_queueBefore_94 rfl (lv_at hl 5 rfl) ?_
          refine va_get (D := G.1) (ci := 3) (v := .int ki) (C := RX7) (T := TX7) (N := 7) hx hb hts (fun _ h => List.mem_cons_of_mem _ (List.mem_append_right _ h)) hown E.K hP 0 rfl rfl 5 (by decide) (hts (.fieldLink RX7 25 "LastMap$Table" "kinds" "I") (by decide +kernel)) (fun _ h9 => h9) rfl dX7_queueBefore_95 ?_
          refine lv_iconst (v := 1) hx hb dX7_queueBefore_98 (by decide) ?_
          refine lv_ishr hx hb dX7_queueBefore_99 ?_
          refine lv_topi (fun x50 ex50 => ?_)
          refine lv_iconst (v := 1) hx hb dX7_queueBefore_100 (by decide) ?_
          refine lv_iand hx hb dX7_queueBefore_101 ?_
          refine lv_topi (fun x51 ex51 => ?_)
          refine lv_if_eq (tgt := 128) hx hb dX7_queueBefore_102 (by decide) (fun c52 => ?_) (fun c52 => ?_)
          · refine lv_iload hx hb dX7_queueBefore_128 (lv_at hl 0 rfl) ?_
            refine lv_istore_n (lv' := [(3, .int r8), (6, .int r8), (5, .int r6), (4, .int x), (2, .int x3), (0, .ref t), (1, .int p0)]) hx hb dX7_queueBefore_130 rfl hl (by decide) rfl (fun ls hl => ?_)
            obtain ⟨x53, ex53⟩ : ∃ yy_ : Int32, yy_ = x + 1 := ⟨_, rfl⟩
            refine lv_iinc (v := x53) (lv' := [(4, .int x53), (3, .int r8), (6, .int r8), (5, .int r6), (2, .int x3), (0, .ref t), (1, .int p0)]) hx hb dX7_queueBefore_131 hl (k := 3) rfl (by rw [ex53]; rfl) (by decide) rfl (fun ls hl => ?_)
            refine lv_goto (tgt := 13) hx hb dX7_queueBefore_134 (by decide) ?_
            have hinc13 := inc_lt hlt13 ex53
            refine ih13 (x53, r8, qa, fa, fb) ⟨?_, ?_⟩ (by first | omega | (dsimp only; omega)) H locs ls (hP.sub [0, 1, 2] rfl) (hD.sub [0, 1, 2] (by decide) rfl) hS (lv_sub hl [0, 1, 4, 5, 6] rfl)
            · try dsimp only
              omega
            · try dsimp only
              first | exact w7 | exact w5 | exact w1 | exact hv2 | exact hv1
          · refine lv_iconst (v := 5) hx hb dX7_queueBefore_105 (by decide) ?_
            refine lv_iload hx hb dX7_queueBefore_106 (lv_at hl 1 rfl) ?_
            refine lv_imul hx hb dX7_queueBefore_108 ?_
            refine lv_topi (fun x54 ex54 => ?_)
            refine lv_istore (lv' := [(7, .int x54), (6, .int r8), (5, .int r6), (4, .int x), (3, .int lf), (2, .int x3), (0, .ref t), (1, .int p0)]) hx hb dX7_queueBefore_109 hl (by decide) rfl (fun ls hl => ?_)
            refine lv_aload_n hx hb dX7_queueBefore_111 rfl (lv_at hl 6 rfl) ?_
            refine lv_iload_n hx hb dX7_queueBefore_112 rfl (lv_at hl 7 rfl) ?_
            refine lv_iload hx hb dX7_queueBefore_113 (lv_at hl 1 rfl) ?_
            refine lv_iload_n hx hb dX7_queueBefore_115 rfl (lv_at hl 4 rfl) ?_
            refine lv_isub hx hb dX7_queueBefore_116 ?_
            refine lv_topi (fun x55 ex55 => ?_)
            refine lv_iload hx hb dX7_queueBefore_117 (lv_at hl 0 rfl) ?_
            refine lv_iload hx hb dX7_queueBefore_119 (lv_at hl 2 rfl) ?_
            refine lv_isub hx hb dX7_queueBefore_121 ?_
            refine lv_topi (fun x56 ex56 => ?_)
            refine lv_imul hx hb dX7_queueBefore_122 ?_
            refine lv_topi (fun x57 ex57 => ?_)
            refine lv_iadd hx hb dX7_queueBefore_123 ?_
            refine lv_topi (fun x58 ex58 => ?_)
            refine lv_iload_n hx hb dX7_queueBefore_124 rfl (lv_at hl 5 rfl) ?_
            refine ca_v (wr := []) (va_runV (As := [.int x58, .int x3]) (rest := []) ⟨hx, hb, hml, hown, hts⟩ (c_reach l G H.size t ta tq qa se go ki nn fa fb x58 x3 (by first | exact w7 | exact w5 | exact w1 | exact hv2 | exact hv1)) (cwV 2 hts gX7_queueBefore_X7_reach rfl rfl rfl (by decide +kernel) ⟨by decide +kernel, by decide +kernel⟩) (pre_V E hP hD hS hA [0, 1, 2] (by decide) rfl 0 3 rfl rfl) rfl rfl hl.1 rfl (lv_room (Nat.le_of_ble_eq_true rfl)) dX7_queueBefore_125 ⟨by decide +kernel, by decide +kernel⟩) hS hP hD hA [0, 1, 2] [] rfl rfl (by decide) (by decide) (fun u61 H locs w59 hP hD hS => ?_)
            obtain ⟨qd1_62, fs1_63, fq1_64⟩ := u61
            try dsimp only at w59 hP hD
            have hP := hP.sub (ws' := [(t, .inr (3, [.ref ta, .ref tq, .int qd1_62, .int se, .int go, .int ki, .int nn])), (ta, .inl (gB G, 15625, .inl fs1_63)), (tq, .inl (gI G, 15625, .inl fq1_64))]) [0, 1, 2] rfl
            have hD := hD.sub (ws' := [(t, .inr (3, [.ref ta, .ref tq, .int qd1_62, .int se, .int go, .int ki, .int nn])), (ta, .inl (gB G, 15625, .inl fs1_63)), (tq, .inl (gI G, 15625, .inl fq1_64))]) [0, 1, 2] (by decide) rfl
            refine lv_iload hx hb dX7_queueBefore_128 (lv_at hl 1 rfl) ?_
            refine lv_istore_n (lv' := [(3, .int r8), (7, .int x54), (6, .int r8), (5, .int r6), (4, .int x), (2, .int x3), (0, .ref t), (1, .int p0)]) hx hb dX7_queueBefore_130 rfl hl (by decide) rfl (fun ls hl => ?_)
            obtain ⟨x65, ex65⟩ : ∃ yy_ : Int32, yy_ = x + 1 := ⟨_, rfl⟩
            refine lv_iinc (v := x65) (lv' := [(4, .int x65), (3, .int r8), (7, .int x54), (6, .int r8), (5, .int r6), (2, .int x3), (0, .ref t), (1, .int p0)]) hx hb dX7_queueBefore_131 hl (k := 4) rfl (by rw [ex65]; rfl) (by decide) rfl (fun ls hl => ?_)
            refine lv_goto (tgt := 13) hx hb dX7_queueBefore_134 (by decide) ?_
            have hinc13 := inc_lt hlt13 ex65
            refine ih13 (x65, r8, qd1_62, fs1_63, fq1_64) ⟨?_, ?_⟩ (by first | omega | (dsimp only; omega)) H locs ls (hP.sub [0, 1, 2] rfl) (hD.sub [0, 1, 2] (by decide) rfl) hS (lv_sub hl [0, 1, 5, 6, 7] rfl)
            · try dsimp only
              omega
            · try dsimp only
              first | exact w59 | exact w7 | exact w5 | exact w1 | exact hv2 | exact hv1
