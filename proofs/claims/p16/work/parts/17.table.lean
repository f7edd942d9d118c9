set_option maxHeartbeats 1000000 in
set_option maxRecDepth 100000 in
theorem c_isFor (l : Launch) (G : Gy) (sz : Nat) (t : Nat) (ta : Nat) (tq : Nat) (qd : Int32) (se : Int32) (go : Int32) (ki : Int32) (nn : Int32) (fs : Nat → Int32) (fq : Nat → Int32) (p0 : Int32) (p1 : Int32) (p2 : Int32)  : Ci l G yX7_isFor wsX7_isFor ({ frames := 0, cells := 0, slots := 0, locals := 0 }) [.ref t, .int p0, .int p1, .int p2] [(t, .inr (3, [.ref ta, .ref tq, .int qd, .int se, .int go, .int ki, .int nn])), (ta, .inl (gB G, 15625, .inl fs)), (tq, .inl (gI G, 15625, .inl fq))] sz (fun (r : Int32) (_ : Unit) => (r = 1 ∧ (go = p0 ∧ ki = p1 ∧ nn = p2)) ∨ (r = 0 ∧ ¬ (go = p0 ∧ ki = p1 ∧ nn = p2))) (fun (_ : Unit) => [(t, .inr (3, [.ref ta, .ref tq, .int qd, .int se, .int go, .int ki, .int nn])), (ta, .inl (gB G, 15625, .inl fs)), (tq, .inl (gI G, 15625, .inl fq))]) 0 0 := by
  refine Met.ofW (cc := cX7_isFor) (maxL := 4) (ret := (some .boolean)) (by decide) rfl ?_
  intro p e s m args below meth c s₁ B hml hv
  obtain ⟨rfl, hsz, hP, hD0, E0⟩ := hv
  have hx := B.exec
  have hb := B.bytes
  have hr := B.returns
  have hts := atoms_spec (ws := wsX7_isFor) B.pre
  have hown : s.vm.findClass RX7 = some m.cls := findClass_of_methodNamed B.named
  have hlocks := B.notSynchronized
  subst hsz
  have hD := hD0.self (sz := s.heap.size)
  generalize hAe : va_A [(t, .inr (3, [.ref ta, .ref tq, .int qd, .int se, .int go, .int ki, .int nn])), (ta, .inl (gB G, 15625, .inl fs)), (tq, .inl (gI G, 15625, .inl fq))] s.heap.size = A at hD E0 ⊢
  have E : EV G A s s.heap := E0
  have hA : ∀ q : Nat, s.heap.size ≤ q → A q := fun q h => by rw [← hAe]; exact Or.inr h
  have hS : va_S A s.heap s.heap [] := va_S.rf
  have hl := lv_entry ([.ref t, .int p0, .int p1, .int p2]) (n := 4) (Nat.le_of_ble_eq_true rfl)
  rw [lg_entry_eq]
  generalize (lg_sl ([.ref t, .int p0, .int p1, .int p2]) ++ List.replicate (4 - (lg_sl ([.ref t, .int p0, .int p1, .int p2])).length) Slot.unset).toArray = ls at hl ⊢
  have hl : lv_has ls 4 [(0, .ref t), (1, .int p0), (2, .int p1), (3, .int p2)] := hl
  have hP : va_P G.1 vwCl [(t, .inr (3, [.ref ta, .ref tq, .int qd, .int se, .int go, .int ki, .int nn])), (ta, .inl (gB G, 15625, .inl fs)), (tq, .inl (gI G, 15625, .inl fq))] s.heap := hP
  refine lv_aload_n hx hb dX7_isFor_0 rfl (lv_at hl 0 rfl) ?_
  refine va_get (D := G.1) (ci := 3) (v := .int go) (C := RX7) (T := TX7) (N := 7) hx hb hts (fun _ h => List.mem_cons_of_mem _ (List.mem_append_right _ h)) hown E.K hP 0 rfl rfl 4 (by decide) (hts (.fieldLink RX7 21 "LastMap$Table" "goal" "I") (by decide +kernel)) (fun _ h9 => h9) rfl dX7_isFor_1 ?_
  refine lv_iload_n hx hb dX7_isFor_4 rfl (lv_at hl 1 rfl) ?_
  refine lv_icmp_ne (tgt := 28) hx hb dX7_isFor_5 (by decide) (fun c1 => ?_) (fun c1 => ?_)
  · refine lv_iconst (v := 0) hx hb dX7_isFor_28 (by decide) ?_
    have hP9 := hP.sub (ws' := [(t, .inr (3, [.ref ta, .ref tq, .int qd, .int se, .int go, .int ki, .int nn])), (ta, .inl (gB G, 15625, .inl fs)), (tq, .inl (gI G, 15625, .inl fq))]) [0, 1, 2] rfl
    have hD9 := hD.sub (ws' := [(t, .inr (3, [.ref ta, .ref tq, .int qd, .int se, .int go, .int ki, .int nn])), (ta, .inl (gB G, 15625, .inl fs)), (tq, .inl (gI G, 15625, .inl fq))]) [0, 1, 2] (by decide) rfl
    exact W.zret (v := 0) hx hb hr (by decide) (fun t ht hW => ⟨⟨0, (), rfl, Or.inr ⟨rfl, by ((try simp only [inR, inS, i3_lt, i3_le, i3_eq, i6_lt, i6_le, Int32.toInt_toInt64, lg_cmp_lt, lg_cmp_gt, lg_cmp_ge, lg_cmp_le, Int32.reduceToInt, Int64.reduceToInt] at c1 ⊢); omega)⟩, by rw [ht]; exact hP9, hD9⟩, hS.F ht⟩) hS.2.2 dX7_isFor_29
  · refine lv_aload_n hx hb dX7_isFor_8 rfl (lv_at hl 0 rfl) ?_
    refine va_get (D := G.1) (ci := 3) (v := .int ki) (C := RX7) (T := TX7) (N := 7) hx hb hts (fun _ h => List.mem_cons_of_mem _ (List.mem_append_right _ h)) hown E.K hP 0 rfl rfl 5 (by decide) (hts (.fieldLink RX7 25 "LastMap$Table" "kinds" "I") (by decide +kernel)) (fun _ h9 => h9) rfl dX7_isFor_9 ?_
    refine lv_iload_n hx hb dX7_isFor_12 rfl (lv_at hl 2 rfl) ?_
    refine lv_icmp_ne (tgt := 28) hx hb dX7_isFor_13 (by decide) (fun c2 => ?_) (fun c2 => ?_)
    · refine lv_iconst (v := 0) hx hb dX7_isFor_28 (by decide) ?_
      have hP9 := hP.sub (ws' := [(t, .inr (3, [.ref ta, .ref tq, .int qd, .int se, .int go, .int ki, .int nn])), (ta, .inl (gB G, 15625, .inl fs)), (tq, .inl (gI G, 15625, .inl fq))]) [0, 1, 2] rfl
      have hD9 := hD.sub (ws' := [(t, .inr (3, [.ref ta, .ref tq, .int qd, .int se, .int go, .int ki, .int nn])), (ta, .inl (gB G, 15625, .inl fs)), (tq, .inl (gI G, 15625, .inl fq))]) [0, 1, 2] (by decide) rfl
      exact W.zret (v := 0) hx hb hr (by decide) (fun t ht hW => ⟨⟨0, (), rfl, Or.inr ⟨rfl, by ((try simp only [inR, inS, i3_lt, i3_le, i3_eq, i6_lt, i6_le, Int32.toInt_toInt64, lg_cmp_lt, lg_cmp_gt, lg_cmp_ge, lg_cmp_le, Int32.reduceToInt, Int64.reduceToInt] at c1 c2 ⊢); omega)⟩, by rw [ht]; exact hP9, hD9⟩, hS.F ht⟩) hS.2.2 dX7_isFor_29
    · refine lv_aload_n hx hb dX7_isFor_16 rfl (lv_at hl 0 rfl) ?_
      refine va_get (D := G.1) (ci := 3) (v := .int nn) (C := RX7) (T := TX7) (N := 7) hx hb hts (fun _ h => List.mem_cons_of_mem _ (List.mem_append_right _ h)) hown E.K hP 0 rfl rfl 6 (by decide) (hts (.fieldLink RX7 28 "LastMap$Table" "n" "I") (by decide +kernel)) (fun _ h9 => h9) rfl dX7_isFor_17 ?_
      refine lv_iload_n hx hb dX7_isFor_20 rfl (lv_at hl 3 rfl) ?_
      refine lv_icmp_ne (tgt := 28) hx hb dX7_isFor_21 (by decide) (fun c3 => ?_) (fun c3 => ?_)
      · refine lv_iconst (v := 0) hx hb dX7_isFor_28 (by decide) ?_
        have hP9 := hP.sub (ws' := [(t, .inr (3, [.ref ta, .ref tq, .int qd, .int se, .int go, .int ki, .int nn])), (ta, .inl (gB G, 15625, .inl fs)), (tq, .inl (gI G, 15625, .inl fq))]) [0, 1, 2] rfl
        have hD9 := hD.sub (ws' := [(t, .inr (3, [.ref ta, .ref tq, .int qd, .int se, .int go, .int ki, .int nn])), (ta, .inl (gB G, 15625, .inl fs)), (tq, .inl (gI G, 15625, .inl fq))]) [0, 1, 2] (by decide) rfl
        exact W.zret (v := 0) hx hb hr (by decide) (fun t ht hW => ⟨⟨0, (), rfl, Or.inr ⟨rfl, by ((try simp only [inR, inS, i3_lt, i3_le, i3_eq, i6_lt, i6_le, Int32.toInt_toInt64, lg_cmp_lt, lg_cmp_gt, lg_cmp_ge, lg_cmp_le, Int32.reduceToInt, Int64.reduceToInt] at c1 c2 c3 ⊢); omega)⟩, by rw [ht]; exact hP9, hD9⟩, hS.F ht⟩) hS.2.2 dX7_isFor_29
      · refine lv_iconst (v := 1) hx hb dX7_isFor_24 (by decide) ?_
        refine lv_goto (tgt := 29) hx hb dX7_isFor_25 (by decide) ?_
        have hP9 := hP.sub (ws' := [(t, .inr (3, [.ref ta, .ref tq, .int qd, .int se, .int go, .int ki, .int nn])), (ta, .inl (gB G, 15625, .inl fs)), (tq, .inl (gI G, 15625, .inl fq))]) [0, 1, 2] rfl
        have hD9 := hD.sub (ws' := [(t, .inr (3, [.ref ta, .ref tq, .int qd, .int se, .int go, .int ki, .int nn])), (ta, .inl (gB G, 15625, .inl fs)), (tq, .inl (gI G, 15625, .inl fq))]) [0, 1, 2] (by decide) rfl
        exact W.zret (v := 1) hx hb hr (by decide) (fun t ht hW => ⟨⟨1, (), rfl, Or.inl ⟨rfl, by ((try simp only [inR, inS, i3_lt, i3_le, i3_eq, i6_lt, i6_le, Int32.toInt_toInt64, lg_cmp_lt, lg_cmp_gt, lg_cmp_ge, lg_cmp_le, Int32.reduceToInt, Int64.reduceToInt] at c1 c2 c3 ⊢); omega)⟩, by rw [ht]; exact hP9, hD9⟩, hS.F ht⟩) hS.2.2 dX7_isFor_29

set_option maxHeartbeats 1000000 in
set_option maxRecDepth 100000 in
theorem c_known (l : Launch) (G : Gy) (sz : Nat) (t : Nat) (ta : Nat) (tq : Nat) (qd : Int32) (se : Int32) (go : Int32) (ki : Int32) (nn : Int32) (fs : Nat → Int32) (fq : Nat → Int32) (p0 : Int32)  : Ci l G yX7_known wsX7_known ({ frames := 0, cells := 0, slots := 0, locals := 0 }) [.ref t, .int p0] [(t, .inr (3, [.ref ta, .ref tq, .int qd, .int se, .int go, .int ki, .int nn])), (ta, .inl (gB G, 15625, .inl fs)), (tq, .inl (gI G, 15625, .inl fq))] sz (fun (r : Int32) (_ : Unit) => r = cIf (inR p0 0 15624) (fs p0.toNatClampNeg) (-6)) (fun (_ : Unit) => [(t, .inr (3, [.ref ta, .ref tq, .int qd, .int se, .int go, .int ki, .int nn])), (ta, .inl (gB G, 15625, .inl fs)), (tq, .inl (gI G, 15625, .inl fq))]) 0 0 := by
  refine Met.ofW (cc := cX7_known) (maxL := 2) (ret := (some .int)) (by decide) rfl ?_
  intro p e s m args below meth c s₁ B hml hv
  obtain ⟨rfl, hsz, hP, hD0, E0⟩ := hv
  have hx := B.exec
  have hb := B.bytes
  have hr := B.returns
  have hts := atoms_spec (ws := wsX7_known) B.pre
  have hown : s.vm.findClass RX7 = some m.cls := findClass_of_methodNamed B.named
  have hlocks := B.notSynchronized
  subst hsz
  have hD := hD0.self (sz := s.heap.size)
  generalize hAe : va_A [(t, .inr (3, [.ref ta, .ref tq, .int qd, .int se, .int go, .int ki, .int nn])), (ta, .inl (gB G, 15625, .inl fs)), (tq, .inl (gI G, 15625, .inl fq))] s.heap.size = A at hD E0 ⊢
  have E : EV G A s s.heap := E0
  have hA : ∀ q : Nat, s.heap.size ≤ q → A q := fun q h => by rw [← hAe]; exact Or.inr h
  have hS : va_S A s.heap s.heap [] := va_S.rf
  have hl := lv_entry ([.ref t, .int p0]) (n := 2) (Nat.le_of_ble_eq_true rfl)
  rw [lg_entry_eq]
  generalize (lg_sl ([.ref t, .int p0]) ++ List.replicate (2 - (lg_sl ([.ref t, .int p0])).length) Slot.unset).toArray = ls at hl ⊢
  have hl : lv_has ls 2 [(0, .ref t), (1, .int p0)] := hl
  have hP : va_P G.1 vwCl [(t, .inr (3, [.ref ta, .ref tq, .int qd, .int se, .int go, .int ki, .int nn])), (ta, .inl (gB G, 15625, .inl fs)), (tq, .inl (gI G, 15625, .inl fq))] s.heap := hP
  refine lv_iload_n hx hb dX7_known_0 rfl (lv_at hl 1 rfl) ?_
  refine lv_if_lt (tgt := 22) hx hb dX7_known_1 (by decide) (fun c1 => ?_) (fun c1 => ?_)
  · refine lv_bipush (v := (-6)) hx hb dX7_known_22 (by decide) ?_
    have hP9 := hP.sub (ws' := [(t, .inr (3, [.ref ta, .ref tq, .int qd, .int se, .int go, .int ki, .int nn])), (ta, .inl (gB G, 15625, .inl fs)), (tq, .inl (gI G, 15625, .inl fq))]) [0, 1, 2] rfl
    have hD9 := hD.sub (ws' := [(t, .inr (3, [.ref ta, .ref tq, .int qd, .int se, .int go, .int ki, .int nn])), (ta, .inl (gB G, 15625, .inl fs)), (tq, .inl (gI G, 15625, .inl fq))]) [0, 1, 2] (by decide) rfl
    exact W.iret (v := (-6)) hx hb hr (fun t ht hW => ⟨⟨(-6), (), rfl, (cIf_f (by ((try simp only [inR, inS, i3_lt, i3_le, i3_eq, i6_lt, i6_le, Int32.toInt_toInt64, lg_cmp_lt, lg_cmp_gt, lg_cmp_ge, lg_cmp_le, Int32.reduceToInt, Int64.reduceToInt] at c1 ⊢); omega))).symm, by rw [ht]; exact hP9, hD9⟩, hS.F ht⟩) hS.2.2 dX7_known_24
  · refine lv_iload_n hx hb dX7_known_4 rfl (lv_at hl 1 rfl) ?_
    refine lv_aload_n hx hb dX7_known_5 rfl (lv_at hl 0 rfl) ?_
    refine va_get (D := G.1) (ci := 3) (v := .ref ta) (C := RX7) (T := TX7) (N := 7) hx hb hts (fun _ h => List.mem_cons_of_mem _ (List.mem_append_right _ h)) hown E.K hP 0 rfl rfl 0 (by decide) (hts (.fieldLink RX7 11 "LastMap$Table" "slips" "[B") (by decide +kernel)) (fun _ h9 => h9) rfl dX7_known_6 ?_
    refine va_alen (v := 15625) hx hb E.K hP 1 0 rfl rfl rfl dX7_known_9 ?_
    refine lv_icmp_ge (tgt := 22) hx hb dX7_known_10 (by decide) (fun c2 => ?_) (fun c2 => ?_)
    · refine lv_bipush (v := (-6)) hx hb dX7_known_22 (by decide) ?_
      have hP9 := hP.sub (ws' := [(t, .inr (3, [.ref ta, .ref tq, .int qd, .int se, .int go, .int ki, .int nn])), (ta, .inl (gB G, 15625, .inl fs)), (tq, .inl (gI G, 15625, .inl fq))]) [0, 1, 2] rfl
      have hD9 := hD.sub (ws' := [(t, .inr (3, [.ref ta, .ref tq, .int qd, .int se, .int go, .int ki, .int nn])), (ta, .inl (gB G, 15625, .inl fs)), (tq, .inl (gI G, 15625, .inl fq))]) [0, 1, 2] (by decide) rfl
      exact W.iret (v := (-6)) hx hb hr (fun t ht hW => ⟨⟨(-6), (), rfl, (cIf_f (by ((try simp only [inR, inS, i3_lt, i3_le, i3_eq, i6_lt, i6_le, Int32.toInt_toInt64, lg_cmp_lt, lg_cmp_gt, lg_cmp_ge, lg_cmp_le, Int32.reduceToInt, Int64.reduceToInt] at c1 c2 ⊢); omega))).symm, by rw [ht]; exact hP9, hD9⟩, hS.F ht⟩) hS.2.2 dX7_known_24
    · refine lv_aload_n hx hb dX7_known_13 rfl (lv_at hl 0 rfl) ?_
      refine va_get (D := G.1) (ci := 3) (v := .ref ta) (C := RX7) (T := TX7) (N := 7) hx hb hts (fun _ h => List.mem_cons_of_mem _ (List.mem_append_right _ h)) hown E.K hP 0 rfl rfl 0 (by decide) (hts (.fieldLink RX7 11 "LastMap$Table" "slips" "[B") (by decide +kernel)) (fun _ h9 => h9) rfl dX7_known_14 ?_
      refine lv_iload_n hx hb dX7_known_17 rfl (lv_at hl 1 rfl) ?_
      refine va_bald hx hb E.K hP 1 0 rfl rfl (i := p0) (vp_in_iff.mpr (by ((try simp only [inR, inS, i3_lt, i3_le, i3_eq, i6_lt, i6_le, Int32.toInt_toInt64, lg_cmp_lt, lg_cmp_gt, lg_cmp_ge, lg_cmp_le, Int32.reduceToInt, Int64.reduceToInt] at c1 c2 ⊢); omega))) dX7_known_18 ?_
      refine lv_topi (fun x3 ex3 => ?_)
      refine lv_goto (tgt := 24) hx hb dX7_known_19 (by decide) ?_
      have hP9 := hP.sub (ws' := [(t, .inr (3, [.ref ta, .ref tq, .int qd, .int se, .int go, .int ki, .int nn])), (ta, .inl (gB G, 15625, .inl fs)), (tq, .inl (gI G, 15625, .inl fq))]) [0, 1, 2] rfl
      have hD9 := hD.sub (ws' := [(t, .inr (3, [.ref ta, .ref tq, .int qd, .int se, .int go, .int ki, .int nn])), (ta, .inl (gB G, 15625, .inl fs)), (tq, .inl (gI G, 15625, .inl fq))]) [0, 1, 2] (by decide) rfl
      exact W.iret (v := x3) hx hb hr (fun t ht hW => ⟨⟨x3, (), rfl, by rw [ex3]; exact (cIf_t (by ((try simp only [inR, inS, i3_lt, i3_le, i3_eq, i6_lt, i6_le, Int32.toInt_toInt64, lg_cmp_lt, lg_cmp_gt, lg_cmp_ge, lg_cmp_le, Int32.reduceToInt, Int64.reduceToInt] at c1 c2 ⊢); omega))).symm, by rw [ht]; exact hP9, hD9⟩, hS.F ht⟩) hS.2.2 dX7_known_24
