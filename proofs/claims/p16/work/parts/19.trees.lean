set_option maxHeartbeats 1000000 in
set_option maxRecDepth 100000 in
theorem c_Trees (l : Launch) (G : Gy) (sz : Nat) (tr : Nat)  : Cv l G yX8_init wsX8_init ({ frames := 1, cells := 3, slots := 48, locals := 12 }) [.ref tr] [(tr, .inr (4, [.null, .null, .null, .int 0, .int 0]))] sz (fun (u : Nat × Nat × Nat) => match u with | (us1, uf1, ub1) => True) (fun (u : Nat × Nat × Nat) => match u with | (us1, uf1, ub1) => [(tr, .inr (4, [.ref us1, .ref uf1, .ref ub1, .int 0, .int 0])), (us1, .inl (gI G, 36, .inl (fun _ => 0))), (uf1, .inl (gI G, 6, .inl (fun _ => 0))), (ub1, .inl (gI G, 6, .inl (fun _ => 0)))]) 3 48 := by
  refine Met.ofW (cc := cX8_init) (maxL := 1) (ret := none) (by decide) rfl ?_
  intro p e s m args below meth c s₁ B hml hv
  obtain ⟨rfl, hsz, hP, hD0, E0⟩ := hv
  have hx := B.exec
  have hb := B.bytes
  have hr := B.returns
  have hts := atoms_spec (ws := wsX8_init) B.pre
  have hown : s.vm.findClass RX8 = some m.cls := findClass_of_methodNamed B.named
  have hlocks := B.notSynchronized
  have hin : meth.name = "<init>" := (name_of_methodNamed B.named B.method).1
  subst hsz
  have hD := hD0.self (sz := s.heap.size)
  generalize hAe : va_A [(tr, .inr (4, [.null, .null, .null, .int 0, .int 0]))] s.heap.size = A at hD E0 ⊢
  have E : EV G A s s.heap := E0
  have hA : ∀ q : Nat, s.heap.size ≤ q → A q := fun q h => by rw [← hAe]; exact Or.inr h
  have hS : va_S A s.heap s.heap [] := va_S.rf
  have hl := lv_entry ([.ref tr]) (n := 1) (Nat.le_of_ble_eq_true rfl)
  rw [lg_entry_eq]
  generalize (lg_sl ([.ref tr]) ++ List.replicate (1 - (lg_sl ([.ref tr])).length) Slot.unset).toArray = ls at hl ⊢
  have hl : lv_has ls 1 [(0, .ref tr)] := hl
  have hP : va_P G.1 vwCl [(tr, .inr (4, [.null, .null, .null, .int 0, .int 0]))] s.heap := hP
  refine lv_aload_n hx hb dX8_init_0 rfl (lv_at hl 0 rfl) ?_
  refine W.objInit hx hb hown (hts (.methodLink RX8 3 objectInit) (by decide +kernel)) (hts (.instanceMethod objectInit) (by decide +kernel)) (hts (.code objectInit ⟨#[0xb1]⟩ 1 none) (by decide +kernel)) rfl (by rw [hml]; exact hl.1) rfl dX8_init_1 (Nat.le_of_ble_eq_true rfl) (Nat.le_of_ble_eq_true rfl) ?_
  refine W.eq (g2 := F0 m 4 ls []) rfl ?_
  refine lv_aload_n hx hb dX8_init_4 rfl (lv_at hl 0 rfl) ?_
  refine lv_bipush (v := 36) hx hb dX8_init_5 (by decide) ?_
  refine nw_row (atype := .int) (a0 := (36, .inl (fun _ => 0))) (ty := .int) hx hb (hts (.arrayClass .int) (by decide +kernel)) rfl E 1 rfl (fun _ _ h => h) hP hD hS hA (fun _ => rfl) (by decide +kernel) (by decide +kernel) (by decide +kernel) (by decide +kernel) (by decide +kernel) dX8_init_7 (fun q1 H hP hD hS => ?_)
  have hP : va_P G.1 vwCl [(tr, .inr (4, [.null, .null, .null, .int 0, .int 0])), (q1, .inl (gI G, 36, .inl (fun _ => 0)))] H := hP
  have hD : va_D A [(tr, .inr (4, [.null, .null, .null, .int 0, .int 0])), (q1, .inl (gI G, 36, .inl (fun _ => 0)))] := hD
  refine W.widen (k := 1) (n := 36) (by decide +kernel) (by decide +kernel) ?_
  refine va_putF (D := G.1) (ci := 4) (v := .ref q1) (ty := .array .int) (C := RX8) (T := TX8) (N := 5) hx hb hts (fun _ h => List.mem_cons_of_mem _ (List.mem_append_right _ h)) tyX8 tyX8_ok nmX8 hown E.K hP hD hS 0 rfl rfl 0 (by decide) (hts (.fieldLink RX8 9 "LastMap$Trees" "slips" "[I") (by decide +kernel)) (fun _ h9 => h9) rfl hin rfl (by decide +kernel) rfl rfl (Nat.le_of_ble_eq_true rfl) dX8_init_9 (fun H locs hP hD hS => ?_)
  have hP : va_P G.1 vwCl [(tr, .inr (4, [.ref q1, .null, .null, .int 0, .int 0])), (q1, .inl (gI G, 36, .inl (fun _ => 0)))] H := hP
  have hD : va_D A [(tr, .inr (4, [.ref q1, .null, .null, .int 0, .int 0])), (q1, .inl (gI G, 36, .inl (fun _ => 0)))] := hD
  refine lv_aload_n hx hb dX8_init_12 rfl (lv_at hl 0 rfl) ?_
  refine lv_bipush (v := 6) hx hb dX8_init_13 (by decide) ?_
  refine nw_row (atype := .int) (a0 := (6, .inl (fun _ => 0))) (ty := .int) hx hb (hts (.arrayClass .int) (by decide +kernel)) rfl E 1 rfl (fun _ _ h => h) hP hD hS hA (fun _ => rfl) (by decide +kernel) (by decide +kernel) (by decide +kernel) (by decide +kernel) (by decide +kernel) dX8_init_15 (fun q2 H hP hD hS => ?_)
  have hP : va_P G.1 vwCl [(tr, .inr (4, [.ref q1, .null, .null, .int 0, .int 0])), (q1, .inl (gI G, 36, .inl (fun _ => 0))), (q2, .inl (gI G, 6, .inl (fun _ => 0)))] H := hP
  have hD : va_D A [(tr, .inr (4, [.ref q1, .null, .null, .int 0, .int 0])), (q1, .inl (gI G, 36, .inl (fun _ => 0))), (q2, .inl (gI G, 6, .inl (fun _ => 0)))] := hD
  refine W.widen (k := 2) (n := 42) (by decide +kernel) (by decide +kernel) ?_
  refine va_putF (D := G.1) (ci := 4) (v := .ref q2) (ty := .array .int) (C := RX8) (T := TX8) (N := 5) hx hb hts (fun _ h => List.mem_cons_of_mem _ (List.mem_append_right _ h)) tyX8 tyX8_ok nmX8 hown E.K hP hD hS 0 rfl rfl 1 (by decide) (hts (.fieldLink RX8 15 "LastMap$Trees" "from" "[I") (by decide +kernel)) (fun _ h9 => h9) rfl hin rfl (by decide +kernel) rfl rfl (Nat.le_of_ble_eq_true rfl) dX8_init_17 (fun H locs hP hD hS => ?_)
  have hP : va_P G.1 vwCl [(tr, .inr (4, [.ref q1, .ref q2, .null, .int 0, .int 0])), (q1, .inl (gI G, 36, .inl (fun _ => 0))), (q2, .inl (gI G, 6, .inl (fun _ => 0)))] H := hP
  have hD : va_D A [(tr, .inr (4, [.ref q1, .ref q2, .null, .int 0, .int 0])), (q1, .inl (gI G, 36, .inl (fun _ => 0))), (q2, .inl (gI G, 6, .inl (fun _ => 0)))] := hD
  refine lv_aload_n hx hb dX8_init_20 rfl (lv_at hl 0 rfl) ?_
  refine lv_bipush (v := 6) hx hb dX8_init_21 (by decide) ?_
  refine nw_row (atype := .int) (a0 := (6, .inl (fun _ => 0))) (ty := .int) hx hb (hts (.arrayClass .int) (by decide +kernel)) rfl E 1 rfl (fun _ _ h => h) hP hD hS hA (fun _ => rfl) (by decide +kernel) (by decide +kernel) (by decide +kernel) (by decide +kernel) (by decide +kernel) dX8_init_23 (fun q3 H hP hD hS => ?_)
  have hP : va_P G.1 vwCl [(tr, .inr (4, [.ref q1, .ref q2, .null, .int 0, .int 0])), (q1, .inl (gI G, 36, .inl (fun _ => 0))), (q2, .inl (gI G, 6, .inl (fun _ => 0))), (q3, .inl (gI G, 6, .inl (fun _ => 0)))] H := hP
  have hD : va_D A [(tr, .inr (4, [.ref q1, .ref q2, .null, .int 0, .int 0])), (q1, .inl (gI G, 36, .inl (fun _ => 0))), (q2, .inl (gI G, 6, .inl (fun _ => 0))), (q3, .inl (gI G, 6, .inl (fun _ => 0)))] := hD
  refine W.widen (k := 3) (n := 48) (by decide +kernel) (by decide +kernel) ?_
  refine va_putF (D := G.1) (ci := 4) (v := .ref q3) (ty := .array .int) (C := RX8) (T := TX8) (N := 5) hx hb hts (fun _ h => List.mem_cons_of_mem _ (List.mem_append_right _ h)) tyX8 tyX8_ok nmX8 hown E.K hP hD hS 0 rfl rfl 2 (by decide) (hts (.fieldLink RX8 18 "LastMap$Trees" "best" "[I") (by decide +kernel)) (fun _ h9 => h9) rfl hin rfl (by decide +kernel) rfl rfl (Nat.le_of_ble_eq_true rfl) dX8_init_25 (fun H locs hP hD hS => ?_)
  have hP : va_P G.1 vwCl [(tr, .inr (4, [.ref q1, .ref q2, .ref q3, .int 0, .int 0])), (q1, .inl (gI G, 36, .inl (fun _ => 0))), (q2, .inl (gI G, 6, .inl (fun _ => 0))), (q3, .inl (gI G, 6, .inl (fun _ => 0)))] H := hP
  have hD : va_D A [(tr, .inr (4, [.ref q1, .ref q2, .ref q3, .int 0, .int 0])), (q1, .inl (gI G, 36, .inl (fun _ => 0))), (q2, .inl (gI G, 6, .inl (fun _ => 0))), (q3, .inl (gI G, 6, .inl (fun _ => 0)))] := hD
  have hP9 := hP.sub (ws' := [(tr, .inr (4, [.ref q1, .ref q2, .ref q3, .int 0, .int 0])), (q1, .inl (gI G, 36, .inl (fun _ => 0))), (q2, .inl (gI G, 6, .inl (fun _ => 0))), (q3, .inl (gI G, 6, .inl (fun _ => 0)))]) [0, 1, 2, 3] rfl
  have hD9 := hD.sub (ws' := [(tr, .inr (4, [.ref q1, .ref q2, .ref q3, .int 0, .int 0])), (q1, .inl (gI G, 36, .inl (fun _ => 0))), (q2, .inl (gI G, 6, .inl (fun _ => 0))), (q3, .inl (gI G, 6, .inl (fun _ => 0)))]) [0, 1, 2, 3] (by decide) rfl
  exact W.vret hx hb hr (fun t ht hW => ⟨⟨(q1, q2, q3), rfl, trivial, by rw [ht]; exact hP9, hD9⟩, hS.F ht⟩) hS.2.2 dX8_init_28

set_option maxHeartbeats 1000000 in
set_option maxRecDepth 100000 in
theorem c_slipsOf (l : Launch) (G : Gy) (sz : Nat) (tr : Nat) (us : Nat) (uf : Nat) (ub : Nat) (le : Int32) (ma : Int32) (gs : Nat → Int32) (gf : Nat → Int32) (gb : Nat → Int32) (p0 : Int32) (p1 : Int32)  : Ci l G yX8_slipsOf wsX8_slipsOf ({ frames := 1, cells := 0, slots := 0, locals := 20 }) [.ref tr, .int p0, .int p1] [(tr, .inr (4, [.ref us, .ref uf, .ref ub, .int le, .int ma])), (us, .inl (gI G, 36, .inl gs)), (uf, .inl (gI G, 6, .inl gf)), (ub, .inl (gI G, 6, .inl gb))] sz (fun (r : Int32) (_ : Unit) => True) (fun (_ : Unit) => [(tr, .inr (4, [.ref us, .ref uf, .ref ub, .int le, .int ma])), (us, .inl (gI G, 36, .inl gs)), (uf, .inl (gI G, 6, .inl gf)), (ub, .inl (gI G, 6, .inl gb))]) 0 0 := by
  refine Met.ofW (cc := cX8_slipsOf) (maxL := 3) (ret := (some .int)) (by decide) rfl ?_
  intro p e s m args below meth c s₁ B hml hv
  obtain ⟨rfl, hsz, hP, hD0, E0⟩ := hv
  have hx := B.exec
  have hb := B.bytes
  have hr := B.returns
  have hts := atoms_spec (ws := wsX8_slipsOf) B.pre
  have hown : s.vm.findClass RX8 = some m.cls := findClass_of_methodNamed B.named
  have hlocks := B.notSynchronized
  subst hsz
  have hD := hD0.self (sz := s.heap.size)
  generalize hAe : va_A [(tr, .inr (4, [.ref us, .ref uf, .ref ub, .int le, .int ma])), (us, .inl (gI G, 36, .inl gs)), (uf, .inl (gI G, 6, .inl gf)), (ub, .inl (gI G, 6, .inl gb))] s.heap.size = A at hD E0 ⊢
  have E : EV G A s s.heap := E0
  have hA : ∀ q : Nat, s.heap.size ≤ q → A q := fun q h => by rw [← hAe]; exact Or.inr h
  have hS : va_S A s.heap s.heap [] := va_S.rf
  have hl := lv_entry ([.ref tr, .int p0, .int p1]) (n := 3) (Nat.le_of_ble_eq_true rfl)
  rw [lg_entry_eq]
  generalize (lg_sl ([.ref tr, .int p0, .int p1]) ++ List.replicate (3 - (lg_sl ([.ref tr, .int p0, .int p1])).length) Slot.unset).toArray = ls at hl ⊢
  have hl : lv_has ls 3 [(0, .ref tr), (1, .int p0), (2, .int p1)] := hl
  have hP : va_P G.1 vwCl [(tr, .inr (4, [.ref us, .ref uf, .ref ub, .int le, .int ma])), (us, .inl (gI G, 36, .inl gs)), (uf, .inl (gI G, 6, .inl gf)), (ub, .inl (gI G, 6, .inl gb))] s.heap := hP
  refine lv_iload_n hx hb dX8_slipsOf_0 rfl (lv_at hl 1 rfl) ?_
  refine ca_iR (va_runSN (As := [.int p0]) (rest := []) ⟨hx, hb, hml, hown, hts⟩ (c_isMap l G s.heap.size p0) ⟨va_cnB 1 hts gX8_slipsOf_X9_isMap_n21 rfl rfl rfl E.n21 (hts (.initialized RX9) (by decide +kernel)) (by decide +kernel) ⟨by decide +kernel, by decide +kernel⟩, hts (.static yX9_isMap) (by decide +kernel), trivial⟩ (pre_S E hP hD hS hA [] (by decide) rfl) rfl rfl hl.1 rfl (lv_room (Nat.le_of_ble_eq_true rfl)) dX8_slipsOf_1 ⟨by decide +kernel, by decide +kernel⟩) hS hP hD hA [] rfl (fun r2 _ H locs w1 hP hS => ?_)
  rcases w1 with ⟨rfl, b3⟩ | ⟨rfl, b3⟩
  · refine lv_if_eq (tgt := 28) hx hb dX8_slipsOf_4 (by decide) (fun c4 => False.elim (by revert c4; decide)) (fun _ => ?_)
    refine lv_iload_n hx hb dX8_slipsOf_7 rfl (lv_at hl 2 rfl) ?_
    refine ca_iR (va_runSN (As := [.int p1]) (rest := []) ⟨hx, hb, hml, hown, hts⟩ (c_isMap l G H.size p1) ⟨va_cnB 1 hts gX8_slipsOf_X9_isMap_n21 rfl rfl rfl E.n21 (hts (.initialized RX9) (by decide +kernel)) (by decide +kernel) ⟨by decide +kernel, by decide +kernel⟩, hts (.static yX9_isMap) (by decide +kernel), trivial⟩ (pre_S E hP hD hS hA [] (by decide) rfl) rfl rfl hl.1 rfl (lv_room (Nat.le_of_ble_eq_true rfl)) dX8_slipsOf_8 ⟨by decide +kernel, by decide +kernel⟩) hS hP hD hA [] rfl (fun r6 _ H locs w5 hP hS => ?_)
    rcases w5 with ⟨rfl, b7⟩ | ⟨rfl, b7⟩
    · refine lv_if_eq (tgt := 28) hx hb dX8_slipsOf_11 (by decide) (fun c8 => False.elim (by revert c8; decide)) (fun _ => ?_)
      refine lv_aload_n hx hb dX8_slipsOf_14 rfl (lv_at hl 0 rfl) ?_
      refine va_get (D := G.1) (ci := 4) (v := .ref us) (C := RX8) (T := TX8) (N := 5) hx hb hts (fun _ h => List.mem_cons_of_mem _ (List.mem_append_right _ h)) hown E.K hP 0 rfl rfl 0 (by decide) (hts (.fieldLink RX8 9 "LastMap$Trees" "slips" "[I") (by decide +kernel)) (fun _ h9 => h9) rfl dX8_slipsOf_15 ?_
      refine lv_iload_n hx hb dX8_slipsOf_18 rfl (lv_at hl 1 rfl) ?_
      refine lv_bipush (v := 6) hx hb dX8_slipsOf_19 (by decide) ?_
      refine lv_imul hx hb dX8_slipsOf_21 ?_
      refine lv_topi (fun x9 ex9 => ?_)
      refine lv_iload_n hx hb dX8_slipsOf_22 rfl (lv_at hl 2 rfl) ?_
      refine lv_iadd hx hb dX8_slipsOf_23 ?_
      refine lv_topi (fun x10 ex10 => ?_)
      refine va_iald hx hb E.K hP 1 1 rfl rfl (i := x10) (by rw [ex10, ex9]; exact idx36 b3 b7) dX8_slipsOf_24 ?_
      refine lv_topi (fun x11 ex11 => ?_)
      refine lv_goto (tgt := 30) hx hb dX8_slipsOf_25 (by decide) ?_
      have hP9 := hP.sub (ws' := [(tr, .inr (4, [.ref us, .ref uf, .ref ub, .int le, .int ma])), (us, .inl (gI G, 36, .inl gs)), (uf, .inl (gI G, 6, .inl gf)), (ub, .inl (gI G, 6, .inl gb))]) [0, 1, 2, 3] rfl
      have hD9 := hD.sub (ws' := [(tr, .inr (4, [.ref us, .ref uf, .ref ub, .int le, .int ma])), (us, .inl (gI G, 36, .inl gs)), (uf, .inl (gI G, 6, .inl gf)), (ub, .inl (gI G, 6, .inl gb))]) [0, 1, 2, 3] (by decide) rfl
      exact W.iret (v := x11) hx hb hr (fun t ht hW => ⟨⟨x11, (), rfl, trivial, by rw [ht]; exact hP9, hD9⟩, hS.F ht⟩) hS.2.2 dX8_slipsOf_30
    · refine lv_if_eq (tgt := 28) hx hb dX8_slipsOf_11 (by decide) (fun _ => ?_) (fun c12 => False.elim (by revert c12; decide))
      refine lv_bipush (v := (-6)) hx hb dX8_slipsOf_28 (by decide) ?_
      have hP9 := hP.sub (ws' := [(tr, .inr (4, [.ref us, .ref uf, .ref ub, .int le, .int ma])), (us, .inl (gI G, 36, .inl gs)), (uf, .inl (gI G, 6, .inl gf)), (ub, .inl (gI G, 6, .inl gb))]) [0, 1, 2, 3] rfl
      have hD9 := hD.sub (ws' := [(tr, .inr (4, [.ref us, .ref uf, .ref ub, .int le, .int ma])), (us, .inl (gI G, 36, .inl gs)), (uf, .inl (gI G, 6, .inl gf)), (ub, .inl (gI G, 6, .inl gb))]) [0, 1, 2, 3] (by decide) rfl
      exact W.iret (v := (-6)) hx hb hr (fun t ht hW => ⟨⟨(-6), (), rfl, trivial, by rw [ht]; exact hP9, hD9⟩, hS.F ht⟩) hS.2.2 dX8_slipsOf_30
  · refine lv_if_eq (tgt := 28) hx hb dX8_slipsOf_4 (by decide) (fun _ => ?_) (fun c13 => False.elim (by revert c13; decide))
    refine lv_bipush (v := (-6)) hx hb dX8_slipsOf_28 (by decide) ?_
    have hP9 := hP.sub (ws' := [(tr, .inr (4, [.ref us, .ref uf, .ref ub, .int le, .int ma])), (us, .inl (gI G, 36, .inl gs)), (uf, .inl (gI G, 6, .inl gf)), (ub, .inl (gI G, 6, .inl gb))]) [0, 1, 2, 3] rfl
    have hD9 := hD.sub (ws' := [(tr, .inr (4, [.ref us, .ref uf, .ref ub, .int le, .int ma])), (us, .inl (gI G, 36, .inl gs)), (uf, .inl (gI G, 6, .inl gf)), (ub, .inl (gI G, 6, .inl gb))]) [0, 1, 2, 3] (by decide) rfl
    exact W.iret (v := (-6)) hx hb hr (fun t ht hW => ⟨⟨(-6), (), rfl, trivial, by rw [ht]; exact hP9, hD9⟩, hS.F ht⟩) hS.2.2 dX8_slipsOf_30

set_option maxHeartbeats 1000000 in
set_option maxRecDepth 100000 in
theorem c_note (l : Launch) (G : Gy) (sz : Nat) (tr : Nat) (us : Nat) (uf : Nat) (ub : Nat) (le : Int32) (ma : Int32) (gs : Nat → Int32) (gf : Nat → Int32) (gb : Nat → Int32) (p0 : Int32) (p1 : Int32) (p2 : Int32)  : Cv l G yX8_note wsX8_note ({ frames := 1, cells := 0, slots := 0, locals := 20 }) [.ref tr, .int p0, .int p1, .int p2] [(tr, .inr (4, [.ref us, .ref uf, .ref ub, .int le, .int ma])), (us, .inl (gI G, 36, .inl gs)), (uf, .inl (gI G, 6, .inl gf)), (ub, .inl (gI G, 6, .inl gb))] sz (fun (gs1 : Nat → Int32) => True) (fun (gs1 : Nat → Int32) => [(tr, .inr (4, [.ref us, .ref uf, .ref ub, .int le, .int ma])), (us, .inl (gI G, 36, .inl gs1)), (uf, .inl (gI G, 6, .inl gf)), (ub, .inl (gI G, 6, .inl gb))]) 0 0 := by
  refine Met.ofW (cc := cX8_note) (maxL := 4) (ret := none) (by decide) rfl ?_
  intro p e s m args below meth c s₁ B hml hv
  obtain ⟨rfl, hsz, hP, hD0, E0⟩ := hv
  have hx := B.exec
  have hb := B.bytes
  have hr := B.returns
  have hts := atoms_spec (ws := wsX8_note) B.pre
  have hown : s.vm.findClass RX8 = some m.cls := findClass_of_methodNamed B.named
  have hlocks := B.notSynchronized
  subst hsz
  have hD := hD0.self (sz := s.heap.size)
  generalize hAe : va_A [(tr, .inr (4, [.ref us, .ref uf, .ref ub, .int le, .int ma])), (us, .inl (gI G, 36, .inl gs)), (uf, .inl (gI G, 6, .inl gf)), (ub, .inl (gI G, 6, .inl gb))] s.heap.size = A at hD E0 ⊢
  have E : EV G A s s.heap := E0
  have hA : ∀ q : Nat, s.heap.size ≤ q → A q := fun q h => by rw [← hAe]; exact Or.inr h
  have hS : va_S A s.heap s.heap [] := va_S.rf
  have hl := lv_entry ([.ref tr, .int p0, .int p1, .int p2]) (n := 4) (Nat.le_of_ble_eq_true rfl)
  rw [lg_entry_eq]
  generalize (lg_sl ([.ref tr, .int p0, .int p1, .int p2]) ++ List.replicate (4 - (lg_sl ([.ref tr, .int p0, .int p1, .int p2])).length) Slot.unset).toArray = ls at hl ⊢
  have hl : lv_has ls 4 [(0, .ref tr), (1, .int p0), (2, .int p1), (3, .int p2)] := hl
  have hP : va_P G.1 vwCl [(tr, .inr (4, [.ref us, .ref uf, .ref ub, .int le, .int ma])), (us, .inl (gI G, 36, .inl gs)), (uf, .inl (gI G, 6, .inl gf)), (ub, .inl (gI G, 6, .inl gb))] s.heap := hP
  refine lv_iload_n hx hb dX8_note_0 rfl (lv_at hl 1 rfl) ?_
  refine ca_iR (va_runSN (As := [.int p0]) (rest := []) ⟨hx, hb, hml, hown, hts⟩ (c_isMap l G s.heap.size p0) ⟨va_cnB 1 hts gX8_note_X9_isMap_n21 rfl rfl rfl E.n21 (hts (.initialized RX9) (by decide +kernel)) (by decide +kernel) ⟨by decide +kernel, by decide +kernel⟩, hts (.static yX9_isMap) (by decide +kernel), trivial⟩ (pre_S E hP hD hS hA [] (by decide) rfl) rfl rfl hl.1 rfl (lv_room (Nat.le_of_ble_eq_true rfl)) dX8_note_1 ⟨by decide +kernel, by decide +kernel⟩) hS hP hD hA [] rfl (fun r2 _ H locs w1 hP hS => ?_)
  rcases w1 with ⟨rfl, b3⟩ | ⟨rfl, b3⟩
  · refine lv_if_eq (tgt := 26) hx hb dX8_note_4 (by decide) (fun c4 => False.elim (by revert c4; decide)) (fun _ => ?_)
    refine lv_iload_n hx hb dX8_note_7 rfl (lv_at hl 2 rfl) ?_
    refine ca_iR (va_runSN (As := [.int p1]) (rest := []) ⟨hx, hb, hml, hown, hts⟩ (c_isMap l G H.size p1) ⟨va_cnB 1 hts gX8_note_X9_isMap_n21 rfl rfl rfl E.n21 (hts (.initialized RX9) (by decide +kernel)) (by decide +kernel) ⟨by decide +kernel, by decide +kernel⟩, hts (.static yX9_isMap) (by decide +kernel), trivial⟩ (pre_S E hP hD hS hA [] (by decide) rfl) rfl rfl hl.1 rfl (lv_room (Nat.le_of_ble_eq_true rfl)) dX8_note_8 ⟨by decide +kernel, by decide +kernel⟩) hS hP hD hA [] rfl (fun r6 _ H locs w5 hP hS => ?_)
    rcases w5 with ⟨rfl, b7⟩ | ⟨rfl, b7⟩
    · refine lv_if_eq (tgt := 26) hx hb dX8_note_11 (by decide) (fun c8 => False.elim (by revert c8; decide)) (fun _ => ?_)
      refine lv_aload_n hx hb dX8_note_14 rfl (lv_at hl 0 rfl) ?_
      refine va_get (D := G.1) (ci := 4) (v := .ref us) (C := RX8) (T := TX8) (N := 5) hx hb hts (fun _ h => List.mem_cons_of_mem _ (List.mem_append_right _ h)) hown E.K hP 0 rfl rfl 0 (by decide) (hts (.fieldLink RX8 9 "LastMap$Trees" "slips" "[I") (by decide +kernel)) (fun _ h9 => h9) rfl dX8_note_15 ?_
      refine lv_iload_n hx hb dX8_note_18 rfl (lv_at hl 1 rfl) ?_
      refine lv_bipush (v := 6) hx hb dX8_note_19 (by decide) ?_
      refine lv_imul hx hb dX8_note_21 ?_
      refine lv_topi (fun x9 ex9 => ?_)
      refine lv_iload_n hx hb dX8_note_22 rfl (lv_at hl 2 rfl) ?_
      refine lv_iadd hx hb dX8_note_23 ?_
      refine lv_topi (fun x10 ex10 => ?_)
      refine lv_iload_n hx hb dX8_note_24 rfl (lv_at hl 3 rfl) ?_
      refine va_iast hx hb E.K hP hD hS 1 1 rfl rfl (i := x10) (by rw [ex10, ex9]; exact idx36 b3 b7) dX8_note_25 (fun H locs hP hD hS => ?_)
      obtain ⟨f11, ef11⟩ : ∃ yy_ : Nat → Int32, yy_ = upd gs x10.toNatClampNeg p2 := ⟨_, rfl⟩
      have hP : va_P G.1 vwCl [(tr, .inr (4, [.ref us, .ref uf, .ref ub, .int le, .int ma])), (us, .inl (gI G, 36, .inl f11)), (uf, .inl (gI G, 6, .inl gf)), (ub, .inl (gI G, 6, .inl gb))] H := by rw [ef11]; exact hP
      have hD : va_D A [(tr, .inr (4, [.ref us, .ref uf, .ref ub, .int le, .int ma])), (us, .inl (gI G, 36, .inl f11)), (uf, .inl (gI G, 6, .inl gf)), (ub, .inl (gI G, 6, .inl gb))] := by rw [ef11]; exact hD
      have hP9 := hP.sub (ws' := [(tr, .inr (4, [.ref us, .ref uf, .ref ub, .int le, .int ma])), (us, .inl (gI G, 36, .inl f11)), (uf, .inl (gI G, 6, .inl gf)), (ub, .inl (gI G, 6, .inl gb))]) [0, 1, 2, 3] rfl
      have hD9 := hD.sub (ws' := [(tr, .inr (4, [.ref us, .ref uf, .ref ub, .int le, .int ma])), (us, .inl (gI G, 36, .inl f11)), (uf, .inl (gI G, 6, .inl gf)), (ub, .inl (gI G, 6, .inl gb))]) [0, 1, 2, 3] (by decide) rfl
      exact W.vret hx hb hr (fun t ht hW => ⟨⟨f11, rfl, trivial, by rw [ht]; exact hP9, hD9⟩, hS.F ht⟩) hS.2.2 dX8_note_26
    · refine lv_if_eq (tgt := 26) hx hb dX8_note_11 (by decide) (fun _ => ?_) (fun c12 => False.elim (by revert c12; decide))
      have hP9 := hP.sub (ws' := [(tr, .inr (4, [.ref us, .ref uf, .ref ub, .int le, .int ma])), (us, .inl (gI G, 36, .inl gs)), (uf, .inl (gI G, 6, .inl gf)), (ub, .inl (gI G, 6, .inl gb))]) [0, 1, 2, 3] rfl
      have hD9 := hD.sub (ws' := [(tr, .inr (4, [.ref us, .ref uf, .ref ub, .int le, .int ma])), (us, .inl (gI G, 36, .inl gs)), (uf, .inl (gI G, 6, .inl gf)), (ub, .inl (gI G, 6, .inl gb))]) [0, 1, 2, 3] (by decide) rfl
      exact W.vret hx hb hr (fun t ht hW => ⟨⟨gs, rfl, trivial, by rw [ht]; exact hP9, hD9⟩, hS.F ht⟩) hS.2.2 dX8_note_26
  · refine lv_if_eq (tgt := 26) hx hb dX8_note_4 (by decide) (fun _ => ?_) (fun c13 => False.elim (by revert c13; decide))
    have hP9 := hP.sub (ws' := [(tr, .inr (4, [.ref us, .ref uf, .ref ub, .int le, .int ma])), (us, .inl (gI G, 36, .inl gs)), (uf, .inl (gI G, 6, .inl gf)), (ub, .inl (gI G, 6, .inl gb))]) [0, 1, 2, 3] rfl
    have hD9 := hD.sub (ws' := [(tr, .inr (4, [.ref us, .ref uf, .ref ub, .int le, .int ma])), (us, .inl (gI G, 36, .inl gs)), (uf, .inl (gI G, 6, .inl gf)), (ub, .inl (gI G, 6, .inl gb))]) [0, 1, 2, 3] (by decide) rfl
    exact W.vret hx hb hr (fun t ht hW => ⟨⟨gs, rfl, trivial, by rw [ht]; exact hP9, hD9⟩, hS.F ht⟩) hS.2.2 dX8_note_26

set_option maxHeartbeats 1000000 in
set_option maxRecDepth 100000 in
theorem c_comesOf (l : Launch) (G : Gy) (sz : Nat) (tr : Nat) (us : Nat) (uf : Nat) (ub : Nat) (le : Int32) (ma : Int32) (gs : Nat → Int32) (gf : Nat → Int32) (gb : Nat → Int32) (p0 : Int32) (p1 : Int32)  : Ci l G yX8_comesOf wsX8_comesOf ({ frames := 1, cells := 0, slots := 0, locals := 20 }) [.ref tr, .int p0, .int p1] [(tr, .inr (4, [.ref us, .ref uf, .ref ub, .int le, .int ma])), (us, .inl (gI G, 36, .inl gs)), (uf, .inl (gI G, 6, .inl gf)), (ub, .inl (gI G, 6, .inl gb))] sz (fun (r : Int32) (_ : Unit) => (r = 1 ∧ True) ∨ (r = 0 ∧ True)) (fun (_ : Unit) => [(tr, .inr (4, [.ref us, .ref uf, .ref ub, .int le, .int ma])), (us, .inl (gI G, 36, .inl gs)), (uf, .inl (gI G, 6, .inl gf)), (ub, .inl (gI G, 6, .inl gb))]) 0 0 := by
  refine Met.ofW (cc := cX8_comesOf) (maxL := 5) (ret := (some .boolean)) (by decide) rfl ?_
  intro p e s m args below meth c s₁ B hml hv
  obtain ⟨rfl, hsz, hP, hD0, E0⟩ := hv
  have hx := B.exec
  have hb := B.bytes
  have hr := B.returns
  have hts := atoms_spec (ws := wsX8_comesOf) B.pre
  have hown : s.vm.findClass RX8 = some m.cls := findClass_of_methodNamed B.named
  have hlocks := B.notSynchronized
  subst hsz
  have hD := hD0.self (sz := s.heap.size)
  generalize hAe : va_A [(tr, .inr (4, [.ref us, .ref uf, .ref ub, .int le, .int ma])), (us, .inl (gI G, 36, .inl gs)), (uf, .inl (gI G, 6, .inl gf)), (ub, .inl (gI G, 6, .inl gb))] s.heap.size = A at hD E0 ⊢
  have E : EV G A s s.heap := E0
  have hA : ∀ q : Nat, s.heap.size ≤ q → A q := fun q h => by rw [← hAe]; exact Or.inr h
  have hS : va_S A s.heap s.heap [] := va_S.rf
  have hl := lv_entry ([.ref tr, .int p0, .int p1]) (n := 5) (Nat.le_of_ble_eq_true rfl)
  rw [lg_entry_eq]
  generalize (lg_sl ([.ref tr, .int p0, .int p1]) ++ List.replicate (5 - (lg_sl ([.ref tr, .int p0, .int p1])).length) Slot.unset).toArray = ls at hl ⊢
  have hl : lv_has ls 5 [(0, .ref tr), (1, .int p0), (2, .int p1)] := hl
  have hP : va_P G.1 vwCl [(tr, .inr (4, [.ref us, .ref uf, .ref ub, .int le, .int ma])), (us, .inl (gI G, 36, .inl gs)), (uf, .inl (gI G, 6, .inl gf)), (ub, .inl (gI G, 6, .inl gb))] s.heap := hP
  refine lv_iload_n hx hb dX8_comesOf_0 rfl (lv_at hl 1 rfl) ?_
  refine lv_istore_n (lv' := [(3, .int p0), (0, .ref tr), (1, .int p0), (2, .int p1)]) hx hb dX8_comesOf_1 rfl hl (by decide) rfl (fun ls hl => ?_)
  refine lv_iconst (v := 0) hx hb dX8_comesOf_2 (by decide) ?_
  refine lv_istore (lv' := [(4, .int 0), (3, .int p0), (0, .ref tr), (1, .int p0), (2, .int p1)]) hx hb dX8_comesOf_3 hl (by decide) rfl (fun ls hl => ?_)
  refine lp_run (x0 := (0, p0)) (fun xx_ : Int32 × Int32 => match xx_ with | (x, y) => [(tr, .inr (4, [.ref us, .ref uf, .ref ub, .int le, .int ma])), (us, .inl (gI G, 36, .inl gs)), (uf, .inl (gI G, 6, .inl gf)), (ub, .inl (gI G, 6, .inl gb))]) (fun xx_ : Int32 × Int32 => match xx_ with | (x, y) => [(4, .int x), (3, .int y), (0, .ref tr), (1, .int p0), (2, .int p1)]) (fun xx_ : Int32 × Int32 => match xx_ with | (x, y) => (0 ≤ x.toInt)) (fun xx_ : Int32 × Int32 => match xx_ with | (x, y) => ((6 : Int32).toInt - x.toInt).toNat) (hP.sub [0, 1, 2, 3] rfl) (hD.sub [0, 1, 2, 3] (by decide) rfl) hS (lv_sub hl [0, 1, 2, 3, 4] rfl) (show (0 : Int) ≤ (0 : Int32).toInt by first | decide | omega | assumption) ?_
  intro xx_ hI ih5 H locs ls hP hD hS hl
  obtain ⟨x, y⟩ := xx_
  dsimp only at hI ih5 hP hD hl
  have hx0 := hI
  have hl : lv_has ls 5 [(4, .int x), (3, .int y), (0, .ref tr), (1, .int p0), (2, .int p1)] := hl
  have hP : va_P G.1 vwCl [(tr, .inr (4, [.ref us, .ref uf, .ref ub, .int le, .int ma])), (us, .inl (gI G, 36, .inl gs)), (uf, .inl (gI G, 6, .inl gf)), (ub, .inl (gI G, 6, .inl gb))] H := hP
  have hD : va_D A [(tr, .inr (4, [.ref us, .ref uf, .ref ub, .int le, .int ma])), (us, .inl (gI G, 36, .inl gs)), (uf, .inl (gI G, 6, .inl gf)), (ub, .inl (gI G, 6, .inl gb))] := hD
  refine lv_iload hx hb dX8_comesOf_5 (lv_at hl 0 rfl) ?_
  refine lv_bipush (v := 6) hx hb dX8_comesOf_7 (by decide) ?_
  refine lv_icmp_ge (tgt := 39) hx hb dX8_comesOf_9 (by decide) (fun c1 => ?_) (fun c1 => ?_)
  · refine lv_iconst (v := 0) hx hb dX8_comesOf_39 (by decide) ?_
    have hP9 := hP.sub (ws' := [(tr, .inr (4, [.ref us, .ref uf, .ref ub, .int le, .int ma])), (us, .inl (gI G, 36, .inl gs)), (uf, .inl (gI G, 6, .inl gf)), (ub, .inl (gI G, 6, .inl gb))]) [0, 1, 2, 3] rfl
    have hD9 := hD.sub (ws' := [(tr, .inr (4, [.ref us, .ref uf, .ref ub, .int le, .int ma])), (us, .inl (gI G, 36, .inl gs)), (uf, .inl (gI G, 6, .inl gf)), (ub, .inl (gI G, 6, .inl gb))]) [0, 1, 2, 3] (by decide) rfl
    exact W.zret (v := 0) hx hb hr (by decide) (fun t ht hW => ⟨⟨0, (), rfl, Or.inr ⟨rfl, trivial⟩, by rw [ht]; exact hP9, hD9⟩, hS.F ht⟩) hS.2.2 dX8_comesOf_40
  · have hlt5 : x.toInt < (6 : Int32).toInt := by ((try simp only [inR, inS, i3_lt, i3_le, i3_eq, i6_lt, i6_le, Int32.toInt_toInt64, lg_cmp_lt, lg_cmp_gt, lg_cmp_ge, lg_cmp_le, Int32.reduceToInt, Int64.reduceToInt] at c1 ⊢); omega)
    refine lv_iload_n hx hb dX8_comesOf_12 rfl (lv_at hl 1 rfl) ?_
    refine ca_iR (va_runSN (As := [.int y]) (rest := []) ⟨hx, hb, hml, hown, hts⟩ (c_isMap l G H.size y) ⟨va_cnB 1 hts gX8_comesOf_X9_isMap_n21 rfl rfl rfl E.n21 (hts (.initialized RX9) (by decide +kernel)) (by decide +kernel) ⟨by decide +kernel, by decide +kernel⟩, hts (.static yX9_isMap) (by decide +kernel), trivial⟩ (pre_S E hP hD hS hA [] (by decide) rfl) rfl rfl hl.1 rfl (lv_room (Nat.le_of_ble_eq_true rfl)) dX8_comesOf_13 ⟨by decide +kernel, by decide +kernel⟩) hS hP hD hA [] rfl (fun r3 _ H locs w2 hP hS => ?_)
    rcases w2 with ⟨rfl, b4⟩ | ⟨rfl, b4⟩
    · refine lv_if_eq (tgt := 39) hx hb dX8_comesOf_16 (by decide) (fun c5 => False.elim (by revert c5; decide)) (fun _ => ?_)
      refine lv_iload_n hx hb dX8_comesOf_19 rfl (lv_at hl 1 rfl) ?_
      refine lv_iload_n hx hb dX8_comesOf_20 rfl (lv_at hl 4 rfl) ?_
      refine lv_icmp_ne (tgt := 26) hx hb dX8_comesOf_21 (by decide) (fun c6 => ?_) (fun c6 => ?_)
      · refine lv_aload_n hx hb dX8_comesOf_26 rfl (lv_at hl 2 rfl) ?_
        refine va_get (D := G.1) (ci := 4) (v := .ref uf) (C := RX8) (T := TX8) (N := 5) hx hb hts (fun _ h => List.mem_cons_of_mem _ (List.mem_append_right _ h)) hown E.K hP 0 rfl rfl 1 (by decide) (hts (.fieldLink RX8 15 "LastMap$Trees" "from" "[I") (by decide +kernel)) (fun _ h9 => h9) rfl dX8_comesOf_27 ?_
        refine lv_iload_n hx hb dX8_comesOf_30 rfl (lv_at hl 1 rfl) ?_
        refine va_iald hx hb E.K hP 2 1 rfl rfl (i := y) (vp_in_iff.mpr (by ((try simp only [inR, inS, i3_lt, i3_le, i3_eq, i6_lt, i6_le, Int32.toInt_toInt64, lg_cmp_lt, lg_cmp_gt, lg_cmp_ge, lg_cmp_le, Int32.reduceToInt, Int64.reduceToInt] at b4 ⊢); omega))) dX8_comesOf_31 ?_
        refine lv_topi (fun x7 ex7 => ?_)
        refine lv_istore_n (lv' := [(3, .int x7), (4, .int x), (0, .ref tr), (1, .int p0), (2, .int p1)]) hx hb dX8_comesOf_32 rfl hl (by decide) rfl (fun ls hl => ?_)
        obtain ⟨x8, ex8⟩ : ∃ yy_ : Int32, yy_ = x + 1 := ⟨_, rfl⟩
        refine lv_iinc (v := x8) (lv' := [(4, .int x8), (3, .int x7), (0, .ref tr), (1, .int p0), (2, .int p1)]) hx hb dX8_comesOf_33 hl (k := 1) rfl (by rw [ex8]; rfl) (by decide) rfl (fun ls hl => ?_)
        refine lv_goto (tgt := 5) hx hb dX8_comesOf_36 (by decide) ?_
        have hinc5 := inc_lt hlt5 ex8
        refine ih5 (x8, x7) ?_ (by first | omega | (dsimp only; omega)) H locs ls (hP.sub [0, 1, 2, 3] rfl) (hD.sub [0, 1, 2, 3] (by decide) rfl) hS (lv_sub hl [0, 1, 2, 3, 4] rfl)
        try dsimp only
        omega
      · refine lv_iconst (v := 1) hx hb dX8_comesOf_24 (by decide) ?_
        have hP9 := hP.sub (ws' := [(tr, .inr (4, [.ref us, .ref uf, .ref ub, .int le, .int ma])), (us, .inl (gI G, 36, .inl gs)), (uf, .inl (gI G, 6, .inl gf)), (ub, .inl (gI G, 6, .inl gb))]) [0, 1, 2, 3] rfl
        have hD9 := hD.sub (ws' := [(tr, .inr (4, [.ref us, .ref uf, .ref ub, .int le, .int ma])), (us, .inl (gI G, 36, .inl gs)), (uf, .inl (gI G, 6, .inl gf)), (ub, .inl (gI G, 6, .inl gb))]) [0, 1, 2, 3] (by decide) rfl
        exact W.zret (v := 1) hx hb hr (by decide) (fun t ht hW => ⟨⟨1, (), rfl, Or.inl ⟨rfl, trivial⟩, by rw [ht]; exact hP9, hD9⟩, hS.F ht⟩) hS.2.2 dX8_comesOf_25
    · refine lv_if_eq (tgt := 39) hx hb dX8_comesOf_16 (by decide) (fun _ => ?_) (fun c9 => False.elim (by revert c9; decide))
      refine lv_iconst (v := 0) hx hb dX8_comesOf_39 (by decide) ?_
      have hP9 := hP.sub (ws' := [(tr, .inr (4, [.ref us, .ref uf, .ref ub, .int le, .int ma])), (us, .inl (gI G, 36, .inl gs)), (uf, .inl (gI G, 6, .inl gf)), (ub, .inl (gI G, 6, .inl gb))]) [0, 1, 2, 3] rfl
      have hD9 := hD.sub (ws' := [(tr, .inr (4, [.ref us, .ref uf, .ref ub, .int le, .int ma])), (us, .inl (gI G, 36, .inl gs)), (uf, .inl (gI G, 6, .inl gf)), (ub, .inl (gI G, 6, .inl gb))]) [0, 1, 2, 3] (by decide) rfl
      exact W.zret (v := 0) hx hb hr (by decide) (fun t ht hW => ⟨⟨0, (), rfl, Or.inr ⟨rfl, trivial⟩, by rw [ht]; exact hP9, hD9⟩, hS.F ht⟩) hS.2.2 dX8_comesOf_40

set_option maxHeartbeats 1000000 in
set_option maxRecDepth 100000 in
theorem c_weigh (l : Launch) (G : Gy) (sz : Nat) (tr : Nat) (us : Nat) (uf : Nat) (ub : Nat) (le : Int32) (ma : Int32) (gs : Nat → Int32) (gf : Nat → Int32) (gb : Nat → Int32) (p0 : Int32)  : Cv l G yX8_weigh wsX8_weigh ({ frames := 1, cells := 0, slots := 0, locals := 60 }) [.ref tr, .int p0] [(tr, .inr (4, [.ref us, .ref uf, .ref ub, .int le, .int ma])), (us, .inl (gI G, 36, .inl gs)), (uf, .inl (gI G, 6, .inl gf)), (ub, .inl (gI G, 6, .inl gb))] sz (fun (u : Int32 × Int32 × (Nat → Int32) × (Nat → Int32)) => match u with | (le1, ma1, gf1, gb1) => True) (fun (u : Int32 × Int32 × (Nat → Int32) × (Nat → Int32)) => match u with | (le1, ma1, gf1, gb1) => [(tr, .inr (4, [.ref us, .ref uf, .ref ub, .int le1, .int ma1])), (us, .inl (gI G, 36, .inl gs)), (uf, .inl (gI G, 6, .inl gf1)), (ub, .inl (gI G, 6, .inl gb1))]) 0 0 := by
  refine Met.ofW (cc := cX8_weigh) (maxL := 2) (ret := none) (by decide) rfl ?_
  intro p e s m args below meth c s₁ B hml hv
  obtain ⟨rfl, hsz, hP, hD0, E0⟩ := hv
  have hx := B.exec
  have hb := B.bytes
  have hr := B.returns
  have hts := atoms_spec (ws := wsX8_weigh) B.pre
  have hown : s.vm.findClass RX8 = some m.cls := findClass_of_methodNamed B.named
  have hlocks := B.notSynchronized
  subst hsz
  have hD := hD0.self (sz := s.heap.size)
  generalize hAe : va_A [(tr, .inr (4, [.ref us, .ref uf, .ref ub, .int le, .int ma])), (us, .inl (gI G, 36, .inl gs)), (uf, .inl (gI G, 6, .inl gf)), (ub, .inl (gI G, 6, .inl gb))] s.heap.size = A at hD E0 ⊢
  have E : EV G A s s.heap := E0
  have hA : ∀ q : Nat, s.heap.size ≤ q → A q := fun q h => by rw [← hAe]; exact Or.inr h
  have hS : va_S A s.heap s.heap [] := va_S.rf
  have hl := lv_entry ([.ref tr, .int p0]) (n := 2) (Nat.le_of_ble_eq_true rfl)
  rw [lg_entry_eq]
  generalize (lg_sl ([.ref tr, .int p0]) ++ List.replicate (2 - (lg_sl ([.ref tr, .int p0])).length) Slot.unset).toArray = ls at hl ⊢
  have hl : lv_has ls 2 [(0, .ref tr), (1, .int p0)] := hl
  have hP : va_P G.1 vwCl [(tr, .inr (4, [.ref us, .ref uf, .ref ub, .int le, .int ma])), (us, .inl (gI G, 36, .inl gs)), (uf, .inl (gI G, 6, .inl gf)), (ub, .inl (gI G, 6, .inl gb))] s.heap := hP
  refine lv_aload_n hx hb dX8_weigh_0 rfl (lv_at hl 0 rfl) ?_
  refine va_get (D := G.1) (ci := 4) (v := .int le) (C := RX8) (T := TX8) (N := 5) hx hb hts (fun _ h => List.mem_cons_of_mem _ (List.mem_append_right _ h)) hown E.K hP 0 rfl rfl 3 (by decide) (hts (.fieldLink RX8 25 "LastMap$Trees" "least" "I") (by decide +kernel)) (fun _ h9 => h9) rfl dX8_weigh_1 ?_
  refine lv_if_lt (tgt := 15) hx hb dX8_weigh_4 (by decide) (fun c1 => ?_) (fun c1 => ?_)
  · refine lv_aload_n hx hb dX8_weigh_15 rfl (lv_at hl 0 rfl) ?_
    refine lv_iload_n hx hb dX8_weigh_16 rfl (lv_at hl 1 rfl) ?_
    refine va_put (D := G.1) (ci := 4) (v := .int p0) (ty := .int) (C := RX8) (T := TX8) (N := 5) hx hb hts (fun _ h => List.mem_cons_of_mem _ (List.mem_append_right _ h)) tyX8 tyX8_ok nmX8 hown E.K hP hD hS 0 rfl rfl 3 (by decide) (hts (.fieldLink RX8 25 "LastMap$Trees" "least" "I") (by decide +kernel)) (fun _ h9 => h9) rfl (by decide +kernel) rfl rfl (Nat.le_of_ble_eq_true rfl) dX8_weigh_17 (fun H locs hP hD hS => ?_)
    have hP : va_P G.1 vwCl [(tr, .inr (4, [.ref us, .ref uf, .ref ub, .int p0, .int ma])), (us, .inl (gI G, 36, .inl gs)), (uf, .inl (gI G, 6, .inl gf)), (ub, .inl (gI G, 6, .inl gb))] H := hP
    have hD : va_D A [(tr, .inr (4, [.ref us, .ref uf, .ref ub, .int p0, .int ma])), (us, .inl (gI G, 36, .inl gs)), (uf, .inl (gI G, 6, .inl gf)), (ub, .inl (gI G, 6, .inl gb))] := hD
    refine lv_aload_n hx hb dX8_weigh_20 rfl (lv_at hl 0 rfl) ?_
    refine lv_iconst (v := 0) hx hb dX8_weigh_21 (by decide) ?_
    refine va_put (D := G.1) (ci := 4) (v := .int 0) (ty := .int) (C := RX8) (T := TX8) (N := 5) hx hb hts (fun _ h => List.mem_cons_of_mem _ (List.mem_append_right _ h)) tyX8 tyX8_ok nmX8 hown E.K hP hD hS 0 rfl rfl 4 (by decide) (hts (.fieldLink RX8 29 "LastMap$Trees" "many" "I") (by decide +kernel)) (fun _ h9 => h9) rfl (by decide +kernel) rfl rfl (Nat.le_of_ble_eq_true rfl) dX8_weigh_22 (fun H locs hP hD hS => ?_)
    have hP : va_P G.1 vwCl [(tr, .inr (4, [.ref us, .ref uf, .ref ub, .int p0, .int 0])), (us, .inl (gI G, 36, .inl gs)), (uf, .inl (gI G, 6, .inl gf)), (ub, .inl (gI G, 6, .inl gb))] H := hP
    have hD : va_D A [(tr, .inr (4, [.ref us, .ref uf, .ref ub, .int p0, .int 0])), (us, .inl (gI G, 36, .inl gs)), (uf, .inl (gI G, 6, .inl gf)), (ub, .inl (gI G, 6, .inl gb))] := hD
    refine lv_aload_n hx hb dX8_weigh_25 rfl (lv_at hl 0 rfl) ?_
    refine va_get (D := G.1) (ci := 4) (v := .ref uf) (C := RX8) (T := TX8) (N := 5) hx hb hts (fun _ h => List.mem_cons_of_mem _ (List.mem_append_right _ h)) hown E.K hP 0 rfl rfl 1 (by decide) (hts (.fieldLink RX8 15 "LastMap$Trees" "from" "[I") (by decide +kernel)) (fun _ h9 => h9) rfl dX8_weigh_26 ?_
    refine lv_iconst (v := 0) hx hb dX8_weigh_29 (by decide) ?_
    refine lv_aload_n hx hb dX8_weigh_30 rfl (lv_at hl 0 rfl) ?_
    refine va_get (D := G.1) (ci := 4) (v := .ref ub) (C := RX8) (T := TX8) (N := 5) hx hb hts (fun _ h => List.mem_cons_of_mem _ (List.mem_append_right _ h)) hown E.K hP 0 rfl rfl 2 (by decide) (hts (.fieldLink RX8 18 "LastMap$Trees" "best" "[I") (by decide +kernel)) (fun _ h9 => h9) rfl dX8_weigh_31 ?_
    refine lv_iconst (v := 0) hx hb dX8_weigh_34 (by decide) ?_
    refine lv_bipush (v := 6) hx hb dX8_weigh_35 (by decide) ?_
    refine va_copyi (n := 6) hx hb (by rw [hml, hl.1]) hown (hts (.methodLink RX8 57 arraycopyName) (by decide +kernel)) (hts (.native arraycopyName) (by decide +kernel)) (hts (.static arraycopyName) (by decide +kernel)) (hts (.initialized "java/lang/System") (by decide +kernel)) E.K hP hD hS 2 3 1 1 rfl rfl rfl rfl rfl (by decide) (by decide) (by decide) (by decide) (by decide) (fun _ _ => rfl) (by decide +kernel) (by decide +kernel) dX8_weigh_37 (fun H locs hP hD hS => ?_)
    obtain ⟨f2, ef2⟩ : ∃ yy_ : Nat → Int32, yy_ = va_cpy gf gb (0 : Int32).toNatClampNeg (0 : Int32).toNatClampNeg (6 : Int32).toNatClampNeg := ⟨_, rfl⟩
    have hP : va_P G.1 vwCl [(tr, .inr (4, [.ref us, .ref uf, .ref ub, .int p0, .int 0])), (us, .inl (gI G, 36, .inl gs)), (uf, .inl (gI G, 6, .inl gf)), (ub, .inl (gI G, 6, .inl f2))] H := by rw [ef2]; exact hP
    have hD : va_D A [(tr, .inr (4, [.ref us, .ref uf, .ref ub, .int p0, .int 0])), (us, .inl (gI G, 36, .inl gs)), (uf, .inl (gI G, 6, .inl gf)), (ub, .inl (gI G, 6, .inl f2))] := by rw [ef2]; exact hD
    refine lv_aload_n hx hb dX8_weigh_40 rfl (lv_at hl 0 rfl) ?_
    refine lv_dup hx hb dX8_weigh_41 rfl ?_
    refine va_get (D := G.1) (ci := 4) (v := .int 0) (C := RX8) (T := TX8) (N := 5) hx hb hts (fun _ h => List.mem_cons_of_mem _ (List.mem_append_right _ h)) hown E.K hP 0 rfl rfl 4 (by decide) (hts (.fieldLink RX8 29 "LastMap$Trees" "many" "I") (by decide +kernel)) (fun _ h9 => h9) rfl dX8_weigh_42 ?_
    refine lv_iconst (v := 1) hx hb dX8_weigh_45 (by decide) ?_
    refine lv_iadd hx hb dX8_weigh_46 ?_
    refine lv_topi (fun x3 ex3 => ?_)
    obtain rfl : x3 = 1 := by rw [ex3]; decide
    refine va_put (D := G.1) (ci := 4) (v := .int 1) (ty := .int) (C := RX8) (T := TX8) (N := 5) hx hb hts (fun _ h => List.mem_cons_of_mem _ (List.mem_append_right _ h)) tyX8 tyX8_ok nmX8 hown E.K hP hD hS 0 rfl rfl 4 (by decide) (hts (.fieldLink RX8 29 "LastMap$Trees" "many" "I") (by decide +kernel)) (fun _ h9 => h9) rfl (by decide +kernel) rfl rfl (Nat.le_of_ble_eq_true rfl) dX8_weigh_47 (fun H locs hP hD hS => ?_)
    have hP : va_P G.1 vwCl [(tr, .inr (4, [.ref us, .ref uf, .ref ub, .int p0, .int 1])), (us, .inl (gI G, 36, .inl gs)), (uf, .inl (gI G, 6, .inl gf)), (ub, .inl (gI G, 6, .inl f2))] H := hP
    have hD : va_D A [(tr, .inr (4, [.ref us, .ref uf, .ref ub, .int p0, .int 1])), (us, .inl (gI G, 36, .inl gs)), (uf, .inl (gI G, 6, .inl gf)), (ub, .inl (gI G, 6, .inl f2))] := hD
    have hP9 := hP.sub (ws' := [(tr, .inr (4, [.ref us, .ref uf, .ref ub, .int p0, .int 1])), (us, .inl (gI G, 36, .inl gs)), (uf, .inl (gI G, 6, .inl gf)), (ub, .inl (gI G, 6, .inl f2))]) [0, 1, 2, 3] rfl
    have hD9 := hD.sub (ws' := [(tr, .inr (4, [.ref us, .ref uf, .ref ub, .int p0, .int 1])), (us, .inl (gI G, 36, .inl gs)), (uf, .inl (gI G, 6, .inl gf)), (ub, .inl (gI G, 6, .inl f2))]) [0, 1, 2, 3] (by decide) rfl
    exact W.vret hx hb hr (fun t ht hW => ⟨⟨(p0, 1, gf, f2), rfl, trivial, by rw [ht]; exact hP9, hD9⟩, hS.F ht⟩) hS.2.2 dX8_weigh_50
  · refine lv_iload_n hx hb dX8_weigh_7 rfl (lv_at hl 1 rfl) ?_
    refine lv_aload_n hx hb dX8_weigh_8 rfl (lv_at hl 0 rfl) ?_
    refine va_get (D := G.1) (ci := 4) (v := .int le) (C := RX8) (T := TX8) (N := 5) hx hb hts (fun _ h => List.mem_cons_of_mem _ (List.mem_append_right _ h)) hown E.K hP 0 rfl rfl 3 (by decide) (hts (.fieldLink RX8 25 "LastMap$Trees" "least" "I") (by decide +kernel)) (fun _ h9 => h9) rfl dX8_weigh_9 ?_
    refine lv_icmp_ge (tgt := 40) hx hb dX8_weigh_12 (by decide) (fun c4 => ?_) (fun c4 => ?_)
    · refine lv_aload_n hx hb dX8_weigh_40 rfl (lv_at hl 0 rfl) ?_
      refine lv_dup hx hb dX8_weigh_41 rfl ?_
      refine va_get (D := G.1) (ci := 4) (v := .int ma) (C := RX8) (T := TX8) (N := 5) hx hb hts (fun _ h => List.mem_cons_of_mem _ (List.mem_append_right _ h)) hown E.K hP 0 rfl rfl 4 (by decide) (hts (.fieldLink RX8 29 "LastMap$Trees" "many" "I") (by decide +kernel)) (fun _ h9 => h9) rfl dX8_weigh_42 ?_
      refine lv_iconst (v := 1) hx hb dX8_weigh_45 (by decide) ?_
      refine lv_iadd hx hb dX8_weigh_46 ?_
      refine lv_topi (fun x5 ex5 => ?_)
      refine va_put (D := G.1) (ci := 4) (v := .int x5) (ty := .int) (C := RX8) (T := TX8) (N := 5) hx hb hts (fun _ h => List.mem_cons_of_mem _ (List.mem_append_right _ h)) tyX8 tyX8_ok nmX8 hown E.K hP hD hS 0 rfl rfl 4 (by decide) (hts (.fieldLink RX8 29 "LastMap$Trees" "many" "I") (by decide +kernel)) (fun _ h9 => h9) rfl (by decide +kernel) rfl rfl (Nat.le_of_ble_eq_true rfl) dX8_weigh_47 (fun H locs hP hD hS => ?_)
      have hP : va_P G.1 vwCl [(tr, .inr (4, [.ref us, .ref uf, .ref ub, .int le, .int x5])), (us, .inl (gI G, 36, .inl gs)), (uf, .inl (gI G, 6, .inl gf)), (ub, .inl (gI G, 6, .inl gb))] H := hP
      have hD : va_D A [(tr, .inr (4, [.ref us, .ref uf, .ref ub, .int le, .int x5])), (us, .inl (gI G, 36, .inl gs)), (uf, .inl (gI G, 6, .inl gf)), (ub, .inl (gI G, 6, .inl gb))] := hD
      have hP9 := hP.sub (ws' := [(tr, .inr (4, [.ref us, .ref uf, .ref ub, .int le, .int x5])), (us, .inl (gI G, 36, .inl gs)), (uf, .inl (gI G, 6, .inl gf)), (ub, .inl (gI G, 6, .inl gb))]) [0, 1, 2, 3] rfl
      have hD9 := hD.sub (ws' := [(tr, .inr (4, [.ref us, .ref uf, .ref ub, .int le, .int x5])), (us, .inl (gI G, 36, .inl gs)), (uf, .inl (gI G, 6, .inl gf)), (ub, .inl (gI G, 6, .inl gb))]) [0, 1, 2, 3] (by decide) rfl
      exact W.vret hx hb hr (fun t ht hW => ⟨⟨(le, x5, gf, gb), rfl, trivial, by rw [ht]; exact hP9, hD9⟩, hS.F ht⟩) hS.2.2 dX8_weigh_50
    · refine lv_aload_n hx hb dX8_weigh_15 rfl (lv_at hl 0 rfl) ?_
      refine lv_iload_n hx hb dX8_weigh_16 rfl (lv_at hl 1 rfl) ?_
      refine va_put (D := G.1) (ci := 4) (v := .int p0) (ty := .int) (C := RX8) (T := TX8) (N := 5) hx hb hts (fun _ h => List.mem_cons_of_mem _ (List.mem_append_right _ h)) tyX8 tyX8_ok nmX8 hown E.K hP hD hS 0 rfl rfl 3 (by decide) (hts (.fieldLink RX8 25 "LastMap$Trees" "least" "I") (by decide +kernel)) (fun _ h9 => h9) rfl (by decide +kernel) rfl rfl (Nat.le_of_ble_eq_true rfl) dX8_weigh_17 (fun H locs hP hD hS => ?_)
      have hP : va_P G.1 vwCl [(tr, .inr (4, [.ref us, .ref uf, .ref ub, .int p0, .int ma])), (us, .inl (gI G, 36, .inl gs)), (uf, .inl (gI G, 6, .inl gf)), (ub, .inl (gI G, 6, .inl gb))] H := hP
      have hD : va_D A [(tr, .inr (4, [.ref us, .ref uf, .ref ub, .int p0, .int ma])), (us, .inl (gI G, 36, .inl gs)), (uf, .inl (gI G, 6, .inl gf)), (ub, .inl (gI G, 6, .inl gb))] := hD
      refine lv_aload_n hx hb dX8_weigh_20 rfl (lv_at hl 0 rfl) ?_
      refine lv_iconst (v := 0) hx hb dX8_weigh_21 (by decide) ?_
      refine va_put (D := G.1) (ci := 4) (v := .int 0) (ty := .int) (C := RX8) (T := TX8) (N := 5) hx hb hts (fun _ h => List.mem_cons_of_mem _ (List.mem_append_right _ h)) tyX8 tyX8_ok nmX8 hown E.K hP hD hS 0 rfl rfl 4 (by decide) (hts (.fieldLink RX8 29 "LastMap$Trees" "many" "I") (by decide +kernel)) (fun _ h9 => h9) rfl (by decide +kernel) rfl rfl (Nat.le_of_ble_eq_true rfl) dX8_weigh_22 (fun H locs hP hD hS => ?_)
      have hP : va_P G.1 vwCl [(tr, .inr (4, [.ref us, .ref uf, .ref ub, .int p0, .int 0])), (us, .inl (gI G, 36, .inl gs)), (uf, .inl (gI G, 6, .inl gf)), (ub, .inl (gI G, 6, .inl gb))] H := hP
      have hD : va_D A [(tr, .inr (4, [.ref us, .ref uf, .ref ub, .int p0, .int 0])), (us, .inl (gI G, 36, .inl gs)), (uf, .inl (gI G, 6, .inl gf)), (ub, .inl (gI G, 6, .inl gb))] := hD
      refine lv_aload_n hx hb dX8_weigh_25 rfl (lv_at hl 0 rfl) ?_
      refine va_get (D := G.1) (ci := 4) (v := .ref uf) (C := RX8) (T := TX8) (N := 5) hx hb hts (fun _ h => List.mem_cons_of_mem _ (List.mem_append_right _ h)) hown E.K hP 0 rfl rfl 1 (by decide) (hts (.fieldLink RX8 15 "LastMap$Trees" "from" "[I") (by decide +kernel)) (fun _ h9 => h9) rfl dX8_weigh_26 ?_
      refine lv_iconst (v := 0) hx hb dX8_weigh_29 (by decide) ?_
      refine lv_aload_n hx hb dX8_weigh_30 rfl (lv_at hl 0 rfl) ?_
      refine va_get (D := G.1) (ci := 4) (v := .ref ub) (C := RX8) (T := TX8) (N := 5) hx hb hts (fun _ h => List.mem_cons_of_mem _ (List.mem_append_right _ h)) hown E.K hP 0 rfl rfl 2 (by decide) (hts (.fieldLink RX8 18 "LastMap$Trees" "best" "[I") (by decide +kernel)) (fun _ h9 => h9) rfl dX8_weigh_31 ?_
      refine lv_iconst (v := 0) hx hb dX8_weigh_34 (by decide) ?_
      refine lv_bipush (v := 6) hx hb dX8_weigh_35 (by decide) ?_
      refine va_copyi (n := 6) hx hb (by rw [hml, hl.1]) hown (hts (.methodLink RX8 57 arraycopyName) (by decide +kernel)) (hts (.native arraycopyName) (by decide +kernel)) (hts (.static arraycopyName) (by decide +kernel)) (hts (.initialized "java/lang/System") (by decide +kernel)) E.K hP hD hS 2 3 1 1 rfl rfl rfl rfl rfl (by decide) (by decide) (by decide) (by decide) (by decide) (fun _ _ => rfl) (by decide +kernel) (by decide +kernel) dX8_weigh_37 (fun H locs hP hD hS => ?_)
      obtain ⟨f6, ef6⟩ : ∃ yy_ : Nat → Int32, yy_ = va_cpy gf gb (0 : Int32).toNatClampNeg (0 : Int32).toNatClampNeg (6 : Int32).toNatClampNeg := ⟨_, rfl⟩
      have hP : va_P G.1 vwCl [(tr, .inr (4, [.ref us, .ref uf, .ref ub, .int p0, .int 0])), (us, .inl (gI G, 36, .inl gs)), (uf, .inl (gI G, 6, .inl gf)), (ub, .inl (gI G, 6, .inl f6))] H := by rw [ef6]; exact hP
      have hD : va_D A [(tr, .inr (4, [.ref us, .ref uf, .ref ub, .int p0, .int 0])), (us, .inl (gI G, 36, .inl gs)), (uf, .inl (gI G, 6, .inl gf)), (ub, .inl (gI G, 6, .inl f6))] := by rw [ef6]; exact hD
      refine lv_aload_n hx hb dX8_weigh_40 rfl (lv_at hl 0 rfl) ?_
      refine lv_dup hx hb dX8_weigh_41 rfl ?_
      refine va_get (D := G.1) (ci := 4) (v := .int 0) (C := RX8) (T := TX8) (N := 5) hx hb hts (fun _ h => List.mem_cons_of_mem _ (List.mem_append_right _ h)) hown E.K hP 0 rfl rfl 4 (by decide) (hts (.fieldLink RX8 29 "LastMap$Trees" "many" "I") (by decide +kernel)) (fun _ h9 => h9) rfl dX8_weigh_42 ?_
      refine lv_iconst (v := 1) hx hb dX8_weigh_45 (by decide) ?_
      refine lv_iadd hx hb dX8_weigh_46 ?_
      refine lv_topi (fun x7 ex7 => ?_)
      obtain rfl : x7 = 1 := by rw [ex7]; decide
      refine va_put (D := G.1) (ci := 4) (v := .int 1) (ty := .int) (C := RX8) (T := TX8) (N := 5) hx hb hts (fun _ h => List.mem_cons_of_mem _ (List.mem_append_right _ h)) tyX8 tyX8_ok nmX8 hown E.K hP hD hS 0 rfl rfl 4 (by decide) (hts (.fieldLink RX8 29 "LastMap$Trees" "many" "I") (by decide +kernel)) (fun _ h9 => h9) rfl (by decide +kernel) rfl rfl (Nat.le_of_ble_eq_true rfl) dX8_weigh_47 (fun H locs hP hD hS => ?_)
      have hP : va_P G.1 vwCl [(tr, .inr (4, [.ref us, .ref uf, .ref ub, .int p0, .int 1])), (us, .inl (gI G, 36, .inl gs)), (uf, .inl (gI G, 6, .inl gf)), (ub, .inl (gI G, 6, .inl f6))] H := hP
      have hD : va_D A [(tr, .inr (4, [.ref us, .ref uf, .ref ub, .int p0, .int 1])), (us, .inl (gI G, 36, .inl gs)), (uf, .inl (gI G, 6, .inl gf)), (ub, .inl (gI G, 6, .inl f6))] := hD
      have hP9 := hP.sub (ws' := [(tr, .inr (4, [.ref us, .ref uf, .ref ub, .int p0, .int 1])), (us, .inl (gI G, 36, .inl gs)), (uf, .inl (gI G, 6, .inl gf)), (ub, .inl (gI G, 6, .inl f6))]) [0, 1, 2, 3] rfl
      have hD9 := hD.sub (ws' := [(tr, .inr (4, [.ref us, .ref uf, .ref ub, .int p0, .int 1])), (us, .inl (gI G, 36, .inl gs)), (uf, .inl (gI G, 6, .inl gf)), (ub, .inl (gI G, 6, .inl f6))]) [0, 1, 2, 3] (by decide) rfl
      exact W.vret hx hb hr (fun t ht hW => ⟨⟨(p0, 1, gf, f6), rfl, trivial, by rw [ht]; exact hP9, hD9⟩, hS.F ht⟩) hS.2.2 dX8_weigh_50

set_option maxHeartbeats 1000000 in
set_option maxRecDepth 100000 in
theorem c_answer (l : Launch) (G : Gy) (sz : Nat) (tr : Nat) (us : Nat) (uf : Nat) (ub : Nat) (le : Int32) (ma : Int32) (gs : Nat → Int32) (gf : Nat → Int32) (gb : Nat → Int32) (p0 : Int32)  : Ci l G yX8_answer wsX8_answer ({ frames := 1, cells := 0, slots := 0, locals := 20 }) [.ref tr, .int p0] [(tr, .inr (4, [.ref us, .ref uf, .ref ub, .int le, .int ma])), (us, .inl (gI G, 36, .inl gs)), (uf, .inl (gI G, 6, .inl gf)), (ub, .inl (gI G, 6, .inl gb))] sz (fun (r : Int32) (_ : Unit) => True) (fun (_ : Unit) => [(tr, .inr (4, [.ref us, .ref uf, .ref ub, .int le, .int ma])), (us, .inl (gI G, 36, .inl gs)), (uf, .inl (gI G, 6, .inl gf)), (ub, .inl (gI G, 6, .inl gb))]) 0 0 := by
  refine Met.ofW (cc := cX8_answer) (maxL := 3) (ret := (some .int)) (by decide) rfl ?_
  intro p e s m args below meth c s₁ B hml hv
  obtain ⟨rfl, hsz, hP, hD0, E0⟩ := hv
  have hx := B.exec
  have hb := B.bytes
  have hr := B.returns
  have hts := atoms_spec (ws := wsX8_answer) B.pre
  have hown : s.vm.findClass RX8 = some m.cls := findClass_of_methodNamed B.named
  have hlocks := B.notSynchronized
  subst hsz
  have hD := hD0.self (sz := s.heap.size)
  generalize hAe : va_A [(tr, .inr (4, [.ref us, .ref uf, .ref ub, .int le, .int ma])), (us, .inl (gI G, 36, .inl gs)), (uf, .inl (gI G, 6, .inl gf)), (ub, .inl (gI G, 6, .inl gb))] s.heap.size = A at hD E0 ⊢
  have E : EV G A s s.heap := E0
  have hA : ∀ q : Nat, s.heap.size ≤ q → A q := fun q h => by rw [← hAe]; exact Or.inr h
  have hS : va_S A s.heap s.heap [] := va_S.rf
  have hl := lv_entry ([.ref tr, .int p0]) (n := 3) (Nat.le_of_ble_eq_true rfl)
  rw [lg_entry_eq]
  generalize (lg_sl ([.ref tr, .int p0]) ++ List.replicate (3 - (lg_sl ([.ref tr, .int p0])).length) Slot.unset).toArray = ls at hl ⊢
  have hl : lv_has ls 3 [(0, .ref tr), (1, .int p0)] := hl
  have hP : va_P G.1 vwCl [(tr, .inr (4, [.ref us, .ref uf, .ref ub, .int le, .int ma])), (us, .inl (gI G, 36, .inl gs)), (uf, .inl (gI G, 6, .inl gf)), (ub, .inl (gI G, 6, .inl gb))] s.heap := hP
  refine lv_aload_n hx hb dX8_answer_0 rfl (lv_at hl 0 rfl) ?_
  refine va_get (D := G.1) (ci := 4) (v := .int le) (C := RX8) (T := TX8) (N := 5) hx hb hts (fun _ h => List.mem_cons_of_mem _ (List.mem_append_right _ h)) hown E.K hP 0 rfl rfl 3 (by decide) (hts (.fieldLink RX8 25 "LastMap$Trees" "least" "I") (by decide +kernel)) (fun _ h9 => h9) rfl dX8_answer_1 ?_
  refine lv_if_ge (tgt := 10) hx hb dX8_answer_4 (by decide) (fun c1 => ?_) (fun c1 => ?_)
  · refine lv_iload_n hx hb dX8_answer_10 rfl (lv_at hl 1 rfl) ?_
    refine lv_bipush (v := 10) hx hb dX8_answer_11 (by decide) ?_
    refine lv_icmp_ge (tgt := 32) hx hb dX8_answer_13 (by decide) (fun c2 => ?_) (fun c2 => ?_)
    · refine lv_iload_n hx hb dX8_answer_32 rfl (lv_at hl 1 rfl) ?_
      refine lv_bipush (v := 10) hx hb dX8_answer_33 (by decide) ?_
      refine lv_isub hx hb dX8_answer_35 ?_
      refine lv_topi (fun x3 ex3 => ?_)
      refine lv_istore_n (lv' := [(2, .int x3), (0, .ref tr), (1, .int p0)]) hx hb dX8_answer_36 rfl hl (by decide) rfl (fun ls hl => ?_)
      refine lv_iload_n hx hb dX8_answer_37 rfl (lv_at hl 0 rfl) ?_
      refine ca_iR (va_runSN (As := [.int x3]) (rest := []) ⟨hx, hb, hml, hown, hts⟩ (c_isMap l G s.heap.size x3) ⟨va_cnB 1 hts gX8_answer_X9_isMap_n21 rfl rfl rfl E.n21 (hts (.initialized RX9) (by decide +kernel)) (by decide +kernel) ⟨by decide +kernel, by decide +kernel⟩, hts (.static yX9_isMap) (by decide +kernel), trivial⟩ (pre_S E hP hD hS hA [] (by decide) rfl) rfl rfl hl.1 rfl (lv_room (Nat.le_of_ble_eq_true rfl)) dX8_answer_38 ⟨by decide +kernel, by decide +kernel⟩) hS hP hD hA [] rfl (fun r5 _ H locs w4 hP hS => ?_)
      rcases w4 with ⟨rfl, b6⟩ | ⟨rfl, b6⟩
      · refine lv_if_eq (tgt := 65) hx hb dX8_answer_41 (by decide) (fun c7 => False.elim (by revert c7; decide)) (fun _ => ?_)
        refine lv_aload_n hx hb dX8_answer_44 rfl (lv_at hl 1 rfl) ?_
        refine va_get (D := G.1) (ci := 4) (v := .ref ub) (C := RX8) (T := TX8) (N := 5) hx hb hts (fun _ h => List.mem_cons_of_mem _ (List.mem_append_right _ h)) hown E.K hP 0 rfl rfl 2 (by decide) (hts (.fieldLink RX8 18 "LastMap$Trees" "best" "[I") (by decide +kernel)) (fun _ h9 => h9) rfl dX8_answer_45 ?_
        refine lv_iload_n hx hb dX8_answer_48 rfl (lv_at hl 0 rfl) ?_
        refine va_iald hx hb E.K hP 3 1 rfl rfl (i := x3) (vp_in_iff.mpr (by ((try simp only [inR, inS, i3_lt, i3_le, i3_eq, i6_lt, i6_le, Int32.toInt_toInt64, lg_cmp_lt, lg_cmp_gt, lg_cmp_ge, lg_cmp_le, Int32.reduceToInt, Int64.reduceToInt] at b6 ⊢); omega))) dX8_answer_49 ?_
        refine lv_topi (fun x8 ex8 => ?_)
        refine ca_iR (va_runSN (As := [.int x8]) (rest := []) ⟨hx, hb, hml, hown, hts⟩ (c_isMap l G H.size x8) ⟨va_cnB 1 hts gX8_answer_X9_isMap_n21 rfl rfl rfl E.n21 (hts (.initialized RX9) (by decide +kernel)) (by decide +kernel) ⟨by decide +kernel, by decide +kernel⟩, hts (.static yX9_isMap) (by decide +kernel), trivial⟩ (pre_S E hP hD hS hA [] (by decide) rfl) rfl rfl hl.1 rfl (lv_room (Nat.le_of_ble_eq_true rfl)) dX8_answer_50 ⟨by decide +kernel, by decide +kernel⟩) hS hP hD hA [] rfl (fun r10 _ H locs w9 hP hS => ?_)
        rcases w9 with ⟨rfl, b11⟩ | ⟨rfl, b11⟩
        · refine lv_if_eq (tgt := 65) hx hb dX8_answer_53 (by decide) (fun c12 => False.elim (by revert c12; decide)) (fun _ => ?_)
          refine lv_aload_n hx hb dX8_answer_56 rfl (lv_at hl 1 rfl) ?_
          refine va_get (D := G.1) (ci := 4) (v := .ref ub) (C := RX8) (T := TX8) (N := 5) hx hb hts (fun _ h => List.mem_cons_of_mem _ (List.mem_append_right _ h)) hown E.K hP 0 rfl rfl 2 (by decide) (hts (.fieldLink RX8 18 "LastMap$Trees" "best" "[I") (by decide +kernel)) (fun _ h9 => h9) rfl dX8_answer_57 ?_
          refine lv_iload_n hx hb dX8_answer_60 rfl (lv_at hl 0 rfl) ?_
          refine va_iald hx hb E.K hP 3 1 rfl rfl (i := x3) (vp_in_iff.mpr (by ((try simp only [inR, inS, i3_lt, i3_le, i3_eq, i6_lt, i6_le, Int32.toInt_toInt64, lg_cmp_lt, lg_cmp_gt, lg_cmp_ge, lg_cmp_le, Int32.reduceToInt, Int64.reduceToInt] at b6 b11 ⊢); omega))) dX8_answer_61 ?_
          refine lv_topi (fun x13 ex13 => ?_)
          refine lv_goto (tgt := 67) hx hb dX8_answer_62 (by decide) ?_
          have hP9 := hP.sub (ws' := [(tr, .inr (4, [.ref us, .ref uf, .ref ub, .int le, .int ma])), (us, .inl (gI G, 36, .inl gs)), (uf, .inl (gI G, 6, .inl gf)), (ub, .inl (gI G, 6, .inl gb))]) [0, 1, 2, 3] rfl
          have hD9 := hD.sub (ws' := [(tr, .inr (4, [.ref us, .ref uf, .ref ub, .int le, .int ma])), (us, .inl (gI G, 36, .inl gs)), (uf, .inl (gI G, 6, .inl gf)), (ub, .inl (gI G, 6, .inl gb))]) [0, 1, 2, 3] (by decide) rfl
          exact W.iret (v := x13) hx hb hr (fun t ht hW => ⟨⟨x13, (), rfl, trivial, by rw [ht]; exact hP9, hD9⟩, hS.F ht⟩) hS.2.2 dX8_answer_67
        · refine lv_if_eq (tgt := 65) hx hb dX8_answer_53 (by decide) (fun _ => ?_) (fun c14 => False.elim (by revert c14; decide))
          refine lv_bipush (v := (-6)) hx hb dX8_answer_65 (by decide) ?_
          have hP9 := hP.sub (ws' := [(tr, .inr (4, [.ref us, .ref uf, .ref ub, .int le, .int ma])), (us, .inl (gI G, 36, .inl gs)), (uf, .inl (gI G, 6, .inl gf)), (ub, .inl (gI G, 6, .inl gb))]) [0, 1, 2, 3] rfl
          have hD9 := hD.sub (ws' := [(tr, .inr (4, [.ref us, .ref uf, .ref ub, .int le, .int ma])), (us, .inl (gI G, 36, .inl gs)), (uf, .inl (gI G, 6, .inl gf)), (ub, .inl (gI G, 6, .inl gb))]) [0, 1, 2, 3] (by decide) rfl
          exact W.iret (v := (-6)) hx hb hr (fun t ht hW => ⟨⟨(-6), (), rfl, trivial, by rw [ht]; exact hP9, hD9⟩, hS.F ht⟩) hS.2.2 dX8_answer_67
      · refine lv_if_eq (tgt := 65) hx hb dX8_answer_41 (by decide) (fun _ => ?_) (fun c15 => False.elim (by revert c15; decide))
        refine lv_bipush (v := (-6)) hx hb dX8_answer_65 (by decide) ?_
        have hP9 := hP.sub (ws' := [(tr, .inr (4, [.ref us, .ref uf, .ref ub, .int le, .int ma])), (us, .inl (gI G, 36, .inl gs)), (uf, .inl (gI G, 6, .inl gf)), (ub, .inl (gI G, 6, .inl gb))]) [0, 1, 2, 3] rfl
        have hD9 := hD.sub (ws' := [(tr, .inr (4, [.ref us, .ref uf, .ref ub, .int le, .int ma])), (us, .inl (gI G, 36, .inl gs)), (uf, .inl (gI G, 6, .inl gf)), (ub, .inl (gI G, 6, .inl gb))]) [0, 1, 2, 3] (by decide) rfl
        exact W.iret (v := (-6)) hx hb hr (fun t ht hW => ⟨⟨(-6), (), rfl, trivial, by rw [ht]; exact hP9, hD9⟩, hS.F ht⟩) hS.2.2 dX8_answer_67
    · refine lv_iload_n hx hb dX8_answer_16 rfl (lv_at hl 1 rfl) ?_
      refine lv_if_ne (tgt := 27) hx hb dX8_answer_17 (by decide) (fun c16 => ?_) (fun c16 => ?_)
      · refine lv_aload_n hx hb dX8_answer_27 rfl (lv_at hl 0 rfl) ?_
        refine va_get (D := G.1) (ci := 4) (v := .int ma) (C := RX8) (T := TX8) (N := 5) hx hb hts (fun _ h => List.mem_cons_of_mem _ (List.mem_append_right _ h)) hown E.K hP 0 rfl rfl 4 (by decide) (hts (.fieldLink RX8 29 "LastMap$Trees" "many" "I") (by decide +kernel)) (fun _ h9 => h9) rfl dX8_answer_28 ?_
        have hP9 := hP.sub (ws' := [(tr, .inr (4, [.ref us, .ref uf, .ref ub, .int le, .int ma])), (us, .inl (gI G, 36, .inl gs)), (uf, .inl (gI G, 6, .inl gf)), (ub, .inl (gI G, 6, .inl gb))]) [0, 1, 2, 3] rfl
        have hD9 := hD.sub (ws' := [(tr, .inr (4, [.ref us, .ref uf, .ref ub, .int le, .int ma])), (us, .inl (gI G, 36, .inl gs)), (uf, .inl (gI G, 6, .inl gf)), (ub, .inl (gI G, 6, .inl gb))]) [0, 1, 2, 3] (by decide) rfl
        exact W.iret (v := ma) hx hb hr (fun t ht hW => ⟨⟨ma, (), rfl, trivial, by rw [ht]; exact hP9, hD9⟩, hS.F ht⟩) hS.2.2 dX8_answer_31
      · refine lv_aload_n hx hb dX8_answer_20 rfl (lv_at hl 0 rfl) ?_
        refine va_get (D := G.1) (ci := 4) (v := .int le) (C := RX8) (T := TX8) (N := 5) hx hb hts (fun _ h => List.mem_cons_of_mem _ (List.mem_append_right _ h)) hown E.K hP 0 rfl rfl 3 (by decide) (hts (.fieldLink RX8 25 "LastMap$Trees" "least" "I") (by decide +kernel)) (fun _ h9 => h9) rfl dX8_answer_21 ?_
        refine lv_goto (tgt := 31) hx hb dX8_answer_24 (by decide) ?_
        have hP9 := hP.sub (ws' := [(tr, .inr (4, [.ref us, .ref uf, .ref ub, .int le, .int ma])), (us, .inl (gI G, 36, .inl gs)), (uf, .inl (gI G, 6, .inl gf)), (ub, .inl (gI G, 6, .inl gb))]) [0, 1, 2, 3] rfl
        have hD9 := hD.sub (ws' := [(tr, .inr (4, [.ref us, .ref uf, .ref ub, .int le, .int ma])), (us, .inl (gI G, 36, .inl gs)), (uf, .inl (gI G, 6, .inl gf)), (ub, .inl (gI G, 6, .inl gb))]) [0, 1, 2, 3] (by decide) rfl
        exact W.iret (v := le) hx hb hr (fun t ht hW => ⟨⟨le, (), rfl, trivial, by rw [ht]; exact hP9, hD9⟩, hS.F ht⟩) hS.2.2 dX8_answer_31
  · refine lv_bipush (v := (-6)) hx hb dX8_answer_7 (by decide) ?_
    have hP9 := hP.sub (ws' := [(tr, .inr (4, [.ref us, .ref uf, .ref ub, .int le, .int ma])), (us, .inl (gI G, 36, .inl gs)), (uf, .inl (gI G, 6, .inl gf)), (ub, .inl (gI G, 6, .inl gb))]) [0, 1, 2, 3] rfl
    have hD9 := hD.sub (ws' := [(tr, .inr (4, [.ref us, .ref uf, .ref ub, .int le, .int ma])), (us, .inl (gI G, 36, .inl gs)), (uf, .inl (gI G, 6, .inl gf)), (ub, .inl (gI G, 6, .inl gb))]) [0, 1, 2, 3] (by decide) rfl
    exact W.iret (v := (-6)) hx hb hr (fun t ht hW => ⟨⟨(-6), (), rfl, trivial, by rw [ht]; exact hP9, hD9⟩, hS.F ht⟩) hS.2.2 dX8_answer_9

set_option maxHeartbeats 1000000 in
set_option maxRecDepth 100000 in
theorem c_draw_rec (l : Launch) (G : Gy) : ∀ (d : Nat) (sz : Nat) (tr : Nat) (us : Nat) (uf : Nat) (ub : Nat) (le : Int32) (ma : Int32) (gs : Nat → Int32) (gf : Nat → Int32) (gb : Nat → Int32) (p0 : Int32) (p1 : Int32) (p2 : Int32) (p3 : Int32) (hd : 6 ≤ p1.toInt + d) (h0 : 0 ≤ p1.toInt), Cv l G yX8_draw wsX8_draw ({ frames := d + 3, cells := 0, slots := 0, locals := 40 * d + 100 }) [.ref tr, .int p0, .int p1, .int p2, .int p3] [(tr, .inr (4, [.ref us, .ref uf, .ref ub, .int le, .int ma])), (us, .inl (gI G, 36, .inl gs)), (uf, .inl (gI G, 6, .inl gf)), (ub, .inl (gI G, 6, .inl gb))] sz (fun (u : Int32 × Int32 × (Nat → Int32) × (Nat → Int32)) => match u with | (le1, ma1, gf1, gb1) => True) (fun (u : Int32 × Int32 × (Nat → Int32) × (Nat → Int32)) => match u with | (le1, ma1, gf1, gb1) => [(tr, .inr (4, [.ref us, .ref uf, .ref ub, .int le1, .int ma1])), (us, .inl (gI G, 36, .inl gs)), (uf, .inl (gI G, 6, .inl gf1)), (ub, .inl (gI G, 6, .inl gb1))]) 0 0 := by
  intro d
  induction d with
  | zero =>
    intro sz tr us uf ub le ma gs gf gb p0 p1 p2 p3 hd h0
    refine Met.ofW (cc := cX8_draw) (maxL := 7) (ret := none) (by decide) rfl ?_
    intro p e s m args below meth c s₁ B hml hv
    obtain ⟨rfl, hsz, hP, hD0, E0⟩ := hv
    have hx := B.exec
    have hb := B.bytes
    have hr := B.returns
    have hts := atoms_spec (ws := wsX8_draw) B.pre
    have hown : s.vm.findClass RX8 = some m.cls := findClass_of_methodNamed B.named
    have hlocks := B.notSynchronized
    subst hsz
    have hD := hD0.self (sz := s.heap.size)
    generalize hAe : va_A [(tr, .inr (4, [.ref us, .ref uf, .ref ub, .int le, .int ma])), (us, .inl (gI G, 36, .inl gs)), (uf, .inl (gI G, 6, .inl gf)), (ub, .inl (gI G, 6, .inl gb))] s.heap.size = A at hD E0 ⊢
    have E : EV G A s s.heap := E0
    have hA : ∀ q : Nat, s.heap.size ≤ q → A q := fun q h => by rw [← hAe]; exact Or.inr h
    have hS : va_S A s.heap s.heap [] := va_S.rf
    have hl := lv_entry ([.ref tr, .int p0, .int p1, .int p2, .int p3]) (n := 7) (Nat.le_of_ble_eq_true rfl)
    rw [lg_entry_eq]
    generalize (lg_sl ([.ref tr, .int p0, .int p1, .int p2, .int p3]) ++ List.replicate (7 - (lg_sl ([.ref tr, .int p0, .int p1, .int p2, .int p3])).length) Slot.unset).toArray = ls at hl ⊢
    have hl : lv_has ls 7 [(0, .ref tr), (1, .int p0), (2, .int p1), (3, .int p2), (4, .int p3)] := hl
    have hP : va_P G.1 vwCl [(tr, .inr (4, [.ref us, .ref uf, .ref ub, .int le, .int ma])), (us, .inl (gI G, 36, .inl gs)), (uf, .inl (gI G, 6, .inl gf)), (ub, .inl (gI G, 6, .inl gb))] s.heap := hP
    refine lv_aload_n hx hb dX8_draw_0 rfl (lv_at hl 0 rfl) ?_
    refine va_get (D := G.1) (ci := 4) (v := .int le) (C := RX8) (T := TX8) (N := 5) hx hb hts (fun _ h => List.mem_cons_of_mem _ (List.mem_append_right _ h)) hown E.K hP 0 rfl rfl 3 (by decide) (hts (.fieldLink RX8 25 "LastMap$Trees" "least" "I") (by decide +kernel)) (fun _ h9 => h9) rfl dX8_draw_1 ?_
    refine lv_if_lt (tgt := 16) hx hb dX8_draw_4 (by decide) (fun c1 => ?_) (fun c1 => ?_)
    · refine lv_iload_n hx hb dX8_draw_16 rfl (lv_at hl 2 rfl) ?_
      refine lv_if_lt (tgt := 26) hx hb dX8_draw_17 (by decide) (fun c2 => False.elim (by simp only [i3_lt, Int32.reduceToInt] at c2; omega)) (fun c2 => ?_)
      refine lv_iload_n hx hb dX8_draw_20 rfl (lv_at hl 2 rfl) ?_
      refine lv_bipush (v := 6) hx hb dX8_draw_21 (by decide) ?_
      refine lv_icmp_lt (tgt := 37) hx hb dX8_draw_23 (by decide) (fun c3 => False.elim (by simp only [i3_lt, Int32.reduceToInt] at c3; omega)) (fun c3 => ?_)
      refine lv_iload hx hb dX8_draw_26 (lv_at hl 4 rfl) ?_
      refine lv_if_eq (tgt := 36) hx hb dX8_draw_28 (by decide) (fun c4 => ?_) (fun c4 => ?_)
      · have hP9 := hP.sub (ws' := [(tr, .inr (4, [.ref us, .ref uf, .ref ub, .int le, .int ma])), (us, .inl (gI G, 36, .inl gs)), (uf, .inl (gI G, 6, .inl gf)), (ub, .inl (gI G, 6, .inl gb))]) [0, 1, 2, 3] rfl
        have hD9 := hD.sub (ws' := [(tr, .inr (4, [.ref us, .ref uf, .ref ub, .int le, .int ma])), (us, .inl (gI G, 36, .inl gs)), (uf, .inl (gI G, 6, .inl gf)), (ub, .inl (gI G, 6, .inl gb))]) [0, 1, 2, 3] (by decide) rfl
        exact W.vret hx hb hr (fun t ht hW => ⟨⟨(le, ma, gf, gb), rfl, trivial, by rw [ht]; exact hP9, hD9⟩, hS.F ht⟩) hS.2.2 dX8_draw_36
      · refine lv_aload_n hx hb dX8_draw_31 rfl (lv_at hl 0 rfl) ?_
        refine lv_iload_n hx hb dX8_draw_32 rfl (lv_at hl 3 rfl) ?_
        refine ca_v (wr := []) (va_runV (As := [.int p2]) (rest := []) ⟨hx, hb, hml, hown, hts⟩ (c_weigh l G s.heap.size tr us uf ub le ma gs gf gb p2) (cwV 1 hts gX8_draw_X8_weigh rfl rfl rfl (by decide +kernel) ⟨show 1 + 1 ≤ 0 + 3 by omega, show 8 + (2 + 11) + 60 ≤ 40 * 0 + 100 by omega⟩) (pre_V E hP hD hS hA [0, 1, 2, 3] (by decide) rfl 0 4 rfl rfl) rfl rfl hl.1 rfl (lv_room (Nat.le_of_ble_eq_true rfl)) dX8_draw_33 ⟨Nat.zero_le _, Nat.zero_le _⟩) hS hP hD hA [0, 1, 2, 3] [] rfl rfl (by decide) (by decide) (fun u7 H locs w5 hP hD hS => ?_)
        obtain ⟨le1_8, ma1_9, gf1_10, gb1_11⟩ := u7
        try dsimp only at w5 hP hD
        have hP := hP.sub (ws' := [(tr, .inr (4, [.ref us, .ref uf, .ref ub, .int le1_8, .int ma1_9])), (us, .inl (gI G, 36, .inl gs)), (uf, .inl (gI G, 6, .inl gf1_10)), (ub, .inl (gI G, 6, .inl gb1_11))]) [0, 1, 2, 3] rfl
        have hD := hD.sub (ws' := [(tr, .inr (4, [.ref us, .ref uf, .ref ub, .int le1_8, .int ma1_9])), (us, .inl (gI G, 36, .inl gs)), (uf, .inl (gI G, 6, .inl gf1_10)), (ub, .inl (gI G, 6, .inl gb1_11))]) [0, 1, 2, 3] (by decide) rfl
        have hP9 := hP.sub (ws' := [(tr, .inr (4, [.ref us, .ref uf, .ref ub, .int le1_8, .int ma1_9])), (us, .inl (gI G, 36, .inl gs)), (uf, .inl (gI G, 6, .inl gf1_10)), (ub, .inl (gI G, 6, .inl gb1_11))]) [0, 1, 2, 3] rfl
        have hD9 := hD.sub (ws' := [(tr, .inr (4, [.ref us, .ref uf, .ref ub, .int le1_8, .int ma1_9])), (us, .inl (gI G, 36, .inl gs)), (uf, .inl (gI G, 6, .inl gf1_10)), (ub, .inl (gI G, 6, .inl gb1_11))]) [0, 1, 2, 3] (by decide) rfl
        exact W.vret hx hb hr (fun t ht hW => ⟨⟨(le1_8, ma1_9, gf1_10, gb1_11), rfl, trivial, by rw [ht]; exact hP9, hD9⟩, hS.F ht⟩) hS.2.2 dX8_draw_36
    · refine lv_iload_n hx hb dX8_draw_7 rfl (lv_at hl 3 rfl) ?_
      refine lv_aload_n hx hb dX8_draw_8 rfl (lv_at hl 0 rfl) ?_
      refine va_get (D := G.1) (ci := 4) (v := .int le) (C := RX8) (T := TX8) (N := 5) hx hb hts (fun _ h => List.mem_cons_of_mem _ (List.mem_append_right _ h)) hown E.K hP 0 rfl rfl 3 (by decide) (hts (.fieldLink RX8 25 "LastMap$Trees" "least" "I") (by decide +kernel)) (fun _ h9 => h9) rfl dX8_draw_9 ?_
      refine lv_icmp_le (tgt := 16) hx hb dX8_draw_12 (by decide) (fun c12 => ?_) (fun c12 => ?_)
      · refine lv_iload_n hx hb dX8_draw_16 rfl (lv_at hl 2 rfl) ?_
        refine lv_if_lt (tgt := 26) hx hb dX8_draw_17 (by decide) (fun c13 => False.elim (by simp only [i3_lt, Int32.reduceToInt] at c13; omega)) (fun c13 => ?_)
        refine lv_iload_n hx hb dX8_draw_20 rfl (lv_at hl 2 rfl) ?_
        refine lv_bipush (v := 6) hx hb dX8_draw_21 (by decide) ?_
        refine lv_icmp_lt (tgt := 37) hx hb dX8_draw_23 (by decide) (fun c14 => False.elim (by simp only [i3_lt, Int32.reduceToInt] at c14; omega)) (fun c14 => ?_)
        refine lv_iload hx hb dX8_draw_26 (lv_at hl 4 rfl) ?_
        refine lv_if_eq (tgt := 36) hx hb dX8_draw_28 (by decide) (fun c15 => ?_) (fun c15 => ?_)
        · have hP9 := hP.sub (ws' := [(tr, .inr (4, [.ref us, .ref uf, .ref ub, .int le, .int ma])), (us, .inl (gI G, 36, .inl gs)), (uf, .inl (gI G, 6, .inl gf)), (ub, .inl (gI G, 6, .inl gb))]) [0, 1, 2, 3] rfl
          have hD9 := hD.sub (ws' := [(tr, .inr (4, [.ref us, .ref uf, .ref ub, .int le, .int ma])), (us, .inl (gI G, 36, .inl gs)), (uf, .inl (gI G, 6, .inl gf)), (ub, .inl (gI G, 6, .inl gb))]) [0, 1, 2, 3] (by decide) rfl
          exact W.vret hx hb hr (fun t ht hW => ⟨⟨(le, ma, gf, gb), rfl, trivial, by rw [ht]; exact hP9, hD9⟩, hS.F ht⟩) hS.2.2 dX8_draw_36
        · refine lv_aload_n hx hb dX8_draw_31 rfl (lv_at hl 0 rfl) ?_
          refine lv_iload_n hx hb dX8_draw_32 rfl (lv_at hl 3 rfl) ?_
          refine ca_v (wr := []) (va_runV (As := [.int p2]) (rest := []) ⟨hx, hb, hml, hown, hts⟩ (c_weigh l G s.heap.size tr us uf ub le ma gs gf gb p2) (cwV 1 hts gX8_draw_X8_weigh rfl rfl rfl (by decide +kernel) ⟨show 1 + 1 ≤ 0 + 3 by omega, show 8 + (2 + 11) + 60 ≤ 40 * 0 + 100 by omega⟩) (pre_V E hP hD hS hA [0, 1, 2, 3] (by decide) rfl 0 4 rfl rfl) rfl rfl hl.1 rfl (lv_room (Nat.le_of_ble_eq_true rfl)) dX8_draw_33 ⟨Nat.zero_le _, Nat.zero_le _⟩) hS hP hD hA [0, 1, 2, 3] [] rfl rfl (by decide) (by decide) (fun u18 H locs w16 hP hD hS => ?_)
          obtain ⟨le1_19, ma1_20, gf1_21, gb1_22⟩ := u18
          try dsimp only at w16 hP hD
          have hP := hP.sub (ws' := [(tr, .inr (4, [.ref us, .ref uf, .ref ub, .int le1_19, .int ma1_20])), (us, .inl (gI G, 36, .inl gs)), (uf, .inl (gI G, 6, .inl gf1_21)), (ub, .inl (gI G, 6, .inl gb1_22))]) [0, 1, 2, 3] rfl
          have hD := hD.sub (ws' := [(tr, .inr (4, [.ref us, .ref uf, .ref ub, .int le1_19, .int ma1_20])), (us, .inl (gI G, 36, .inl gs)), (uf, .inl (gI G, 6, .inl gf1_21)), (ub, .inl (gI G, 6, .inl gb1_22))]) [0, 1, 2, 3] (by decide) rfl
          have hP9 := hP.sub (ws' := [(tr, .inr (4, [.ref us, .ref uf, .ref ub, .int le1_19, .int ma1_20])), (us, .inl (gI G, 36, .inl gs)), (uf, .inl (gI G, 6, .inl gf1_21)), (ub, .inl (gI G, 6, .inl gb1_22))]) [0, 1, 2, 3] rfl
          have hD9 := hD.sub (ws' := [(tr, .inr (4, [.ref us, .ref uf, .ref ub, .int le1_19, .int ma1_20])), (us, .inl (gI G, 36, .inl gs)), (uf, .inl (gI G, 6, .inl gf1_21)), (ub, .inl (gI G, 6, .inl gb1_22))]) [0, 1, 2, 3] (by decide) rfl
          exact W.vret hx hb hr (fun t ht hW => ⟨⟨(le1_19, ma1_20, gf1_21, gb1_22), rfl, trivial, by rw [ht]; exact hP9, hD9⟩, hS.F ht⟩) hS.2.2 dX8_draw_36
      · have hP9 := hP.sub (ws' := [(tr, .inr (4, [.ref us, .ref uf, .ref ub, .int le, .int ma])), (us, .inl (gI G, 36, .inl gs)), (uf, .inl (gI G, 6, .inl gf)), (ub, .inl (gI G, 6, .inl gb))]) [0, 1, 2, 3] rfl
        have hD9 := hD.sub (ws' := [(tr, .inr (4, [.ref us, .ref uf, .ref ub, .int le, .int ma])), (us, .inl (gI G, 36, .inl gs)), (uf, .inl (gI G, 6, .inl gf)), (ub, .inl (gI G, 6, .inl gb))]) [0, 1, 2, 3] (by decide) rfl
        exact W.vret hx hb hr (fun t ht hW => ⟨⟨(le, ma, gf, gb), rfl, trivial, by rw [ht]; exact hP9, hD9⟩, hS.F ht⟩) hS.2.2 dX8_draw_15
  | succ d ih =>
    intro sz tr us uf ub le ma gs gf gb p0 p1 p2 p3 hd h0
    refine Met.ofW (cc := cX8_draw) (maxL := 7) (ret := none) (by decide) rfl ?_
    intro p e s m args below meth c s₁ B hml hv
    obtain ⟨rfl, hsz, hP, hD0, E0⟩ := hv
    have hx := B.exec
    have hb := B.bytes
    have hr := B.returns
    have hts := atoms_spec (ws := wsX8_draw) B.pre
    have hown : s.vm.findClass RX8 = some m.cls := findClass_of_methodNamed B.named
    have hlocks := B.notSynchronized
    subst hsz
    have hD := hD0.self (sz := s.heap.size)
    generalize hAe : va_A [(tr, .inr (4, [.ref us, .ref uf, .ref ub, .int le, .int ma])), (us, .inl (gI G, 36, .inl gs)), (uf, .inl (gI G, 6, .inl gf)), (ub, .inl (gI G, 6, .inl gb))] s.heap.size = A at hD E0 ⊢
    have E : EV G A s s.heap := E0
    have hA : ∀ q : Nat, s.heap.size ≤ q → A q := fun q h => by rw [← hAe]; exact Or.inr h
    have hS : va_S A s.heap s.heap [] := va_S.rf
    have hl := lv_entry ([.ref tr, .int p0, .int p1, .int p2, .int p3]) (n := 7) (Nat.le_of_ble_eq_true rfl)
    rw [lg_entry_eq]
    generalize (lg_sl ([.ref tr, .int p0, .int p1, .int p2, .int p3]) ++ List.replicate (7 - (lg_sl ([.ref tr, .int p0, .int p1, .int p2, .int p3])).length) Slot.unset).toArray = ls at hl ⊢
    have hl : lv_has ls 7 [(0, .ref tr), (1, .int p0), (2, .int p1), (3, .int p2), (4, .int p3)] := hl
    have hP : va_P G.1 vwCl [(tr, .inr (4, [.ref us, .ref uf, .ref ub, .int le, .int ma])), (us, .inl (gI G, 36, .inl gs)), (uf, .inl (gI G, 6, .inl gf)), (ub, .inl (gI G, 6, .inl gb))] s.heap := hP
    refine lv_aload_n hx hb dX8_draw_0 rfl (lv_at hl 0 rfl) ?_
    refine va_get (D := G.1) (ci := 4) (v := .int le) (C := RX8) (T := TX8) (N := 5) hx hb hts (fun _ h => List.mem_cons_of_mem _ (List.mem_append_right _ h)) hown E.K hP 0 rfl rfl 3 (by decide) (hts (.fieldLink RX8 25 "LastMap$Trees" "least" "I") (by decide +kernel)) (fun _ h9 => h9) rfl dX8_draw_1 ?_
    refine lv_if_lt (tgt := 16) hx hb dX8_draw_4 (by decide) (fun c1 => ?_) (fun c1 => ?_)
    · refine lv_iload_n hx hb dX8_draw_16 rfl (lv_at hl 2 rfl) ?_
      refine lv_if_lt (tgt := 26) hx hb dX8_draw_17 (by decide) (fun c2 => False.elim (by simp only [i3_lt, Int32.reduceToInt] at c2; omega)) (fun c2 => ?_)
      refine lv_iload_n hx hb dX8_draw_20 rfl (lv_at hl 2 rfl) ?_
      refine lv_bipush (v := 6) hx hb dX8_draw_21 (by decide) ?_
      refine lv_icmp_lt (tgt := 37) hx hb dX8_draw_23 (by decide) (fun c3 => ?_) (fun c3 => ?_)
      · have h6 : p1.toInt < (6 : Int32).toInt := by ((try simp only [inR, inS, i3_lt, i3_le, i3_eq, i6_lt, i6_le, Int32.toInt_toInt64, lg_cmp_lt, lg_cmp_gt, lg_cmp_ge, lg_cmp_le, Int32.reduceToInt, Int64.reduceToInt] at c3 ⊢); omega)
        refine lv_iload_n hx hb dX8_draw_37 rfl (lv_at hl 1 rfl) ?_
        refine lv_iload_n hx hb dX8_draw_38 rfl (lv_at hl 2 rfl) ?_
        refine ca_iR (va_runSN (As := [.int p0, .int p1]) (rest := []) ⟨hx, hb, hml, hown, hts⟩ (c_isOf l G s.heap.size p0 p1) ⟨va_cnB 2 hts gX8_draw_X9_isOf_n46 rfl rfl rfl E.n46 (hts (.initialized RX9) (by decide +kernel)) (by decide +kernel) ⟨show 1 + 1 ≤ (d + 1) + 3 by omega, show 8 + (2 + 11) + 20 ≤ 40 * (d + 1) + 100 by omega⟩, hts (.static yX9_isOf) (by decide +kernel), trivial⟩ (pre_S E hP hD hS hA [] (by decide) rfl) rfl rfl hl.1 rfl (lv_room (Nat.le_of_ble_eq_true rfl)) dX8_draw_39 ⟨Nat.zero_le _, Nat.zero_le _⟩) hS hP hD hA [] rfl (fun r5 _ H locs w4 hP hS => ?_)
        rcases w4 with ⟨rfl, b6⟩ | ⟨rfl, b6⟩
        · refine lv_if_ne (tgt := 57) hx hb dX8_draw_42 (by decide) (fun _ => ?_) (fun c7 => False.elim (by revert c7; decide))
          refine lv_iconst (v := 0) hx hb dX8_draw_57 (by decide) ?_
          refine lv_istore (lv' := [(5, .int 0), (0, .ref tr), (1, .int p0), (2, .int p1), (3, .int p2), (4, .int p3)]) hx hb dX8_draw_58 hl (by decide) rfl (fun ls hl => ?_)
          refine lp_run (x0 := (0, le, ma, gf, gb)) (fun xx_ : Int32 × Int32 × Int32 × (Nat → Int32) × (Nat → Int32) => match xx_ with | (x, la, lb, ka, kb) => [(tr, .inr (4, [.ref us, .ref uf, .ref ub, .int la, .int lb])), (us, .inl (gI G, 36, .inl gs)), (uf, .inl (gI G, 6, .inl ka)), (ub, .inl (gI G, 6, .inl kb))]) (fun xx_ : Int32 × Int32 × Int32 × (Nat → Int32) × (Nat → Int32) => match xx_ with | (x, la, lb, ka, kb) => [(5, .int x), (0, .ref tr), (1, .int p0), (2, .int p1), (3, .int p2), (4, .int p3)]) (fun xx_ : Int32 × Int32 × Int32 × (Nat → Int32) × (Nat → Int32) => match xx_ with | (x, la, lb, ka, kb) => (0 ≤ x.toInt)) (fun xx_ : Int32 × Int32 × Int32 × (Nat → Int32) × (Nat → Int32) => match xx_ with | (x, la, lb, ka, kb) => ((6 : Int32).toInt - x.toInt).toNat) (hP.sub [0, 1, 2, 3] rfl) (hD.sub [0, 1, 2, 3] (by decide) rfl) hS (lv_sub hl [0, 1, 2, 3, 4, 5] rfl) (show (0 : Int) ≤ (0 : Int32).toInt by first | decide | omega | assumption) ?_
          intro xx_ hI ih60 H locs ls hP hD hS hl
          obtain ⟨x, la, lb, ka, kb⟩ := xx_
          dsimp only at hI ih60 hP hD hl
          have hx0 := hI
          have hl : lv_has ls 7 [(5, .int x), (0, .ref tr), (1, .int p0), (2, .int p1), (3, .int p2), (4, .int p3)] := hl
          have hP : va_P G.1 vwCl [(tr, .inr (4, [.ref us, .ref uf, .ref ub, .int la, .int lb])), (us, .inl (gI G, 36, .inl gs)), (uf, .inl (gI G, 6, .inl ka)), (ub, .inl (gI G, 6, .inl kb))] H := hP
          have hD : va_D A [(tr, .inr (4, [.ref us, .ref uf, .ref ub, .int la, .int lb])), (us, .inl (gI G, 36, .inl gs)), (uf, .inl (gI G, 6, .inl ka)), (ub, .inl (gI G, 6, .inl kb))] := hD
          refine lv_iload hx hb dX8_draw_60 (lv_at hl 0 rfl) ?_
          refine lv_bipush (v := 6) hx hb dX8_draw_62 (by decide) ?_
          refine lv_icmp_ge (tgt := 128) hx hb dX8_draw_64 (by decide) (fun c8 => ?_) (fun c8 => ?_)
          · refine lv_iload hx hb dX8_draw_128 (lv_at hl 5 rfl) ?_
            refine lv_if_ne (tgt := 151) hx hb dX8_draw_130 (by decide) (fun c9 => ?_) (fun c9 => ?_)
            · refine lv_aload_n hx hb dX8_draw_151 rfl (lv_at hl 1 rfl) ?_
              refine va_get (D := G.1) (ci := 4) (v := .ref uf) (C := RX8) (T := TX8) (N := 5) hx hb hts (fun _ h => List.mem_cons_of_mem _ (List.mem_append_right _ h)) hown E.K hP 0 rfl rfl 1 (by decide) (hts (.fieldLink RX8 15 "LastMap$Trees" "from" "[I") (by decide +kernel)) (fun _ h9 => h9) rfl dX8_draw_152 ?_
              refine lv_iload_n hx hb dX8_draw_155 rfl (lv_at hl 3 rfl) ?_
              refine lv_bipush (v := 7) hx hb dX8_draw_156 (by decide) ?_
              refine va_iast hx hb E.K hP hD hS 2 1 rfl rfl (i := p1) (vp_in_iff.mpr ⟨h0, by have q := h6; simp only [Int32.reduceToInt] at q; omega⟩) dX8_draw_158 (fun H locs hP hD hS => ?_)
              obtain ⟨f10, ef10⟩ : ∃ yy_ : Nat → Int32, yy_ = upd ka p1.toNatClampNeg 7 := ⟨_, rfl⟩
              have hP : va_P G.1 vwCl [(tr, .inr (4, [.ref us, .ref uf, .ref ub, .int la, .int lb])), (us, .inl (gI G, 36, .inl gs)), (uf, .inl (gI G, 6, .inl f10)), (ub, .inl (gI G, 6, .inl kb))] H := by rw [ef10]; exact hP
              have hD : va_D A [(tr, .inr (4, [.ref us, .ref uf, .ref ub, .int la, .int lb])), (us, .inl (gI G, 36, .inl gs)), (uf, .inl (gI G, 6, .inl f10)), (ub, .inl (gI G, 6, .inl kb))] := by rw [ef10]; exact hD
              have hP9 := hP.sub (ws' := [(tr, .inr (4, [.ref us, .ref uf, .ref ub, .int la, .int lb])), (us, .inl (gI G, 36, .inl gs)), (uf, .inl (gI G, 6, .inl f10)), (ub, .inl (gI G, 6, .inl kb))]) [0, 1, 2, 3] rfl
              have hD9 := hD.sub (ws' := [(tr, .inr (4, [.ref us, .ref uf, .ref ub, .int la, .int lb])), (us, .inl (gI G, 36, .inl gs)), (uf, .inl (gI G, 6, .inl f10)), (ub, .inl (gI G, 6, .inl kb))]) [0, 1, 2, 3] (by decide) rfl
              exact W.vret hx hb hr (fun t ht hW => ⟨⟨(la, lb, f10, kb), rfl, trivial, by rw [ht]; exact hP9, hD9⟩, hS.F ht⟩) hS.2.2 dX8_draw_159
            · refine lv_aload_n hx hb dX8_draw_133 rfl (lv_at hl 1 rfl) ?_
              refine va_get (D := G.1) (ci := 4) (v := .ref uf) (C := RX8) (T := TX8) (N := 5) hx hb hts (fun _ h => List.mem_cons_of_mem _ (List.mem_append_right _ h)) hown E.K hP 0 rfl rfl 1 (by decide) (hts (.fieldLink RX8 15 "LastMap$Trees" "from" "[I") (by decide +kernel)) (fun _ h9 => h9) rfl dX8_draw_134 ?_
              refine lv_iload_n hx hb dX8_draw_137 rfl (lv_at hl 3 rfl) ?_
              refine lv_bipush (v := 6) hx hb dX8_draw_138 (by decide) ?_
              refine va_iast hx hb E.K hP hD hS 2 1 rfl rfl (i := p1) (vp_in_iff.mpr ⟨h0, by have q := h6; simp only [Int32.reduceToInt] at q; omega⟩) dX8_draw_140 (fun H locs hP hD hS => ?_)
              obtain ⟨f11, ef11⟩ : ∃ yy_ : Nat → Int32, yy_ = upd ka p1.toNatClampNeg 6 := ⟨_, rfl⟩
              have hP : va_P G.1 vwCl [(tr, .inr (4, [.ref us, .ref uf, .ref ub, .int la, .int lb])), (us, .inl (gI G, 36, .inl gs)), (uf, .inl (gI G, 6, .inl f11)), (ub, .inl (gI G, 6, .inl kb))] H := by rw [ef11]; exact hP
              have hD : va_D A [(tr, .inr (4, [.ref us, .ref uf, .ref ub, .int la, .int lb])), (us, .inl (gI G, 36, .inl gs)), (uf, .inl (gI G, 6, .inl f11)), (ub, .inl (gI G, 6, .inl kb))] := by rw [ef11]; exact hD
              refine lv_aload_n hx hb dX8_draw_141 rfl (lv_at hl 1 rfl) ?_
              refine lv_iload_n hx hb dX8_draw_142 rfl (lv_at hl 2 rfl) ?_
              refine lv_iload_n hx hb dX8_draw_143 rfl (lv_at hl 3 rfl) ?_
              refine lv_iconst (v := 1) hx hb dX8_draw_144 (by decide) ?_
              refine lv_iadd hx hb dX8_draw_145 ?_
              refine lv_topi (fun x12 ex12 => ?_)
              refine lv_iload_n hx hb dX8_draw_146 rfl (lv_at hl 4 rfl) ?_
              refine lv_iconst (v := 1) hx hb dX8_draw_147 (by decide) ?_
              refine ca_v (wr := []) (va_runV (As := [.int p0, .int x12, .int p2, .int 1]) (rest := []) ⟨hx, hb, hml, hown, hts⟩ (ih H.size tr us uf ub la lb gs f11 kb p0 x12 p2 1 (by have q := inc_lt (y := 6) h6 ex12; omega) (by have q := inc_lt (y := 6) h6 ex12; omega)) (cwV 4 hts gX8_draw_X8_draw rfl rfl rfl (by decide +kernel) ⟨show (d + 3) + 1 ≤ (d + 1) + 3 by omega, show 8 + (7 + 11) + (40 * d + 100) ≤ 40 * (d + 1) + 100 by omega⟩) (pre_V E hP hD hS hA [0, 1, 2, 3] (by decide) rfl 0 4 rfl rfl) rfl rfl hl.1 rfl (lv_room (Nat.le_of_ble_eq_true rfl)) dX8_draw_148 ⟨Nat.zero_le _, Nat.zero_le _⟩) hS hP hD hA [0, 1, 2, 3] [] rfl rfl (by decide) (by decide) (fun u15 H locs w13 hP hD hS => ?_)
              obtain ⟨le1_16, ma1_17, gf1_18, gb1_19⟩ := u15
              try dsimp only at w13 hP hD
              have hP := hP.sub (ws' := [(tr, .inr (4, [.ref us, .ref uf, .ref ub, .int le1_16, .int ma1_17])), (us, .inl (gI G, 36, .inl gs)), (uf, .inl (gI G, 6, .inl gf1_18)), (ub, .inl (gI G, 6, .inl gb1_19))]) [0, 1, 2, 3] rfl
              have hD := hD.sub (ws' := [(tr, .inr (4, [.ref us, .ref uf, .ref ub, .int le1_16, .int ma1_17])), (us, .inl (gI G, 36, .inl gs)), (uf, .inl (gI G, 6, .inl gf1_18)), (ub, .inl (gI G, 6, .inl gb1_19))]) [0, 1, 2, 3] (by decide) rfl
              refine lv_aload_n hx hb dX8_draw_151 rfl (lv_at hl 1 rfl) ?_
              refine va_get (D := G.1) (ci := 4) (v := .ref uf) (C := RX8) (T := TX8) (N := 5) hx hb hts (fun _ h => List.mem_cons_of_mem _ (List.mem_append_right _ h)) hown E.K hP 0 rfl rfl 1 (by decide) (hts (.fieldLink RX8 15 "LastMap$Trees" "from" "[I") (by decide +kernel)) (fun _ h9 => h9) rfl dX8_draw_152 ?_
              refine lv_iload_n hx hb dX8_draw_155 rfl (lv_at hl 3 rfl) ?_
              refine lv_bipush (v := 7) hx hb dX8_draw_156 (by decide) ?_
              refine va_iast hx hb E.K hP hD hS 2 1 rfl rfl (i := p1) (vp_in_iff.mpr ⟨h0, by have q := h6; simp only [Int32.reduceToInt] at q; omega⟩) dX8_draw_158 (fun H locs hP hD hS => ?_)
              obtain ⟨f20, ef20⟩ : ∃ yy_ : Nat → Int32, yy_ = upd gf1_18 p1.toNatClampNeg 7 := ⟨_, rfl⟩
              have hP : va_P G.1 vwCl [(tr, .inr (4, [.ref us, .ref uf, .ref ub, .int le1_16, .int ma1_17])), (us, .inl (gI G, 36, .inl gs)), (uf, .inl (gI G, 6, .inl f20)), (ub, .inl (gI G, 6, .inl gb1_19))] H := by rw [ef20]; exact hP
              have hD : va_D A [(tr, .inr (4, [.ref us, .ref uf, .ref ub, .int le1_16, .int ma1_17])), (us, .inl (gI G, 36, .inl gs)), (uf, .inl (gI G, 6, .inl f20)), (ub, .inl (gI G, 6, .inl gb1_19))] := by rw [ef20]; exact hD
              have hP9 := hP.sub (ws' := [(tr, .inr (4, [.ref us, .ref uf, .ref ub, .int le1_16, .int ma1_17])), (us, .inl (gI G, 36, .inl gs)), (uf, .inl (gI G, 6, .inl f20)), (ub, .inl (gI G, 6, .inl gb1_19))]) [0, 1, 2, 3] rfl
              have hD9 := hD.sub (ws' := [(tr, .inr (4, [.ref us, .ref uf, .ref ub, .int le1_16, .int ma1_17])), (us, .inl (gI G, 36, .inl gs)), (uf, .inl (gI G, 6, .inl f20)), (ub, .inl (gI G, 6, .inl gb1_19))]) [0, 1, 2, 3] (by decide) rfl
              exact W.vret hx hb hr (fun t ht hW => ⟨⟨(le1_16, ma1_17, f20, gb1_19), rfl, trivial, by rw [ht]; exact hP9, hD9⟩, hS.F ht⟩) hS.2.2 dX8_draw_159
          · have hlt60 : x.toInt < (6 : Int32).toInt := by ((try simp only [inR, inS, i3_lt, i3_le, i3_eq, i6_lt, i6_le, Int32.toInt_toInt64, lg_cmp_lt, lg_cmp_gt, lg_cmp_ge, lg_cmp_le, Int32.reduceToInt, Int64.reduceToInt] at c8 ⊢); omega)
            refine lv_aload_n hx hb dX8_draw_67 rfl (lv_at hl 1 rfl) ?_
            refine lv_iload hx hb dX8_draw_68 (lv_at hl 0 rfl) ?_
            refine lv_iload_n hx hb dX8_draw_70 rfl (lv_at hl 3 rfl) ?_
            refine ca_iR (va_runV (As := [.int x, .int p1]) (rest := []) ⟨hx, hb, hml, hown, hts⟩ (c_slipsOf l G H.size tr us uf ub la lb gs ka kb x p1) (cwV 2 hts gX8_draw_X8_slipsOf rfl rfl rfl (by decide +kernel) ⟨show 1 + 1 ≤ (d + 1) + 3 by omega, show 8 + (3 + 11) + 20 ≤ 40 * (d + 1) + 100 by omega⟩) (pre_V E hP hD hS hA [0, 1, 2, 3] (by decide) rfl 0 4 rfl rfl) rfl rfl hl.1 rfl (lv_room (Nat.le_of_ble_eq_true rfl)) dX8_draw_71 ⟨Nat.zero_le _, Nat.zero_le _⟩) hS hP hD hA [0, 1, 2, 3] rfl (fun r22 _ H locs w21 hP hS => ?_)
            refine lv_istore (lv' := [(6, .int r22), (5, .int x), (0, .ref tr), (1, .int p0), (2, .int p1), (3, .int p2), (4, .int p3)]) hx hb dX8_draw_74 hl (by decide) rfl (fun ls hl => ?_)
            refine lv_iload_n hx hb dX8_draw_76 rfl (lv_at hl 3 rfl) ?_
            refine lv_iload hx hb dX8_draw_77 (lv_at hl 1 rfl) ?_
            refine ca_iR (va_runSN (As := [.int p0, .int x]) (rest := []) ⟨hx, hb, hml, hown, hts⟩ (c_isOf l G H.size p0 x) ⟨va_cnB 2 hts gX8_draw_X9_isOf_n46 rfl rfl rfl E.n46 (hts (.initialized RX9) (by decide +kernel)) (by decide +kernel) ⟨show 1 + 1 ≤ (d + 1) + 3 by omega, show 8 + (2 + 11) + 20 ≤ 40 * (d + 1) + 100 by omega⟩, hts (.static yX9_isOf) (by decide +kernel), trivial⟩ (pre_S E hP hD hS hA [] (by decide) rfl) rfl rfl hl.1 rfl (lv_room (Nat.le_of_ble_eq_true rfl)) dX8_draw_79 ⟨Nat.zero_le _, Nat.zero_le _⟩) hS hP hD hA [] rfl (fun r24 _ H locs w23 hP hS => ?_)
            rcases w23 with ⟨rfl, b25⟩ | ⟨rfl, b25⟩
            · refine lv_if_eq (tgt := 122) hx hb dX8_draw_82 (by decide) (fun c26 => False.elim (by revert c26; decide)) (fun _ => ?_)
              refine lv_iload hx hb dX8_draw_85 (lv_at hl 0 rfl) ?_
              refine lv_if_lt (tgt := 122) hx hb dX8_draw_87 (by decide) (fun c27 => ?_) (fun c27 => ?_)
              · obtain ⟨x28, ex28⟩ : ∃ yy_ : Int32, yy_ = x + 1 := ⟨_, rfl⟩
                refine lv_iinc (v := x28) (lv' := [(5, .int x28), (6, .int r22), (0, .ref tr), (1, .int p0), (2, .int p1), (3, .int p2), (4, .int p3)]) hx hb dX8_draw_122 hl (k := 1) rfl (by rw [ex28]; rfl) (by decide) rfl (fun ls hl => ?_)
                refine lv_goto (tgt := 60) hx hb dX8_draw_125 (by decide) ?_
                have hinc60 := inc_lt hlt60 ex28
                refine ih60 (x28, la, lb, ka, kb) ?_ (by first | omega | (dsimp only; omega)) H locs ls (hP.sub [0, 1, 2, 3] rfl) (hD.sub [0, 1, 2, 3] (by decide) rfl) hS (lv_sub hl [0, 2, 3, 4, 5, 6] rfl)
                try dsimp only
                omega
              · refine lv_aload_n hx hb dX8_draw_90 rfl (lv_at hl 2 rfl) ?_
                refine lv_iload hx hb dX8_draw_91 (lv_at hl 1 rfl) ?_
                refine lv_iload_n hx hb dX8_draw_93 rfl (lv_at hl 4 rfl) ?_
                refine ca_iR (va_runV (As := [.int x, .int p1]) (rest := []) ⟨hx, hb, hml, hown, hts⟩ (c_comesOf l G H.size tr us uf ub la lb gs ka kb x p1) (cwV 2 hts gX8_draw_X8_comesOf rfl rfl rfl (by decide +kernel) ⟨show 1 + 1 ≤ (d + 1) + 3 by omega, show 8 + (5 + 11) + 20 ≤ 40 * (d + 1) + 100 by omega⟩) (pre_V E hP hD hS hA [0, 1, 2, 3] (by decide) rfl 0 4 rfl rfl) rfl rfl hl.1 rfl (lv_room (Nat.le_of_ble_eq_true rfl)) dX8_draw_94 ⟨Nat.zero_le _, Nat.zero_le _⟩) hS hP hD hA [0, 1, 2, 3] rfl (fun r30 _ H locs w29 hP hS => ?_)
                rcases w29 with ⟨rfl, b31⟩ | ⟨rfl, b31⟩
                · refine lv_if_ne (tgt := 122) hx hb dX8_draw_97 (by decide) (fun _ => ?_) (fun c32 => False.elim (by revert c32; decide))
                  obtain ⟨x33, ex33⟩ : ∃ yy_ : Int32, yy_ = x + 1 := ⟨_, rfl⟩
                  refine lv_iinc (v := x33) (lv' := [(5, .int x33), (6, .int r22), (0, .ref tr), (1, .int p0), (2, .int p1), (3, .int p2), (4, .int p3)]) hx hb dX8_draw_122 hl (k := 1) rfl (by rw [ex33]; rfl) (by decide) rfl (fun ls hl => ?_)
                  refine lv_goto (tgt := 60) hx hb dX8_draw_125 (by decide) ?_
                  have hinc60 := inc_lt hlt60 ex33
                  refine ih60 (x33, la, lb, ka, kb) ?_ (by first | omega | (dsimp only; omega)) H locs ls (hP.sub [0, 1, 2, 3] rfl) (hD.sub [0, 1, 2, 3] (by decide) rfl) hS (lv_sub hl [0, 2, 3, 4, 5, 6] rfl)
                  try dsimp only
                  omega
                · refine lv_if_ne (tgt := 122) hx hb dX8_draw_97 (by decide) (fun c34 => False.elim (by revert c34; decide)) (fun _ => ?_)
                  refine lv_aload_n hx hb dX8_draw_100 rfl (lv_at hl 2 rfl) ?_
                  refine va_get (D := G.1) (ci := 4) (v := .ref uf) (C := RX8) (T := TX8) (N := 5) hx hb hts (fun _ h => List.mem_cons_of_mem _ (List.mem_append_right _ h)) hown E.K hP 0 rfl rfl 1 (by decide) (hts (.fieldLink RX8 15 "LastMap$Trees" "from" "[I") (by decide +kernel)) (fun _ h9 => h9) rfl dX8_draw_101 ?_
                  refine lv_iload_n hx hb dX8_draw_104 rfl (lv_at hl 4 rfl) ?_
                  refine lv_iload hx hb dX8_draw_105 (lv_at hl 1 rfl) ?_
                  refine va_iast hx hb E.K hP hD hS 2 1 rfl rfl (i := p1) (vp_in_iff.mpr ⟨h0, by have q := h6; simp only [Int32.reduceToInt] at q; omega⟩) dX8_draw_107 (fun H locs hP hD hS => ?_)
                  obtain ⟨f35, ef35⟩ : ∃ yy_ : Nat → Int32, yy_ = upd ka p1.toNatClampNeg x := ⟨_, rfl⟩
                  have hP : va_P G.1 vwCl [(tr, .inr (4, [.ref us, .ref uf, .ref ub, .int la, .int lb])), (us, .inl (gI G, 36, .inl gs)), (uf, .inl (gI G, 6, .inl f35)), (ub, .inl (gI G, 6, .inl kb))] H := by rw [ef35]; exact hP
                  have hD : va_D A [(tr, .inr (4, [.ref us, .ref uf, .ref ub, .int la, .int lb])), (us, .inl (gI G, 36, .inl gs)), (uf, .inl (gI G, 6, .inl f35)), (ub, .inl (gI G, 6, .inl kb))] := by rw [ef35]; exact hD
                  refine lv_aload_n hx hb dX8_draw_108 rfl (lv_at hl 2 rfl) ?_
                  refine lv_iload_n hx hb dX8_draw_109 rfl (lv_at hl 3 rfl) ?_
                  refine lv_iload_n hx hb dX8_draw_110 rfl (lv_at hl 4 rfl) ?_
                  refine lv_iconst (v := 1) hx hb dX8_draw_111 (by decide) ?_
                  refine lv_iadd hx hb dX8_draw_112 ?_
                  refine lv_topi (fun x36 ex36 => ?_)
                  refine lv_iload_n hx hb dX8_draw_113 rfl (lv_at hl 5 rfl) ?_
                  refine lv_iload hx hb dX8_draw_114 (lv_at hl 0 rfl) ?_
                  refine lv_iadd hx hb dX8_draw_116 ?_
                  refine lv_topi (fun x37 ex37 => ?_)
                  refine lv_iload hx hb dX8_draw_117 (lv_at hl 6 rfl) ?_
                  refine ca_v (wr := []) (va_runV (As := [.int p0, .int x36, .int x37, .int p3]) (rest := []) ⟨hx, hb, hml, hown, hts⟩ (ih H.size tr us uf ub la lb gs f35 kb p0 x36 x37 p3 (by have q := inc_lt (y := 6) h6 ex36; omega) (by have q := inc_lt (y := 6) h6 ex36; omega)) (cwV 4 hts gX8_draw_X8_draw rfl rfl rfl (by decide +kernel) ⟨show (d + 3) + 1 ≤ (d + 1) + 3 by omega, show 8 + (7 + 11) + (40 * d + 100) ≤ 40 * (d + 1) + 100 by omega⟩) (pre_V E hP hD hS hA [0, 1, 2, 3] (by decide) rfl 0 4 rfl rfl) rfl rfl hl.1 rfl (lv_room (Nat.le_of_ble_eq_true rfl)) dX8_draw_119 ⟨Nat.zero_le _, Nat.zero_le _⟩) hS hP hD hA [0, 1, 2, 3] [] rfl rfl (by decide) (by decide) (fun u40 H locs w38 hP hD hS => ?_)
                  obtain ⟨le1_41, ma1_42, gf1_43, gb1_44⟩ := u40
                  try dsimp only at w38 hP hD
                  have hP := hP.sub (ws' := [(tr, .inr (4, [.ref us, .ref uf, .ref ub, .int le1_41, .int ma1_42])), (us, .inl (gI G, 36, .inl gs)), (uf, .inl (gI G, 6, .inl gf1_43)), (ub, .inl (gI G, 6, .inl gb1_44))]) [0, 1, 2, 3] rfl
                  have hD := hD.sub (ws' := [(tr, .inr (4, [.ref us, .ref uf, .ref ub, .int le1_41, .int ma1_42])), (us, .inl (gI G, 36, .inl gs)), (uf, .inl (gI G, 6, .inl gf1_43)), (ub, .inl (gI G, 6, .inl gb1_44))]) [0, 1, 2, 3] (by decide) rfl
                  obtain ⟨x45, ex45⟩ : ∃ yy_ : Int32, yy_ = x + 1 := ⟨_, rfl⟩
                  refine lv_iinc (v := x45) (lv' := [(5, .int x45), (6, .int r22), (0, .ref tr), (1, .int p0), (2, .int p1), (3, .int p2), (4, .int p3)]) hx hb dX8_draw_122 hl (k := 1) rfl (by rw [ex45]; rfl) (by decide) rfl (fun ls hl => ?_)
                  refine lv_goto (tgt := 60) hx hb dX8_draw_125 (by decide) ?_
                  have hinc60 := inc_lt hlt60 ex45
                  refine ih60 (x45, le1_41, ma1_42, gf1_43, gb1_44) ?_ (by first | omega | (dsimp only; omega)) H locs ls (hP.sub [0, 1, 2, 3] rfl) (hD.sub [0, 1, 2, 3] (by decide) rfl) hS (lv_sub hl [0, 2, 3, 4, 5, 6] rfl)
                  try dsimp only
                  omega
            · refine lv_if_eq (tgt := 122) hx hb dX8_draw_82 (by decide) (fun _ => ?_) (fun c46 => False.elim (by revert c46; decide))
              obtain ⟨x47, ex47⟩ : ∃ yy_ : Int32, yy_ = x + 1 := ⟨_, rfl⟩
              refine lv_iinc (v := x47) (lv' := [(5, .int x47), (6, .int r22), (0, .ref tr), (1, .int p0), (2, .int p1), (3, .int p2), (4, .int p3)]) hx hb dX8_draw_122 hl (k := 1) rfl (by rw [ex47]; rfl) (by decide) rfl (fun ls hl => ?_)
              refine lv_goto (tgt := 60) hx hb dX8_draw_125 (by decide) ?_
              have hinc60 := inc_lt hlt60 ex47
              refine ih60 (x47, la, lb, ka, kb) ?_ (by first | omega | (dsimp only; omega)) H locs ls (hP.sub [0, 1, 2, 3] rfl) (hD.sub [0, 1, 2, 3] (by decide) rfl) hS (lv_sub hl [0, 2, 3, 4, 5, 6] rfl)
              try dsimp only
              omega
        · refine lv_if_ne (tgt := 57) hx hb dX8_draw_42 (by decide) (fun c48 => False.elim (by revert c48; decide)) (fun _ => ?_)
          refine lv_aload_n hx hb dX8_draw_45 rfl (lv_at hl 0 rfl) ?_
          refine lv_iload_n hx hb dX8_draw_46 rfl (lv_at hl 1 rfl) ?_
          refine lv_iload_n hx hb dX8_draw_47 rfl (lv_at hl 2 rfl) ?_
          refine lv_iconst (v := 1) hx hb dX8_draw_48 (by decide) ?_
          refine lv_iadd hx hb dX8_draw_49 ?_
          refine lv_topi (fun x49 ex49 => ?_)
          refine lv_iload_n hx hb dX8_draw_50 rfl (lv_at hl 3 rfl) ?_
          refine lv_iload hx hb dX8_draw_51 (lv_at hl 4 rfl) ?_
          refine ca_v (wr := []) (va_runV (As := [.int p0, .int x49, .int p2, .int p3]) (rest := []) ⟨hx, hb, hml, hown, hts⟩ (ih H.size tr us uf ub le ma gs gf gb p0 x49 p2 p3 (by have q := inc_lt (y := 6) h6 ex49; omega) (by have q := inc_lt (y := 6) h6 ex49; omega)) (cwV 4 hts gX8_draw_X8_draw rfl rfl rfl (by decide +kernel) ⟨show (d + 3) + 1 ≤ (d + 1) + 3 by omega, show 8 + (7 + 11) + (40 * d + 100) ≤ 40 * (d + 1) + 100 by omega⟩) (pre_V E hP hD hS hA [0, 1, 2, 3] (by decide) rfl 0 4 rfl rfl) rfl rfl hl.1 rfl (lv_room (Nat.le_of_ble_eq_true rfl)) dX8_draw_53 ⟨Nat.zero_le _, Nat.zero_le _⟩) hS hP hD hA [0, 1, 2, 3] [] rfl rfl (by decide) (by decide) (fun u52 H locs w50 hP hD hS => ?_)
          obtain ⟨le1_53, ma1_54, gf1_55, gb1_56⟩ := u52
          try dsimp only at w50 hP hD
          have hP := hP.sub (ws' := [(tr, .inr (4, [.ref us, .ref uf, .ref ub, .int le1_53, .int ma1_54])), (us, .inl (gI G, 36, .inl gs)), (uf, .inl (gI G, 6, .inl gf1_55)), (ub, .inl (gI G, 6, .inl gb1_56))]) [0, 1, 2, 3] rfl
          have hD := hD.sub (ws' := [(tr, .inr (4, [.ref us, .ref uf, .ref ub, .int le1_53, .int ma1_54])), (us, .inl (gI G, 36, .inl gs)), (uf, .inl (gI G, 6, .inl gf1_55)), (ub, .inl (gI G, 6, .inl gb1_56))]) [0, 1, 2, 3] (by decide) rfl
          have hP9 := hP.sub (ws' := [(tr, .inr (4, [.ref us, .ref uf, .ref ub, .int le1_53, .int ma1_54])), (us, .inl (gI G, 36, .inl gs)), (uf, .inl (gI G, 6, .inl gf1_55)), (ub, .inl (gI G, 6, .inl gb1_56))]) [0, 1, 2, 3] rfl
          have hD9 := hD.sub (ws' := [(tr, .inr (4, [.ref us, .ref uf, .ref ub, .int le1_53, .int ma1_54])), (us, .inl (gI G, 36, .inl gs)), (uf, .inl (gI G, 6, .inl gf1_55)), (ub, .inl (gI G, 6, .inl gb1_56))]) [0, 1, 2, 3] (by decide) rfl
          exact W.vret hx hb hr (fun t ht hW => ⟨⟨(le1_53, ma1_54, gf1_55, gb1_56), rfl, trivial, by rw [ht]; exact hP9, hD9⟩, hS.F ht⟩) hS.2.2 dX8_draw_56
      · refine lv_iload hx hb dX8_draw_26 (lv_at hl 4 rfl) ?_
        refine lv_if_eq (tgt := 36) hx hb dX8_draw_28 (by decide) (fun c57 => ?_) (fun c57 => ?_)
        · have hP9 := hP.sub (ws' := [(tr, .inr (4, [.ref us, .ref uf, .ref ub, .int le, .int ma])), (us, .inl (gI G, 36, .inl gs)), (uf, .inl (gI G, 6, .inl gf)), (ub, .inl (gI G, 6, .inl gb))]) [0, 1, 2, 3] rfl
          have hD9 := hD.sub (ws' := [(tr, .inr (4, [.ref us, .ref uf, .ref ub, .int le, .int ma])), (us, .inl (gI G, 36, .inl gs)), (uf, .inl (gI G, 6, .inl gf)), (ub, .inl (gI G, 6, .inl gb))]) [0, 1, 2, 3] (by decide) rfl
          exact W.vret hx hb hr (fun t ht hW => ⟨⟨(le, ma, gf, gb), rfl, trivial, by rw [ht]; exact hP9, hD9⟩, hS.F ht⟩) hS.2.2 dX8_draw_36
        · refine lv_aload_n hx hb dX8_draw_31 rfl (lv_at hl 0 rfl) ?_
          refine lv_iload_n hx hb dX8_draw_32 rfl (lv_at hl 3 rfl) ?_
          refine ca_v (wr := []) (va_runV (As := [.int p2]) (rest := []) ⟨hx, hb, hml, hown, hts⟩ (c_weigh l G s.heap.size tr us uf ub le ma gs gf gb p2) (cwV 1 hts gX8_draw_X8_weigh rfl rfl rfl (by decide +kernel) ⟨show 1 + 1 ≤ (d + 1) + 3 by omega, show 8 + (2 + 11) + 60 ≤ 40 * (d + 1) + 100 by omega⟩) (pre_V E hP hD hS hA [0, 1, 2, 3] (by decide) rfl 0 4 rfl rfl) rfl rfl hl.1 rfl (lv_room (Nat.le_of_ble_eq_true rfl)) dX8_draw_33 ⟨Nat.zero_le _, Nat.zero_le _⟩) hS hP hD hA [0, 1, 2, 3] [] rfl rfl (by decide) (by decide) (fun u60 H locs w58 hP hD hS => ?_)
          obtain ⟨le1_61, ma1_62, gf1_63, gb1_64⟩ := u60
          try dsimp only at w58 hP hD
          have hP := hP.sub (ws' := [(tr, .inr (4, [.ref us, .ref uf, .ref ub, .int le1_61, .int ma1_62])), (us, .inl (gI G, 36, .inl gs)), (uf, .inl (gI G, 6, .inl gf1_63)), (ub, .inl (gI G, 6, .inl gb1_64))]) [0, 1, 2, 3] rfl
          have hD := hD.sub (ws' := [(tr, .inr (4, [.ref us, .ref uf, .ref ub, .int le1_61, .int ma1_62])), (us, .inl (gI G, 36, .inl gs)), (uf, .inl (gI G, 6, .inl gf1_63)), (ub, .inl (gI G, 6, .inl gb1_64))]) [0, 1, 2, 3] (by decide) rfl
          have hP9 := hP.sub (ws' := [(tr, .inr (4, [.ref us, .ref uf, .ref ub, .int le1_61, .int ma1_62])), (us, .inl (gI G, 36, .inl gs)), (uf, .inl (gI G, 6, .inl gf1_63)), (ub, .inl (gI G, 6, .inl gb1_64))]) [0, 1, 2, 3] rfl
          have hD9 := hD.sub (ws' := [(tr, .inr (4, [.ref us, .ref uf, .ref ub, .int le1_61, .int ma1_62])), (us, .inl (gI G, 36, .inl gs)), (uf, .inl (gI G, 6, .inl gf1_63)), (ub, .inl (gI G, 6, .inl gb1_64))]) [0, 1, 2, 3] (by decide) rfl
          exact W.vret hx hb hr (fun t ht hW => ⟨⟨(le1_61, ma1_62, gf1_63, gb1_64), rfl, trivial, by rw [ht]; exact hP9, hD9⟩, hS.F ht⟩) hS.2.2 dX8_draw_36
    · refine lv_iload_n hx hb dX8_draw_7 rfl (lv_at hl 3 rfl) ?_
      refine lv_aload_n hx hb dX8_draw_8 rfl (lv_at hl 0 rfl) ?_
      refine va_get (D := G.1) (ci := 4) (v := .int le) (C := RX8) (T := TX8) (N := 5) hx hb hts (fun _ h => List.mem_cons_of_mem _ (List.mem_append_right _ h)) hown E.K hP 0 rfl rfl 3 (by decide) (hts (.fieldLink RX8 25 "LastMap$Trees" "least" "I") (by decide +kernel)) (fun _ h9 => h9) rfl dX8_draw_9 ?_
      refine lv_icmp_le (tgt := 16) hx hb dX8_draw_12 (by decide) (fun c65 => ?_) (fun c65 => ?_)
      · refine lv_iload_n hx hb dX8_draw_16 rfl (lv_at hl 2 rfl) ?_
        refine lv_if_lt (tgt := 26) hx hb dX8_draw_17 (by decide) (fun c66 => False.elim (by simp only [i3_lt, Int32.reduceToInt] at c66; omega)) (fun c66 => ?_)
        refine lv_iload_n hx hb dX8_draw_20 rfl (lv_at hl 2 rfl) ?_
        refine lv_bipush (v := 6) hx hb dX8_draw_21 (by decide) ?_
        refine lv_icmp_lt (tgt := 37) hx hb dX8_draw_23 (by decide) (fun c67 => ?_) (fun c67 => ?_)
        · have h6 : p1.toInt < (6 : Int32).toInt := by ((try simp only [inR, inS, i3_lt, i3_le, i3_eq, i6_lt, i6_le, Int32.toInt_toInt64, lg_cmp_lt, lg_cmp_gt, lg_cmp_ge, lg_cmp_le, Int32.reduceToInt, Int64.reduceToInt] at c67 ⊢); omega)
          refine lv_iload_n hx hb dX8_draw_37 rfl (lv_at hl 1 rfl) ?_
          refine lv_iload_n hx hb dX8_draw_38 rfl (lv_at hl 2 rfl) ?_
          refine ca_iR (va_runSN (As := [.int p0, .int p1]) (rest := []) ⟨hx, hb, hml, hown, hts⟩ (c_isOf l G s.heap.size p0 p1) ⟨va_cnB 2 hts gX8_draw_X9_isOf_n46 rfl rfl rfl E.n46 (hts (.initialized RX9) (by decide +kernel)) (by decide +kernel) ⟨show 1 + 1 ≤ (d + 1) + 3 by omega, show 8 + (2 + 11) + 20 ≤ 40 * (d + 1) + 100 by omega⟩, hts (.static yX9_isOf) (by decide +kernel), trivial⟩ (pre_S E hP hD hS hA [] (by decide) rfl) rfl rfl hl.1 rfl (lv_room (Nat.le_of_ble_eq_true rfl)) dX8_draw_39 ⟨Nat.zero_le _, Nat.zero_le _⟩) hS hP hD hA [] rfl (fun r69 _ H locs w68 hP hS => ?_)
          rcases w68 with ⟨rfl, b70⟩ | ⟨rfl, b70⟩
          · refine lv_if_ne (tgt := 57) hx hb dX8_draw_42 (by decide) (fun _ => ?_) (fun c71 => False.elim (by revert c71; decide))
            refine lv_iconst (v := 0) hx hb dX8_draw_57 (by decide) ?_
            refine lv_istore (lv' := [(5, .int 0), (0, .ref tr), (1, .int p0), (2, .int p1), (3, .int p2), (4, .int p3)]) hx hb dX8_draw_58 hl (by decide) rfl (fun ls hl => ?_)
            refine lp_run (x0 := (0, le, ma, gf, gb)) (fun xx_ : Int32 × Int32 × Int32 × (Nat → Int32) × (Nat → Int32) => match xx_ with | (x, la, lb, ka, kb) => [(tr, .inr (4, [.ref us, .ref uf, .ref ub, .int la, .int lb])), (us, .inl (gI G, 36, .inl gs)), (uf, .inl (gI G, 6, .inl ka)), (ub, .inl (gI G, 6, .inl kb))]) (fun xx_ : Int32 × Int32 × Int32 × (Nat → Int32) × (Nat → Int32) => match xx_ with | (x, la, lb, ka, kb) => [(5, .int x), (0, .ref tr), (1, .int p0), (2, .int p1), (3, .int p2), (4, .int p3)]) (fun xx_ : Int32 × Int32 × Int32 × (Nat → Int32) × (Nat → Int32) => match xx_ with | (x, la, lb, ka, kb) => (0 ≤ x.toInt)) (fun xx_ : Int32 × Int32 × Int32 × (Nat → Int32) × (Nat → Int32) => match xx_ with | (x, la, lb, ka, kb) => ((6 : Int32).toInt - x.toInt).toNat) (hP.sub [0, 1, 2, 3] rfl) (hD.sub [0, 1, 2, 3] (by decide) rfl) hS (lv_sub hl [0, 1, 2, 3, 4, 5] rfl) (show (0 : Int) ≤ (0 : Int32).toInt by first | decide | omega | assumption) ?_
            intro xx_ hI ih60 H locs ls hP hD hS hl
            obtain ⟨x, la, lb, ka, kb⟩ := xx_
            dsimp only at hI ih60 hP hD hl
            have hx0 := hI
            have hl : lv_has ls 7 [(5, .int x), (0, .ref tr), (1, .int p0), (2, .int p1), (3, .int p2), (4, .int p3)] := hl
            have hP : va_P G.1 vwCl [(tr, .inr (4, [.ref us, .ref uf, .ref ub, .int la, .int lb])), (us, .inl (gI G, 36, .inl gs)), (uf, .inl (gI G, 6, .inl ka)), (ub, .inl (gI G, 6, .inl kb))] H := hP
            have hD : va_D A [(tr, .inr (4, [.ref us, .ref uf, .ref ub, .int la, .int lb])), (us, .inl (gI G, 36, .inl gs)), (uf, .inl (gI G, 6, .inl ka)), (ub, .inl (gI G, 6, .inl kb))] := hD
            refine lv_iload hx hb dX8_draw_60 (lv_at hl 0 rfl) ?_
            refine lv_bipush (v := 6) hx hb dX8_draw_62 (by decide) ?_
            refine lv_icmp_ge (tgt := 128) hx hb dX8_draw_64 (by decide) (fun c72 => ?_) (fun c72 => ?_)
            · refine lv_iload hx hb dX8_draw_128 (lv_at hl 5 rfl) ?_
              refine lv_if_ne (tgt := 151) hx hb dX8_draw_130 (by decide) (fun c73 => ?_) (fun c73 => ?_)
              · refine lv_aload_n hx hb dX8_draw_151 rfl (lv_at hl 1 rfl) ?_
                refine va_get (D := G.1) (ci := 4) (v := .ref uf) (C := RX8) (T := TX8) (N := 5) hx hb hts (fun _ h => List.mem_cons_of_mem _ (List.mem_append_right _ h)) hown E.K hP 0 rfl rfl 1 (by decide) (hts (.fieldLink RX8 15 "LastMap$Trees" "from" "[I") (by decide +kernel)) (fun _ h9 => h9) rfl dX8_draw_152 ?_
                refine lv_iload_n hx hb dX8_draw_155 rfl (lv_at hl 3 rfl) ?_
                refine lv_bipush (v := 7) hx hb dX8_draw_156 (by decide) ?_
                refine va_iast hx hb E.K hP hD hS 2 1 rfl rfl (i := p1) (vp_in_iff.mpr ⟨h0, by have q := h6; simp only [Int32.reduceToInt] at q; omega⟩) dX8_draw_158 (fun H locs hP hD hS => ?_)
                obtain ⟨f74, ef74⟩ : ∃ yy_ : Nat → Int32, yy_ = upd ka p1.toNatClampNeg 7 := ⟨_, rfl⟩
                have hP : va_P G.1 vwCl [(tr, .inr (4, [.ref us, .ref uf, .ref ub, .int la, .int lb])), (us, .inl (gI G, 36, .inl gs)), (uf, .inl (gI G, 6, .inl f74)), (ub, .inl (gI G, 6, .inl kb))] H := by rw [ef74]; exact hP
                have hD : va_D A [(tr, .inr (4, [.ref us, .ref uf, .ref ub, .int la, .int lb])), (us, .inl (gI G, 36, .inl gs)), (uf, .inl (gI G, 6, .inl f74)), (ub, .inl (gI G, 6, .inl kb))] := by rw [ef74]; exact hD
                have hP9 := hP.sub (ws' := [(tr, .inr (4, [.ref us, .ref uf, .ref ub, .int la, .int lb])), (us, .inl (gI G, 36, .inl gs)), (uf, .inl (gI G, 6, .inl f74)), (ub, .inl (gI G, 6, .inl kb))]) [0, 1, 2, 3] rfl
                have hD9 := hD.sub (ws' := [(tr, .inr (4, [.ref us, .ref uf, .ref ub, .int la, .int lb])), (us, .inl (gI G, 36, .inl gs)), (uf, .inl (gI G, 6, .inl f74)), (ub, .inl (gI G, 6, .inl kb))]) [0, 1, 2, 3] (by decide) rfl
                exact W.vret hx hb hr (fun t ht hW => ⟨⟨(la, lb, f74, kb), rfl, trivial, by rw [ht]; exact hP9, hD9⟩, hS.F ht⟩) hS.2.2 dX8_draw_159
              · refine lv_aload_n hx hb dX8_draw_133 rfl (lv_at hl 1 rfl) ?_
                refine va_get (D := G.1) (ci := 4) (v := .ref uf) (C := RX8) (T := TX8) (N := 5) hx hb hts (fun _ h => List.mem_cons_of_mem _ (List.mem_append_right _ h)) hown E.K hP 0 rfl rfl 1 (by decide) (hts (.fieldLink RX8 15 "LastMap$Trees" "from" "[I") (by decide +kernel)) (fun _ h9 => h9) rfl dX8_draw_134 ?_
                refine lv_iload_n hx hb dX8_draw_137 rfl (lv_at hl 3 rfl) ?_
                refine lv_bipush (v := 6) hx hb dX8_draw_138 (by decide) ?_
                refine va_iast hx hb E.K hP hD hS 2 1 rfl rfl (i := p1) (vp_in_iff.mpr ⟨h0, by have q := h6; simp only [Int32.reduceToInt] at q; omega⟩) dX8_draw_140 (fun H locs hP hD hS => ?_)
                obtain ⟨f75, ef75⟩ : ∃ yy_ : Nat → Int32, yy_ = upd ka p1.toNatClampNeg 6 := ⟨_, rfl⟩
                have hP : va_P G.1 vwCl [(tr, .inr (4, [.ref us, .ref uf, .ref ub, .int la, .int lb])), (us, .inl (gI G, 36, .inl gs)), (uf, .inl (gI G, 6, .inl f75)), (ub, .inl (gI G, 6, .inl kb))] H := by rw [ef75]; exact hP
                have hD : va_D A [(tr, .inr (4, [.ref us, .ref uf, .ref ub, .int la, .int lb])), (us, .inl (gI G, 36, .inl gs)), (uf, .inl (gI G, 6, .inl f75)), (ub, .inl (gI G, 6, .inl kb))] := by rw [ef75]; exact hD
                refine lv_aload_n hx hb dX8_draw_141 rfl (lv_at hl 1 rfl) ?_
                refine lv_iload_n hx hb dX8_draw_142 rfl (lv_at hl 2 rfl) ?_
                refine lv_iload_n hx hb dX8_draw_143 rfl (lv_at hl 3 rfl) ?_
                refine lv_iconst (v := 1) hx hb dX8_draw_144 (by decide) ?_
                refine lv_iadd hx hb dX8_draw_145 ?_
                refine lv_topi (fun x76 ex76 => ?_)
                refine lv_iload_n hx hb dX8_draw_146 rfl (lv_at hl 4 rfl) ?_
                refine lv_iconst (v := 1) hx hb dX8_draw_147 (by decide) ?_
                refine ca_v (wr := []) (va_runV (As := [.int p0, .int x76, .int p2, .int 1]) (rest := []) ⟨hx, hb, hml, hown, hts⟩ (ih H.size tr us uf ub la lb gs f75 kb p0 x76 p2 1 (by have q := inc_lt (y := 6) h6 ex76; omega) (by have q := inc_lt (y := 6) h6 ex76; omega)) (cwV 4 hts gX8_draw_X8_draw rfl rfl rfl (by decide +kernel) ⟨show (d + 3) + 1 ≤ (d + 1) + 3 by omega, show 8 + (7 + 11) + (40 * d + 100) ≤ 40 * (d + 1) + 100 by omega⟩) (pre_V E hP hD hS hA [0, 1, 2, 3] (by decide) rfl 0 4 rfl rfl) rfl rfl hl.1 rfl (lv_room (Nat.le_of_ble_eq_true rfl)) dX8_draw_148 ⟨Nat.zero_le _, Nat.zero_le _⟩) hS hP hD hA [0, 1, 2, 3] [] rfl rfl (by decide) (by decide) (fun u79 H locs w77 hP hD hS => ?_)
                obtain ⟨le1_80, ma1_81, gf1_82, gb1_83⟩ := u79
                try dsimp only at w77 hP hD
                have hP := hP.sub (ws' := [(tr, .inr (4, [.ref us, .ref uf, .ref ub, .int le1_80, .int ma1_81])), (us, .inl (gI G, 36, .inl gs)), (uf, .inl (gI G, 6, .inl gf1_82)), (ub, .inl (gI G, 6, .inl gb1_83))]) [0, 1, 2, 3] rfl
                have hD := hD.sub (ws' := [(tr, .inr (4, [.ref us, .ref uf, .ref ub, .int le1_80, .int ma1_81])), (us, .inl (gI G, 36, .inl gs)), (uf, .inl (gI G, 6, .inl gf1_82)), (ub, .inl (gI G, 6, .inl gb1_83))]) [0, 1, 2, 3] (by decide) rfl
                refine lv_aload_n hx hb dX8_draw_151 rfl (lv_at hl 1 rfl) ?_
                refine va_get (D := G.1) (ci := 4) (v := .ref uf) (C := RX8) (T := TX8) (N := 5) hx hb hts (fun _ h => List.mem_cons_of_mem _ (List.mem_append_right _ h)) hown E.K hP 0 rfl rfl 1 (by decide) (hts (.fieldLink RX8 15 "LastMap$Trees" "from" "[I") (by decide +kernel)) (fun _ h9 => h9) rfl dX8_draw_152 ?_
                refine lv_iload_n hx hb dX8_draw_155 rfl (lv_at hl 3 rfl) ?_
                refine lv_bipush (v := 7) hx hb dX8_draw_156 (by decide) ?_
                refine va_iast hx hb E.K hP hD hS 2 1 rfl rfl (i := p1) (vp_in_iff.mpr ⟨h0, by have q := h6; simp only [Int32.reduceToInt] at q; omega⟩) dX8_draw_158 (fun H locs hP hD hS => ?_)
                obtain ⟨f84, ef84⟩ : ∃ yy_ : Nat → Int32, yy_ = upd gf1_82 p1.toNatClampNeg 7 := ⟨_, rfl⟩
                have hP : va_P G.1 vwCl [(tr, .inr (4, [.ref us, .ref uf, .ref ub, .int le1_80, .int ma1_81])), (us, .inl (gI G, 36, .inl gs)), (uf, .inl (gI G, 6, .inl f84)), (ub, .inl (gI G, 6, .inl gb1_83))] H := by rw [ef84]; exact hP
                have hD : va_D A [(tr, .inr (4, [.ref us, .ref uf, .ref ub, .int le1_80, .int ma1_81])), (us, .inl (gI G, 36, .inl gs)), (uf, .inl (gI G, 6, .inl f84)), (ub, .inl (gI G, 6, .inl gb1_83))] := by rw [ef84]; exact hD
                have hP9 := hP.sub (ws' := [(tr, .inr (4, [.ref us, .ref uf, .ref ub, .int le1_80, .int ma1_81])), (us, .inl (gI G, 36, .inl gs)), (uf, .inl (gI G, 6, .inl f84)), (ub, .inl (gI G, 6, .inl gb1_83))]) [0, 1, 2, 3] rfl
                have hD9 := hD.sub (ws' := [(tr, .inr (4, [.ref us, .ref uf, .ref ub, .int le1_80, .int ma1_81])), (us, .inl (gI G, 36, .inl gs)), (uf, .inl (gI G, 6, .inl f84)), (ub, .inl (gI G, 6, .inl gb1_83))]) [0, 1, 2, 3] (by decide) rfl
                exact W.vret hx hb hr (fun t ht hW => ⟨⟨(le1_80, ma1_81, f84, gb1_83), rfl, trivial, by rw [ht]; exact hP9, hD9⟩, hS.F ht⟩) hS.2.2 dX8_draw_159
            · have hlt60 : x.toInt < (6 : Int32).toInt := by ((try simp only [inR, inS, i3_lt, i3_le, i3_eq, i6_lt, i6_le, Int32.toInt_toInt64, lg_cmp_lt, lg_cmp_gt, lg_cmp_ge, lg_cmp_le, Int32.reduceToInt, Int64.reduceToInt] at c72 ⊢); omega)
              refine lv_aload_n hx hb dX8_draw_67 rfl (lv_at hl 1 rfl) ?_
              refine lv_iload hx hb dX8_draw_68 (lv_at hl 0 rfl) ?_
              refine lv_iload_n hx hb dX8_draw_70 rfl (lv_at hl 3 rfl) ?_
              refine ca_iR (va_runV (As := [.int x, .int p1]) (rest := []) ⟨hx, hb, hml, hown, hts⟩ (c_slipsOf l G H.size tr us uf ub la lb gs ka kb x p1) (cwV 2 hts gX8_draw_X8_slipsOf rfl rfl rfl (by decide +kernel) ⟨show 1 + 1 ≤ (d + 1) + 3 by omega, show 8 + (3 + 11) + 20 ≤ 40 * (d + 1) + 100 by omega⟩) (pre_V E hP hD hS hA [0, 1, 2, 3] (by decide) rfl 0 4 rfl rfl) rfl rfl hl.1 rfl (lv_room (Nat.le_of_ble_eq_true rfl)) dX8_draw_71 ⟨Nat.zero_le _, Nat.zero_le _⟩) hS hP hD hA [0, 1, 2, 3] rfl (fun r86 _ H locs w85 hP hS => ?_)
              refine lv_istore (lv' := [(6, .int r86), (5, .int x), (0, .ref tr), (1, .int p0), (2, .int p1), (3, .int p2), (4, .int p3)]) hx hb dX8_draw_74 hl (by decide) rfl (fun ls hl => ?_)
              refine lv_iload_n hx hb dX8_draw_76 rfl (lv_at hl 3 rfl) ?_
              refine lv_iload hx hb dX8_draw_77 (lv_at hl 1 rfl) ?_
              refine ca_iR (va_runSN (As := [.int p0, .int x]) (rest := []) ⟨hx, hb, hml, hown, hts⟩ (c_isOf l G H.size p0 x) ⟨va_cnB 2 hts gX8_draw_X9_isOf_n46 rfl rfl rfl E.n46 (hts (.initialized RX9) (by decide +kernel)) (by decide +kernel) ⟨show 1 + 1 ≤ (d + 1) + 3 by omega, show 8 + (2 + 11) + 20 ≤ 40 * (d + 1) + 100 by omega⟩, hts (.static yX9_isOf) (by decide +kernel), trivial⟩ (pre_S E hP hD hS hA [] (by decide) rfl) rfl rfl hl.1 rfl (lv_room (Nat.le_of_ble_eq_true rfl)) dX8_draw_79 ⟨Nat.zero_le _, Nat.zero_le _⟩) hS hP hD hA [] rfl (fun r88 _ H locs w87 hP hS => ?_)
              rcases w87 with ⟨rfl, b89⟩ | ⟨rfl, b89⟩
              · refine lv_if_eq (tgt := 122) hx hb dX8_draw_82 (by decide) (fun c90 => False.elim (by revert c90; decide)) (fun _ => ?_)
                refine lv_iload hx hb dX8_draw_85 (lv_at hl 0 rfl) ?_
                refine lv_if_lt (tgt := 122) hx hb dX8_draw_87 (by decide) (fun c91 => ?_) (fun c91 => ?_)
                · obtain ⟨x92, ex92⟩ : ∃ yy_ : Int32, yy_ = x + 1 := ⟨_, rfl⟩
                  refine lv_iinc (v := x92) (lv' := [(5, .int x92), (6, .int r86), (0, .ref tr), (1, .int p0), (2, .int p1), (3, .int p2), (4, .int p3)]) hx hb dX8_draw_122 hl (k := 1) rfl (by rw [ex92]; rfl) (by decide) rfl (fun ls hl => ?_)
                  refine lv_goto (tgt := 60) hx hb dX8_draw_125 (by decide) ?_
                  have hinc60 := inc_lt hlt60 ex92
                  refine ih60 (x92, la, lb, ka, kb) ?_ (by first | omega | (dsimp only; omega)) H locs ls (hP.sub [0, 1, 2, 3] rfl) (hD.sub [0, 1, 2, 3] (by decide) rfl) hS (lv_sub hl [0, 2, 3, 4, 5, 6] rfl)
                  try dsimp only
                  omega
                · refine lv_aload_n hx hb dX8_draw_90 rfl (lv_at hl 2 rfl) ?_
                  refine lv_iload hx hb dX8_draw_91 (lv_at hl 1 rfl) ?_
                  refine lv_iload_n hx hb dX8_draw_93 rfl (lv_at hl 4 rfl) ?_
                  refine ca_iR (va_runV (As := [.int x, .int p1]) (rest := []) ⟨hx, hb, hml, hown, hts⟩ (c_comesOf l G H.size tr us uf ub la lb gs ka kb x p1) (cwV 2 hts gX8_draw_X8_comesOf rfl rfl rfl (by decide +kernel) ⟨show 1 + 1 ≤ (d + 1) + 3 by omega, show 8 + (5 + 11) + 20 ≤ 40 * (d + 1) + 100 by omega⟩) (pre_V E hP hD hS hA [0, 1, 2, 3] (by decide) rfl 0 4 rfl rfl) rfl rfl hl.1 rfl (lv_room (Nat.le_of_ble_eq_true rfl)) dX8_draw_94 ⟨Nat.zero_le _, Nat.zero_le _⟩) hS hP hD hA [0, 1, 2, 3] rfl (fun r94 _ H locs w93 hP hS => ?_)
                  rcases w93 with ⟨rfl, b95⟩ | ⟨rfl, b95⟩
                  · refine lv_if_ne (tgt := 122) hx hb dX8_draw_97 (by decide) (fun _ => ?_) (fun c96 => False.elim (by revert c96; decide))
                    obtain ⟨x97, ex97⟩ : ∃ yy_ : Int32, yy_ = x + 1 := ⟨_, rfl⟩
                    refine lv_iinc (v := x97) (lv' := [(5, .int x97), (6, .int r86), (0, .ref tr), (1, .int p0), (2, .int p1), (3, .int p2), (4, .int p3)]) hx hb dX8_draw_122 hl (k := 1) rfl (by rw [ex97]; rfl) (by decide) rfl (fun ls hl => ?_)
                    refine lv_goto (tgt := 60) hx hb dX8_draw_125 (by decide) ?_
                    have hinc60 := inc_lt hlt60 ex97
                    refine ih60 (x97, la, lb, ka, kb) ?_ (by first | omega | (dsimp only; omega)) H locs ls (hP.sub [0, 1, 2, 3] rfl) (hD.sub [0, 1, 2, 3] (by decide) rfl) hS (lv_sub hl [0, 2, 3, 4, 5, 6] rfl)
                    try dsimp only
                    omega
                  · refine lv_if_ne (tgt := 122) hx hb dX8_draw_97 (by decide) (fun c98 => False.elim (by revert c98; decide)) (fun _ => ?_)
                    refine lv_aload_n hx hb dX8_draw_100 rfl (lv_at hl 2 rfl) ?_
                    refine va_get (D := G.1) (ci := 4) (v := .ref uf) (C := RX8) (T := TX8) (N := 5) hx hb hts (fun _ h => List.mem_cons_of_mem _ (List.mem_append_right _ h)) hown E.K hP 0 rfl rfl 1 (by decide) (hts (.fieldLink RX8 15 "LastMap$Trees" "from" "[I") (by decide +kernel)) (fun _ h9 => h9) rfl dX8_draw_101 ?_
                    refine lv_iload_n hx hb dX8_draw_104 rfl (lv_at hl 4 rfl) ?_
                    refine lv_iload hx hb dX8_draw_105 (lv_at hl 1 rfl) ?_
                    refine va_iast hx hb E.K hP hD hS 2 1 rfl rfl (i := p1) (vp_in_iff.mpr ⟨h0, by have q := h6; simp only [Int32.reduceToInt] at q; omega⟩) dX8_draw_107 (fun H locs hP hD hS => ?_)
                    obtain ⟨f99, ef99⟩ : ∃ yy_ : Nat → Int32, yy_ = upd ka p1.toNatClampNeg x := ⟨_, rfl⟩
                    have hP : va_P G.1 vwCl [(tr, .inr (4, [.ref us, .ref uf, .ref ub, .int la, .int lb])), (us, .inl (gI G, 36, .inl gs)), (uf, .inl (gI G, 6, .inl f99)), (ub, .inl (gI G, 6, .inl kb))] H := by rw [ef99]; exact hP
                    have hD : va_D A [(tr, .inr (4, [.ref us, .ref uf, .ref ub, .int la, .int lb])), (us, .inl (gI G, 36, .inl gs)), (uf, .inl (gI G, 6, .inl f99)), (ub, .inl (gI G, 6, .inl kb))] := by rw [ef99]; exact hD
                    refine lv_aload_n hx hb dX8_draw_108 rfl (lv_at hl 2 rfl) ?_
                    refine lv_iload_n hx hb dX8_draw_109 rfl (lv_at hl 3 rfl) ?_
                    refine lv_iload_n hx hb dX8_draw_110 rfl (lv_at hl 4 rfl) ?_
                    refine lv_iconst (v := 1) hx hb dX8_draw_111 (by decide) ?_
                    refine lv_iadd hx hb dX8_draw_112 ?_
                    refine lv_topi (fun x100 ex100 => ?_)
                    refine lv_iload_n hx hb dX8_draw_113 rfl (lv_at hl 5 rfl) ?_
                    refine lv_iload hx hb dX8_draw_114 (lv_at hl 0 rfl) ?_
                    refine lv_iadd hx hb dX8_draw_116 ?_
                    refine lv_topi (fun x101 ex101 => ?_)
                    refine lv_iload hx hb dX8_draw_117 (lv_at hl 6 rfl) ?_
                    refine ca_v (wr := []) (va_runV (As := [.int p0, .int x100, .int x101, .int p3]) (rest := []) ⟨hx, hb, hml, hown, hts⟩ (ih H.size tr us uf ub la lb gs f99 kb p0 x100 x101 p3 (by have q := inc_lt (y := 6) h6 ex100; omega) (by have q := inc_lt (y := 6) h6 ex100; omega)) (cwV 4 hts gX8_draw_X8_draw rfl rfl rfl (by decide +kernel) ⟨show (d + 3) + 1 ≤ (d + 1) + 3 by omega, show 8 + (7 + 11) + (40 * d + 100) ≤ 40 * (d + 1) + 100 by omega⟩) (pre_V E hP hD hS hA [0, 1, 2, 3] (by decide) rfl 0 4 rfl rfl) rfl rfl hl.1 rfl (lv_room (Nat.le_of_ble_eq_true rfl)) dX8_draw_119 ⟨Nat.zero_le _, Nat.zero_le _⟩) hS hP hD hA [0, 1, 2, 3] [] rfl rfl (by decide) (by decide) (fun u104 H locs w102 hP hD hS => ?_)
                    obtain ⟨le1_105, ma1_106, gf1_107, gb1_108⟩ := u104
                    try dsimp only at w102 hP hD
                    have hP := hP.sub (ws' := [(tr, .inr (4, [.ref us, .ref uf, .ref ub, .int le1_105, .int ma1_106])), (us, .inl (gI G, 36, .inl gs)), (uf, .inl (gI G, 6, .inl gf1_107)), (ub, .inl (gI G, 6, .inl gb1_108))]) [0, 1, 2, 3] rfl
                    have hD := hD.sub (ws' := [(tr, .inr (4, [.ref us, .ref uf, .ref ub, .int le1_105, .int ma1_106])), (us, .inl (gI G, 36, .inl gs)), (uf, .inl (gI G, 6, .inl gf1_107)), (ub, .inl (gI G, 6, .inl gb1_108))]) [0, 1, 2, 3] (by decide) rfl
                    obtain ⟨x109, ex109⟩ : ∃ yy_ : Int32, yy_ = x + 1 := ⟨_, rfl⟩
                    refine lv_iinc (v := x109) (lv' := [(5, .int x109), (6, .int r86), (0, .ref tr), (1, .int p0), (2, .int p1), (3, .int p2), (4, .int p3)]) hx hb dX8_draw_122 hl (k := 1) rfl (by rw [ex109]; rfl) (by decide) rfl (fun ls hl => ?_)
                    refine lv_goto (tgt := 60) hx hb dX8_draw_125 (by decide) ?_
                    have hinc60 := inc_lt hlt60 ex109
                    refine ih60 (x109, le1_105, ma1_106, gf1_107, gb1_108) ?_ (by first | omega | (dsimp only; omega)) H locs ls (hP.sub [0, 1, 2, 3] rfl) (hD.sub [0, 1, 2, 3] (by decide) rfl) hS (lv_sub hl [0, 2, 3, 4, 5, 6] rfl)
                    try dsimp only
                    omega
              · refine lv_if_eq (tgt := 122) hx hb dX8_draw_82 (by decide) (fun _ => ?_) (fun c110 => False.elim (by revert c110; decide))
                obtain ⟨x111, ex111⟩ : ∃ yy_ : Int32, yy_ = x + 1 := ⟨_, rfl⟩
                refine lv_iinc (v := x111) (lv' := [(5, .int x111), (6, .int r86), (0, .ref tr), (1, .int p0), (2, .int p1), (3, .int p2), (4, .int p3)]) hx hb dX8_draw_122 hl (k := 1) rfl (by rw [ex111]; rfl) (by decide) rfl (fun ls hl => ?_)
                refine lv_goto (tgt := 60) hx hb dX8_draw_125 (by decide) ?_
                have hinc60 := inc_lt hlt60 ex111
                refine ih60 (x111, la, lb, ka, kb) ?_ (by first | omega | (dsimp only; omega)) H locs ls (hP.sub [0, 1, 2, 3] rfl) (hD.sub [0, 1, 2, 3] (by decide) rfl) hS (lv_sub hl [0, 2, 3, 4, 5, 6] rfl)
                try dsimp only
                omega
          · refine lv_if_ne (tgt := 57) hx hb dX8_draw_42 (by decide) (fun c112 => False.elim (by revert c112; decide)) (fun _ => ?_)
            refine lv_aload_n hx hb dX8_draw_45 rfl (lv_at hl 0 rfl) ?_
            refine lv_iload_n hx hb dX8_draw_46 rfl (lv_at hl 1 rfl) ?_
            refine lv_iload_n hx hb dX8_draw_47 rfl (lv_at hl 2 rfl) ?_
            refine lv_iconst (v := 1) hx hb dX8_draw_48 (by decide) ?_
            refine lv_iadd hx hb dX8_draw_49 ?_
            refine lv_topi (fun x113 ex113 => ?_)
            refine lv_iload_n hx hb dX8_draw_50 rfl (lv_at hl 3 rfl) ?_
            refine lv_iload hx hb dX8_draw_51 (lv_at hl 4 rfl) ?_
            refine ca_v (wr := []) (va_runV (As := [.int p0, .int x113, .int p2, .int p3]) (rest := []) ⟨hx, hb, hml, hown, hts⟩ (ih H.size tr us uf ub le ma gs gf gb p0 x113 p2 p3 (by have q := inc_lt (y := 6) h6 ex113; omega) (by have q := inc_lt (y := 6) h6 ex113; omega)) (cwV 4 hts gX8_draw_X8_draw rfl rfl rfl (by decide +kernel) ⟨show (d + 3) + 1 ≤ (d + 1) + 3 by omega, show 8 + (7 + 11) + (40 * d + 100) ≤ 40 * (d + 1) + 100 by omega⟩) (pre_V E hP hD hS hA [0, 1, 2, 3] (by decide) rfl 0 4 rfl rfl) rfl rfl hl.1 rfl (lv_room (Nat.le_of_ble_eq_true rfl)) dX8_draw_53 ⟨Nat.zero_le _, Nat.zero_le _⟩) hS hP hD hA [0, 1, 2, 3] [] rfl rfl (by decide) (by decide) (fun u116 H locs w114 hP hD hS => ?_)
            obtain ⟨le1_117, ma1_118, gf1_119, gb1_120⟩ := u116
            try dsimp only at w114 hP hD
            have hP := hP.sub (ws' := [(tr, .inr (4, [.ref us, .ref uf, .ref ub, .int le1_117, .int ma1_118])), (us, .inl (gI G, 36, .inl gs)), (uf, .inl (gI G, 6, .inl gf1_119)), (ub, .inl (gI G, 6, .inl gb1_120))]) [0, 1, 2, 3] rfl
            have hD := hD.sub (ws' := [(tr, .inr (4, [.ref us, .ref uf, .ref ub, .int le1_117, .int ma1_118])), (us, .inl (gI G, 36, .inl gs)), (uf, .inl (gI G, 6, .inl gf1_119)), (ub, .inl (gI G, 6, .inl gb1_120))]) [0, 1, 2, 3] (by decide) rfl
            have hP9 := hP.sub (ws' := [(tr, .inr (4, [.ref us, .ref uf, .ref ub, .int le1_117, .int ma1_118])), (us, .inl (gI G, 36, .inl gs)), (uf, .inl (gI G, 6, .inl gf1_119)), (ub, .inl (gI G, 6, .inl gb1_120))]) [0, 1, 2, 3] rfl
            have hD9 := hD.sub (ws' := [(tr, .inr (4, [.ref us, .ref uf, .ref ub, .int le1_117, .int ma1_118])), (us, .inl (gI G, 36, .inl gs)), (uf, .inl (gI G, 6, .inl gf1_119)), (ub, .inl (gI G, 6, .inl gb1_120))]) [0, 1, 2, 3] (by decide) rfl
            exact W.vret hx hb hr (fun t ht hW => ⟨⟨(le1_117, ma1_118, gf1_119, gb1_120), rfl, trivial, by rw [ht]; exact hP9, hD9⟩, hS.F ht⟩) hS.2.2 dX8_draw_56
        · refine lv_iload hx hb dX8_draw_26 (lv_at hl 4 rfl) ?_
          refine lv_if_eq (tgt := 36) hx hb dX8_draw_28 (by decide) (fun c121 => ?_) (fun c121 => ?_)
          · have hP9 := hP.sub (ws' := [(tr, .inr (4, [.ref us, .ref uf, .ref ub, .int le, .int ma])), (us, .inl (gI G, 36, .inl gs)), (uf, .inl (gI G, 6, .inl gf)), (ub, .inl (gI G, 6, .inl gb))]) [0, 1, 2, 3] rfl
            have hD9 := hD.sub (ws' := [(tr, .inr (4, [.ref us, .ref uf, .ref ub, .int le, .int ma])), (us, .inl (gI G, 36, .inl gs)), (uf, .inl (gI G, 6, .inl gf)), (ub, .inl (gI G, 6, .inl gb))]) [0, 1, 2, 3] (by decide) rfl
            exact W.vret hx hb hr (fun t ht hW => ⟨⟨(le, ma, gf, gb), rfl, trivial, by rw [ht]; exact hP9, hD9⟩, hS.F ht⟩) hS.2.2 dX8_draw_36
          · refine lv_aload_n hx hb dX8_draw_31 rfl (lv_at hl 0 rfl) ?_
            refine lv_iload_n hx hb dX8_draw_32 rfl (lv_at hl 3 rfl) ?_
            refine ca_v (wr := []) (va_runV (As := [.int p2]) (rest := []) ⟨hx, hb, hml, hown, hts⟩ (c_weigh l G s.heap.size tr us uf ub le ma gs gf gb p2) (cwV 1 hts gX8_draw_X8_weigh rfl rfl rfl (by decide +kernel) ⟨show 1 + 1 ≤ (d + 1) + 3 by omega, show 8 + (2 + 11) + 60 ≤ 40 * (d + 1) + 100 by omega⟩) (pre_V E hP hD hS hA [0, 1, 2, 3] (by decide) rfl 0 4 rfl rfl) rfl rfl hl.1 rfl (lv_room (Nat.le_of_ble_eq_true rfl)) dX8_draw_33 ⟨Nat.zero_le _, Nat.zero_le _⟩) hS hP hD hA [0, 1, 2, 3] [] rfl rfl (by decide) (by decide) (fun u124 H locs w122 hP hD hS => ?_)
            obtain ⟨le1_125, ma1_126, gf1_127, gb1_128⟩ := u124
            try dsimp only at w122 hP hD
            have hP := hP.sub (ws' := [(tr, .inr (4, [.ref us, .ref uf, .ref ub, .int le1_125, .int ma1_126])), (us, .inl (gI G, 36, .inl gs)), (uf, .inl (gI G, 6, .inl gf1_127)), (ub, .inl (gI G, 6, .inl gb1_128))]) [0, 1, 2, 3] rfl
            have hD := hD.sub (ws' := [(tr, .inr (4, [.ref us, .ref uf, .ref ub, .int le1_125, .int ma1_126])), (us, .inl (gI G, 36, .inl gs)), (uf, .inl (gI G, 6, .inl gf1_127)), (ub, .inl (gI G, 6, .inl gb1_128))]) [0, 1, 2, 3] (by decide) rfl
            have hP9 := hP.sub (ws' := [(tr, .inr (4, [.ref us, .ref uf, .ref ub, .int le1_125, .int ma1_126])), (us, .inl (gI G, 36, .inl gs)), (uf, .inl (gI G, 6, .inl gf1_127)), (ub, .inl (gI G, 6, .inl gb1_128))]) [0, 1, 2, 3] rfl
            have hD9 := hD.sub (ws' := [(tr, .inr (4, [.ref us, .ref uf, .ref ub, .int le1_125, .int ma1_126])), (us, .inl (gI G, 36, .inl gs)), (uf, .inl (gI G, 6, .inl gf1_127)), (ub, .inl (gI G, 6, .inl gb1_128))]) [0, 1, 2, 3] (by decide) rfl
            exact W.vret hx hb hr (fun t ht hW => ⟨⟨(le1_125, ma1_126, gf1_127, gb1_128), rfl, trivial, by rw [ht]; exact hP9, hD9⟩, hS.F ht⟩) hS.2.2 dX8_draw_36
      · have hP9 := hP.sub (ws' := [(tr, .inr (4, [.ref us, .ref uf, .ref ub, .int le, .int ma])), (us, .inl (gI G, 36, .inl gs)), (uf, .inl (gI G, 6, .inl gf)), (ub, .inl (gI G, 6, .inl gb))]) [0, 1, 2, 3] rfl
        have hD9 := hD.sub (ws' := [(tr, .inr (4, [.ref us, .ref uf, .ref ub, .int le, .int ma])), (us, .inl (gI G, 36, .inl gs)), (uf, .inl (gI G, 6, .inl gf)), (ub, .inl (gI G, 6, .inl gb))]) [0, 1, 2, 3] (by decide) rfl
        exact W.vret hx hb hr (fun t ht hW => ⟨⟨(le, ma, gf, gb), rfl, trivial, by rw [ht]; exact hP9, hD9⟩, hS.F ht⟩) hS.2.2 dX8_draw_15

theorem c_draw (l : Launch) (G : Gy) (sz : Nat) (tr : Nat) (us : Nat) (uf : Nat) (ub : Nat) (le : Int32) (ma : Int32) (gs : Nat → Int32) (gf : Nat → Int32) (gb : Nat → Int32) (p0 : Int32) (p2 : Int32) (p3 : Int32) : Cv l G yX8_draw wsX8_draw ({ frames := 9, cells := 0, slots := 0, locals := 340 }) [.ref tr, .int p0, .int 0, .int p2, .int p3] [(tr, .inr (4, [.ref us, .ref uf, .ref ub, .int le, .int ma])), (us, .inl (gI G, 36, .inl gs)), (uf, .inl (gI G, 6, .inl gf)), (ub, .inl (gI G, 6, .inl gb))] sz (fun (u : Int32 × Int32 × (Nat → Int32) × (Nat → Int32)) => match u with | (le1, ma1, gf1, gb1) => True) (fun (u : Int32 × Int32 × (Nat → Int32) × (Nat → Int32)) => match u with | (le1, ma1, gf1, gb1) => [(tr, .inr (4, [.ref us, .ref uf, .ref ub, .int le1, .int ma1])), (us, .inl (gI G, 36, .inl gs)), (uf, .inl (gI G, 6, .inl gf1)), (ub, .inl (gI G, 6, .inl gb1))]) 0 0 :=
  c_draw_rec l G 6 sz tr us uf ub le ma gs gf gb p0 0 p2 p3 (by decide) (by decide)

set_option maxHeartbeats 1000000 in
set_option maxRecDepth 100000 in
theorem c_seek (l : Launch) (G : Gy) (sz : Nat) (tr : Nat) (us : Nat) (uf : Nat) (ub : Nat) (le : Int32) (ma : Int32) (gs : Nat → Int32) (gf : Nat → Int32) (gb : Nat → Int32) (p0 : Int32)  : Cv l G yX8_seek wsX8_seek ({ frames := 10, cells := 0, slots := 0, locals := 366 }) [.ref tr, .int p0] [(tr, .inr (4, [.ref us, .ref uf, .ref ub, .int le, .int ma])), (us, .inl (gI G, 36, .inl gs)), (uf, .inl (gI G, 6, .inl gf)), (ub, .inl (gI G, 6, .inl gb))] sz (fun (u : Int32 × Int32 × (Nat → Int32) × (Nat → Int32)) => match u with | (le1, ma1, gf1, gb1) => True) (fun (u : Int32 × Int32 × (Nat → Int32) × (Nat → Int32)) => match u with | (le1, ma1, gf1, gb1) => [(tr, .inr (4, [.ref us, .ref uf, .ref ub, .int le1, .int ma1])), (us, .inl (gI G, 36, .inl gs)), (uf, .inl (gI G, 6, .inl gf1)), (ub, .inl (gI G, 6, .inl gb1))]) 0 0 := by
  refine Met.ofW (cc := cX8_seek) (maxL := 2) (ret := none) (by decide) rfl ?_
  intro p e s m args below meth c s₁ B hml hv
  obtain ⟨rfl, hsz, hP, hD0, E0⟩ := hv
  have hx := B.exec
  have hb := B.bytes
  have hr := B.returns
  have hts := atoms_spec (ws := wsX8_seek) B.pre
  have hown : s.vm.findClass RX8 = some m.cls := findClass_of_methodNamed B.named
  have hlocks := B.notSynchronized
  subst hsz
  have hD := hD0.self (sz := s.heap.size)
  generalize hAe : va_A [(tr, .inr (4, [.ref us, .ref uf, .ref ub, .int le, .int ma])), (us, .inl (gI G, 36, .inl gs)), (uf, .inl (gI G, 6, .inl gf)), (ub, .inl (gI G, 6, .inl gb))] s.heap.size = A at hD E0 ⊢
  have E : EV G A s s.heap := E0
  have hA : ∀ q : Nat, s.heap.size ≤ q → A q := fun q h => by rw [← hAe]; exact Or.inr h
  have hS : va_S A s.heap s.heap [] := va_S.rf
  have hl := lv_entry ([.ref tr, .int p0]) (n := 2) (Nat.le_of_ble_eq_true rfl)
  rw [lg_entry_eq]
  generalize (lg_sl ([.ref tr, .int p0]) ++ List.replicate (2 - (lg_sl ([.ref tr, .int p0])).length) Slot.unset).toArray = ls at hl ⊢
  have hl : lv_has ls 2 [(0, .ref tr), (1, .int p0)] := hl
  have hP : va_P G.1 vwCl [(tr, .inr (4, [.ref us, .ref uf, .ref ub, .int le, .int ma])), (us, .inl (gI G, 36, .inl gs)), (uf, .inl (gI G, 6, .inl gf)), (ub, .inl (gI G, 6, .inl gb))] s.heap := hP
  refine lv_aload_n hx hb dX8_seek_0 rfl (lv_at hl 0 rfl) ?_
  refine lv_bipush (v := (-6)) hx hb dX8_seek_1 (by decide) ?_
  refine va_put (D := G.1) (ci := 4) (v := .int (-6)) (ty := .int) (C := RX8) (T := TX8) (N := 5) hx hb hts (fun _ h => List.mem_cons_of_mem _ (List.mem_append_right _ h)) tyX8 tyX8_ok nmX8 hown E.K hP hD hS 0 rfl rfl 3 (by decide) (hts (.fieldLink RX8 25 "LastMap$Trees" "least" "I") (by decide +kernel)) (fun _ h9 => h9) rfl (by decide +kernel) rfl rfl (Nat.le_of_ble_eq_true rfl) dX8_seek_3 (fun H locs hP hD hS => ?_)
  have hP : va_P G.1 vwCl [(tr, .inr (4, [.ref us, .ref uf, .ref ub, .int (-6), .int ma])), (us, .inl (gI G, 36, .inl gs)), (uf, .inl (gI G, 6, .inl gf)), (ub, .inl (gI G, 6, .inl gb))] H := hP
  have hD : va_D A [(tr, .inr (4, [.ref us, .ref uf, .ref ub, .int (-6), .int ma])), (us, .inl (gI G, 36, .inl gs)), (uf, .inl (gI G, 6, .inl gf)), (ub, .inl (gI G, 6, .inl gb))] := hD
  refine lv_aload_n hx hb dX8_seek_6 rfl (lv_at hl 0 rfl) ?_
  refine lv_iconst (v := 0) hx hb dX8_seek_7 (by decide) ?_
  refine va_put (D := G.1) (ci := 4) (v := .int 0) (ty := .int) (C := RX8) (T := TX8) (N := 5) hx hb hts (fun _ h => List.mem_cons_of_mem _ (List.mem_append_right _ h)) tyX8 tyX8_ok nmX8 hown E.K hP hD hS 0 rfl rfl 4 (by decide) (hts (.fieldLink RX8 29 "LastMap$Trees" "many" "I") (by decide +kernel)) (fun _ h9 => h9) rfl (by decide +kernel) rfl rfl (Nat.le_of_ble_eq_true rfl) dX8_seek_8 (fun H locs hP hD hS => ?_)
  have hP : va_P G.1 vwCl [(tr, .inr (4, [.ref us, .ref uf, .ref ub, .int (-6), .int 0])), (us, .inl (gI G, 36, .inl gs)), (uf, .inl (gI G, 6, .inl gf)), (ub, .inl (gI G, 6, .inl gb))] H := hP
  have hD : va_D A [(tr, .inr (4, [.ref us, .ref uf, .ref ub, .int (-6), .int 0])), (us, .inl (gI G, 36, .inl gs)), (uf, .inl (gI G, 6, .inl gf)), (ub, .inl (gI G, 6, .inl gb))] := hD
  refine lv_aload_n hx hb dX8_seek_11 rfl (lv_at hl 0 rfl) ?_
  refine va_get (D := G.1) (ci := 4) (v := .ref uf) (C := RX8) (T := TX8) (N := 5) hx hb hts (fun _ h => List.mem_cons_of_mem _ (List.mem_append_right _ h)) hown E.K hP 0 rfl rfl 1 (by decide) (hts (.fieldLink RX8 15 "LastMap$Trees" "from" "[I") (by decide +kernel)) (fun _ h9 => h9) rfl dX8_seek_12 ?_
  refine lv_bipush (v := 7) hx hb dX8_seek_15 (by decide) ?_
  refine ca_v (wr := [(tr, .inr (4, [.ref us, .ref uf, .ref ub, .int (-6), .int 0])), (us, .inl (gI G, 36, .inl gs)), (ub, .inl (gI G, 6, .inl gb))]) (va_runS (As := [.ref uf, .int 7]) (rest := []) ⟨hx, hb, hml, hown, hts⟩ (c_fillI6 l G H.size uf gf 7) (va_cwS 2 hts gX8_seek_J7_fill_53178 rfl rfl rfl (by decide +kernel) ⟨by decide +kernel, by decide +kernel⟩) (pre_S E hP hD hS hA [2] (by decide) rfl) rfl rfl hl.1 rfl (lv_room (Nat.le_of_ble_eq_true rfl)) dX8_seek_17 ⟨by decide +kernel, by decide +kernel⟩) hS hP hD hA [2] [0, 1, 3] rfl rfl (by decide) (by decide) (fun u3 H locs w1 hP hD hS => ?_)
  obtain ⟨f1_4, rfl⟩ : ∃ z, z = u3 := ⟨_, rfl⟩
  try dsimp only at w1 hP hD
  have hP := hP.sub (ws' := [(tr, .inr (4, [.ref us, .ref uf, .ref ub, .int (-6), .int 0])), (us, .inl (gI G, 36, .inl gs)), (uf, .inl (gI G, 6, .inl f1_4)), (ub, .inl (gI G, 6, .inl gb))]) [0, 1, 3, 2] rfl
  have hD := hD.sub (ws' := [(tr, .inr (4, [.ref us, .ref uf, .ref ub, .int (-6), .int 0])), (us, .inl (gI G, 36, .inl gs)), (uf, .inl (gI G, 6, .inl f1_4)), (ub, .inl (gI G, 6, .inl gb))]) [0, 1, 3, 2] (by decide) rfl
  refine lv_aload_n hx hb dX8_seek_20 rfl (lv_at hl 0 rfl) ?_
  refine lv_iload_n hx hb dX8_seek_21 rfl (lv_at hl 1 rfl) ?_
  refine lv_iconst (v := 0) hx hb dX8_seek_22 (by decide) ?_
  refine lv_iconst (v := 0) hx hb dX8_seek_23 (by decide) ?_
  refine lv_iconst (v := 0) hx hb dX8_seek_24 (by decide) ?_
  refine ca_v (wr := []) (va_runV (As := [.int p0, .int 0, .int 0, .int 0]) (rest := []) ⟨hx, hb, hml, hown, hts⟩ (c_draw l G H.size tr us uf ub (-6) 0 gs f1_4 gb p0 0 0) (cwV 4 hts gX8_seek_X8_draw rfl rfl rfl (by decide +kernel) ⟨by decide +kernel, by decide +kernel⟩) (pre_V E hP hD hS hA [0, 1, 2, 3] (by decide) rfl 0 4 rfl rfl) rfl rfl hl.1 rfl (lv_room (Nat.le_of_ble_eq_true rfl)) dX8_seek_25 ⟨by decide +kernel, by decide +kernel⟩) hS hP hD hA [0, 1, 2, 3] [] rfl rfl (by decide) (by decide) (fun u7 H locs w5 hP hD hS => ?_)
  obtain ⟨le1_8, ma1_9, gf1_10, gb1_11⟩ := u7
  try dsimp only at w5 hP hD
  have hP := hP.sub (ws' := [(tr, .inr (4, [.ref us, .ref uf, .ref ub, .int le1_8, .int ma1_9])), (us, .inl (gI G, 36, .inl gs)), (uf, .inl (gI G, 6, .inl gf1_10)), (ub, .inl (gI G, 6, .inl gb1_11))]) [0, 1, 2, 3] rfl
  have hD := hD.sub (ws' := [(tr, .inr (4, [.ref us, .ref uf, .ref ub, .int le1_8, .int ma1_9])), (us, .inl (gI G, 36, .inl gs)), (uf, .inl (gI G, 6, .inl gf1_10)), (ub, .inl (gI G, 6, .inl gb1_11))]) [0, 1, 2, 3] (by decide) rfl
  have hP9 := hP.sub (ws' := [(tr, .inr (4, [.ref us, .ref uf, .ref ub, .int le1_8, .int ma1_9])), (us, .inl (gI G, 36, .inl gs)), (uf, .inl (gI G, 6, .inl gf1_10)), (ub, .inl (gI G, 6, .inl gb1_11))]) [0, 1, 2, 3] rfl
  have hD9 := hD.sub (ws' := [(tr, .inr (4, [.ref us, .ref uf, .ref ub, .int le1_8, .int ma1_9])), (us, .inl (gI G, 36, .inl gs)), (uf, .inl (gI G, 6, .inl gf1_10)), (ub, .inl (gI G, 6, .inl gb1_11))]) [0, 1, 2, 3] (by decide) rfl
  exact W.vret hx hb hr (fun t ht hW => ⟨⟨(le1_8, ma1_9, gf1_10, gb1_11), rfl, trivial, by rw [ht]; exact hP9, hD9⟩, hS.F ht⟩) hS.2.2 dX8_seek_28
