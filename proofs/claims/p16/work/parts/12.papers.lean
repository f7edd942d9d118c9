set_option maxHeartbeats 1000000 in
set_option maxRecDepth 100000 in
theorem c_codeOf (l : Launch) (G : Gy) (sz : Nat) (pp : Nat) (ac : Nat) (ak : Nat) (n : Int32) (told : Int32) (sp : Int32) (gr : Int32) (fc : Nat → Int32) (fk : Nat → Int32) (p0 : Int32)  : Ci l G yX3_codeOf wsX3_codeOf ({ frames := 0, cells := 0, slots := 0, locals := 0 }) [.ref pp, .int p0] [(pp, .inr (1, [.int n, .int told, .int sp, .int gr, .ref ac, .ref ak])), (ac, .inl (gI G, 6, .inl fc)), (ak, .inl (gI G, 4, .inl fk))] sz (fun (r : Int32) (_ : Unit) => r = cIf (inR p0 0 5) (fc p0.toNatClampNeg) 0) (fun (_ : Unit) => [(pp, .inr (1, [.int n, .int told, .int sp, .int gr, .ref ac, .ref ak])), (ac, .inl (gI G, 6, .inl fc)), (ak, .inl (gI G, 4, .inl fk))]) 0 0 := by
  refine Met.ofW (cc := cX3_codeOf) (maxL := 2) (ret := (some .int)) (by decide) rfl ?_
  intro p e s m args below meth c s₁ B hml hv
  obtain ⟨rfl, hsz, hP, hD0, E0⟩ := hv
  have hx := B.exec
  have hb := B.bytes
  have hr := B.returns
  have hts := atoms_spec (ws := wsX3_codeOf) B.pre
  have hown : s.vm.findClass RX3 = some m.cls := findClass_of_methodNamed B.named
  have hlocks := B.notSynchronized
  subst hsz
  have hD := hD0.self (sz := s.heap.size)
  generalize hAe : va_A [(pp, .inr (1, [.int n, .int told, .int sp, .int gr, .ref ac, .ref ak])), (ac, .inl (gI G, 6, .inl fc)), (ak, .inl (gI G, 4, .inl fk))] s.heap.size = A at hD E0 ⊢
  have E : EV G A s s.heap := E0
  have hA : ∀ q : Nat, s.heap.size ≤ q → A q := fun q h => by rw [← hAe]; exact Or.inr h
  have hS : va_S A s.heap s.heap [] := va_S.rf
  have hl := lv_entry ([.ref pp, .int p0]) (n := 2) (Nat.le_of_ble_eq_true rfl)
  rw [lg_entry_eq]
  generalize (lg_sl ([.ref pp, .int p0]) ++ List.replicate (2 - (lg_sl ([.ref pp, .int p0])).length) Slot.unset).toArray = ls at hl ⊢
  have hl : lv_has ls 2 [(0, .ref pp), (1, .int p0)] := hl
  have hP : va_P G.1 vwCl [(pp, .inr (1, [.int n, .int told, .int sp, .int gr, .ref ac, .ref ak])), (ac, .inl (gI G, 6, .inl fc)), (ak, .inl (gI G, 4, .inl fk))] s.heap := hP
  refine lv_iload_n hx hb dX3_codeOf_0 rfl (lv_at hl 1 rfl) ?_
  refine lv_if_lt (tgt := 22) hx hb dX3_codeOf_1 (by decide) (fun c1 => ?_) (fun c1 => ?_)
  · refine lv_iconst (v := 0) hx hb dX3_codeOf_22 (by decide) ?_
    have hP9 := hP.sub (ws' := [(pp, .inr (1, [.int n, .int told, .int sp, .int gr, .ref ac, .ref ak])), (ac, .inl (gI G, 6, .inl fc)), (ak, .inl (gI G, 4, .inl fk))]) [0, 1, 2] rfl
    have hD9 := hD.sub (ws' := [(pp, .inr (1, [.int n, .int told, .int sp, .int gr, .ref ac, .ref ak])), (ac, .inl (gI G, 6, .inl fc)), (ak, .inl (gI G, 4, .inl fk))]) [0, 1, 2] (by decide) rfl
    exact W.iret (v := 0) hx hb hr (fun t ht hW => ⟨⟨0, (), rfl, (cIf_f (by ((try simp only [inR, inS, i3_lt, i3_le, i3_eq, i6_lt, i6_le, Int32.toInt_toInt64, lg_cmp_lt, lg_cmp_gt, lg_cmp_ge, lg_cmp_le, Int32.reduceToInt, Int64.reduceToInt] at c1 ⊢); omega))).symm, by rw [ht]; exact hP9, hD9⟩, hS.F ht⟩) hS.2.2 dX3_codeOf_23
  · refine lv_iload_n hx hb dX3_codeOf_4 rfl (lv_at hl 1 rfl) ?_
    refine lv_aload_n hx hb dX3_codeOf_5 rfl (lv_at hl 0 rfl) ?_
    refine va_get (D := G.1) (ci := 1) (v := .ref ac) (C := RX3) (T := TX3) (N := 6) hx hb hts (fun _ h => List.mem_cons_of_mem _ (List.mem_append_right _ h)) hown E.K hP 0 rfl rfl 4 (by decide) (hts (.fieldLink RX3 18 "LastMap$Papers" "codes" "[I") (by decide +kernel)) (fun _ h9 => h9) rfl dX3_codeOf_6 ?_
    refine va_alen (v := 6) hx hb E.K hP 1 1 rfl rfl rfl dX3_codeOf_9 ?_
    refine lv_icmp_ge (tgt := 22) hx hb dX3_codeOf_10 (by decide) (fun c2 => ?_) (fun c2 => ?_)
    · refine lv_iconst (v := 0) hx hb dX3_codeOf_22 (by decide) ?_
      have hP9 := hP.sub (ws' := [(pp, .inr (1, [.int n, .int told, .int sp, .int gr, .ref ac, .ref ak])), (ac, .inl (gI G, 6, .inl fc)), (ak, .inl (gI G, 4, .inl fk))]) [0, 1, 2] rfl
      have hD9 := hD.sub (ws' := [(pp, .inr (1, [.int n, .int told, .int sp, .int gr, .ref ac, .ref ak])), (ac, .inl (gI G, 6, .inl fc)), (ak, .inl (gI G, 4, .inl fk))]) [0, 1, 2] (by decide) rfl
      exact W.iret (v := 0) hx hb hr (fun t ht hW => ⟨⟨0, (), rfl, (cIf_f (by ((try simp only [inR, inS, i3_lt, i3_le, i3_eq, i6_lt, i6_le, Int32.toInt_toInt64, lg_cmp_lt, lg_cmp_gt, lg_cmp_ge, lg_cmp_le, Int32.reduceToInt, Int64.reduceToInt] at c1 c2 ⊢); omega))).symm, by rw [ht]; exact hP9, hD9⟩, hS.F ht⟩) hS.2.2 dX3_codeOf_23
    · refine lv_aload_n hx hb dX3_codeOf_13 rfl (lv_at hl 0 rfl) ?_
      refine va_get (D := G.1) (ci := 1) (v := .ref ac) (C := RX3) (T := TX3) (N := 6) hx hb hts (fun _ h => List.mem_cons_of_mem _ (List.mem_append_right _ h)) hown E.K hP 0 rfl rfl 4 (by decide) (hts (.fieldLink RX3 18 "LastMap$Papers" "codes" "[I") (by decide +kernel)) (fun _ h9 => h9) rfl dX3_codeOf_14 ?_
      refine lv_iload_n hx hb dX3_codeOf_17 rfl (lv_at hl 1 rfl) ?_
      refine va_iald hx hb E.K hP 1 1 rfl rfl (i := p0) (vp_in_iff.mpr (by ((try simp only [inR, inS, i3_lt, i3_le, i3_eq, i6_lt, i6_le, Int32.toInt_toInt64, lg_cmp_lt, lg_cmp_gt, lg_cmp_ge, lg_cmp_le, Int32.reduceToInt, Int64.reduceToInt] at c1 c2 ⊢); omega))) dX3_codeOf_18 ?_
      refine lv_topi (fun x3 ex3 => ?_)
      refine lv_goto (tgt := 23) hx hb dX3_codeOf_19 (by decide) ?_
      have hP9 := hP.sub (ws' := [(pp, .inr (1, [.int n, .int told, .int sp, .int gr, .ref ac, .ref ak])), (ac, .inl (gI G, 6, .inl fc)), (ak, .inl (gI G, 4, .inl fk))]) [0, 1, 2] rfl
      have hD9 := hD.sub (ws' := [(pp, .inr (1, [.int n, .int told, .int sp, .int gr, .ref ac, .ref ak])), (ac, .inl (gI G, 6, .inl fc)), (ak, .inl (gI G, 4, .inl fk))]) [0, 1, 2] (by decide) rfl
      exact W.iret (v := x3) hx hb hr (fun t ht hW => ⟨⟨x3, (), rfl, by rw [ex3]; exact (cIf_t (by ((try simp only [inR, inS, i3_lt, i3_le, i3_eq, i6_lt, i6_le, Int32.toInt_toInt64, lg_cmp_lt, lg_cmp_gt, lg_cmp_ge, lg_cmp_le, Int32.reduceToInt, Int64.reduceToInt] at c1 c2 ⊢); omega))).symm, by rw [ht]; exact hP9, hD9⟩, hS.F ht⟩) hS.2.2 dX3_codeOf_23

set_option maxHeartbeats 1000000 in
set_option maxRecDepth 100000 in
theorem c_kindsOf (l : Launch) (G : Gy) (sz : Nat) (pp : Nat) (ac : Nat) (ak : Nat) (n : Int32) (told : Int32) (sp : Int32) (gr : Int32) (fc : Nat → Int32) (fk : Nat → Int32) (p0 : Int32)  : Ci l G yX3_kindsOf wsX3_kindsOf ({ frames := 0, cells := 0, slots := 0, locals := 0 }) [.ref pp, .int p0] [(pp, .inr (1, [.int n, .int told, .int sp, .int gr, .ref ac, .ref ak])), (ac, .inl (gI G, 6, .inl fc)), (ak, .inl (gI G, 4, .inl fk))] sz (fun (r : Int32) (_ : Unit) => r = cIf (inR p0 0 3) (fk p0.toNatClampNeg) 0) (fun (_ : Unit) => [(pp, .inr (1, [.int n, .int told, .int sp, .int gr, .ref ac, .ref ak])), (ac, .inl (gI G, 6, .inl fc)), (ak, .inl (gI G, 4, .inl fk))]) 0 0 := by
  refine Met.ofW (cc := cX3_kindsOf) (maxL := 2) (ret := (some .int)) (by decide) rfl ?_
  intro p e s m args below meth c s₁ B hml hv
  obtain ⟨rfl, hsz, hP, hD0, E0⟩ := hv
  have hx := B.exec
  have hb := B.bytes
  have hr := B.returns
  have hts := atoms_spec (ws := wsX3_kindsOf) B.pre
  have hown : s.vm.findClass RX3 = some m.cls := findClass_of_methodNamed B.named
  have hlocks := B.notSynchronized
  subst hsz
  have hD := hD0.self (sz := s.heap.size)
  generalize hAe : va_A [(pp, .inr (1, [.int n, .int told, .int sp, .int gr, .ref ac, .ref ak])), (ac, .inl (gI G, 6, .inl fc)), (ak, .inl (gI G, 4, .inl fk))] s.heap.size = A at hD E0 ⊢
  have E : EV G A s s.heap := E0
  have hA : ∀ q : Nat, s.heap.size ≤ q → A q := fun q h => by rw [← hAe]; exact Or.inr h
  have hS : va_S A s.heap s.heap [] := va_S.rf
  have hl := lv_entry ([.ref pp, .int p0]) (n := 2) (Nat.le_of_ble_eq_true rfl)
  rw [lg_entry_eq]
  generalize (lg_sl ([.ref pp, .int p0]) ++ List.replicate (2 - (lg_sl ([.ref pp, .int p0])).length) Slot.unset).toArray = ls at hl ⊢
  have hl : lv_has ls 2 [(0, .ref pp), (1, .int p0)] := hl
  have hP : va_P G.1 vwCl [(pp, .inr (1, [.int n, .int told, .int sp, .int gr, .ref ac, .ref ak])), (ac, .inl (gI G, 6, .inl fc)), (ak, .inl (gI G, 4, .inl fk))] s.heap := hP
  refine lv_iload_n hx hb dX3_kindsOf_0 rfl (lv_at hl 1 rfl) ?_
  refine lv_if_lt (tgt := 22) hx hb dX3_kindsOf_1 (by decide) (fun c1 => ?_) (fun c1 => ?_)
  · refine lv_iconst (v := 0) hx hb dX3_kindsOf_22 (by decide) ?_
    have hP9 := hP.sub (ws' := [(pp, .inr (1, [.int n, .int told, .int sp, .int gr, .ref ac, .ref ak])), (ac, .inl (gI G, 6, .inl fc)), (ak, .inl (gI G, 4, .inl fk))]) [0, 1, 2] rfl
    have hD9 := hD.sub (ws' := [(pp, .inr (1, [.int n, .int told, .int sp, .int gr, .ref ac, .ref ak])), (ac, .inl (gI G, 6, .inl fc)), (ak, .inl (gI G, 4, .inl fk))]) [0, 1, 2] (by decide) rfl
    exact W.iret (v := 0) hx hb hr (fun t ht hW => ⟨⟨0, (), rfl, (cIf_f (by ((try simp only [inR, inS, i3_lt, i3_le, i3_eq, i6_lt, i6_le, Int32.toInt_toInt64, lg_cmp_lt, lg_cmp_gt, lg_cmp_ge, lg_cmp_le, Int32.reduceToInt, Int64.reduceToInt] at c1 ⊢); omega))).symm, by rw [ht]; exact hP9, hD9⟩, hS.F ht⟩) hS.2.2 dX3_kindsOf_23
  · refine lv_iload_n hx hb dX3_kindsOf_4 rfl (lv_at hl 1 rfl) ?_
    refine lv_aload_n hx hb dX3_kindsOf_5 rfl (lv_at hl 0 rfl) ?_
    refine va_get (D := G.1) (ci := 1) (v := .ref ak) (C := RX3) (T := TX3) (N := 6) hx hb hts (fun _ h => List.mem_cons_of_mem _ (List.mem_append_right _ h)) hown E.K hP 0 rfl rfl 5 (by decide) (hts (.fieldLink RX3 22 "LastMap$Papers" "kinds" "[I") (by decide +kernel)) (fun _ h9 => h9) rfl dX3_kindsOf_6 ?_
    refine va_alen (v := 4) hx hb E.K hP 2 1 rfl rfl rfl dX3_kindsOf_9 ?_
    refine lv_icmp_ge (tgt := 22) hx hb dX3_kindsOf_10 (by decide) (fun c2 => ?_) (fun c2 => ?_)
    · refine lv_iconst (v := 0) hx hb dX3_kindsOf_22 (by decide) ?_
      have hP9 := hP.sub (ws' := [(pp, .inr (1, [.int n, .int told, .int sp, .int gr, .ref ac, .ref ak])), (ac, .inl (gI G, 6, .inl fc)), (ak, .inl (gI G, 4, .inl fk))]) [0, 1, 2] rfl
      have hD9 := hD.sub (ws' := [(pp, .inr (1, [.int n, .int told, .int sp, .int gr, .ref ac, .ref ak])), (ac, .inl (gI G, 6, .inl fc)), (ak, .inl (gI G, 4, .inl fk))]) [0, 1, 2] (by decide) rfl
      exact W.iret (v := 0) hx hb hr (fun t ht hW => ⟨⟨0, (), rfl, (cIf_f (by ((try simp only [inR, inS, i3_lt, i3_le, i3_eq, i6_lt, i6_le, Int32.toInt_toInt64, lg_cmp_lt, lg_cmp_gt, lg_cmp_ge, lg_cmp_le, Int32.reduceToInt, Int64.reduceToInt] at c1 c2 ⊢); omega))).symm, by rw [ht]; exact hP9, hD9⟩, hS.F ht⟩) hS.2.2 dX3_kindsOf_23
    · refine lv_aload_n hx hb dX3_kindsOf_13 rfl (lv_at hl 0 rfl) ?_
      refine va_get (D := G.1) (ci := 1) (v := .ref ak) (C := RX3) (T := TX3) (N := 6) hx hb hts (fun _ h => List.mem_cons_of_mem _ (List.mem_append_right _ h)) hown E.K hP 0 rfl rfl 5 (by decide) (hts (.fieldLink RX3 22 "LastMap$Papers" "kinds" "[I") (by decide +kernel)) (fun _ h9 => h9) rfl dX3_kindsOf_14 ?_
      refine lv_iload_n hx hb dX3_kindsOf_17 rfl (lv_at hl 1 rfl) ?_
      refine va_iald hx hb E.K hP 2 1 rfl rfl (i := p0) (vp_in_iff.mpr (by ((try simp only [inR, inS, i3_lt, i3_le, i3_eq, i6_lt, i6_le, Int32.toInt_toInt64, lg_cmp_lt, lg_cmp_gt, lg_cmp_ge, lg_cmp_le, Int32.reduceToInt, Int64.reduceToInt] at c1 c2 ⊢); omega))) dX3_kindsOf_18 ?_
      refine lv_topi (fun x3 ex3 => ?_)
      refine lv_goto (tgt := 23) hx hb dX3_kindsOf_19 (by decide) ?_
      have hP9 := hP.sub (ws' := [(pp, .inr (1, [.int n, .int told, .int sp, .int gr, .ref ac, .ref ak])), (ac, .inl (gI G, 6, .inl fc)), (ak, .inl (gI G, 4, .inl fk))]) [0, 1, 2] rfl
      have hD9 := hD.sub (ws' := [(pp, .inr (1, [.int n, .int told, .int sp, .int gr, .ref ac, .ref ak])), (ac, .inl (gI G, 6, .inl fc)), (ak, .inl (gI G, 4, .inl fk))]) [0, 1, 2] (by decide) rfl
      exact W.iret (v := x3) hx hb hr (fun t ht hW => ⟨⟨x3, (), rfl, by rw [ex3]; exact (cIf_t (by ((try simp only [inR, inS, i3_lt, i3_le, i3_eq, i6_lt, i6_le, Int32.toInt_toInt64, lg_cmp_lt, lg_cmp_gt, lg_cmp_ge, lg_cmp_le, Int32.reduceToInt, Int64.reduceToInt] at c1 c2 ⊢); omega))).symm, by rw [ht]; exact hP9, hD9⟩, hS.F ht⟩) hS.2.2 dX3_kindsOf_23

set_option maxHeartbeats 1000000 in
set_option maxRecDepth 100000 in
theorem c_teach (l : Launch) (G : Gy) (sz : Nat) (pp : Nat) (ac : Nat) (ak : Nat) (n : Int32) (told : Int32) (sp : Int32) (gr : Int32) (fc : Nat → Int32) (fk : Nat → Int32) (p0 : Int32) (p1 : Int32)  : Cv l G yX3_teach wsX3_teach ({ frames := 0, cells := 0, slots := 0, locals := 0 }) [.ref pp, .int p0, .int p1] [(pp, .inr (1, [.int n, .int told, .int sp, .int gr, .ref ac, .ref ak])), (ac, .inl (gI G, 6, .inl fc)), (ak, .inl (gI G, 4, .inl fk))] sz (fun (gk : Nat → Int32) => (inR p0 0 3 → gk = upd fk p0.toNatClampNeg p1) ∧ (¬ inR p0 0 3 → gk = fk)) (fun (gk : Nat → Int32) => [(pp, .inr (1, [.int n, .int told, .int sp, .int gr, .ref ac, .ref ak])), (ac, .inl (gI G, 6, .inl fc)), (ak, .inl (gI G, 4, .inl gk))]) 0 0 := by
  refine Met.ofW (cc := cX3_teach) (maxL := 3) (ret := none) (by decide) rfl ?_
  intro p e s m args below meth c s₁ B hml hv
  obtain ⟨rfl, hsz, hP, hD0, E0⟩ := hv
  have hx := B.exec
  have hb := B.bytes
  have hr := B.returns
  have hts := atoms_spec (ws := wsX3_teach) B.pre
  have hown : s.vm.findClass RX3 = some m.cls := findClass_of_methodNamed B.named
  have hlocks := B.notSynchronized
  subst hsz
  have hD := hD0.self (sz := s.heap.size)
  generalize hAe : va_A [(pp, .inr (1, [.int n, .int told, .int sp, .int gr, .ref ac, .ref ak])), (ac, .inl (gI G, 6, .inl fc)), (ak, .inl (gI G, 4, .inl fk))] s.heap.size = A at hD E0 ⊢
  have E : EV G A s s.heap := E0
  have hA : ∀ q : Nat, s.heap.size ≤ q → A q := fun q h => by rw [← hAe]; exact Or.inr h
  have hS : va_S A s.heap s.heap [] := va_S.rf
  have hl := lv_entry ([.ref pp, .int p0, .int p1]) (n := 3) (Nat.le_of_ble_eq_true rfl)
  rw [lg_entry_eq]
  generalize (lg_sl ([.ref pp, .int p0, .int p1]) ++ List.replicate (3 - (lg_sl ([.ref pp, .int p0, .int p1])).length) Slot.unset).toArray = ls at hl ⊢
  have hl : lv_has ls 3 [(0, .ref pp), (1, .int p0), (2, .int p1)] := hl
  have hP : va_P G.1 vwCl [(pp, .inr (1, [.int n, .int told, .int sp, .int gr, .ref ac, .ref ak])), (ac, .inl (gI G, 6, .inl fc)), (ak, .inl (gI G, 4, .inl fk))] s.heap := hP
  refine lv_iload_n hx hb dX3_teach_0 rfl (lv_at hl 1 rfl) ?_
  refine lv_if_lt (tgt := 20) hx hb dX3_teach_1 (by decide) (fun c1 => ?_) (fun c1 => ?_)
  · have hP9 := hP.sub (ws' := [(pp, .inr (1, [.int n, .int told, .int sp, .int gr, .ref ac, .ref ak])), (ac, .inl (gI G, 6, .inl fc)), (ak, .inl (gI G, 4, .inl fk))]) [0, 1, 2] rfl
    have hD9 := hD.sub (ws' := [(pp, .inr (1, [.int n, .int told, .int sp, .int gr, .ref ac, .ref ak])), (ac, .inl (gI G, 6, .inl fc)), (ak, .inl (gI G, 4, .inl fk))]) [0, 1, 2] (by decide) rfl
    exact W.vret hx hb hr (fun t ht hW => ⟨⟨fk, rfl, ⟨fun h => absurd h (by ((try simp only [inR, inS, i3_lt, i3_le, i3_eq, i6_lt, i6_le, Int32.toInt_toInt64, lg_cmp_lt, lg_cmp_gt, lg_cmp_ge, lg_cmp_le, Int32.reduceToInt, Int64.reduceToInt] at c1 ⊢); omega)), fun _ => rfl⟩, by rw [ht]; exact hP9, hD9⟩, hS.F ht⟩) hS.2.2 dX3_teach_20
  · refine lv_iload_n hx hb dX3_teach_4 rfl (lv_at hl 1 rfl) ?_
    refine lv_aload_n hx hb dX3_teach_5 rfl (lv_at hl 0 rfl) ?_
    refine va_get (D := G.1) (ci := 1) (v := .ref ak) (C := RX3) (T := TX3) (N := 6) hx hb hts (fun _ h => List.mem_cons_of_mem _ (List.mem_append_right _ h)) hown E.K hP 0 rfl rfl 5 (by decide) (hts (.fieldLink RX3 22 "LastMap$Papers" "kinds" "[I") (by decide +kernel)) (fun _ h9 => h9) rfl dX3_teach_6 ?_
    refine va_alen (v := 4) hx hb E.K hP 2 1 rfl rfl rfl dX3_teach_9 ?_
    refine lv_icmp_ge (tgt := 20) hx hb dX3_teach_10 (by decide) (fun c2 => ?_) (fun c2 => ?_)
    · have hP9 := hP.sub (ws' := [(pp, .inr (1, [.int n, .int told, .int sp, .int gr, .ref ac, .ref ak])), (ac, .inl (gI G, 6, .inl fc)), (ak, .inl (gI G, 4, .inl fk))]) [0, 1, 2] rfl
      have hD9 := hD.sub (ws' := [(pp, .inr (1, [.int n, .int told, .int sp, .int gr, .ref ac, .ref ak])), (ac, .inl (gI G, 6, .inl fc)), (ak, .inl (gI G, 4, .inl fk))]) [0, 1, 2] (by decide) rfl
      exact W.vret hx hb hr (fun t ht hW => ⟨⟨fk, rfl, ⟨fun h => absurd h (by ((try simp only [inR, inS, i3_lt, i3_le, i3_eq, i6_lt, i6_le, Int32.toInt_toInt64, lg_cmp_lt, lg_cmp_gt, lg_cmp_ge, lg_cmp_le, Int32.reduceToInt, Int64.reduceToInt] at c1 c2 ⊢); omega)), fun _ => rfl⟩, by rw [ht]; exact hP9, hD9⟩, hS.F ht⟩) hS.2.2 dX3_teach_20
    · refine lv_aload_n hx hb dX3_teach_13 rfl (lv_at hl 0 rfl) ?_
      refine va_get (D := G.1) (ci := 1) (v := .ref ak) (C := RX3) (T := TX3) (N := 6) hx hb hts (fun _ h => List.mem_cons_of_mem _ (List.mem_append_right _ h)) hown E.K hP 0 rfl rfl 5 (by decide) (hts (.fieldLink RX3 22 "LastMap$Papers" "kinds" "[I") (by decide +kernel)) (fun _ h9 => h9) rfl dX3_teach_14 ?_
      refine lv_iload_n hx hb dX3_teach_17 rfl (lv_at hl 1 rfl) ?_
      refine lv_iload_n hx hb dX3_teach_18 rfl (lv_at hl 2 rfl) ?_
      refine va_iast hx hb E.K hP hD hS 2 1 rfl rfl (i := p0) (vp_in_iff.mpr (by ((try simp only [inR, inS, i3_lt, i3_le, i3_eq, i6_lt, i6_le, Int32.toInt_toInt64, lg_cmp_lt, lg_cmp_gt, lg_cmp_ge, lg_cmp_le, Int32.reduceToInt, Int64.reduceToInt] at c1 c2 ⊢); omega))) dX3_teach_19 (fun H locs hP hD hS => ?_)
      obtain ⟨f3, ef3⟩ : ∃ yy_ : Nat → Int32, yy_ = upd fk p0.toNatClampNeg p1 := ⟨_, rfl⟩
      have hP : va_P G.1 vwCl [(pp, .inr (1, [.int n, .int told, .int sp, .int gr, .ref ac, .ref ak])), (ac, .inl (gI G, 6, .inl fc)), (ak, .inl (gI G, 4, .inl f3))] H := by rw [ef3]; exact hP
      have hD : va_D A [(pp, .inr (1, [.int n, .int told, .int sp, .int gr, .ref ac, .ref ak])), (ac, .inl (gI G, 6, .inl fc)), (ak, .inl (gI G, 4, .inl f3))] := by rw [ef3]; exact hD
      have hP9 := hP.sub (ws' := [(pp, .inr (1, [.int n, .int told, .int sp, .int gr, .ref ac, .ref ak])), (ac, .inl (gI G, 6, .inl fc)), (ak, .inl (gI G, 4, .inl f3))]) [0, 1, 2] rfl
      have hD9 := hD.sub (ws' := [(pp, .inr (1, [.int n, .int told, .int sp, .int gr, .ref ac, .ref ak])), (ac, .inl (gI G, 6, .inl fc)), (ak, .inl (gI G, 4, .inl f3))]) [0, 1, 2] (by decide) rfl
      exact W.vret hx hb hr (fun t ht hW => ⟨⟨f3, rfl, ⟨fun _ => ef3, fun h => absurd (by ((try simp only [inR, inS, i3_lt, i3_le, i3_eq, i6_lt, i6_le, Int32.toInt_toInt64, lg_cmp_lt, lg_cmp_gt, lg_cmp_ge, lg_cmp_le, Int32.reduceToInt, Int64.reduceToInt] at c1 c2 ⊢); omega)) h⟩, by rw [ht]; exact hP9, hD9⟩, hS.F ht⟩) hS.2.2 dX3_teach_20

set_option maxHeartbeats 1000000 in
set_option maxRecDepth 100000 in
theorem c_Papers (l : Launch) (G : Gy) (sz : Nat) (pp : Nat)  : Cv l G yX3_init wsX3_init ({ frames := 1, cells := 2, slots := 10, locals := 12 }) [.ref pp] [(pp, .inr (1, [.int 0, .int 0, .int 0, .int 0, .null, .null]))] sz (fun (u : Nat × Nat × (Nat → Int32)) => match u with | (ac1, ak1, gk) => ∀ j : Nat, j < 4 → gk j = 15) (fun (u : Nat × Nat × (Nat → Int32)) => match u with | (ac1, ak1, gk) => [(pp, .inr (1, [.int 6, .int 0, .int 1, .int 0, .ref ac1, .ref ak1])), (ac1, .inl (gI G, 6, .inl (fun _ => 0))), (ak1, .inl (gI G, 4, .inl gk))]) 2 10 := by
  refine Met.ofW (cc := cX3_init) (maxL := 1) (ret := none) (by decide) rfl ?_
  intro p e s m args below meth c s₁ B hml hv
  obtain ⟨rfl, hsz, hP, hD0, E0⟩ := hv
  have hx := B.exec
  have hb := B.bytes
  have hr := B.returns
  have hts := atoms_spec (ws := wsX3_init) B.pre
  have hown : s.vm.findClass RX3 = some m.cls := findClass_of_methodNamed B.named
  have hlocks := B.notSynchronized
  have hin : meth.name = "<init>" := (name_of_methodNamed B.named B.method).1
  subst hsz
  have hD := hD0.self (sz := s.heap.size)
  generalize hAe : va_A [(pp, .inr (1, [.int 0, .int 0, .int 0, .int 0, .null, .null]))] s.heap.size = A at hD E0 ⊢
  have E : EV G A s s.heap := E0
  have hA : ∀ q : Nat, s.heap.size ≤ q → A q := fun q h => by rw [← hAe]; exact Or.inr h
  have hS : va_S A s.heap s.heap [] := va_S.rf
  have hl := lv_entry ([.ref pp]) (n := 1) (Nat.le_of_ble_eq_true rfl)
  rw [lg_entry_eq]
  generalize (lg_sl ([.ref pp]) ++ List.replicate (1 - (lg_sl ([.ref pp])).length) Slot.unset).toArray = ls at hl ⊢
  have hl : lv_has ls 1 [(0, .ref pp)] := hl
  have hP : va_P G.1 vwCl [(pp, .inr (1, [.int 0, .int 0, .int 0, .int 0, .null, .null]))] s.heap := hP
  refine lv_aload_n hx hb dX3_init_0 rfl (lv_at hl 0 rfl) ?_
  refine W.objInit hx hb hown (hts (.methodLink RX3 3 objectInit) (by decide +kernel)) (hts (.instanceMethod objectInit) (by decide +kernel)) (hts (.code objectInit ⟨#[0xb1]⟩ 1 none) (by decide +kernel)) rfl (by rw [hml]; exact hl.1) rfl dX3_init_1 (Nat.le_of_ble_eq_true rfl) (Nat.le_of_ble_eq_true rfl) ?_
  refine W.eq (g2 := F0 m 4 ls []) rfl ?_
  refine lv_aload_n hx hb dX3_init_4 rfl (lv_at hl 0 rfl) ?_
  refine lv_bipush (v := 6) hx hb dX3_init_5 (by decide) ?_
  refine va_put (D := G.1) (ci := 1) (v := .int 6) (ty := .int) (C := RX3) (T := TX3) (N := 6) hx hb hts (fun _ h => List.mem_cons_of_mem _ (List.mem_append_right _ h)) tyX3 tyX3_ok nmX3 hown E.K hP hD hS 0 rfl rfl 0 (by decide) (hts (.fieldLink RX3 9 "LastMap$Papers" "siteCount" "I") (by decide +kernel)) (fun _ h9 => h9) rfl (by decide +kernel) rfl rfl (Nat.le_of_ble_eq_true rfl) dX3_init_7 (fun H locs hP hD hS => ?_)
  have hP : va_P G.1 vwCl [(pp, .inr (1, [.int 6, .int 0, .int 0, .int 0, .null, .null]))] H := hP
  have hD : va_D A [(pp, .inr (1, [.int 6, .int 0, .int 0, .int 0, .null, .null]))] := hD
  refine lv_aload_n hx hb dX3_init_10 rfl (lv_at hl 0 rfl) ?_
  refine lv_iconst (v := 1) hx hb dX3_init_11 (by decide) ?_
  refine va_put (D := G.1) (ci := 1) (v := .int 1) (ty := .int) (C := RX3) (T := TX3) (N := 6) hx hb hts (fun _ h => List.mem_cons_of_mem _ (List.mem_append_right _ h)) tyX3 tyX3_ok nmX3 hown E.K hP hD hS 0 rfl rfl 2 (by decide) (hts (.fieldLink RX3 15 "LastMap$Papers" "spadeCount" "I") (by decide +kernel)) (fun _ h9 => h9) rfl (by decide +kernel) rfl rfl (Nat.le_of_ble_eq_true rfl) dX3_init_12 (fun H locs hP hD hS => ?_)
  have hP : va_P G.1 vwCl [(pp, .inr (1, [.int 6, .int 0, .int 1, .int 0, .null, .null]))] H := hP
  have hD : va_D A [(pp, .inr (1, [.int 6, .int 0, .int 1, .int 0, .null, .null]))] := hD
  refine lv_aload_n hx hb dX3_init_15 rfl (lv_at hl 0 rfl) ?_
  refine lv_bipush (v := 6) hx hb dX3_init_16 (by decide) ?_
  refine nw_row (atype := .int) (a0 := (6, .inl (fun _ => 0))) (ty := .int) hx hb (hts (.arrayClass .int) (by decide +kernel)) rfl E 1 rfl (fun _ _ h => h) hP hD hS hA (fun _ => rfl) (by decide +kernel) (by decide +kernel) (by decide +kernel) (by decide +kernel) (by decide +kernel) dX3_init_18 (fun q1 H hP hD hS => ?_)
  have hP : va_P G.1 vwCl [(pp, .inr (1, [.int 6, .int 0, .int 1, .int 0, .null, .null])), (q1, .inl (gI G, 6, .inl (fun _ => 0)))] H := hP
  have hD : va_D A [(pp, .inr (1, [.int 6, .int 0, .int 1, .int 0, .null, .null])), (q1, .inl (gI G, 6, .inl (fun _ => 0)))] := hD
  refine W.widen (k := 1) (n := 6) (by decide +kernel) (by decide +kernel) ?_
  refine va_putF (D := G.1) (ci := 1) (v := .ref q1) (ty := .array .int) (C := RX3) (T := TX3) (N := 6) hx hb hts (fun _ h => List.mem_cons_of_mem _ (List.mem_append_right _ h)) tyX3 tyX3_ok nmX3 hown E.K hP hD hS 0 rfl rfl 4 (by decide) (hts (.fieldLink RX3 18 "LastMap$Papers" "codes" "[I") (by decide +kernel)) (fun _ h9 => h9) rfl hin rfl (by decide +kernel) rfl rfl (Nat.le_of_ble_eq_true rfl) dX3_init_20 (fun H locs hP hD hS => ?_)
  have hP : va_P G.1 vwCl [(pp, .inr (1, [.int 6, .int 0, .int 1, .int 0, .ref q1, .null])), (q1, .inl (gI G, 6, .inl (fun _ => 0)))] H := hP
  have hD : va_D A [(pp, .inr (1, [.int 6, .int 0, .int 1, .int 0, .ref q1, .null])), (q1, .inl (gI G, 6, .inl (fun _ => 0)))] := hD
  refine lv_aload_n hx hb dX3_init_23 rfl (lv_at hl 0 rfl) ?_
  refine lv_iconst (v := 4) hx hb dX3_init_24 (by decide) ?_
  refine nw_row (atype := .int) (a0 := (4, .inl (fun _ => 0))) (ty := .int) hx hb (hts (.arrayClass .int) (by decide +kernel)) rfl E 1 rfl (fun _ _ h => h) hP hD hS hA (fun _ => rfl) (by decide +kernel) (by decide +kernel) (by decide +kernel) (by decide +kernel) (by decide +kernel) dX3_init_25 (fun q2 H hP hD hS => ?_)
  have hP : va_P G.1 vwCl [(pp, .inr (1, [.int 6, .int 0, .int 1, .int 0, .ref q1, .null])), (q1, .inl (gI G, 6, .inl (fun _ => 0))), (q2, .inl (gI G, 4, .inl (fun _ => 0)))] H := hP
  have hD : va_D A [(pp, .inr (1, [.int 6, .int 0, .int 1, .int 0, .ref q1, .null])), (q1, .inl (gI G, 6, .inl (fun _ => 0))), (q2, .inl (gI G, 4, .inl (fun _ => 0)))] := hD
  refine W.widen (k := 2) (n := 10) (by decide +kernel) (by decide +kernel) ?_
  refine lv_dup hx hb dX3_init_27 rfl ?_
  refine lv_iconst (v := 0) hx hb dX3_init_28 (by decide) ?_
  refine lv_bipush (v := 15) hx hb dX3_init_29 (by decide) ?_
  refine va_iast hx hb E.K hP hD hS 2 1 rfl rfl (i := 0) (by unfold vp_in; decide) dX3_init_31 (fun H locs hP hD hS => ?_)
  obtain ⟨f3, ef3⟩ : ∃ yy_ : Nat → Int32, yy_ = upd (fun _ => 0) (0 : Int32).toNatClampNeg 15 := ⟨_, rfl⟩
  have hP : va_P G.1 vwCl [(pp, .inr (1, [.int 6, .int 0, .int 1, .int 0, .ref q1, .null])), (q1, .inl (gI G, 6, .inl (fun _ => 0))), (q2, .inl (gI G, 4, .inl f3))] H := by rw [ef3]; exact hP
  have hD : va_D A [(pp, .inr (1, [.int 6, .int 0, .int 1, .int 0, .ref q1, .null])), (q1, .inl (gI G, 6, .inl (fun _ => 0))), (q2, .inl (gI G, 4, .inl f3))] := by rw [ef3]; exact hD
  refine lv_dup hx hb dX3_init_32 rfl ?_
  refine lv_iconst (v := 1) hx hb dX3_init_33 (by decide) ?_
  refine lv_bipush (v := 15) hx hb dX3_init_34 (by decide) ?_
  refine va_iast hx hb E.K hP hD hS 2 1 rfl rfl (i := 1) (by unfold vp_in; decide) dX3_init_36 (fun H locs hP hD hS => ?_)
  obtain ⟨f4, ef4⟩ : ∃ yy_ : Nat → Int32, yy_ = upd f3 (1 : Int32).toNatClampNeg 15 := ⟨_, rfl⟩
  have hP : va_P G.1 vwCl [(pp, .inr (1, [.int 6, .int 0, .int 1, .int 0, .ref q1, .null])), (q1, .inl (gI G, 6, .inl (fun _ => 0))), (q2, .inl (gI G, 4, .inl f4))] H := by rw [ef4]; exact hP
  have hD : va_D A [(pp, .inr (1, [.int 6, .int 0, .int 1, .int 0, .ref q1, .null])), (q1, .inl (gI G, 6, .inl (fun _ => 0))), (q2, .inl (gI G, 4, .inl f4))] := by rw [ef4]; exact hD
  refine lv_dup hx hb dX3_init_37 rfl ?_
  refine lv_iconst (v := 2) hx hb dX3_init_38 (by decide) ?_
  refine lv_bipush (v := 15) hx hb dX3_init_39 (by decide) ?_
  refine va_iast hx hb E.K hP hD hS 2 1 rfl rfl (i := 2) (by unfold vp_in; decide) dX3_init_41 (fun H locs hP hD hS => ?_)
  obtain ⟨f5, ef5⟩ : ∃ yy_ : Nat → Int32, yy_ = upd f4 (2 : Int32).toNatClampNeg 15 := ⟨_, rfl⟩
  have hP : va_P G.1 vwCl [(pp, .inr (1, [.int 6, .int 0, .int 1, .int 0, .ref q1, .null])), (q1, .inl (gI G, 6, .inl (fun _ => 0))), (q2, .inl (gI G, 4, .inl f5))] H := by rw [ef5]; exact hP
  have hD : va_D A [(pp, .inr (1, [.int 6, .int 0, .int 1, .int 0, .ref q1, .null])), (q1, .inl (gI G, 6, .inl (fun _ => 0))), (q2, .inl (gI G, 4, .inl f5))] := by rw [ef5]; exact hD
  refine lv_dup hx hb dX3_init_42 rfl ?_
  refine lv_iconst (v := 3) hx hb dX3_init_43 (by decide) ?_
  refine lv_bipush (v := 15) hx hb dX3_init_44 (by decide) ?_
  refine va_iast hx hb E.K hP hD hS 2 1 rfl rfl (i := 3) (by unfold vp_in; decide) dX3_init_46 (fun H locs hP hD hS => ?_)
  obtain ⟨f6, ef6⟩ : ∃ yy_ : Nat → Int32, yy_ = upd f5 (3 : Int32).toNatClampNeg 15 := ⟨_, rfl⟩
  have hP : va_P G.1 vwCl [(pp, .inr (1, [.int 6, .int 0, .int 1, .int 0, .ref q1, .null])), (q1, .inl (gI G, 6, .inl (fun _ => 0))), (q2, .inl (gI G, 4, .inl f6))] H := by rw [ef6]; exact hP
  have hD : va_D A [(pp, .inr (1, [.int 6, .int 0, .int 1, .int 0, .ref q1, .null])), (q1, .inl (gI G, 6, .inl (fun _ => 0))), (q2, .inl (gI G, 4, .inl f6))] := by rw [ef6]; exact hD
  refine va_putF (D := G.1) (ci := 1) (v := .ref q2) (ty := .array .int) (C := RX3) (T := TX3) (N := 6) hx hb hts (fun _ h => List.mem_cons_of_mem _ (List.mem_append_right _ h)) tyX3 tyX3_ok nmX3 hown E.K hP hD hS 0 rfl rfl 5 (by decide) (hts (.fieldLink RX3 22 "LastMap$Papers" "kinds" "[I") (by decide +kernel)) (fun _ h9 => h9) rfl hin rfl (by decide +kernel) rfl rfl (Nat.le_of_ble_eq_true rfl) dX3_init_47 (fun H locs hP hD hS => ?_)
  have hP : va_P G.1 vwCl [(pp, .inr (1, [.int 6, .int 0, .int 1, .int 0, .ref q1, .ref q2])), (q1, .inl (gI G, 6, .inl (fun _ => 0))), (q2, .inl (gI G, 4, .inl f6))] H := hP
  have hD : va_D A [(pp, .inr (1, [.int 6, .int 0, .int 1, .int 0, .ref q1, .ref q2])), (q1, .inl (gI G, 6, .inl (fun _ => 0))), (q2, .inl (gI G, 4, .inl f6))] := hD
  have hP9 := hP.sub (ws' := [(pp, .inr (1, [.int 6, .int 0, .int 1, .int 0, .ref q1, .ref q2])), (q1, .inl (gI G, 6, .inl (fun _ => 0))), (q2, .inl (gI G, 4, .inl f6))]) [0, 1, 2] rfl
  have hD9 := hD.sub (ws' := [(pp, .inr (1, [.int 6, .int 0, .int 1, .int 0, .ref q1, .ref q2])), (q1, .inl (gI G, 6, .inl (fun _ => 0))), (q2, .inl (gI G, 4, .inl f6))]) [0, 1, 2] (by decide) rfl
  exact W.vret hx hb hr (fun t ht hW => ⟨⟨(q1, q2, f6), rfl, by intro j hj; rw [ef6, ef5, ef4, ef3]; rcases (show j = 0 ∨ j = 1 ∨ j = 2 ∨ j = 3 by omega) with rfl | rfl | rfl | rfl <;> rfl, by rw [ht]; exact hP9, hD9⟩, hS.F ht⟩) hS.2.2 dX3_init_50

set_option maxHeartbeats 1000000 in
set_option maxRecDepth 100000 in
theorem c_Pad (l : Launch) (G : Gy) (sz : Nat) (pad : Nat)  : Cv l G yX2_init wsX2_init ({ frames := 1, cells := 2, slots := 50, locals := 12 }) [.ref pad] [(pad, .inr (0, [.null, .null, .int 0]))] sz (fun (u : Nat × Nat) => match u with | (sg1, sl1) => True) (fun (u : Nat × Nat) => match u with | (sg1, sl1) => [(pad, .inr (0, [.ref sg1, .ref sl1, .int 0])), (sg1, .inl (gI G, 40, .inl (fun _ => 0))), (sl1, .inl (gI G, 10, .inl (fun _ => 0)))]) 2 50 := by
  refine Met.ofW (cc := cX2_init) (maxL := 1) (ret := none) (by decide) rfl ?_
  intro p e s m args below meth c s₁ B hml hv
  obtain ⟨rfl, hsz, hP, hD0, E0⟩ := hv
  have hx := B.exec
  have hb := B.bytes
  have hr := B.returns
  have hts := atoms_spec (ws := wsX2_init) B.pre
  have hown : s.vm.findClass RX2 = some m.cls := findClass_of_methodNamed B.named
  have hlocks := B.notSynchronized
  have hin : meth.name = "<init>" := (name_of_methodNamed B.named B.method).1
  subst hsz
  have hD := hD0.self (sz := s.heap.size)
  generalize hAe : va_A [(pad, .inr (0, [.null, .null, .int 0]))] s.heap.size = A at hD E0 ⊢
  have E : EV G A s s.heap := E0
  have hA : ∀ q : Nat, s.heap.size ≤ q → A q := fun q h => by rw [← hAe]; exact Or.inr h
  have hS : va_S A s.heap s.heap [] := va_S.rf
  have hl := lv_entry ([.ref pad]) (n := 1) (Nat.le_of_ble_eq_true rfl)
  rw [lg_entry_eq]
  generalize (lg_sl ([.ref pad]) ++ List.replicate (1 - (lg_sl ([.ref pad])).length) Slot.unset).toArray = ls at hl ⊢
  have hl : lv_has ls 1 [(0, .ref pad)] := hl
  have hP : va_P G.1 vwCl [(pad, .inr (0, [.null, .null, .int 0]))] s.heap := hP
  refine lv_aload_n hx hb dX2_init_0 rfl (lv_at hl 0 rfl) ?_
  refine W.objInit hx hb hown (hts (.methodLink RX2 3 objectInit) (by decide +kernel)) (hts (.instanceMethod objectInit) (by decide +kernel)) (hts (.code objectInit ⟨#[0xb1]⟩ 1 none) (by decide +kernel)) rfl (by rw [hml]; exact hl.1) rfl dX2_init_1 (Nat.le_of_ble_eq_true rfl) (Nat.le_of_ble_eq_true rfl) ?_
  refine W.eq (g2 := F0 m 4 ls []) rfl ?_
  refine lv_aload_n hx hb dX2_init_4 rfl (lv_at hl 0 rfl) ?_
  refine lv_bipush (v := 40) hx hb dX2_init_5 (by decide) ?_
  refine nw_row (atype := .int) (a0 := (40, .inl (fun _ => 0))) (ty := .int) hx hb (hts (.arrayClass .int) (by decide +kernel)) rfl E 1 rfl (fun _ _ h => h) hP hD hS hA (fun _ => rfl) (by decide +kernel) (by decide +kernel) (by decide +kernel) (by decide +kernel) (by decide +kernel) dX2_init_7 (fun q1 H hP hD hS => ?_)
  have hP : va_P G.1 vwCl [(pad, .inr (0, [.null, .null, .int 0])), (q1, .inl (gI G, 40, .inl (fun _ => 0)))] H := hP
  have hD : va_D A [(pad, .inr (0, [.null, .null, .int 0])), (q1, .inl (gI G, 40, .inl (fun _ => 0)))] := hD
  refine W.widen (k := 1) (n := 40) (by decide +kernel) (by decide +kernel) ?_
  refine va_putF (D := G.1) (ci := 0) (v := .ref q1) (ty := .array .int) (C := RX2) (T := TX2) (N := 3) hx hb hts (fun _ h => List.mem_cons_of_mem _ (List.mem_append_right _ h)) tyX2 tyX2_ok nmX2 hown E.K hP hD hS 0 rfl rfl 0 (by decide) (hts (.fieldLink RX2 9 "LastMap$Pad" "signs" "[I") (by decide +kernel)) (fun _ h9 => h9) rfl hin rfl (by decide +kernel) rfl rfl (Nat.le_of_ble_eq_true rfl) dX2_init_9 (fun H locs hP hD hS => ?_)
  have hP : va_P G.1 vwCl [(pad, .inr (0, [.ref q1, .null, .int 0])), (q1, .inl (gI G, 40, .inl (fun _ => 0)))] H := hP
  have hD : va_D A [(pad, .inr (0, [.ref q1, .null, .int 0])), (q1, .inl (gI G, 40, .inl (fun _ => 0)))] := hD
  refine lv_aload_n hx hb dX2_init_12 rfl (lv_at hl 0 rfl) ?_
  refine lv_bipush (v := 10) hx hb dX2_init_13 (by decide) ?_
  refine nw_row (atype := .int) (a0 := (10, .inl (fun _ => 0))) (ty := .int) hx hb (hts (.arrayClass .int) (by decide +kernel)) rfl E 1 rfl (fun _ _ h => h) hP hD hS hA (fun _ => rfl) (by decide +kernel) (by decide +kernel) (by decide +kernel) (by decide +kernel) (by decide +kernel) dX2_init_15 (fun q2 H hP hD hS => ?_)
  have hP : va_P G.1 vwCl [(pad, .inr (0, [.ref q1, .null, .int 0])), (q1, .inl (gI G, 40, .inl (fun _ => 0))), (q2, .inl (gI G, 10, .inl (fun _ => 0)))] H := hP
  have hD : va_D A [(pad, .inr (0, [.ref q1, .null, .int 0])), (q1, .inl (gI G, 40, .inl (fun _ => 0))), (q2, .inl (gI G, 10, .inl (fun _ => 0)))] := hD
  refine W.widen (k := 2) (n := 50) (by decide +kernel) (by decide +kernel) ?_
  refine va_putF (D := G.1) (ci := 0) (v := .ref q2) (ty := .array .int) (C := RX2) (T := TX2) (N := 3) hx hb hts (fun _ h => List.mem_cons_of_mem _ (List.mem_append_right _ h)) tyX2 tyX2_ok nmX2 hown E.K hP hD hS 0 rfl rfl 1 (by decide) (hts (.fieldLink RX2 15 "LastMap$Pad" "slips" "[I") (by decide +kernel)) (fun _ h9 => h9) rfl hin rfl (by decide +kernel) rfl rfl (Nat.le_of_ble_eq_true rfl) dX2_init_17 (fun H locs hP hD hS => ?_)
  have hP : va_P G.1 vwCl [(pad, .inr (0, [.ref q1, .ref q2, .int 0])), (q1, .inl (gI G, 40, .inl (fun _ => 0))), (q2, .inl (gI G, 10, .inl (fun _ => 0)))] H := hP
  have hD : va_D A [(pad, .inr (0, [.ref q1, .ref q2, .int 0])), (q1, .inl (gI G, 40, .inl (fun _ => 0))), (q2, .inl (gI G, 10, .inl (fun _ => 0)))] := hD
  have hP9 := hP.sub (ws' := [(pad, .inr (0, [.ref q1, .ref q2, .int 0])), (q1, .inl (gI G, 40, .inl (fun _ => 0))), (q2, .inl (gI G, 10, .inl (fun _ => 0)))]) [0, 1, 2] rfl
  have hD9 := hD.sub (ws' := [(pad, .inr (0, [.ref q1, .ref q2, .int 0])), (q1, .inl (gI G, 40, .inl (fun _ => 0))), (q2, .inl (gI G, 10, .inl (fun _ => 0)))]) [0, 1, 2] (by decide) rfl
  exact W.vret hx hb hr (fun t ht hW => ⟨⟨(q1, q2), rfl, trivial, by rw [ht]; exact hP9, hD9⟩, hS.F ht⟩) hS.2.2 dX2_init_20

set_option maxHeartbeats 1000000 in
set_option maxRecDepth 100000 in
theorem c_take (l : Launch) (G : Gy) (sz : Nat) (pp : Nat) (ac : Nat) (ak : Nat) (n : Int32) (told : Int32) (sp : Int32) (gr : Int32) (fc : Nat → Int32) (fk : Nat → Int32) (h1 : Nat) (bc : Nat) (bk : Nat) (n2 : Int32) (told2 : Int32) (sp2 : Int32) (gr2 : Int32) (gc : Nat → Int32) (gk : Nat → Int32)  : Cv l G yX3_take wsX3_take ({ frames := 1, cells := 0, slots := 0, locals := 21 }) [.ref pp, .ref h1] [(pp, .inr (1, [.int n, .int told, .int sp, .int gr, .ref ac, .ref ak])), (ac, .inl (gI G, 6, .inl fc)), (ak, .inl (gI G, 4, .inl fk)), (h1, .inr (1, [.int n2, .int told2, .int sp2, .int gr2, .ref bc, .ref bk])), (bc, .inl (gI G, 6, .inl gc)), (bk, .inl (gI G, 4, .inl gk))] sz (fun (u : (Nat → Int32) × (Nat → Int32)) => match u with | (fc2, fk2) => (∀ j : Nat, j < 6 → fc2 j = gc j) ∧ (∀ j : Nat, j < 4 → fk2 j = gk j)) (fun (u : (Nat → Int32) × (Nat → Int32)) => match u with | (fc2, fk2) => [(pp, .inr (1, [.int n2, .int told2, .int sp2, .int gr2, .ref ac, .ref ak])), (ac, .inl (gI G, 6, .inl fc2)), (ak, .inl (gI G, 4, .inl fk2)), (h1, .inr (1, [.int n2, .int told2, .int sp2, .int gr2, .ref bc, .ref bk])), (bc, .inl (gI G, 6, .inl gc)), (bk, .inl (gI G, 4, .inl gk))]) 0 0 := by
  refine Met.ofW (cc := cX3_take) (maxL := 3) (ret := none) (by decide) rfl ?_
  intro p e s m args below meth c s₁ B hml hv
  obtain ⟨rfl, hsz, hP, hD0, E0⟩ := hv
  have hx := B.exec
  have hb := B.bytes
  have hr := B.returns
  have hts := atoms_spec (ws := wsX3_take) B.pre
  have hown : s.vm.findClass RX3 = some m.cls := findClass_of_methodNamed B.named
  have hlocks := B.notSynchronized
  subst hsz
  have hD := hD0.self (sz := s.heap.size)
  generalize hAe : va_A [(pp, .inr (1, [.int n, .int told, .int sp, .int gr, .ref ac, .ref ak])), (ac, .inl (gI G, 6, .inl fc)), (ak, .inl (gI G, 4, .inl fk)), (h1, .inr (1, [.int n2, .int told2, .int sp2, .int gr2, .ref bc, .ref bk])), (bc, .inl (gI G, 6, .inl gc)), (bk, .inl (gI G, 4, .inl gk))] s.heap.size = A at hD E0 ⊢
  have E : EV G A s s.heap := E0
  have hA : ∀ q : Nat, s.heap.size ≤ q → A q := fun q h => by rw [← hAe]; exact Or.inr h
  have hS : va_S A s.heap s.heap [] := va_S.rf
  have hl := lv_entry ([.ref pp, .ref h1]) (n := 3) (Nat.le_of_ble_eq_true rfl)
  rw [lg_entry_eq]
  generalize (lg_sl ([.ref pp, .ref h1]) ++ List.replicate (3 - (lg_sl ([.ref pp, .ref h1])).length) Slot.unset).toArray = ls at hl ⊢
  have hl : lv_has ls 3 [(0, .ref pp), (1, .ref h1)] := hl
  have hP : va_P G.1 vwCl [(pp, .inr (1, [.int n, .int told, .int sp, .int gr, .ref ac, .ref ak])), (ac, .inl (gI G, 6, .inl fc)), (ak, .inl (gI G, 4, .inl fk)), (h1, .inr (1, [.int n2, .int told2, .int sp2, .int gr2, .ref bc, .ref bk])), (bc, .inl (gI G, 6, .inl gc)), (bk, .inl (gI G, 4, .inl gk))] s.heap := hP
  refine lv_aload_n hx hb dX3_take_0 rfl (lv_at hl 0 rfl) ?_
  refine lv_aload_n hx hb dX3_take_1 rfl (lv_at hl 1 rfl) ?_
  refine va_get (D := G.1) (ci := 1) (v := .int n2) (C := RX3) (T := TX3) (N := 6) hx hb hts (fun _ h => List.mem_cons_of_mem _ (List.mem_append_right _ h)) hown E.K hP 3 rfl rfl 0 (by decide) (hts (.fieldLink RX3 9 "LastMap$Papers" "siteCount" "I") (by decide +kernel)) (fun _ h9 => h9) rfl dX3_take_2 ?_
  refine va_put (D := G.1) (ci := 1) (v := .int n2) (ty := .int) (C := RX3) (T := TX3) (N := 6) hx hb hts (fun _ h => List.mem_cons_of_mem _ (List.mem_append_right _ h)) tyX3 tyX3_ok nmX3 hown E.K hP hD hS 0 rfl rfl 0 (by decide) (hts (.fieldLink RX3 9 "LastMap$Papers" "siteCount" "I") (by decide +kernel)) (fun _ h9 => h9) rfl (by decide +kernel) rfl rfl (Nat.le_of_ble_eq_true rfl) dX3_take_5 (fun H locs hP hD hS => ?_)
  have hP : va_P G.1 vwCl [(pp, .inr (1, [.int n2, .int told, .int sp, .int gr, .ref ac, .ref ak])), (ac, .inl (gI G, 6, .inl fc)), (ak, .inl (gI G, 4, .inl fk)), (h1, .inr (1, [.int n2, .int told2, .int sp2, .int gr2, .ref bc, .ref bk])), (bc, .inl (gI G, 6, .inl gc)), (bk, .inl (gI G, 4, .inl gk))] H := hP
  have hD : va_D A [(pp, .inr (1, [.int n2, .int told, .int sp, .int gr, .ref ac, .ref ak])), (ac, .inl (gI G, 6, .inl fc)), (ak, .inl (gI G, 4, .inl fk)), (h1, .inr (1, [.int n2, .int told2, .int sp2, .int gr2, .ref bc, .ref bk])), (bc, .inl (gI G, 6, .inl gc)), (bk, .inl (gI G, 4, .inl gk))] := hD
  refine lv_aload_n hx hb dX3_take_8 rfl (lv_at hl 0 rfl) ?_
  refine lv_aload_n hx hb dX3_take_9 rfl (lv_at hl 1 rfl) ?_
  refine va_get (D := G.1) (ci := 1) (v := .int told2) (C := RX3) (T := TX3) (N := 6) hx hb hts (fun _ h => List.mem_cons_of_mem _ (List.mem_append_right _ h)) hown E.K hP 3 rfl rfl 1 (by decide) (hts (.fieldLink RX3 25 "LastMap$Papers" "toldMaps" "I") (by decide +kernel)) (fun _ h9 => h9) rfl dX3_take_10 ?_
  refine va_put (D := G.1) (ci := 1) (v := .int told2) (ty := .int) (C := RX3) (T := TX3) (N := 6) hx hb hts (fun _ h => List.mem_cons_of_mem _ (List.mem_append_right _ h)) tyX3 tyX3_ok nmX3 hown E.K hP hD hS 0 rfl rfl 1 (by decide) (hts (.fieldLink RX3 25 "LastMap$Papers" "toldMaps" "I") (by decide +kernel)) (fun _ h9 => h9) rfl (by decide +kernel) rfl rfl (Nat.le_of_ble_eq_true rfl) dX3_take_13 (fun H locs hP hD hS => ?_)
  have hP : va_P G.1 vwCl [(pp, .inr (1, [.int n2, .int told2, .int sp, .int gr, .ref ac, .ref ak])), (ac, .inl (gI G, 6, .inl fc)), (ak, .inl (gI G, 4, .inl fk)), (h1, .inr (1, [.int n2, .int told2, .int sp2, .int gr2, .ref bc, .ref bk])), (bc, .inl (gI G, 6, .inl gc)), (bk, .inl (gI G, 4, .inl gk))] H := hP
  have hD : va_D A [(pp, .inr (1, [.int n2, .int told2, .int sp, .int gr, .ref ac, .ref ak])), (ac, .inl (gI G, 6, .inl fc)), (ak, .inl (gI G, 4, .inl fk)), (h1, .inr (1, [.int n2, .int told2, .int sp2, .int gr2, .ref bc, .ref bk])), (bc, .inl (gI G, 6, .inl gc)), (bk, .inl (gI G, 4, .inl gk))] := hD
  refine lv_aload_n hx hb dX3_take_16 rfl (lv_at hl 0 rfl) ?_
  refine lv_aload_n hx hb dX3_take_17 rfl (lv_at hl 1 rfl) ?_
  refine va_get (D := G.1) (ci := 1) (v := .int sp2) (C := RX3) (T := TX3) (N := 6) hx hb hts (fun _ h => List.mem_cons_of_mem _ (List.mem_append_right _ h)) hown E.K hP 3 rfl rfl 2 (by decide) (hts (.fieldLink RX3 15 "LastMap$Papers" "spadeCount" "I") (by decide +kernel)) (fun _ h9 => h9) rfl dX3_take_18 ?_
  refine va_put (D := G.1) (ci := 1) (v := .int sp2) (ty := .int) (C := RX3) (T := TX3) (N := 6) hx hb hts (fun _ h => List.mem_cons_of_mem _ (List.mem_append_right _ h)) tyX3 tyX3_ok nmX3 hown E.K hP hD hS 0 rfl rfl 2 (by decide) (hts (.fieldLink RX3 15 "LastMap$Papers" "spadeCount" "I") (by decide +kernel)) (fun _ h9 => h9) rfl (by decide +kernel) rfl rfl (Nat.le_of_ble_eq_true rfl) dX3_take_21 (fun H locs hP hD hS => ?_)
  have hP : va_P G.1 vwCl [(pp, .inr (1, [.int n2, .int told2, .int sp2, .int gr, .ref ac, .ref ak])), (ac, .inl (gI G, 6, .inl fc)), (ak, .inl (gI G, 4, .inl fk)), (h1, .inr (1, [.int n2, .int told2, .int sp2, .int gr2, .ref bc, .ref bk])), (bc, .inl (gI G, 6, .inl gc)), (bk, .inl (gI G, 4, .inl gk))] H := hP
  have hD : va_D A [(pp, .inr (1, [.int n2, .int told2, .int sp2, .int gr, .ref ac, .ref ak])), (ac, .inl (gI G, 6, .inl fc)), (ak, .inl (gI G, 4, .inl fk)), (h1, .inr (1, [.int n2, .int told2, .int sp2, .int gr2, .ref bc, .ref bk])), (bc, .inl (gI G, 6, .inl gc)), (bk, .inl (gI G, 4, .inl gk))] := hD
  refine lv_aload_n hx hb dX3_take_24 rfl (lv_at hl 0 rfl) ?_
  refine lv_aload_n hx hb dX3_take_25 rfl (lv_at hl 1 rfl) ?_
  refine va_get (D := G.1) (ci := 1) (v := .int gr2) (C := RX3) (T := TX3) (N := 6) hx hb hts (fun _ h => List.mem_cons_of_mem _ (List.mem_append_right _ h)) hown E.K hP 3 rfl rfl 3 (by decide) (hts (.fieldLink RX3 28 "LastMap$Papers" "ground" "I") (by decide +kernel)) (fun _ h9 => h9) rfl dX3_take_26 ?_
  refine va_put (D := G.1) (ci := 1) (v := .int gr2) (ty := .int) (C := RX3) (T := TX3) (N := 6) hx hb hts (fun _ h => List.mem_cons_of_mem _ (List.mem_append_right _ h)) tyX3 tyX3_ok nmX3 hown E.K hP hD hS 0 rfl rfl 3 (by decide) (hts (.fieldLink RX3 28 "LastMap$Papers" "ground" "I") (by decide +kernel)) (fun _ h9 => h9) rfl (by decide +kernel) rfl rfl (Nat.le_of_ble_eq_true rfl) dX3_take_29 (fun H locs hP hD hS => ?_)
  have hP : va_P G.1 vwCl [(pp, .inr (1, [.int n2, .int told2, .int sp2, .int gr2, .ref ac, .ref ak])), (ac, .inl (gI G, 6, .inl fc)), (ak, .inl (gI G, 4, .inl fk)), (h1, .inr (1, [.int n2, .int told2, .int sp2, .int gr2, .ref bc, .ref bk])), (bc, .inl (gI G, 6, .inl gc)), (bk, .inl (gI G, 4, .inl gk))] H := hP
  have hD : va_D A [(pp, .inr (1, [.int n2, .int told2, .int sp2, .int gr2, .ref ac, .ref ak])), (ac, .inl (gI G, 6, .inl fc)), (ak, .inl (gI G, 4, .inl fk)), (h1, .inr (1, [.int n2, .int told2, .int sp2, .int gr2, .ref bc, .ref bk])), (bc, .inl (gI G, 6, .inl gc)), (bk, .inl (gI G, 4, .inl gk))] := hD
  refine lv_iconst (v := 0) hx hb dX3_take_32 (by decide) ?_
  refine lv_istore_n (lv' := [(2, .int 0), (0, .ref pp), (1, .ref h1)]) hx hb dX3_take_33 rfl hl (by decide) rfl (fun ls hl => ?_)
  refine lp_run (x0 := (0, fc)) (fun xx_ : Nat × (Nat → Int32) => match xx_ with | (i, f) => [(pp, .inr (1, [.int n2, .int told2, .int sp2, .int gr2, .ref ac, .ref ak])), (ac, .inl (gI G, 6, .inl f)), (ak, .inl (gI G, 4, .inl fk)), (h1, .inr (1, [.int n2, .int told2, .int sp2, .int gr2, .ref bc, .ref bk])), (bc, .inl (gI G, 6, .inl gc)), (bk, .inl (gI G, 4, .inl gk))]) (fun xx_ : Nat × (Nat → Int32) => match xx_ with | (i, f) => [(2, .int (nI i)), (0, .ref pp), (1, .ref h1)]) (fun xx_ : Nat × (Nat → Int32) => match xx_ with | (i, f) => (i ≤ 6) ∧ (∀ j : Nat, j < i → f j = gc j)) (fun xx_ : Nat × (Nat → Int32) => match xx_ with | (i, f) => 6 - i) (hP.sub [0, 1, 2, 3, 4, 5] rfl) (hD.sub [0, 1, 2, 3, 4, 5] (by decide) rfl) hS (lv_sub hl [0, 1, 2] rfl) ⟨Nat.zero_le _, by intro j hj; omega⟩ ?_
  intro xx_ hI ih34 H locs ls hP hD hS hl
  obtain ⟨i, f⟩ := xx_
  dsimp only at hI ih34 hP hD hl
  obtain ⟨hi0, hf⟩ := hI
  have hl : lv_has ls 3 [(2, .int (nI i)), (0, .ref pp), (1, .ref h1)] := hl
  have hP : va_P G.1 vwCl [(pp, .inr (1, [.int n2, .int told2, .int sp2, .int gr2, .ref ac, .ref ak])), (ac, .inl (gI G, 6, .inl f)), (ak, .inl (gI G, 4, .inl fk)), (h1, .inr (1, [.int n2, .int told2, .int sp2, .int gr2, .ref bc, .ref bk])), (bc, .inl (gI G, 6, .inl gc)), (bk, .inl (gI G, 4, .inl gk))] H := hP
  have hD : va_D A [(pp, .inr (1, [.int n2, .int told2, .int sp2, .int gr2, .ref ac, .ref ak])), (ac, .inl (gI G, 6, .inl f)), (ak, .inl (gI G, 4, .inl fk)), (h1, .inr (1, [.int n2, .int told2, .int sp2, .int gr2, .ref bc, .ref bk])), (bc, .inl (gI G, 6, .inl gc)), (bk, .inl (gI G, 4, .inl gk))] := hD
  refine lv_iload_n hx hb dX3_take_34 rfl (lv_at hl 0 rfl) ?_
  refine lv_aload_n hx hb dX3_take_35 rfl (lv_at hl 1 rfl) ?_
  refine va_get (D := G.1) (ci := 1) (v := .ref ac) (C := RX3) (T := TX3) (N := 6) hx hb hts (fun _ h => List.mem_cons_of_mem _ (List.mem_append_right _ h)) hown E.K hP 0 rfl rfl 4 (by decide) (hts (.fieldLink RX3 18 "LastMap$Papers" "codes" "[I") (by decide +kernel)) (fun _ h9 => h9) rfl dX3_take_36 ?_
  refine va_alen (v := 6) hx hb E.K hP 1 1 rfl rfl rfl dX3_take_39 ?_
  refine lv_icmp_ge (tgt := 60) hx hb dX3_take_40 (by decide) (fun c1 => ?_) (fun c1 => ?_)
  · have hn := nI_toInt (n := i) (by omega)
    have hi : i = 6 := by ((try simp only [inR, inS, i3_lt, i3_le, i3_eq, i6_lt, i6_le, Int32.toInt_toInt64, lg_cmp_lt, lg_cmp_gt, lg_cmp_ge, lg_cmp_le, Int32.reduceToInt, Int64.reduceToInt] at c1); omega)
    subst hi
    have hfc := hf
    clear hf
    obtain ⟨fc1, efc1⟩ : ∃ z, z = f := ⟨_, rfl⟩
    subst efc1
    have hP : va_P G.1 vwCl [(pp, .inr (1, [.int n2, .int told2, .int sp2, .int gr2, .ref ac, .ref ak])), (ac, .inl (gI G, 6, .inl fc1)), (ak, .inl (gI G, 4, .inl fk)), (h1, .inr (1, [.int n2, .int told2, .int sp2, .int gr2, .ref bc, .ref bk])), (bc, .inl (gI G, 6, .inl gc)), (bk, .inl (gI G, 4, .inl gk))] H := hP
    have hD : va_D A [(pp, .inr (1, [.int n2, .int told2, .int sp2, .int gr2, .ref ac, .ref ak])), (ac, .inl (gI G, 6, .inl fc1)), (ak, .inl (gI G, 4, .inl fk)), (h1, .inr (1, [.int n2, .int told2, .int sp2, .int gr2, .ref bc, .ref bk])), (bc, .inl (gI G, 6, .inl gc)), (bk, .inl (gI G, 4, .inl gk))] := hD
    refine lv_iconst (v := 0) hx hb dX3_take_60 (by decide) ?_
    refine lv_istore_n (lv' := [(2, .int 0), (0, .ref pp), (1, .ref h1)]) hx hb dX3_take_61 rfl hl (by decide) rfl (fun ls hl => ?_)
    refine lp_run (x0 := (0, fk)) (fun xx_ : Nat × (Nat → Int32) => match xx_ with | (i, f) => [(pp, .inr (1, [.int n2, .int told2, .int sp2, .int gr2, .ref ac, .ref ak])), (ac, .inl (gI G, 6, .inl fc1)), (ak, .inl (gI G, 4, .inl f)), (h1, .inr (1, [.int n2, .int told2, .int sp2, .int gr2, .ref bc, .ref bk])), (bc, .inl (gI G, 6, .inl gc)), (bk, .inl (gI G, 4, .inl gk))]) (fun xx_ : Nat × (Nat → Int32) => match xx_ with | (i, f) => [(2, .int (nI i)), (0, .ref pp), (1, .ref h1)]) (fun xx_ : Nat × (Nat → Int32) => match xx_ with | (i, f) => (i ≤ 4) ∧ (∀ j : Nat, j < i → f j = gk j)) (fun xx_ : Nat × (Nat → Int32) => match xx_ with | (i, f) => 4 - i) (hP.sub [0, 1, 2, 3, 4, 5] rfl) (hD.sub [0, 1, 2, 3, 4, 5] (by decide) rfl) hS (lv_sub hl [0, 1, 2] rfl) ⟨Nat.zero_le _, by intro j hj; omega⟩ ?_
    intro xx_ hI ih62 H locs ls hP hD hS hl
    obtain ⟨i, f⟩ := xx_
    dsimp only at hI ih62 hP hD hl
    obtain ⟨hi0, hf⟩ := hI
    have hl : lv_has ls 3 [(2, .int (nI i)), (0, .ref pp), (1, .ref h1)] := hl
    have hP : va_P G.1 vwCl [(pp, .inr (1, [.int n2, .int told2, .int sp2, .int gr2, .ref ac, .ref ak])), (ac, .inl (gI G, 6, .inl fc1)), (ak, .inl (gI G, 4, .inl f)), (h1, .inr (1, [.int n2, .int told2, .int sp2, .int gr2, .ref bc, .ref bk])), (bc, .inl (gI G, 6, .inl gc)), (bk, .inl (gI G, 4, .inl gk))] H := hP
    have hD : va_D A [(pp, .inr (1, [.int n2, .int told2, .int sp2, .int gr2, .ref ac, .ref ak])), (ac, .inl (gI G, 6, .inl fc1)), (ak, .inl (gI G, 4, .inl f)), (h1, .inr (1, [.int n2, .int told2, .int sp2, .int gr2, .ref bc, .ref bk])), (bc, .inl (gI G, 6, .inl gc)), (bk, .inl (gI G, 4, .inl gk))] := hD
    refine lv_iload_n hx hb dX3_take_62 rfl (lv_at hl 0 rfl) ?_
    refine lv_aload_n hx hb dX3_take_63 rfl (lv_at hl 1 rfl) ?_
    refine va_get (D := G.1) (ci := 1) (v := .ref ak) (C := RX3) (T := TX3) (N := 6) hx hb hts (fun _ h => List.mem_cons_of_mem _ (List.mem_append_right _ h)) hown E.K hP 0 rfl rfl 5 (by decide) (hts (.fieldLink RX3 22 "LastMap$Papers" "kinds" "[I") (by decide +kernel)) (fun _ h9 => h9) rfl dX3_take_64 ?_
    refine va_alen (v := 4) hx hb E.K hP 2 1 rfl rfl rfl dX3_take_67 ?_
    refine lv_icmp_ge (tgt := 88) hx hb dX3_take_68 (by decide) (fun c2 => ?_) (fun c2 => ?_)
    · have hn := nI_toInt (n := i) (by omega)
      have hi : i = 4 := by ((try simp only [inR, inS, i3_lt, i3_le, i3_eq, i6_lt, i6_le, Int32.toInt_toInt64, lg_cmp_lt, lg_cmp_gt, lg_cmp_ge, lg_cmp_le, Int32.reduceToInt, Int64.reduceToInt] at c2); omega)
      subst hi
      have hP9 := hP.sub (ws' := [(pp, .inr (1, [.int n2, .int told2, .int sp2, .int gr2, .ref ac, .ref ak])), (ac, .inl (gI G, 6, .inl fc1)), (ak, .inl (gI G, 4, .inl f)), (h1, .inr (1, [.int n2, .int told2, .int sp2, .int gr2, .ref bc, .ref bk])), (bc, .inl (gI G, 6, .inl gc)), (bk, .inl (gI G, 4, .inl gk))]) [0, 1, 2, 3, 4, 5] rfl
      have hD9 := hD.sub (ws' := [(pp, .inr (1, [.int n2, .int told2, .int sp2, .int gr2, .ref ac, .ref ak])), (ac, .inl (gI G, 6, .inl fc1)), (ak, .inl (gI G, 4, .inl f)), (h1, .inr (1, [.int n2, .int told2, .int sp2, .int gr2, .ref bc, .ref bk])), (bc, .inl (gI G, 6, .inl gc)), (bk, .inl (gI G, 4, .inl gk))]) [0, 1, 2, 3, 4, 5] (by decide) rfl
      exact W.vret hx hb hr (fun t ht hW => ⟨⟨(fc1, f), rfl, ⟨hfc, hf⟩, by rw [ht]; exact hP9, hD9⟩, hS.F ht⟩) hS.2.2 dX3_take_88
    · have hn := nI_toInt (n := i) (by omega)
      have hi : i < 4 := by ((try simp only [inR, inS, i3_lt, i3_le, i3_eq, i6_lt, i6_le, Int32.toInt_toInt64, lg_cmp_lt, lg_cmp_gt, lg_cmp_ge, lg_cmp_le, Int32.reduceToInt, Int64.reduceToInt] at c2); omega)
      refine lv_aload_n hx hb dX3_take_71 rfl (lv_at hl 1 rfl) ?_
      refine va_get (D := G.1) (ci := 1) (v := .ref ak) (C := RX3) (T := TX3) (N := 6) hx hb hts (fun _ h => List.mem_cons_of_mem _ (List.mem_append_right _ h)) hown E.K hP 0 rfl rfl 5 (by decide) (hts (.fieldLink RX3 22 "LastMap$Papers" "kinds" "[I") (by decide +kernel)) (fun _ h9 => h9) rfl dX3_take_72 ?_
      refine lv_iload_n hx hb dX3_take_75 rfl (lv_at hl 0 rfl) ?_
      refine lv_aload_n hx hb dX3_take_76 rfl (lv_at hl 2 rfl) ?_
      refine lv_iload_n hx hb dX3_take_77 rfl (lv_at hl 0 rfl) ?_
      refine ca_iR (va_runV (As := [.int (nI i)]) (rest := [.int (nI i), .ref ak]) ⟨hx, hb, hml, hown, hts⟩ (c_kindsOf l G H.size h1 bc bk n2 told2 sp2 gr2 gc gk (nI i)) (cwV 1 hts gX3_take_X3_kindsOf rfl rfl rfl (by decide +kernel) ⟨by decide +kernel, by decide +kernel⟩) (pre_V E hP hD hS hA [3, 4, 5] (by decide) rfl 3 1 rfl rfl) rfl rfl hl.1 rfl (lv_room (Nat.le_of_ble_eq_true rfl)) dX3_take_78 ⟨by decide +kernel, by decide +kernel⟩) hS hP hD hA [3, 4, 5] rfl (fun r4 _ H locs w3 hP hS => ?_)
      refine va_iast hx hb E.K hP hD hS 2 1 rfl rfl (i := nI i) (vp_in_nI (by omega) (by decide)) dX3_take_81 (fun H locs hP hD hS => ?_)
      obtain ⟨f5, ef5⟩ : ∃ yy_ : Nat → Int32, yy_ = upd f (nI i).toNatClampNeg r4 := ⟨_, rfl⟩
      have hP : va_P G.1 vwCl [(pp, .inr (1, [.int n2, .int told2, .int sp2, .int gr2, .ref ac, .ref ak])), (ac, .inl (gI G, 6, .inl fc1)), (ak, .inl (gI G, 4, .inl f5)), (h1, .inr (1, [.int n2, .int told2, .int sp2, .int gr2, .ref bc, .ref bk])), (bc, .inl (gI G, 6, .inl gc)), (bk, .inl (gI G, 4, .inl gk))] H := by rw [ef5]; exact hP
      have hD : va_D A [(pp, .inr (1, [.int n2, .int told2, .int sp2, .int gr2, .ref ac, .ref ak])), (ac, .inl (gI G, 6, .inl fc1)), (ak, .inl (gI G, 4, .inl f5)), (h1, .inr (1, [.int n2, .int told2, .int sp2, .int gr2, .ref bc, .ref bk])), (bc, .inl (gI G, 6, .inl gc)), (bk, .inl (gI G, 4, .inl gk))] := by rw [ef5]; exact hD
      obtain ⟨x6, ex6⟩ : ∃ yy_ : Int32, yy_ = (nI i) + 1 := ⟨_, rfl⟩
      refine lv_iinc (v := x6) (lv' := [(2, .int x6), (0, .ref pp), (1, .ref h1)]) hx hb dX3_take_82 hl (k := 0) rfl (by rw [ex6]; rfl) (by decide) rfl (fun ls hl => ?_)
      refine lv_goto (tgt := 62) hx hb dX3_take_85 (by decide) ?_
      have hs : x6 = nI (i + 1) := by rw [ex6]; exact nI_1 i
      subst hs
      refine ih62 (i + 1, f5) ⟨?_, ?_⟩ (by first | omega | (dsimp only; omega)) H locs ls (hP.sub [0, 1, 2, 3, 4, 5] rfl) (hD.sub [0, 1, 2, 3, 4, 5] (by decide) rfl) hS (lv_sub hl [0, 1, 2] rfl)
      · try dsimp only
        omega
      · try dsimp only
        intro j hj; (try dsimp only at hj); rw [ef5, nI_clamp (by omega)]
        by_cases hji : j = i
        · subst hji; rw [pk_us, w3, nI_clamp (by omega)]; exact cIf_t (by have hn := nI_toInt (n := j) (by omega); simp only [inR, i3_le, hn, Int32.reduceToInt]; omega)
        · rw [pk_un hji]; exact hf j (by omega)
  · have hn := nI_toInt (n := i) (by omega)
    have hi : i < 6 := by ((try simp only [inR, inS, i3_lt, i3_le, i3_eq, i6_lt, i6_le, Int32.toInt_toInt64, lg_cmp_lt, lg_cmp_gt, lg_cmp_ge, lg_cmp_le, Int32.reduceToInt, Int64.reduceToInt] at c1); omega)
    refine lv_aload_n hx hb dX3_take_43 rfl (lv_at hl 1 rfl) ?_
    refine va_get (D := G.1) (ci := 1) (v := .ref ac) (C := RX3) (T := TX3) (N := 6) hx hb hts (fun _ h => List.mem_cons_of_mem _ (List.mem_append_right _ h)) hown E.K hP 0 rfl rfl 4 (by decide) (hts (.fieldLink RX3 18 "LastMap$Papers" "codes" "[I") (by decide +kernel)) (fun _ h9 => h9) rfl dX3_take_44 ?_
    refine lv_iload_n hx hb dX3_take_47 rfl (lv_at hl 0 rfl) ?_
    refine lv_aload_n hx hb dX3_take_48 rfl (lv_at hl 2 rfl) ?_
    refine lv_iload_n hx hb dX3_take_49 rfl (lv_at hl 0 rfl) ?_
    refine ca_iR (va_runV (As := [.int (nI i)]) (rest := [.int (nI i), .ref ac]) ⟨hx, hb, hml, hown, hts⟩ (c_codeOf l G H.size h1 bc bk n2 told2 sp2 gr2 gc gk (nI i)) (cwV 1 hts gX3_take_X3_codeOf rfl rfl rfl (by decide +kernel) ⟨by decide +kernel, by decide +kernel⟩) (pre_V E hP hD hS hA [3, 4, 5] (by decide) rfl 3 1 rfl rfl) rfl rfl hl.1 rfl (lv_room (Nat.le_of_ble_eq_true rfl)) dX3_take_50 ⟨by decide +kernel, by decide +kernel⟩) hS hP hD hA [3, 4, 5] rfl (fun r8 _ H locs w7 hP hS => ?_)
    refine va_iast hx hb E.K hP hD hS 1 1 rfl rfl (i := nI i) (vp_in_nI (by omega) (by decide)) dX3_take_53 (fun H locs hP hD hS => ?_)
    obtain ⟨f9, ef9⟩ : ∃ yy_ : Nat → Int32, yy_ = upd f (nI i).toNatClampNeg r8 := ⟨_, rfl⟩
    have hP : va_P G.1 vwCl [(pp, .inr (1, [.int n2, .int told2, .int sp2, .int gr2, .ref ac, .ref ak])), (ac, .inl (gI G, 6, .inl f9)), (ak, .inl (gI G, 4, .inl fk)), (h1, .inr (1, [.int n2, .int told2, .int sp2, .int gr2, .ref bc, .ref bk])), (bc, .inl (gI G, 6, .inl gc)), (bk, .inl (gI G, 4, .inl gk))] H := by rw [ef9]; exact hP
    have hD : va_D A [(pp, .inr (1, [.int n2, .int told2, .int sp2, .int gr2, .ref ac, .ref ak])), (ac, .inl (gI G, 6, .inl f9)), (ak, .inl (gI G, 4, .inl fk)), (h1, .inr (1, [.int n2, .int told2, .int sp2, .int gr2, .ref bc, .ref bk])), (bc, .inl (gI G, 6, .inl gc)), (bk, .inl (gI G, 4, .inl gk))] := by rw [ef9]; exact hD
    obtain ⟨x10, ex10⟩ : ∃ yy_ : Int32, yy_ = (nI i) + 1 := ⟨_, rfl⟩
    refine lv_iinc (v := x10) (lv' := [(2, .int x10), (0, .ref pp), (1, .ref h1)]) hx hb dX3_take_54 hl (k := 0) rfl (by rw [ex10]; rfl) (by decide) rfl (fun ls hl => ?_)
    refine lv_goto (tgt := 34) hx hb dX3_take_57 (by decide) ?_
    have hs : x10 = nI (i + 1) := by rw [ex10]; exact nI_1 i
    subst hs
    refine ih34 (i + 1, f9) ⟨?_, ?_⟩ (by first | omega | (dsimp only; omega)) H locs ls (hP.sub [0, 1, 2, 3, 4, 5] rfl) (hD.sub [0, 1, 2, 3, 4, 5] (by decide) rfl) hS (lv_sub hl [0, 1, 2] rfl)
    · try dsimp only
      omega
    · try dsimp only
      intro j hj; (try dsimp only at hj); rw [ef9, nI_clamp (by omega)]
      by_cases hji : j = i
      · subst hji; rw [pk_us, w7, nI_clamp (by omega)]; exact cIf_t (by have hn := nI_toInt (n := j) (by omega); simp only [inR, i3_le, hn, Int32.reduceToInt]; omega)
      · rw [pk_un hji]; exact hf j (by omega)
