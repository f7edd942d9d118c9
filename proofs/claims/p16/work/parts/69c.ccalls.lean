theorem n_isSite (l : Launch) (G : Gy) (sz : Nat) (h0 : Nat) (pad : Nat) (pp : Nat) (im : Nat) (vse : Value) (vtr : Value) (ac : Nat) (ak : Nat) (k : Nat) (told : Int32) (sp : Int32) (gr : Int32) (p0 : Int32) (hk6 : k ≤ 6) : Ci l G yX9_isSite wsX9_isSite ({ frames := 0, cells := 0, slots := 0, locals := 0 }) [.ref h0, .int p0] ([(h0, .inr (5, [.ref pad, .ref pp, .ref im, vse, vtr])), (pp, .inr (1, [.int (nI k), .int told, .int sp, .int gr, .ref ac, .ref ak]))]) sz (fun (r : Int32) (_ : Unit) => (r = 1 ∧ (∃ j, j < k ∧ p0 = nI j)) ∨ (r = 0 ∧ ¬ (∃ j, j < k ∧ p0 = nI j))) (fun (_ : Unit) => [(h0, .inr (5, [.ref pad, .ref pp, .ref im, vse, vtr])), (pp, .inr (1, [.int (nI k), .int told, .int sp, .int gr, .ref ac, .ref ak]))]) 0 0 := by
  have h := c_isSite l G sz h0 pad pp im vse vtr ac ak (nI k) told sp gr p0
  rw [inS_nI hk6] at h
  exact h

theorem n_isTold (l : Launch) (G : Gy) (sz : Nat) (h0 : Nat) (pad : Nat) (pp : Nat) (im : Nat) (vse : Value) (vtr : Value) (ac : Nat) (ak : Nat) (n : Int32) (told : Int32) (sp : Int32) (gr : Int32) (p0 : Int32)  : Ci l G yX9_isTold wsX9_isTold ({ frames := 2, cells := 0, slots := 0, locals := 41 }) [.ref h0, .int p0] ([(h0, .inr (5, [.ref pad, .ref pp, .ref im, vse, vtr])), (pp, .inr (1, [.int n, .int told, .int sp, .int gr, .ref ac, .ref ak]))]) sz (fun (r : Int32) (_ : Unit) => (r = 1 ∧ (inR p0 0 5 ∧ tdP told p0)) ∨ (r = 0 ∧ ¬ (inR p0 0 5 ∧ tdP told p0))) (fun (_ : Unit) => [(h0, .inr (5, [.ref pad, .ref pp, .ref im, vse, vtr])), (pp, .inr (1, [.int n, .int told, .int sp, .int gr, .ref ac, .ref ak]))]) 0 0 := by
  have h := c_isTold l G sz h0 pad pp im vse vtr ac ak n told sp gr p0
  rw [isOfP_td] at h
  exact h

set_option maxHeartbeats 1000000 in
set_option maxRecDepth 100000 in
theorem n_put (l : Launch) (G : Gy) (sz : Nat) (pad : Nat) (sg : Nat) (sl : Nat) (pm : Nat) (fsg : Nat → Int32) (fsl : Nat → Int32) (p0 : Int32) (hpm : pm ≤ 40) : Ci l G yX2_put wsX2_put ({ frames := 0, cells := 0, slots := 0, locals := 0 }) [.ref pad, .int p0] ([(pad, .inr (0, [.ref sg, .ref sl, .int (nI pm)])), (sg, .inl (gI G, 40, .inl fsg)), (sl, .inl (gI G, 10, .inl fsl))]) sz (fun (r : Int32) (u : Int32 × (Nat → Int32)) => match u with | (len1, fsg1) => (r = 1 ∧ pm < 40 ∧ len1 = nI (pm + 1) ∧ fsg1 = upd fsg pm p0) ∨ (r = 0 ∧ pm = 40 ∧ len1 = nI pm ∧ fsg1 = fsg)) (fun (u : Int32 × (Nat → Int32)) => match u with | (len1, fsg1) => [(pad, .inr (0, [.ref sg, .ref sl, .int len1])), (sg, .inl (gI G, 40, .inl fsg1)), (sl, .inl (gI G, 10, .inl fsl))]) 0 0 := by
  refine Met.ofW (cc := cX2_put) (maxL := 2) (ret := (some .boolean)) (by decide) rfl ?_
  intro p e s m args below meth c s₁ B hml hv
  obtain ⟨rfl, hsz, hP, hD0, E0⟩ := hv
  have hx := B.exec
  have hb := B.bytes
  have hr := B.returns
  have hts := atoms_spec (ws := wsX2_put) B.pre
  have hown : s.vm.findClass RX2 = some m.cls := findClass_of_methodNamed B.named
  have hlocks := B.notSynchronized
  subst hsz
  have hD := hD0.self (sz := s.heap.size)
  generalize hAe : va_A ([(pad, .inr (0, [.ref sg, .ref sl, .int (nI pm)])), (sg, .inl (gI G, 40, .inl fsg)), (sl, .inl (gI G, 10, .inl fsl))]) s.heap.size = A at hD E0 ⊢
  have E : EV G A s s.heap := E0
  have hA : ∀ q : Nat, s.heap.size ≤ q → A q := fun q h => by rw [← hAe]; exact Or.inr h
  have hS : va_S A s.heap s.heap [] := va_S.rf
  have hl := lv_entry ([.ref pad, .int p0]) (n := 2) (Nat.le_of_ble_eq_true rfl)
  rw [lg_entry_eq]
  generalize (lg_sl ([.ref pad, .int p0]) ++ List.replicate (2 - (lg_sl ([.ref pad, .int p0])).length) Slot.unset).toArray = ls at hl ⊢
  have hl : lv_has ls 2 [(0, .ref pad), (1, .int p0)] := hl
  have hP : va_P G.1 vwCl ([(pad, .inr (0, [.ref sg, .ref sl, .int (nI pm)])), (sg, .inl (gI G, 40, .inl fsg)), (sl, .inl (gI G, 10, .inl fsl))]) s.heap := hP
  refine lv_aload_n hx hb dX2_put_0 rfl (lv_at hl 0 rfl) ?_
  refine va_get (D := G.1) (ci := 0) (v := .int (nI pm)) (C := RX2) (T := TX2) (N := 3) hx hb hts (fun _ h => List.mem_cons_of_mem _ (List.mem_append_right _ h)) hown E.K hP 0 rfl rfl 2 (by decide) (hts (.fieldLink RX2 18 "LastMap$Pad" "length" "I") (by decide +kernel)) (fun _ h9 => h9) rfl dX2_put_1 ?_
  refine lv_if_lt (tgt := 19) hx hb dX2_put_4 (by decide) (fun c1 => ?_) (fun c1 => ?_)
  · have c1 : pm < 0 := (nI_ltI (a := pm) (b := 0) (by omega) (by omega)).mp c1
    refine lv_iconst (v := 0) hx hb dX2_put_19 (by decide) ?_
    have hP9 := (hP.sub (ws' := [(pad, .inr (0, [.ref sg, .ref sl, .int (nI pm)])), (sg, .inl (gI G, 40, .inl fsg)), (sl, .inl (gI G, 10, .inl fsl))]) [0, 1, 2] rfl)
    have hD9 := (hD.sub (ws' := [(pad, .inr (0, [.ref sg, .ref sl, .int (nI pm)])), (sg, .inl (gI G, 40, .inl fsg)), (sl, .inl (gI G, 10, .inl fsl))]) [0, 1, 2] (by decide) rfl)
    exact W.zret (v := 0) hx hb hr (by decide) (fun t9_ ht9_ hW9_ => ⟨⟨0, (nI pm, fsg), rfl, Or.inr ⟨rfl, by omega, rfl, rfl⟩, by rw [ht9_]; exact hP9, hD9⟩, hS.F ht9_⟩) hS.2.2 dX2_put_20
  · have c1 : ¬ pm < 0 := fun h9_ => c1 ((nI_ltI (a := pm) (b := 0) (by omega) (by omega)).mpr h9_)
    refine lv_aload_n hx hb dX2_put_7 rfl (lv_at hl 0 rfl) ?_
    refine va_get (D := G.1) (ci := 0) (v := .int (nI pm)) (C := RX2) (T := TX2) (N := 3) hx hb hts (fun _ h => List.mem_cons_of_mem _ (List.mem_append_right _ h)) hown E.K hP 0 rfl rfl 2 (by decide) (hts (.fieldLink RX2 18 "LastMap$Pad" "length" "I") (by decide +kernel)) (fun _ h9 => h9) rfl dX2_put_8 ?_
    refine lv_aload_n hx hb dX2_put_11 rfl (lv_at hl 0 rfl) ?_
    refine va_get (D := G.1) (ci := 0) (v := .ref sg) (C := RX2) (T := TX2) (N := 3) hx hb hts (fun _ h => List.mem_cons_of_mem _ (List.mem_append_right _ h)) hown E.K hP 0 rfl rfl 0 (by decide) (hts (.fieldLink RX2 9 "LastMap$Pad" "signs" "[I") (by decide +kernel)) (fun _ h9 => h9) rfl dX2_put_12 ?_
    refine va_alen (v := 40) hx hb E.K hP 1 1 rfl rfl rfl dX2_put_15 ?_
    refine lv_icmp_lt (tgt := 21) hx hb dX2_put_16 (by decide) (fun c2 => ?_) (fun c2 => ?_)
    · have c2 : pm < 40 := (nI_ltI (a := pm) (b := 40) (by omega) (by omega)).mp c2
      refine lv_aload_n hx hb dX2_put_21 rfl (lv_at hl 0 rfl) ?_
      refine va_get (D := G.1) (ci := 0) (v := .ref sg) (C := RX2) (T := TX2) (N := 3) hx hb hts (fun _ h => List.mem_cons_of_mem _ (List.mem_append_right _ h)) hown E.K hP 0 rfl rfl 0 (by decide) (hts (.fieldLink RX2 9 "LastMap$Pad" "signs" "[I") (by decide +kernel)) (fun _ h9 => h9) rfl dX2_put_22 ?_
      refine lv_aload_n hx hb dX2_put_25 rfl (lv_at hl 0 rfl) ?_
      refine va_get (D := G.1) (ci := 0) (v := .int (nI pm)) (C := RX2) (T := TX2) (N := 3) hx hb hts (fun _ h => List.mem_cons_of_mem _ (List.mem_append_right _ h)) hown E.K hP 0 rfl rfl 2 (by decide) (hts (.fieldLink RX2 18 "LastMap$Pad" "length" "I") (by decide +kernel)) (fun _ h9 => h9) rfl dX2_put_26 ?_
      refine lv_iload_n hx hb dX2_put_29 rfl (lv_at hl 1 rfl) ?_
      refine va_iast hx hb E.K hP hD hS 1 1 rfl rfl (i := nI pm) (vp_in_nI (by omega) (by decide)) dX2_put_30 (fun H locs hP hD hS => ?_)
      obtain ⟨f3, ef3⟩ : ∃ yy_ : Nat → Int32, yy_ = upd fsg (nI pm).toNatClampNeg p0 := ⟨_, rfl⟩
      have hP : va_P G.1 vwCl ([(pad, .inr (0, [.ref sg, .ref sl, .int (nI pm)])), (sg, .inl (gI G, 40, .inl f3)), (sl, .inl (gI G, 10, .inl fsl))]) H := by rw [ef3]; exact hP
      have hD : va_D A ([(pad, .inr (0, [.ref sg, .ref sl, .int (nI pm)])), (sg, .inl (gI G, 40, .inl f3)), (sl, .inl (gI G, 10, .inl fsl))]) := by rw [ef3]; exact hD
      refine lv_aload_n hx hb dX2_put_31 rfl (lv_at hl 0 rfl) ?_
      refine lv_dup hx hb dX2_put_32 rfl ?_
      refine va_get (D := G.1) (ci := 0) (v := .int (nI pm)) (C := RX2) (T := TX2) (N := 3) hx hb hts (fun _ h => List.mem_cons_of_mem _ (List.mem_append_right _ h)) hown E.K hP 0 rfl rfl 2 (by decide) (hts (.fieldLink RX2 18 "LastMap$Pad" "length" "I") (by decide +kernel)) (fun _ h9 => h9) rfl dX2_put_33 ?_
      refine lv_iconst (v := 1) hx hb dX2_put_36 (by decide) ?_
      refine lv_iadd hx hb dX2_put_37 ?_
      refine lv_topi (fun x4 ex4 => ?_)
      obtain rfl : x4 = nI (pm + 1) := by rw [ex4]; exact nI_add pm 1
      refine va_put (D := G.1) (ci := 0) (v := .int (nI (pm + 1))) (ty := .int) (C := RX2) (T := TX2) (N := 3) hx hb hts (fun _ h => List.mem_cons_of_mem _ (List.mem_append_right _ h)) tyX2 tyX2_ok nmX2 hown E.K hP hD hS 0 rfl rfl 2 (by decide) (hts (.fieldLink RX2 18 "LastMap$Pad" "length" "I") (by decide +kernel)) (fun _ h9 => h9) rfl (by decide +kernel) rfl rfl (Nat.le_of_ble_eq_true rfl) dX2_put_38 (fun H locs hP hD hS => ?_)
      have hP : va_P G.1 vwCl ([(pad, .inr (0, [.ref sg, .ref sl, .int (nI (pm + 1))])), (sg, .inl (gI G, 40, .inl f3)), (sl, .inl (gI G, 10, .inl fsl))]) H := hP
      have hD : va_D A ([(pad, .inr (0, [.ref sg, .ref sl, .int (nI (pm + 1))])), (sg, .inl (gI G, 40, .inl f3)), (sl, .inl (gI G, 10, .inl fsl))]) := hD
      refine lv_iconst (v := 1) hx hb dX2_put_41 (by decide) ?_
      have hP9 := (hP.sub (ws' := [(pad, .inr (0, [.ref sg, .ref sl, .int (nI (pm + 1))])), (sg, .inl (gI G, 40, .inl f3)), (sl, .inl (gI G, 10, .inl fsl))]) [0, 1, 2] rfl)
      have hD9 := (hD.sub (ws' := [(pad, .inr (0, [.ref sg, .ref sl, .int (nI (pm + 1))])), (sg, .inl (gI G, 40, .inl f3)), (sl, .inl (gI G, 10, .inl fsl))]) [0, 1, 2] (by decide) rfl)
      exact W.zret (v := 1) hx hb hr (by decide) (fun t9_ ht9_ hW9_ => ⟨⟨1, (nI (pm + 1), f3), rfl, Or.inl ⟨rfl, by omega, rfl, by rw [ef3, nI_clamp (by omega)]⟩, by rw [ht9_]; exact hP9, hD9⟩, hS.F ht9_⟩) hS.2.2 dX2_put_42
    · have c2 : ¬ pm < 40 := fun h9_ => c2 ((nI_ltI (a := pm) (b := 40) (by omega) (by omega)).mpr h9_)
      refine lv_iconst (v := 0) hx hb dX2_put_19 (by decide) ?_
      have hP9 := (hP.sub (ws' := [(pad, .inr (0, [.ref sg, .ref sl, .int (nI pm)])), (sg, .inl (gI G, 40, .inl fsg)), (sl, .inl (gI G, 10, .inl fsl))]) [0, 1, 2] rfl)
      have hD9 := (hD.sub (ws' := [(pad, .inr (0, [.ref sg, .ref sl, .int (nI pm)])), (sg, .inl (gI G, 40, .inl fsg)), (sl, .inl (gI G, 10, .inl fsl))]) [0, 1, 2] (by decide) rfl)
      exact W.zret (v := 0) hx hb hr (by decide) (fun t9_ ht9_ hW9_ => ⟨⟨0, (nI pm, fsg), rfl, Or.inr ⟨rfl, by omega, rfl, rfl⟩, by rw [ht9_]; exact hP9, hD9⟩, hS.F ht9_⟩) hS.2.2 dX2_put_20

set_option maxHeartbeats 1000000 in
set_option maxRecDepth 100000 in
theorem n_tell (l : Launch) (G : Gy) (sz : Nat) (pp : Nat) (ac : Nat) (ak : Nat) (n : Int32) (told : Int32) (sp : Int32) (gr : Int32) (fc : Nat → Int32) (fk : Nat → Int32) (p0 : Int32) (p1 : Int32) (hmp : inR p0 0 5) : Cv l G yX3_tell wsX3_tell ({ frames := 0, cells := 0, slots := 0, locals := 0 }) [.ref pp, .int p0, .int p1] ([(pp, .inr (1, [.int n, .int told, .int sp, .int gr, .ref ac, .ref ak])), (ac, .inl (gI G, 6, .inl fc)), (ak, .inl (gI G, 4, .inl fk))]) sz (fun (u : Int32 × (Nat → Int32)) => match u with | (told1, fc1) => told1 = tb told p0 ∧ fc1 = upd fc p0.toNatClampNeg p1) (fun (u : Int32 × (Nat → Int32)) => match u with | (told1, fc1) => [(pp, .inr (1, [.int n, .int told1, .int sp, .int gr, .ref ac, .ref ak])), (ac, .inl (gI G, 6, .inl fc1)), (ak, .inl (gI G, 4, .inl fk))]) 0 0 := by
  refine Met.ofW (cc := cX3_tell) (maxL := 3) (ret := none) (by decide) rfl ?_
  intro p e s m args below meth c s₁ B hml hv
  obtain ⟨rfl, hsz, hP, hD0, E0⟩ := hv
  have hx := B.exec
  have hb := B.bytes
  have hr := B.returns
  have hts := atoms_spec (ws := wsX3_tell) B.pre
  have hown : s.vm.findClass RX3 = some m.cls := findClass_of_methodNamed B.named
  have hlocks := B.notSynchronized
  subst hsz
  have hD := hD0.self (sz := s.heap.size)
  generalize hAe : va_A ([(pp, .inr (1, [.int n, .int told, .int sp, .int gr, .ref ac, .ref ak])), (ac, .inl (gI G, 6, .inl fc)), (ak, .inl (gI G, 4, .inl fk))]) s.heap.size = A at hD E0 ⊢
  have E : EV G A s s.heap := E0
  have hA : ∀ q : Nat, s.heap.size ≤ q → A q := fun q h => by rw [← hAe]; exact Or.inr h
  have hS : va_S A s.heap s.heap [] := va_S.rf
  have hl := lv_entry ([.ref pp, .int p0, .int p1]) (n := 3) (Nat.le_of_ble_eq_true rfl)
  rw [lg_entry_eq]
  generalize (lg_sl ([.ref pp, .int p0, .int p1]) ++ List.replicate (3 - (lg_sl ([.ref pp, .int p0, .int p1])).length) Slot.unset).toArray = ls at hl ⊢
  have hl : lv_has ls 3 [(0, .ref pp), (1, .int p0), (2, .int p1)] := hl
  have hP : va_P G.1 vwCl ([(pp, .inr (1, [.int n, .int told, .int sp, .int gr, .ref ac, .ref ak])), (ac, .inl (gI G, 6, .inl fc)), (ak, .inl (gI G, 4, .inl fk))]) s.heap := hP
  refine lv_iload_n hx hb dX3_tell_0 rfl (lv_at hl 1 rfl) ?_
  refine lv_if_lt (tgt := 32) hx hb dX3_tell_1 (by decide) (fun c1 => ?_) (fun c1 => ?_)
  · have hP9 := (hP.sub (ws' := [(pp, .inr (1, [.int n, .int told, .int sp, .int gr, .ref ac, .ref ak])), (ac, .inl (gI G, 6, .inl fc)), (ak, .inl (gI G, 4, .inl fk))]) [0, 1, 2] rfl)
    have hD9 := (hD.sub (ws' := [(pp, .inr (1, [.int n, .int told, .int sp, .int gr, .ref ac, .ref ak])), (ac, .inl (gI G, 6, .inl fc)), (ak, .inl (gI G, 4, .inl fk))]) [0, 1, 2] (by decide) rfl)
    exact W.vret hx hb hr (fun t9_ ht9_ hW9_ => ⟨⟨(told, fc), rfl, by exfalso; ((try simp only [inR, inS, i3_lt, i3_le, i3_eq, i6_lt, i6_le, Int32.toInt_toInt64, lg_cmp_lt, lg_cmp_gt, lg_cmp_ge, lg_cmp_le, Int32.reduceToInt, Int64.reduceToInt] at c1 hmp); omega), by rw [ht9_]; exact hP9, hD9⟩, hS.F ht9_⟩) hS.2.2 dX3_tell_32
  · refine lv_iload_n hx hb dX3_tell_4 rfl (lv_at hl 1 rfl) ?_
    refine lv_aload_n hx hb dX3_tell_5 rfl (lv_at hl 0 rfl) ?_
    refine va_get (D := G.1) (ci := 1) (v := .ref ac) (C := RX3) (T := TX3) (N := 6) hx hb hts (fun _ h => List.mem_cons_of_mem _ (List.mem_append_right _ h)) hown E.K hP 0 rfl rfl 4 (by decide) (hts (.fieldLink RX3 18 "LastMap$Papers" "codes" "[I") (by decide +kernel)) (fun _ h9 => h9) rfl dX3_tell_6 ?_
    refine va_alen (v := 6) hx hb E.K hP 1 1 rfl rfl rfl dX3_tell_9 ?_
    refine lv_icmp_ge (tgt := 32) hx hb dX3_tell_10 (by decide) (fun c2 => ?_) (fun c2 => ?_)
    · have hP9 := (hP.sub (ws' := [(pp, .inr (1, [.int n, .int told, .int sp, .int gr, .ref ac, .ref ak])), (ac, .inl (gI G, 6, .inl fc)), (ak, .inl (gI G, 4, .inl fk))]) [0, 1, 2] rfl)
      have hD9 := (hD.sub (ws' := [(pp, .inr (1, [.int n, .int told, .int sp, .int gr, .ref ac, .ref ak])), (ac, .inl (gI G, 6, .inl fc)), (ak, .inl (gI G, 4, .inl fk))]) [0, 1, 2] (by decide) rfl)
      exact W.vret hx hb hr (fun t9_ ht9_ hW9_ => ⟨⟨(told, fc), rfl, by exfalso; ((try simp only [inR, inS, i3_lt, i3_le, i3_eq, i6_lt, i6_le, Int32.toInt_toInt64, lg_cmp_lt, lg_cmp_gt, lg_cmp_ge, lg_cmp_le, Int32.reduceToInt, Int64.reduceToInt] at c1 c2 hmp); omega), by rw [ht9_]; exact hP9, hD9⟩, hS.F ht9_⟩) hS.2.2 dX3_tell_32
    · refine lv_aload_n hx hb dX3_tell_13 rfl (lv_at hl 0 rfl) ?_
      refine va_get (D := G.1) (ci := 1) (v := .ref ac) (C := RX3) (T := TX3) (N := 6) hx hb hts (fun _ h => List.mem_cons_of_mem _ (List.mem_append_right _ h)) hown E.K hP 0 rfl rfl 4 (by decide) (hts (.fieldLink RX3 18 "LastMap$Papers" "codes" "[I") (by decide +kernel)) (fun _ h9 => h9) rfl dX3_tell_14 ?_
      refine lv_iload_n hx hb dX3_tell_17 rfl (lv_at hl 1 rfl) ?_
      refine lv_iload_n hx hb dX3_tell_18 rfl (lv_at hl 2 rfl) ?_
      refine va_iast hx hb E.K hP hD hS 1 1 rfl rfl (i := p0) (vp_in_iff.mpr (by ((try simp only [inR, inS, i3_lt, i3_le, i3_eq, i6_lt, i6_le, Int32.toInt_toInt64, lg_cmp_lt, lg_cmp_gt, lg_cmp_ge, lg_cmp_le, Int32.reduceToInt, Int64.reduceToInt] at c1 c2 ⊢); omega))) dX3_tell_19 (fun H locs hP hD hS => ?_)
      obtain ⟨f3, ef3⟩ : ∃ yy_ : Nat → Int32, yy_ = upd fc p0.toNatClampNeg p1 := ⟨_, rfl⟩
      have hP : va_P G.1 vwCl ([(pp, .inr (1, [.int n, .int told, .int sp, .int gr, .ref ac, .ref ak])), (ac, .inl (gI G, 6, .inl f3)), (ak, .inl (gI G, 4, .inl fk))]) H := by rw [ef3]; exact hP
      have hD : va_D A ([(pp, .inr (1, [.int n, .int told, .int sp, .int gr, .ref ac, .ref ak])), (ac, .inl (gI G, 6, .inl f3)), (ak, .inl (gI G, 4, .inl fk))]) := by rw [ef3]; exact hD
      refine lv_aload_n hx hb dX3_tell_20 rfl (lv_at hl 0 rfl) ?_
      refine lv_dup hx hb dX3_tell_21 rfl ?_
      refine va_get (D := G.1) (ci := 1) (v := .int told) (C := RX3) (T := TX3) (N := 6) hx hb hts (fun _ h => List.mem_cons_of_mem _ (List.mem_append_right _ h)) hown E.K hP 0 rfl rfl 1 (by decide) (hts (.fieldLink RX3 25 "LastMap$Papers" "toldMaps" "I") (by decide +kernel)) (fun _ h9 => h9) rfl dX3_tell_22 ?_
      refine lv_iconst (v := 1) hx hb dX3_tell_25 (by decide) ?_
      refine lv_iload_n hx hb dX3_tell_26 rfl (lv_at hl 1 rfl) ?_
      refine lv_ishl hx hb dX3_tell_27 ?_
      refine lv_topi (fun x4 ex4 => ?_)
      refine lv_ior hx hb dX3_tell_28 ?_
      refine lv_topi (fun x5 ex5 => ?_)
      refine va_put (D := G.1) (ci := 1) (v := .int x5) (ty := .int) (C := RX3) (T := TX3) (N := 6) hx hb hts (fun _ h => List.mem_cons_of_mem _ (List.mem_append_right _ h)) tyX3 tyX3_ok nmX3 hown E.K hP hD hS 0 rfl rfl 1 (by decide) (hts (.fieldLink RX3 25 "LastMap$Papers" "toldMaps" "I") (by decide +kernel)) (fun _ h9 => h9) rfl (by decide +kernel) rfl rfl (Nat.le_of_ble_eq_true rfl) dX3_tell_29 (fun H locs hP hD hS => ?_)
      have hP : va_P G.1 vwCl ([(pp, .inr (1, [.int n, .int x5, .int sp, .int gr, .ref ac, .ref ak])), (ac, .inl (gI G, 6, .inl f3)), (ak, .inl (gI G, 4, .inl fk))]) H := hP
      have hD : va_D A ([(pp, .inr (1, [.int n, .int x5, .int sp, .int gr, .ref ac, .ref ak])), (ac, .inl (gI G, 6, .inl f3)), (ak, .inl (gI G, 4, .inl fk))]) := hD
      have hP9 := (hP.sub (ws' := [(pp, .inr (1, [.int n, .int x5, .int sp, .int gr, .ref ac, .ref ak])), (ac, .inl (gI G, 6, .inl f3)), (ak, .inl (gI G, 4, .inl fk))]) [0, 1, 2] rfl)
      have hD9 := (hD.sub (ws' := [(pp, .inr (1, [.int n, .int x5, .int sp, .int gr, .ref ac, .ref ak])), (ac, .inl (gI G, 6, .inl f3)), (ak, .inl (gI G, 4, .inl fk))]) [0, 1, 2] (by decide) rfl)
      exact W.vret hx hb hr (fun t9_ ht9_ hW9_ => ⟨⟨(x5, f3), rfl, ⟨by unfold tb; rw [ex5, ex4], ef3⟩, by rw [ht9_]; exact hP9, hD9⟩, hS.F ht9_⟩) hS.2.2 dX3_tell_32

set_option maxHeartbeats 1000000 in
set_option maxRecDepth 100000 in
theorem g_sites (l : Launch) (G : Gy) (sz : Nat) (h0 : Nat) (pad : Nat) (pp : Nat) (im : Nat) (vse : Value) (vtr : Value) (ac : Nat) (ak : Nat) (sg : Nat) (sl : Nat) (k : Nat) (pm : Nat) (la : Nat) (told : Int32) (sp : Int32) (fc : Nat → Int32) (fk : Nat → Int32) (fsg : Nat → Int32) (fsl : Nat → Int32) (ma : Nat → Nat) (p0 : Int32) (hk2 : 2 ≤ k) (hk6 : k ≤ 6) (hpm : pm ≤ 40) (hla : la < 5 ^ k) (hcr : CR k told fc ma) (hsp : inR sp 1 6) : Ci l G yX9_sites wsX9_sites ({ frames := 0, cells := 0, slots := 0, locals := 0 }) [.ref h0, .int p0] ([(h0, .inr (5, [.ref pad, .ref pp, .ref im, vse, vtr])), (pad, .inr (0, [.ref sg, .ref sl, .int (nI pm)])), (sg, .inl (gI G, 40, .inl fsg)), (sl, .inl (gI G, 10, .inl fsl)), (pp, .inr (1, [.int (nI k), .int told, .int sp, .int (nI (sc k la)), .ref ac, .ref ak])), (ac, .inl (gI G, 6, .inl fc)), (ak, .inl (gI G, 4, .inl fk))]) sz (fun (r : Int32) (u : Int32 × Int32 × Int32) => match u with | (n1, told1, gr1) => (inR p0 2 6 ∧ r = nI k ∧ n1 = p0 ∧ told1 = 0 ∧ gr1 = 0) ∨ (¬ inR p0 2 6 ∧ r = (-2) ∧ n1 = nI k ∧ told1 = told ∧ gr1 = nI (sc k la))) (fun (u : Int32 × Int32 × Int32) => match u with | (n1, told1, gr1) => [(h0, .inr (5, [.ref pad, .ref pp, .ref im, vse, vtr])), (pad, .inr (0, [.ref sg, .ref sl, .int (nI pm)])), (sg, .inl (gI G, 40, .inl fsg)), (sl, .inl (gI G, 10, .inl fsl)), (pp, .inr (1, [.int n1, .int told1, .int sp, .int gr1, .ref ac, .ref ak])), (ac, .inl (gI G, 6, .inl fc)), (ak, .inl (gI G, 4, .inl fk))]) 0 0 := by
  refine Met.ofW (cc := cX9_sites) (maxL := 3) (ret := (some .int)) (by decide) rfl ?_
  intro p e s m args below meth c s₁ B hml hv
  obtain ⟨rfl, hsz, hP, hD0, E0⟩ := hv
  have hx := B.exec
  have hb := B.bytes
  have hr := B.returns
  have hts := atoms_spec (ws := wsX9_sites) B.pre
  have hown : s.vm.findClass RX9 = some m.cls := findClass_of_methodNamed B.named
  have hlocks := B.notSynchronized
  subst hsz
  have hD := hD0.self (sz := s.heap.size)
  generalize hAe : va_A ([(h0, .inr (5, [.ref pad, .ref pp, .ref im, vse, vtr])), (pad, .inr (0, [.ref sg, .ref sl, .int (nI pm)])), (sg, .inl (gI G, 40, .inl fsg)), (sl, .inl (gI G, 10, .inl fsl)), (pp, .inr (1, [.int (nI k), .int told, .int sp, .int (nI (sc k la)), .ref ac, .ref ak])), (ac, .inl (gI G, 6, .inl fc)), (ak, .inl (gI G, 4, .inl fk))]) s.heap.size = A at hD E0 ⊢
  have E : EV G A s s.heap := E0
  have hA : ∀ q : Nat, s.heap.size ≤ q → A q := fun q h => by rw [← hAe]; exact Or.inr h
  have hS : va_S A s.heap s.heap [] := va_S.rf
  have hl := lv_entry ([.ref h0, .int p0]) (n := 3) (Nat.le_of_ble_eq_true rfl)
  rw [lg_entry_eq]
  generalize (lg_sl ([.ref h0, .int p0]) ++ List.replicate (3 - (lg_sl ([.ref h0, .int p0])).length) Slot.unset).toArray = ls at hl ⊢
  have hl : lv_has ls 3 [(0, .ref h0), (1, .int p0)] := hl
  have hP : va_P G.1 vwCl ([(h0, .inr (5, [.ref pad, .ref pp, .ref im, vse, vtr])), (pad, .inr (0, [.ref sg, .ref sl, .int (nI pm)])), (sg, .inl (gI G, 40, .inl fsg)), (sl, .inl (gI G, 10, .inl fsl)), (pp, .inr (1, [.int (nI k), .int told, .int sp, .int (nI (sc k la)), .ref ac, .ref ak])), (ac, .inl (gI G, 6, .inl fc)), (ak, .inl (gI G, 4, .inl fk))]) s.heap := hP
  refine lv_iload_n hx hb dX9_sites_0 rfl (lv_at hl 1 rfl) ?_
  refine lv_iconst (v := 2) hx hb dX9_sites_1 (by decide) ?_
  refine lv_icmp_lt (tgt := 11) hx hb dX9_sites_2 (by decide) (fun c1 => ?_) (fun c1 => ?_)
  · refine lv_bipush (v := (-2)) hx hb dX9_sites_11 (by decide) ?_
    have hP9 := (hP.sub (ws' := [(h0, .inr (5, [.ref pad, .ref pp, .ref im, vse, vtr])), (pad, .inr (0, [.ref sg, .ref sl, .int (nI pm)])), (sg, .inl (gI G, 40, .inl fsg)), (sl, .inl (gI G, 10, .inl fsl)), (pp, .inr (1, [.int (nI k), .int told, .int sp, .int (nI (sc k la)), .ref ac, .ref ak])), (ac, .inl (gI G, 6, .inl fc)), (ak, .inl (gI G, 4, .inl fk))]) [0, 1, 2, 3, 4, 5, 6] rfl)
    have hD9 := (hD.sub (ws' := [(h0, .inr (5, [.ref pad, .ref pp, .ref im, vse, vtr])), (pad, .inr (0, [.ref sg, .ref sl, .int (nI pm)])), (sg, .inl (gI G, 40, .inl fsg)), (sl, .inl (gI G, 10, .inl fsl)), (pp, .inr (1, [.int (nI k), .int told, .int sp, .int (nI (sc k la)), .ref ac, .ref ak])), (ac, .inl (gI G, 6, .inl fc)), (ak, .inl (gI G, 4, .inl fk))]) [0, 1, 2, 3, 4, 5, 6] (by decide) rfl)
    exact W.iret (v := (-2)) hx hb hr (fun t9_ ht9_ hW9_ => ⟨⟨(-2), (nI k, told, nI (sc k la)), rfl, Or.inr ⟨by ((try simp only [inR, inS, i3_lt, i3_le, i3_eq, i6_lt, i6_le, Int32.toInt_toInt64, lg_cmp_lt, lg_cmp_gt, lg_cmp_ge, lg_cmp_le, Int32.reduceToInt, Int64.reduceToInt] at c1 ⊢); omega), rfl, rfl, rfl, rfl⟩, by rw [ht9_]; exact hP9, hD9⟩, hS.F ht9_⟩) hS.2.2 dX9_sites_13
  · refine lv_iload_n hx hb dX9_sites_5 rfl (lv_at hl 1 rfl) ?_
    refine lv_bipush (v := 6) hx hb dX9_sites_6 (by decide) ?_
    refine lv_icmp_le (tgt := 14) hx hb dX9_sites_8 (by decide) (fun c2 => ?_) (fun c2 => ?_)
    · refine lv_aload_n hx hb dX9_sites_14 rfl (lv_at hl 0 rfl) ?_
      refine va_get (D := G.1) (ci := 5) (v := .ref pp) (C := RX9) (T := TX9) (N := 5) hx hb hts (fun _ h => List.mem_cons_of_mem _ (List.mem_append_left _ (List.mem_append_right _ h))) hown E.K hP 0 rfl rfl 1 (by decide) (hts (.fieldLink RX9 19 "LastMap" "papers" "LLastMap$Papers;") (by decide +kernel)) (fun _ h9 => h9) rfl dX9_sites_15 ?_
      refine va_get (D := G.1) (ci := 1) (v := .int (nI k)) (C := RX3) (T := TX3) (N := 6) hx hb hts (fun _ h => List.mem_cons_of_mem _ (List.mem_append_right _ h)) hown E.K hP 4 rfl rfl 0 (by decide) (hts (.fieldLink RX9 27 "LastMap$Papers" "siteCount" "I") (by decide +kernel)) (fun _ h9 => h9) rfl dX9_sites_18 ?_
      refine lv_istore_n (lv' := [(2, .int (nI k)), (0, .ref h0), (1, .int p0)]) hx hb dX9_sites_21 rfl hl (by decide) rfl (fun ls hl => ?_)
      refine lv_aload_n hx hb dX9_sites_22 rfl (lv_at hl 1 rfl) ?_
      refine va_get (D := G.1) (ci := 5) (v := .ref pp) (C := RX9) (T := TX9) (N := 5) hx hb hts (fun _ h => List.mem_cons_of_mem _ (List.mem_append_left _ (List.mem_append_right _ h))) hown E.K hP 0 rfl rfl 1 (by decide) (hts (.fieldLink RX9 19 "LastMap" "papers" "LLastMap$Papers;") (by decide +kernel)) (fun _ h9 => h9) rfl dX9_sites_23 ?_
      refine lv_iload_n hx hb dX9_sites_26 rfl (lv_at hl 2 rfl) ?_
      refine va_put (D := G.1) (ci := 1) (v := .int p0) (ty := .int) (C := RX3) (T := TX3) (N := 6) hx hb hts (fun _ h => List.mem_cons_of_mem _ (List.mem_append_right _ h)) tyX3 tyX3_ok nmX3 hown E.K hP hD hS 4 rfl rfl 0 (by decide) (hts (.fieldLink RX9 27 "LastMap$Papers" "siteCount" "I") (by decide +kernel)) (fun _ h9 => h9) rfl (by decide +kernel) rfl rfl (Nat.le_of_ble_eq_true rfl) dX9_sites_27 (fun H locs hP hD hS => ?_)
      have hP : va_P G.1 vwCl ([(h0, .inr (5, [.ref pad, .ref pp, .ref im, vse, vtr])), (pad, .inr (0, [.ref sg, .ref sl, .int (nI pm)])), (sg, .inl (gI G, 40, .inl fsg)), (sl, .inl (gI G, 10, .inl fsl)), (pp, .inr (1, [.int p0, .int told, .int sp, .int (nI (sc k la)), .ref ac, .ref ak])), (ac, .inl (gI G, 6, .inl fc)), (ak, .inl (gI G, 4, .inl fk))]) H := hP
      have hD : va_D A ([(h0, .inr (5, [.ref pad, .ref pp, .ref im, vse, vtr])), (pad, .inr (0, [.ref sg, .ref sl, .int (nI pm)])), (sg, .inl (gI G, 40, .inl fsg)), (sl, .inl (gI G, 10, .inl fsl)), (pp, .inr (1, [.int p0, .int told, .int sp, .int (nI (sc k la)), .ref ac, .ref ak])), (ac, .inl (gI G, 6, .inl fc)), (ak, .inl (gI G, 4, .inl fk))]) := hD
      refine lv_aload_n hx hb dX9_sites_30 rfl (lv_at hl 1 rfl) ?_
      refine va_get (D := G.1) (ci := 5) (v := .ref pp) (C := RX9) (T := TX9) (N := 5) hx hb hts (fun _ h => List.mem_cons_of_mem _ (List.mem_append_left _ (List.mem_append_right _ h))) hown E.K hP 0 rfl rfl 1 (by decide) (hts (.fieldLink RX9 19 "LastMap" "papers" "LLastMap$Papers;") (by decide +kernel)) (fun _ h9 => h9) rfl dX9_sites_31 ?_
      refine lv_iconst (v := 0) hx hb dX9_sites_34 (by decide) ?_
      refine va_put (D := G.1) (ci := 1) (v := .int 0) (ty := .int) (C := RX3) (T := TX3) (N := 6) hx hb hts (fun _ h => List.mem_cons_of_mem _ (List.mem_append_right _ h)) tyX3 tyX3_ok nmX3 hown E.K hP hD hS 4 rfl rfl 1 (by decide) (hts (.fieldLink RX9 31 "LastMap$Papers" "toldMaps" "I") (by decide +kernel)) (fun _ h9 => h9) rfl (by decide +kernel) rfl rfl (Nat.le_of_ble_eq_true rfl) dX9_sites_35 (fun H locs hP hD hS => ?_)
      have hP : va_P G.1 vwCl ([(h0, .inr (5, [.ref pad, .ref pp, .ref im, vse, vtr])), (pad, .inr (0, [.ref sg, .ref sl, .int (nI pm)])), (sg, .inl (gI G, 40, .inl fsg)), (sl, .inl (gI G, 10, .inl fsl)), (pp, .inr (1, [.int p0, .int 0, .int sp, .int (nI (sc k la)), .ref ac, .ref ak])), (ac, .inl (gI G, 6, .inl fc)), (ak, .inl (gI G, 4, .inl fk))]) H := hP
      have hD : va_D A ([(h0, .inr (5, [.ref pad, .ref pp, .ref im, vse, vtr])), (pad, .inr (0, [.ref sg, .ref sl, .int (nI pm)])), (sg, .inl (gI G, 40, .inl fsg)), (sl, .inl (gI G, 10, .inl fsl)), (pp, .inr (1, [.int p0, .int 0, .int sp, .int (nI (sc k la)), .ref ac, .ref ak])), (ac, .inl (gI G, 6, .inl fc)), (ak, .inl (gI G, 4, .inl fk))]) := hD
      refine lv_aload_n hx hb dX9_sites_38 rfl (lv_at hl 1 rfl) ?_
      refine va_get (D := G.1) (ci := 5) (v := .ref pp) (C := RX9) (T := TX9) (N := 5) hx hb hts (fun _ h => List.mem_cons_of_mem _ (List.mem_append_left _ (List.mem_append_right _ h))) hown E.K hP 0 rfl rfl 1 (by decide) (hts (.fieldLink RX9 19 "LastMap" "papers" "LLastMap$Papers;") (by decide +kernel)) (fun _ h9 => h9) rfl dX9_sites_39 ?_
      refine lv_iconst (v := 0) hx hb dX9_sites_42 (by decide) ?_
      refine va_put (D := G.1) (ci := 1) (v := .int 0) (ty := .int) (C := RX3) (T := TX3) (N := 6) hx hb hts (fun _ h => List.mem_cons_of_mem _ (List.mem_append_right _ h)) tyX3 tyX3_ok nmX3 hown E.K hP hD hS 4 rfl rfl 3 (by decide) (hts (.fieldLink RX9 34 "LastMap$Papers" "ground" "I") (by decide +kernel)) (fun _ h9 => h9) rfl (by decide +kernel) rfl rfl (Nat.le_of_ble_eq_true rfl) dX9_sites_43 (fun H locs hP hD hS => ?_)
      have hP : va_P G.1 vwCl ([(h0, .inr (5, [.ref pad, .ref pp, .ref im, vse, vtr])), (pad, .inr (0, [.ref sg, .ref sl, .int (nI pm)])), (sg, .inl (gI G, 40, .inl fsg)), (sl, .inl (gI G, 10, .inl fsl)), (pp, .inr (1, [.int p0, .int 0, .int sp, .int 0, .ref ac, .ref ak])), (ac, .inl (gI G, 6, .inl fc)), (ak, .inl (gI G, 4, .inl fk))]) H := hP
      have hD : va_D A ([(h0, .inr (5, [.ref pad, .ref pp, .ref im, vse, vtr])), (pad, .inr (0, [.ref sg, .ref sl, .int (nI pm)])), (sg, .inl (gI G, 40, .inl fsg)), (sl, .inl (gI G, 10, .inl fsl)), (pp, .inr (1, [.int p0, .int 0, .int sp, .int 0, .ref ac, .ref ak])), (ac, .inl (gI G, 6, .inl fc)), (ak, .inl (gI G, 4, .inl fk))]) := hD
      refine lv_iload_n hx hb dX9_sites_46 rfl (lv_at hl 0 rfl) ?_
      have hP9 := (hP.sub (ws' := [(h0, .inr (5, [.ref pad, .ref pp, .ref im, vse, vtr])), (pad, .inr (0, [.ref sg, .ref sl, .int (nI pm)])), (sg, .inl (gI G, 40, .inl fsg)), (sl, .inl (gI G, 10, .inl fsl)), (pp, .inr (1, [.int p0, .int 0, .int sp, .int 0, .ref ac, .ref ak])), (ac, .inl (gI G, 6, .inl fc)), (ak, .inl (gI G, 4, .inl fk))]) [0, 1, 2, 3, 4, 5, 6] rfl)
      have hD9 := (hD.sub (ws' := [(h0, .inr (5, [.ref pad, .ref pp, .ref im, vse, vtr])), (pad, .inr (0, [.ref sg, .ref sl, .int (nI pm)])), (sg, .inl (gI G, 40, .inl fsg)), (sl, .inl (gI G, 10, .inl fsl)), (pp, .inr (1, [.int p0, .int 0, .int sp, .int 0, .ref ac, .ref ak])), (ac, .inl (gI G, 6, .inl fc)), (ak, .inl (gI G, 4, .inl fk))]) [0, 1, 2, 3, 4, 5, 6] (by decide) rfl)
      exact W.iret (v := (nI k)) hx hb hr (fun t9_ ht9_ hW9_ => ⟨⟨nI k, (p0, 0, 0), rfl, Or.inl ⟨by ((try simp only [inR, inS, i3_lt, i3_le, i3_eq, i6_lt, i6_le, Int32.toInt_toInt64, lg_cmp_lt, lg_cmp_gt, lg_cmp_ge, lg_cmp_le, Int32.reduceToInt, Int64.reduceToInt] at c1 c2 ⊢); omega), rfl, rfl, rfl, rfl⟩, by rw [ht9_]; exact hP9, hD9⟩, hS.F ht9_⟩) hS.2.2 dX9_sites_47
    · refine lv_bipush (v := (-2)) hx hb dX9_sites_11 (by decide) ?_
      have hP9 := (hP.sub (ws' := [(h0, .inr (5, [.ref pad, .ref pp, .ref im, vse, vtr])), (pad, .inr (0, [.ref sg, .ref sl, .int (nI pm)])), (sg, .inl (gI G, 40, .inl fsg)), (sl, .inl (gI G, 10, .inl fsl)), (pp, .inr (1, [.int (nI k), .int told, .int sp, .int (nI (sc k la)), .ref ac, .ref ak])), (ac, .inl (gI G, 6, .inl fc)), (ak, .inl (gI G, 4, .inl fk))]) [0, 1, 2, 3, 4, 5, 6] rfl)
      have hD9 := (hD.sub (ws' := [(h0, .inr (5, [.ref pad, .ref pp, .ref im, vse, vtr])), (pad, .inr (0, [.ref sg, .ref sl, .int (nI pm)])), (sg, .inl (gI G, 40, .inl fsg)), (sl, .inl (gI G, 10, .inl fsl)), (pp, .inr (1, [.int (nI k), .int told, .int sp, .int (nI (sc k la)), .ref ac, .ref ak])), (ac, .inl (gI G, 6, .inl fc)), (ak, .inl (gI G, 4, .inl fk))]) [0, 1, 2, 3, 4, 5, 6] (by decide) rfl)
      exact W.iret (v := (-2)) hx hb hr (fun t9_ ht9_ hW9_ => ⟨⟨(-2), (nI k, told, nI (sc k la)), rfl, Or.inr ⟨by ((try simp only [inR, inS, i3_lt, i3_le, i3_eq, i6_lt, i6_le, Int32.toInt_toInt64, lg_cmp_lt, lg_cmp_gt, lg_cmp_ge, lg_cmp_le, Int32.reduceToInt, Int64.reduceToInt] at c1 c2 ⊢); omega), rfl, rfl, rfl, rfl⟩, by rw [ht9_]; exact hP9, hD9⟩, hS.F ht9_⟩) hS.2.2 dX9_sites_13

set_option maxHeartbeats 1000000 in
set_option maxRecDepth 100000 in
theorem g_say (l : Launch) (G : Gy) (sz : Nat) (h0 : Nat) (pad : Nat) (pp : Nat) (im : Nat) (vse : Value) (vtr : Value) (ac : Nat) (ak : Nat) (sg : Nat) (sl : Nat) (k : Nat) (pm : Nat) (la : Nat) (told : Int32) (sp : Int32) (fc : Nat → Int32) (fk : Nat → Int32) (fsg : Nat → Int32) (fsl : Nat → Int32) (ma : Nat → Nat) (p0 : Int32) (hk2 : 2 ≤ k) (hk6 : k ≤ 6) (hpm : pm ≤ 40) (hla : la < 5 ^ k) (hcr : CR k told fc ma) (hsp : inR sp 1 6) : Ci l G yX9_say wsX9_say ({ frames := 1, cells := 0, slots := 0, locals := 21 }) [.ref h0, .int p0] ([(h0, .inr (5, [.ref pad, .ref pp, .ref im, vse, vtr])), (pad, .inr (0, [.ref sg, .ref sl, .int (nI pm)])), (sg, .inl (gI G, 40, .inl fsg)), (sl, .inl (gI G, 10, .inl fsl)), (pp, .inr (1, [.int (nI k), .int told, .int sp, .int (nI (sc k la)), .ref ac, .ref ak])), (ac, .inl (gI G, 6, .inl fc)), (ak, .inl (gI G, 4, .inl fk))]) sz (fun (r : Int32) (u : Int32 × (Nat → Int32)) => match u with | (len1, fsg1) => (¬ inR p0 33 126 ∧ r = (-2) ∧ len1 = nI pm ∧ fsg1 = fsg) ∨ (inR p0 33 126 ∧ pm = 40 ∧ r = (-4) ∧ len1 = nI pm ∧ fsg1 = fsg) ∨ (inR p0 33 126 ∧ pm < 40 ∧ r = nI (pm + 1) ∧ len1 = nI (pm + 1) ∧ fsg1 = upd fsg pm p0)) (fun (u : Int32 × (Nat → Int32)) => match u with | (len1, fsg1) => [(h0, .inr (5, [.ref pad, .ref pp, .ref im, vse, vtr])), (pad, .inr (0, [.ref sg, .ref sl, .int len1])), (sg, .inl (gI G, 40, .inl fsg1)), (sl, .inl (gI G, 10, .inl fsl)), (pp, .inr (1, [.int (nI k), .int told, .int sp, .int (nI (sc k la)), .ref ac, .ref ak])), (ac, .inl (gI G, 6, .inl fc)), (ak, .inl (gI G, 4, .inl fk))]) 0 0 := by
  refine Met.ofW (cc := cX9_say) (maxL := 2) (ret := (some .int)) (by decide) rfl ?_
  intro p e s m args below meth c s₁ B hml hv
  obtain ⟨rfl, hsz, hP, hD0, E0⟩ := hv
  have hx := B.exec
  have hb := B.bytes
  have hr := B.returns
  have hts := atoms_spec (ws := wsX9_say) B.pre
  have hown : s.vm.findClass RX9 = some m.cls := findClass_of_methodNamed B.named
  have hlocks := B.notSynchronized
  subst hsz
  have hD := hD0.self (sz := s.heap.size)
  generalize hAe : va_A ([(h0, .inr (5, [.ref pad, .ref pp, .ref im, vse, vtr])), (pad, .inr (0, [.ref sg, .ref sl, .int (nI pm)])), (sg, .inl (gI G, 40, .inl fsg)), (sl, .inl (gI G, 10, .inl fsl)), (pp, .inr (1, [.int (nI k), .int told, .int sp, .int (nI (sc k la)), .ref ac, .ref ak])), (ac, .inl (gI G, 6, .inl fc)), (ak, .inl (gI G, 4, .inl fk))]) s.heap.size = A at hD E0 ⊢
  have E : EV G A s s.heap := E0
  have hA : ∀ q : Nat, s.heap.size ≤ q → A q := fun q h => by rw [← hAe]; exact Or.inr h
  have hS : va_S A s.heap s.heap [] := va_S.rf
  have hl := lv_entry ([.ref h0, .int p0]) (n := 2) (Nat.le_of_ble_eq_true rfl)
  rw [lg_entry_eq]
  generalize (lg_sl ([.ref h0, .int p0]) ++ List.replicate (2 - (lg_sl ([.ref h0, .int p0])).length) Slot.unset).toArray = ls at hl ⊢
  have hl : lv_has ls 2 [(0, .ref h0), (1, .int p0)] := hl
  have hP : va_P G.1 vwCl ([(h0, .inr (5, [.ref pad, .ref pp, .ref im, vse, vtr])), (pad, .inr (0, [.ref sg, .ref sl, .int (nI pm)])), (sg, .inl (gI G, 40, .inl fsg)), (sl, .inl (gI G, 10, .inl fsl)), (pp, .inr (1, [.int (nI k), .int told, .int sp, .int (nI (sc k la)), .ref ac, .ref ak])), (ac, .inl (gI G, 6, .inl fc)), (ak, .inl (gI G, 4, .inl fk))]) s.heap := hP
  refine lv_iload_n hx hb dX9_say_0 rfl (lv_at hl 1 rfl) ?_
  refine lv_bipush (v := 33) hx hb dX9_say_1 (by decide) ?_
  refine lv_icmp_lt (tgt := 12) hx hb dX9_say_3 (by decide) (fun c1 => ?_) (fun c1 => ?_)
  · refine lv_bipush (v := (-2)) hx hb dX9_say_12 (by decide) ?_
    have hP9 := (hP.sub (ws' := [(h0, .inr (5, [.ref pad, .ref pp, .ref im, vse, vtr])), (pad, .inr (0, [.ref sg, .ref sl, .int (nI pm)])), (sg, .inl (gI G, 40, .inl fsg)), (sl, .inl (gI G, 10, .inl fsl)), (pp, .inr (1, [.int (nI k), .int told, .int sp, .int (nI (sc k la)), .ref ac, .ref ak])), (ac, .inl (gI G, 6, .inl fc)), (ak, .inl (gI G, 4, .inl fk))]) [0, 1, 2, 3, 4, 5, 6] rfl)
    have hD9 := (hD.sub (ws' := [(h0, .inr (5, [.ref pad, .ref pp, .ref im, vse, vtr])), (pad, .inr (0, [.ref sg, .ref sl, .int (nI pm)])), (sg, .inl (gI G, 40, .inl fsg)), (sl, .inl (gI G, 10, .inl fsl)), (pp, .inr (1, [.int (nI k), .int told, .int sp, .int (nI (sc k la)), .ref ac, .ref ak])), (ac, .inl (gI G, 6, .inl fc)), (ak, .inl (gI G, 4, .inl fk))]) [0, 1, 2, 3, 4, 5, 6] (by decide) rfl)
    exact W.iret (v := (-2)) hx hb hr (fun t9_ ht9_ hW9_ => ⟨⟨(-2), (nI pm, fsg), rfl, Or.inl ⟨by ((try simp only [inR, inS, i3_lt, i3_le, i3_eq, i6_lt, i6_le, Int32.toInt_toInt64, lg_cmp_lt, lg_cmp_gt, lg_cmp_ge, lg_cmp_le, Int32.reduceToInt, Int64.reduceToInt] at c1 ⊢); omega), rfl, rfl, rfl⟩, by rw [ht9_]; exact hP9, hD9⟩, hS.F ht9_⟩) hS.2.2 dX9_say_14
  · refine lv_iload_n hx hb dX9_say_6 rfl (lv_at hl 1 rfl) ?_
    refine lv_bipush (v := 126) hx hb dX9_say_7 (by decide) ?_
    refine lv_icmp_le (tgt := 15) hx hb dX9_say_9 (by decide) (fun c2 => ?_) (fun c2 => ?_)
    · refine lv_aload_n hx hb dX9_say_15 rfl (lv_at hl 0 rfl) ?_
      refine va_get (D := G.1) (ci := 5) (v := .ref pad) (C := RX9) (T := TX9) (N := 5) hx hb hts (fun _ h => List.mem_cons_of_mem _ (List.mem_append_left _ (List.mem_append_right _ h))) hown E.K hP 0 rfl rfl 0 (by decide) (hts (.fieldLink RX9 10 "LastMap" "pad" "LLastMap$Pad;") (by decide +kernel)) (fun _ h9 => h9) rfl dX9_say_16 ?_
      refine lv_iload_n hx hb dX9_say_19 rfl (lv_at hl 1 rfl) ?_
      refine ca_i (wr := [(h0, .inr (5, [.ref pad, .ref pp, .ref im, vse, vtr])), (pp, .inr (1, [.int (nI k), .int told, .int sp, .int (nI (sc k la)), .ref ac, .ref ak])), (ac, .inl (gI G, 6, .inl fc)), (ak, .inl (gI G, 4, .inl fk))]) (va_runV (As := [.int p0]) (rest := []) ⟨hx, hb, hml, hown, hts⟩ (n_put l G s.heap.size pad sg sl pm fsg fsl p0 (by omega)) (cwV 1 hts gX9_say_X2_put rfl rfl rfl (by decide +kernel) ⟨by decide +kernel, by decide +kernel⟩) (pre_V E hP hD hS hA [1, 2, 3] (by decide) rfl 1 0 rfl rfl) rfl rfl hl.1 rfl (lv_room (Nat.le_of_ble_eq_true rfl)) dX9_say_20 ⟨by decide +kernel, by decide +kernel⟩) hS hP hD hA [1, 2, 3] [0, 4, 5, 6] rfl rfl (by decide) (by decide) (fun r4 u5 H locs w3 hP hD hS => ?_)
      obtain ⟨len1_6, fsg1_7⟩ := u5
      try dsimp only at w3 hP hD
      have hP := (hP.sub (ws' := [(h0, .inr (5, [.ref pad, .ref pp, .ref im, vse, vtr])), (pad, .inr (0, [.ref sg, .ref sl, .int len1_6])), (sg, .inl (gI G, 40, .inl fsg1_7)), (sl, .inl (gI G, 10, .inl fsl)), (pp, .inr (1, [.int (nI k), .int told, .int sp, .int (nI (sc k la)), .ref ac, .ref ak])), (ac, .inl (gI G, 6, .inl fc)), (ak, .inl (gI G, 4, .inl fk))]) [0, 4, 5, 6, 1, 2, 3] rfl)
      have hD := (hD.sub (ws' := [(h0, .inr (5, [.ref pad, .ref pp, .ref im, vse, vtr])), (pad, .inr (0, [.ref sg, .ref sl, .int len1_6])), (sg, .inl (gI G, 40, .inl fsg1_7)), (sl, .inl (gI G, 10, .inl fsl)), (pp, .inr (1, [.int (nI k), .int told, .int sp, .int (nI (sc k la)), .ref ac, .ref ak])), (ac, .inl (gI G, 6, .inl fc)), (ak, .inl (gI G, 4, .inl fk))]) [0, 4, 5, 6, 1, 2, 3] (by decide) rfl)
      rcases w3 with ⟨rfl, hy1, hy2, hy3⟩ | ⟨rfl, hy1, hy2, hy3⟩
      · refine lv_if_eq (tgt := 36) hx hb dX9_say_23 (by decide) (fun c8 => False.elim (by revert c8; decide)) (fun _ => ?_)
        refine lv_aload_n hx hb dX9_say_26 rfl (lv_at hl 0 rfl) ?_
        refine va_get (D := G.1) (ci := 5) (v := .ref pad) (C := RX9) (T := TX9) (N := 5) hx hb hts (fun _ h => List.mem_cons_of_mem _ (List.mem_append_left _ (List.mem_append_right _ h))) hown E.K hP 0 rfl rfl 0 (by decide) (hts (.fieldLink RX9 10 "LastMap" "pad" "LLastMap$Pad;") (by decide +kernel)) (fun _ h9 => h9) rfl dX9_say_27 ?_
        refine va_get (D := G.1) (ci := 0) (v := .int len1_6) (C := RX2) (T := TX2) (N := 3) hx hb hts (fun _ h => List.mem_cons_of_mem _ (List.mem_append_right _ h)) hown E.K hP 1 rfl rfl 2 (by decide) (hts (.fieldLink RX9 41 "LastMap$Pad" "length" "I") (by decide +kernel)) (fun _ h9 => h9) rfl dX9_say_30 ?_
        refine lv_goto (tgt := 38) hx hb dX9_say_33 (by decide) ?_
        have hP9 := (hP.sub (ws' := [(h0, .inr (5, [.ref pad, .ref pp, .ref im, vse, vtr])), (pad, .inr (0, [.ref sg, .ref sl, .int len1_6])), (sg, .inl (gI G, 40, .inl fsg1_7)), (sl, .inl (gI G, 10, .inl fsl)), (pp, .inr (1, [.int (nI k), .int told, .int sp, .int (nI (sc k la)), .ref ac, .ref ak])), (ac, .inl (gI G, 6, .inl fc)), (ak, .inl (gI G, 4, .inl fk))]) [0, 1, 2, 3, 4, 5, 6] rfl)
        have hD9 := (hD.sub (ws' := [(h0, .inr (5, [.ref pad, .ref pp, .ref im, vse, vtr])), (pad, .inr (0, [.ref sg, .ref sl, .int len1_6])), (sg, .inl (gI G, 40, .inl fsg1_7)), (sl, .inl (gI G, 10, .inl fsl)), (pp, .inr (1, [.int (nI k), .int told, .int sp, .int (nI (sc k la)), .ref ac, .ref ak])), (ac, .inl (gI G, 6, .inl fc)), (ak, .inl (gI G, 4, .inl fk))]) [0, 1, 2, 3, 4, 5, 6] (by decide) rfl)
        exact W.iret (v := len1_6) hx hb hr (fun t9_ ht9_ hW9_ => ⟨⟨len1_6, (len1_6, fsg1_7), rfl, Or.inr (Or.inr ⟨by ((try simp only [inR, inS, i3_lt, i3_le, i3_eq, i6_lt, i6_le, Int32.toInt_toInt64, lg_cmp_lt, lg_cmp_gt, lg_cmp_ge, lg_cmp_le, Int32.reduceToInt, Int64.reduceToInt] at c1 c2 ⊢); omega), hy1, hy2, hy2, hy3⟩), by rw [ht9_]; exact hP9, hD9⟩, hS.F ht9_⟩) hS.2.2 dX9_say_38
      · refine lv_if_eq (tgt := 36) hx hb dX9_say_23 (by decide) (fun _ => ?_) (fun c9 => False.elim (by revert c9; decide))
        refine lv_bipush (v := (-4)) hx hb dX9_say_36 (by decide) ?_
        have hP9 := (hP.sub (ws' := [(h0, .inr (5, [.ref pad, .ref pp, .ref im, vse, vtr])), (pad, .inr (0, [.ref sg, .ref sl, .int len1_6])), (sg, .inl (gI G, 40, .inl fsg1_7)), (sl, .inl (gI G, 10, .inl fsl)), (pp, .inr (1, [.int (nI k), .int told, .int sp, .int (nI (sc k la)), .ref ac, .ref ak])), (ac, .inl (gI G, 6, .inl fc)), (ak, .inl (gI G, 4, .inl fk))]) [0, 1, 2, 3, 4, 5, 6] rfl)
        have hD9 := (hD.sub (ws' := [(h0, .inr (5, [.ref pad, .ref pp, .ref im, vse, vtr])), (pad, .inr (0, [.ref sg, .ref sl, .int len1_6])), (sg, .inl (gI G, 40, .inl fsg1_7)), (sl, .inl (gI G, 10, .inl fsl)), (pp, .inr (1, [.int (nI k), .int told, .int sp, .int (nI (sc k la)), .ref ac, .ref ak])), (ac, .inl (gI G, 6, .inl fc)), (ak, .inl (gI G, 4, .inl fk))]) [0, 1, 2, 3, 4, 5, 6] (by decide) rfl)
        exact W.iret (v := (-4)) hx hb hr (fun t9_ ht9_ hW9_ => ⟨⟨(-4), (len1_6, fsg1_7), rfl, Or.inr (Or.inl ⟨by ((try simp only [inR, inS, i3_lt, i3_le, i3_eq, i6_lt, i6_le, Int32.toInt_toInt64, lg_cmp_lt, lg_cmp_gt, lg_cmp_ge, lg_cmp_le, Int32.reduceToInt, Int64.reduceToInt] at c1 c2 ⊢); omega), hy1, rfl, hy2, hy3⟩), by rw [ht9_]; exact hP9, hD9⟩, hS.F ht9_⟩) hS.2.2 dX9_say_38
    · refine lv_bipush (v := (-2)) hx hb dX9_say_12 (by decide) ?_
      have hP9 := (hP.sub (ws' := [(h0, .inr (5, [.ref pad, .ref pp, .ref im, vse, vtr])), (pad, .inr (0, [.ref sg, .ref sl, .int (nI pm)])), (sg, .inl (gI G, 40, .inl fsg)), (sl, .inl (gI G, 10, .inl fsl)), (pp, .inr (1, [.int (nI k), .int told, .int sp, .int (nI (sc k la)), .ref ac, .ref ak])), (ac, .inl (gI G, 6, .inl fc)), (ak, .inl (gI G, 4, .inl fk))]) [0, 1, 2, 3, 4, 5, 6] rfl)
      have hD9 := (hD.sub (ws' := [(h0, .inr (5, [.ref pad, .ref pp, .ref im, vse, vtr])), (pad, .inr (0, [.ref sg, .ref sl, .int (nI pm)])), (sg, .inl (gI G, 40, .inl fsg)), (sl, .inl (gI G, 10, .inl fsl)), (pp, .inr (1, [.int (nI k), .int told, .int sp, .int (nI (sc k la)), .ref ac, .ref ak])), (ac, .inl (gI G, 6, .inl fc)), (ak, .inl (gI G, 4, .inl fk))]) [0, 1, 2, 3, 4, 5, 6] (by decide) rfl)
      exact W.iret (v := (-2)) hx hb hr (fun t9_ ht9_ hW9_ => ⟨⟨(-2), (nI pm, fsg), rfl, Or.inl ⟨by ((try simp only [inR, inS, i3_lt, i3_le, i3_eq, i6_lt, i6_le, Int32.toInt_toInt64, lg_cmp_lt, lg_cmp_gt, lg_cmp_ge, lg_cmp_le, Int32.reduceToInt, Int64.reduceToInt] at c1 c2 ⊢); omega), rfl, rfl, rfl⟩, by rw [ht9_]; exact hP9, hD9⟩, hS.F ht9_⟩) hS.2.2 dX9_say_14

set_option maxHeartbeats 1000000 in
set_option maxRecDepth 100000 in
theorem g_wipe (l : Launch) (G : Gy) (sz : Nat) (h0 : Nat) (pad : Nat) (pp : Nat) (im : Nat) (vse : Value) (vtr : Value) (ac : Nat) (ak : Nat) (sg : Nat) (sl : Nat) (k : Nat) (pm : Nat) (la : Nat) (told : Int32) (sp : Int32) (fc : Nat → Int32) (fk : Nat → Int32) (fsg : Nat → Int32) (fsl : Nat → Int32) (ma : Nat → Nat)  (hk2 : 2 ≤ k) (hk6 : k ≤ 6) (hpm : pm ≤ 40) (hla : la < 5 ^ k) (hcr : CR k told fc ma) (hsp : inR sp 1 6) : Ci l G yX9_wipe wsX9_wipe ({ frames := 0, cells := 0, slots := 0, locals := 0 }) [.ref h0] ([(h0, .inr (5, [.ref pad, .ref pp, .ref im, vse, vtr])), (pad, .inr (0, [.ref sg, .ref sl, .int (nI pm)])), (sg, .inl (gI G, 40, .inl fsg)), (sl, .inl (gI G, 10, .inl fsl)), (pp, .inr (1, [.int (nI k), .int told, .int sp, .int (nI (sc k la)), .ref ac, .ref ak])), (ac, .inl (gI G, 6, .inl fc)), (ak, .inl (gI G, 4, .inl fk))]) sz (fun (r : Int32) (len1 : Int32) => r = nI pm ∧ len1 = 0) (fun (len1 : Int32) => [(h0, .inr (5, [.ref pad, .ref pp, .ref im, vse, vtr])), (pad, .inr (0, [.ref sg, .ref sl, .int len1])), (sg, .inl (gI G, 40, .inl fsg)), (sl, .inl (gI G, 10, .inl fsl)), (pp, .inr (1, [.int (nI k), .int told, .int sp, .int (nI (sc k la)), .ref ac, .ref ak])), (ac, .inl (gI G, 6, .inl fc)), (ak, .inl (gI G, 4, .inl fk))]) 0 0 := by
  refine Met.ofW (cc := cX9_wipe) (maxL := 2) (ret := (some .int)) (by decide) rfl ?_
  intro p e s m args below meth c s₁ B hml hv
  obtain ⟨rfl, hsz, hP, hD0, E0⟩ := hv
  have hx := B.exec
  have hb := B.bytes
  have hr := B.returns
  have hts := atoms_spec (ws := wsX9_wipe) B.pre
  have hown : s.vm.findClass RX9 = some m.cls := findClass_of_methodNamed B.named
  have hlocks := B.notSynchronized
  subst hsz
  have hD := hD0.self (sz := s.heap.size)
  generalize hAe : va_A ([(h0, .inr (5, [.ref pad, .ref pp, .ref im, vse, vtr])), (pad, .inr (0, [.ref sg, .ref sl, .int (nI pm)])), (sg, .inl (gI G, 40, .inl fsg)), (sl, .inl (gI G, 10, .inl fsl)), (pp, .inr (1, [.int (nI k), .int told, .int sp, .int (nI (sc k la)), .ref ac, .ref ak])), (ac, .inl (gI G, 6, .inl fc)), (ak, .inl (gI G, 4, .inl fk))]) s.heap.size = A at hD E0 ⊢
  have E : EV G A s s.heap := E0
  have hA : ∀ q : Nat, s.heap.size ≤ q → A q := fun q h => by rw [← hAe]; exact Or.inr h
  have hS : va_S A s.heap s.heap [] := va_S.rf
  have hl := lv_entry ([.ref h0]) (n := 2) (Nat.le_of_ble_eq_true rfl)
  rw [lg_entry_eq]
  generalize (lg_sl ([.ref h0]) ++ List.replicate (2 - (lg_sl ([.ref h0])).length) Slot.unset).toArray = ls at hl ⊢
  have hl : lv_has ls 2 [(0, .ref h0)] := hl
  have hP : va_P G.1 vwCl ([(h0, .inr (5, [.ref pad, .ref pp, .ref im, vse, vtr])), (pad, .inr (0, [.ref sg, .ref sl, .int (nI pm)])), (sg, .inl (gI G, 40, .inl fsg)), (sl, .inl (gI G, 10, .inl fsl)), (pp, .inr (1, [.int (nI k), .int told, .int sp, .int (nI (sc k la)), .ref ac, .ref ak])), (ac, .inl (gI G, 6, .inl fc)), (ak, .inl (gI G, 4, .inl fk))]) s.heap := hP
  refine lv_aload_n hx hb dX9_wipe_0 rfl (lv_at hl 0 rfl) ?_
  refine va_get (D := G.1) (ci := 5) (v := .ref pad) (C := RX9) (T := TX9) (N := 5) hx hb hts (fun _ h => List.mem_cons_of_mem _ (List.mem_append_left _ (List.mem_append_right _ h))) hown E.K hP 0 rfl rfl 0 (by decide) (hts (.fieldLink RX9 10 "LastMap" "pad" "LLastMap$Pad;") (by decide +kernel)) (fun _ h9 => h9) rfl dX9_wipe_1 ?_
  refine va_get (D := G.1) (ci := 0) (v := .int (nI pm)) (C := RX2) (T := TX2) (N := 3) hx hb hts (fun _ h => List.mem_cons_of_mem _ (List.mem_append_right _ h)) hown E.K hP 1 rfl rfl 2 (by decide) (hts (.fieldLink RX9 41 "LastMap$Pad" "length" "I") (by decide +kernel)) (fun _ h9 => h9) rfl dX9_wipe_4 ?_
  refine lv_istore_n (lv' := [(1, .int (nI pm)), (0, .ref h0)]) hx hb dX9_wipe_7 rfl hl (by decide) rfl (fun ls hl => ?_)
  refine lv_aload_n hx hb dX9_wipe_8 rfl (lv_at hl 1 rfl) ?_
  refine va_get (D := G.1) (ci := 5) (v := .ref pad) (C := RX9) (T := TX9) (N := 5) hx hb hts (fun _ h => List.mem_cons_of_mem _ (List.mem_append_left _ (List.mem_append_right _ h))) hown E.K hP 0 rfl rfl 0 (by decide) (hts (.fieldLink RX9 10 "LastMap" "pad" "LLastMap$Pad;") (by decide +kernel)) (fun _ h9 => h9) rfl dX9_wipe_9 ?_
  refine lv_iconst (v := 0) hx hb dX9_wipe_12 (by decide) ?_
  refine va_put (D := G.1) (ci := 0) (v := .int 0) (ty := .int) (C := RX2) (T := TX2) (N := 3) hx hb hts (fun _ h => List.mem_cons_of_mem _ (List.mem_append_right _ h)) tyX2 tyX2_ok nmX2 hown E.K hP hD hS 1 rfl rfl 2 (by decide) (hts (.fieldLink RX9 41 "LastMap$Pad" "length" "I") (by decide +kernel)) (fun _ h9 => h9) rfl (by decide +kernel) rfl rfl (Nat.le_of_ble_eq_true rfl) dX9_wipe_13 (fun H locs hP hD hS => ?_)
  have hP : va_P G.1 vwCl ([(h0, .inr (5, [.ref pad, .ref pp, .ref im, vse, vtr])), (pad, .inr (0, [.ref sg, .ref sl, .int 0])), (sg, .inl (gI G, 40, .inl fsg)), (sl, .inl (gI G, 10, .inl fsl)), (pp, .inr (1, [.int (nI k), .int told, .int sp, .int (nI (sc k la)), .ref ac, .ref ak])), (ac, .inl (gI G, 6, .inl fc)), (ak, .inl (gI G, 4, .inl fk))]) H := hP
  have hD : va_D A ([(h0, .inr (5, [.ref pad, .ref pp, .ref im, vse, vtr])), (pad, .inr (0, [.ref sg, .ref sl, .int 0])), (sg, .inl (gI G, 40, .inl fsg)), (sl, .inl (gI G, 10, .inl fsl)), (pp, .inr (1, [.int (nI k), .int told, .int sp, .int (nI (sc k la)), .ref ac, .ref ak])), (ac, .inl (gI G, 6, .inl fc)), (ak, .inl (gI G, 4, .inl fk))]) := hD
  refine lv_iload_n hx hb dX9_wipe_16 rfl (lv_at hl 0 rfl) ?_
  have hP9 := (hP.sub (ws' := [(h0, .inr (5, [.ref pad, .ref pp, .ref im, vse, vtr])), (pad, .inr (0, [.ref sg, .ref sl, .int 0])), (sg, .inl (gI G, 40, .inl fsg)), (sl, .inl (gI G, 10, .inl fsl)), (pp, .inr (1, [.int (nI k), .int told, .int sp, .int (nI (sc k la)), .ref ac, .ref ak])), (ac, .inl (gI G, 6, .inl fc)), (ak, .inl (gI G, 4, .inl fk))]) [0, 1, 2, 3, 4, 5, 6] rfl)
  have hD9 := (hD.sub (ws' := [(h0, .inr (5, [.ref pad, .ref pp, .ref im, vse, vtr])), (pad, .inr (0, [.ref sg, .ref sl, .int 0])), (sg, .inl (gI G, 40, .inl fsg)), (sl, .inl (gI G, 10, .inl fsl)), (pp, .inr (1, [.int (nI k), .int told, .int sp, .int (nI (sc k la)), .ref ac, .ref ak])), (ac, .inl (gI G, 6, .inl fc)), (ak, .inl (gI G, 4, .inl fk))]) [0, 1, 2, 3, 4, 5, 6] (by decide) rfl)
  exact W.iret (v := (nI pm)) hx hb hr (fun t9_ ht9_ hW9_ => ⟨⟨nI pm, 0, rfl, ⟨rfl, rfl⟩, by rw [ht9_]; exact hP9, hD9⟩, hS.F ht9_⟩) hS.2.2 dX9_wipe_17

set_option maxHeartbeats 1000000 in
set_option maxRecDepth 100000 in
theorem g_fault (l : Launch) (G : Gy) (sz : Nat) (h0 : Nat) (pad : Nat) (pp : Nat) (im : Nat) (vse : Value) (vtr : Value) (ac : Nat) (ak : Nat) (sg : Nat) (sl : Nat) (k : Nat) (pm : Nat) (la : Nat) (told : Int32) (sp : Int32) (fc : Nat → Int32) (fk : Nat → Int32) (fsg : Nat → Int32) (fsl : Nat → Int32) (ma : Nat → Nat) (p0 : Int32) (hk2 : 2 ≤ k) (hk6 : k ≤ 6) (hpm : pm ≤ 40) (hla : la < 5 ^ k) (hcr : CR k told fc ma) (hsp : inR sp 1 6) : Ci l G yX9_fault wsX9_fault ({ frames := 5, cells := 0, slots := 0, locals := 116 }) [.ref h0, .int p0] ([(h0, .inr (5, [.ref pad, .ref pp, .ref im, vse, vtr])), (pad, .inr (0, [.ref sg, .ref sl, .int (nI pm)])), (sg, .inl (gI G, 40, .inl fsg)), (sl, .inl (gI G, 10, .inl fsl)), (pp, .inr (1, [.int (nI k), .int told, .int sp, .int (nI (sc k la)), .ref ac, .ref ak])), (ac, .inl (gI G, 6, .inl fc)), (ak, .inl (gI G, 4, .inl fk))]) sz (fun (r : Int32) (_ : Unit) => r = fltA k pm fsg p0) (fun (_ : Unit) => [(h0, .inr (5, [.ref pad, .ref pp, .ref im, vse, vtr])), (pad, .inr (0, [.ref sg, .ref sl, .int (nI pm)])), (sg, .inl (gI G, 40, .inl fsg)), (sl, .inl (gI G, 10, .inl fsl)), (pp, .inr (1, [.int (nI k), .int told, .int sp, .int (nI (sc k la)), .ref ac, .ref ak])), (ac, .inl (gI G, 6, .inl fc)), (ak, .inl (gI G, 4, .inl fk))]) 0 0 := by
  refine Met.ofW (cc := cX9_fault) (maxL := 2) (ret := (some .int)) (by decide) rfl ?_
  intro p e s m args below meth c s₁ B hml hv
  obtain ⟨rfl, hsz, hP, hD0, E0⟩ := hv
  have hx := B.exec
  have hb := B.bytes
  have hr := B.returns
  have hts := atoms_spec (ws := wsX9_fault) B.pre
  have hown : s.vm.findClass RX9 = some m.cls := findClass_of_methodNamed B.named
  have hlocks := B.notSynchronized
  subst hsz
  have hD := hD0.self (sz := s.heap.size)
  generalize hAe : va_A ([(h0, .inr (5, [.ref pad, .ref pp, .ref im, vse, vtr])), (pad, .inr (0, [.ref sg, .ref sl, .int (nI pm)])), (sg, .inl (gI G, 40, .inl fsg)), (sl, .inl (gI G, 10, .inl fsl)), (pp, .inr (1, [.int (nI k), .int told, .int sp, .int (nI (sc k la)), .ref ac, .ref ak])), (ac, .inl (gI G, 6, .inl fc)), (ak, .inl (gI G, 4, .inl fk))]) s.heap.size = A at hD E0 ⊢
  have E : EV G A s s.heap := E0
  have hA : ∀ q : Nat, s.heap.size ≤ q → A q := fun q h => by rw [← hAe]; exact Or.inr h
  have hS : va_S A s.heap s.heap [] := va_S.rf
  have hl := lv_entry ([.ref h0, .int p0]) (n := 2) (Nat.le_of_ble_eq_true rfl)
  rw [lg_entry_eq]
  generalize (lg_sl ([.ref h0, .int p0]) ++ List.replicate (2 - (lg_sl ([.ref h0, .int p0])).length) Slot.unset).toArray = ls at hl ⊢
  have hl : lv_has ls 2 [(0, .ref h0), (1, .int p0)] := hl
  have hP : va_P G.1 vwCl ([(h0, .inr (5, [.ref pad, .ref pp, .ref im, vse, vtr])), (pad, .inr (0, [.ref sg, .ref sl, .int (nI pm)])), (sg, .inl (gI G, 40, .inl fsg)), (sl, .inl (gI G, 10, .inl fsl)), (pp, .inr (1, [.int (nI k), .int told, .int sp, .int (nI (sc k la)), .ref ac, .ref ak])), (ac, .inl (gI G, 6, .inl fc)), (ak, .inl (gI G, 4, .inl fk))]) s.heap := hP
  refine lv_iload_n hx hb dX9_fault_0 rfl (lv_at hl 1 rfl) ?_
  refine lv_if_lt (tgt := 9) hx hb dX9_fault_1 (by decide) (fun c1 => ?_) (fun c1 => ?_)
  · refine lv_bipush (v := (-2)) hx hb dX9_fault_9 (by decide) ?_
    refine lv_goto (tgt := 29) hx hb dX9_fault_11 (by decide) ?_
    have hP9 := (hP.sub (ws' := [(h0, .inr (5, [.ref pad, .ref pp, .ref im, vse, vtr])), (pad, .inr (0, [.ref sg, .ref sl, .int (nI pm)])), (sg, .inl (gI G, 40, .inl fsg)), (sl, .inl (gI G, 10, .inl fsl)), (pp, .inr (1, [.int (nI k), .int told, .int sp, .int (nI (sc k la)), .ref ac, .ref ak])), (ac, .inl (gI G, 6, .inl fc)), (ak, .inl (gI G, 4, .inl fk))]) [0, 1, 2, 3, 4, 5, 6] rfl)
    have hD9 := (hD.sub (ws' := [(h0, .inr (5, [.ref pad, .ref pp, .ref im, vse, vtr])), (pad, .inr (0, [.ref sg, .ref sl, .int (nI pm)])), (sg, .inl (gI G, 40, .inl fsg)), (sl, .inl (gI G, 10, .inl fsl)), (pp, .inr (1, [.int (nI k), .int told, .int sp, .int (nI (sc k la)), .ref ac, .ref ak])), (ac, .inl (gI G, 6, .inl fc)), (ak, .inl (gI G, 4, .inl fk))]) [0, 1, 2, 3, 4, 5, 6] (by decide) rfl)
    exact W.iret (v := (-2)) hx hb hr (fun t9_ ht9_ hW9_ => ⟨⟨(-2), (), rfl, flt_out (by ((try simp only [inR, inS, i3_lt, i3_le, i3_eq, i6_lt, i6_le, Int32.toInt_toInt64, lg_cmp_lt, lg_cmp_gt, lg_cmp_ge, lg_cmp_le, Int32.reduceToInt, Int64.reduceToInt] at c1 ⊢); omega)), by rw [ht9_]; exact hP9, hD9⟩, hS.F ht9_⟩) hS.2.2 dX9_fault_29
  · refine lv_iload_n hx hb dX9_fault_4 rfl (lv_at hl 1 rfl) ?_
    refine lv_iconst (v := 2) hx hb dX9_fault_5 (by decide) ?_
    refine lv_icmp_le (tgt := 14) hx hb dX9_fault_6 (by decide) (fun c2 => ?_) (fun c2 => ?_)
    · refine lv_aload_n hx hb dX9_fault_14 rfl (lv_at hl 0 rfl) ?_
      refine va_get (D := G.1) (ci := 5) (v := .ref pad) (C := RX9) (T := TX9) (N := 5) hx hb hts (fun _ h => List.mem_cons_of_mem _ (List.mem_append_left _ (List.mem_append_left _ (List.mem_append_right _ h)))) hown E.K hP 0 rfl rfl 0 (by decide) (hts (.fieldLink RX9 10 "LastMap" "pad" "LLastMap$Pad;") (by decide +kernel)) (fun _ h9 => h9) rfl dX9_fault_15 ?_
      refine lv_iload_n hx hb dX9_fault_18 rfl (lv_at hl 1 rfl) ?_
      refine lv_aload_n hx hb dX9_fault_19 rfl (lv_at hl 0 rfl) ?_
      refine va_get (D := G.1) (ci := 5) (v := .ref pp) (C := RX9) (T := TX9) (N := 5) hx hb hts (fun _ h => List.mem_cons_of_mem _ (List.mem_append_left _ (List.mem_append_left _ (List.mem_append_right _ h)))) hown E.K hP 0 rfl rfl 1 (by decide) (hts (.fieldLink RX9 19 "LastMap" "papers" "LLastMap$Papers;") (by decide +kernel)) (fun _ h9 => h9) rfl dX9_fault_20 ?_
      refine va_get (D := G.1) (ci := 1) (v := .int (nI k)) (C := RX3) (T := TX3) (N := 6) hx hb hts (fun _ h => List.mem_cons_of_mem _ (List.mem_append_left _ (List.mem_append_right _ h))) hown E.K hP 4 rfl rfl 0 (by decide) (hts (.fieldLink RX9 27 "LastMap$Papers" "siteCount" "I") (by decide +kernel)) (fun _ h9 => h9) rfl dX9_fault_23 ?_
      refine ca_iR (va_runV (As := [.int p0, .int (nI k)]) (rest := []) ⟨hx, hb, hml, hown, hts⟩ (n_firstWrong l G s.heap.size pad sg sl pm fsg fsl k p0 hk2 hk6 (by omega)) (cwV 2 hts gX9_fault_X2_firstWrong rfl rfl rfl (by decide +kernel) ⟨by decide +kernel, by decide +kernel⟩) (pre_V E hP hD hS hA [1, 2, 3] (by decide) rfl 1 0 rfl rfl) rfl rfl hl.1 rfl (lv_room (Nat.le_of_ble_eq_true rfl)) dX9_fault_26 ⟨by decide +kernel, by decide +kernel⟩) hS hP hD hA [1, 2, 3] rfl (fun r4 _ H locs w3 hP hS => ?_)
      have hP9 := (hP.sub (ws' := [(h0, .inr (5, [.ref pad, .ref pp, .ref im, vse, vtr])), (pad, .inr (0, [.ref sg, .ref sl, .int (nI pm)])), (sg, .inl (gI G, 40, .inl fsg)), (sl, .inl (gI G, 10, .inl fsl)), (pp, .inr (1, [.int (nI k), .int told, .int sp, .int (nI (sc k la)), .ref ac, .ref ak])), (ac, .inl (gI G, 6, .inl fc)), (ak, .inl (gI G, 4, .inl fk))]) [0, 1, 2, 3, 4, 5, 6] rfl)
      have hD9 := (hD.sub (ws' := [(h0, .inr (5, [.ref pad, .ref pp, .ref im, vse, vtr])), (pad, .inr (0, [.ref sg, .ref sl, .int (nI pm)])), (sg, .inl (gI G, 40, .inl fsg)), (sl, .inl (gI G, 10, .inl fsl)), (pp, .inr (1, [.int (nI k), .int told, .int sp, .int (nI (sc k la)), .ref ac, .ref ak])), (ac, .inl (gI G, 6, .inl fc)), (ak, .inl (gI G, 4, .inl fk))]) [0, 1, 2, 3, 4, 5, 6] (by decide) rfl)
      exact W.iret (v := r4) hx hb hr (fun t9_ ht9_ hW9_ => ⟨⟨r4, (), rfl, flt_in (by ((try simp only [inR, inS, i3_lt, i3_le, i3_eq, i6_lt, i6_le, Int32.toInt_toInt64, lg_cmp_lt, lg_cmp_gt, lg_cmp_ge, lg_cmp_le, Int32.reduceToInt, Int64.reduceToInt] at c1 c2 ⊢); omega)) (by ((try simp only [inR, inS, i3_lt, i3_le, i3_eq, i6_lt, i6_le, Int32.toInt_toInt64, lg_cmp_lt, lg_cmp_gt, lg_cmp_ge, lg_cmp_le, Int32.reduceToInt, Int64.reduceToInt] at c1 c2 ⊢); omega)) w3, by rw [ht9_]; exact hP9, hD9⟩, hS.F ht9_⟩) hS.2.2 dX9_fault_29
    · refine lv_bipush (v := (-2)) hx hb dX9_fault_9 (by decide) ?_
      refine lv_goto (tgt := 29) hx hb dX9_fault_11 (by decide) ?_
      have hP9 := (hP.sub (ws' := [(h0, .inr (5, [.ref pad, .ref pp, .ref im, vse, vtr])), (pad, .inr (0, [.ref sg, .ref sl, .int (nI pm)])), (sg, .inl (gI G, 40, .inl fsg)), (sl, .inl (gI G, 10, .inl fsl)), (pp, .inr (1, [.int (nI k), .int told, .int sp, .int (nI (sc k la)), .ref ac, .ref ak])), (ac, .inl (gI G, 6, .inl fc)), (ak, .inl (gI G, 4, .inl fk))]) [0, 1, 2, 3, 4, 5, 6] rfl)
      have hD9 := (hD.sub (ws' := [(h0, .inr (5, [.ref pad, .ref pp, .ref im, vse, vtr])), (pad, .inr (0, [.ref sg, .ref sl, .int (nI pm)])), (sg, .inl (gI G, 40, .inl fsg)), (sl, .inl (gI G, 10, .inl fsl)), (pp, .inr (1, [.int (nI k), .int told, .int sp, .int (nI (sc k la)), .ref ac, .ref ak])), (ac, .inl (gI G, 6, .inl fc)), (ak, .inl (gI G, 4, .inl fk))]) [0, 1, 2, 3, 4, 5, 6] (by decide) rfl)
      exact W.iret (v := (-2)) hx hb hr (fun t9_ ht9_ hW9_ => ⟨⟨(-2), (), rfl, flt_out (by ((try simp only [inR, inS, i3_lt, i3_le, i3_eq, i6_lt, i6_le, Int32.toInt_toInt64, lg_cmp_lt, lg_cmp_gt, lg_cmp_ge, lg_cmp_le, Int32.reduceToInt, Int64.reduceToInt] at c1 c2 ⊢); omega)), by rw [ht9_]; exact hP9, hD9⟩, hS.F ht9_⟩) hS.2.2 dX9_fault_29

set_option maxHeartbeats 1000000 in
set_option maxRecDepth 100000 in
theorem g_map (l : Launch) (G : Gy) (sz : Nat) (h0 : Nat) (pad : Nat) (pp : Nat) (im : Nat) (vse : Value) (vtr : Value) (ac : Nat) (ak : Nat) (sg : Nat) (sl : Nat) (k : Nat) (pm : Nat) (la : Nat) (told : Int32) (sp : Int32) (fc : Nat → Int32) (fk : Nat → Int32) (fsg : Nat → Int32) (fsl : Nat → Int32) (ma : Nat → Nat) (p0 : Int32) (hk2 : 2 ≤ k) (hk6 : k ≤ 6) (hpm : pm ≤ 40) (hla : la < 5 ^ k) (hcr : CR k told fc ma) (hsp : inR sp 1 6) : Ci l G yX9_map wsX9_map ({ frames := 5, cells := 0, slots := 0, locals := 116 }) [.ref h0, .int p0] ([(h0, .inr (5, [.ref pad, .ref pp, .ref im, vse, vtr])), (pad, .inr (0, [.ref sg, .ref sl, .int (nI pm)])), (sg, .inl (gI G, 40, .inl fsg)), (sl, .inl (gI G, 10, .inl fsl)), (pp, .inr (1, [.int (nI k), .int told, .int sp, .int (nI (sc k la)), .ref ac, .ref ak])), (ac, .inl (gI G, 6, .inl fc)), (ak, .inl (gI G, 4, .inl fk))]) sz (fun (r : Int32) (u : Int32 × Int32 × (Nat → Int32)) => match u with | (len1, told1, fc1) => r = (mpA k pm fsg p0).1 ∧ COut k (mpA k pm fsg p0).2 p0 told told1 (nI pm) len1 fc fc1) (fun (u : Int32 × Int32 × (Nat → Int32)) => match u with | (len1, told1, fc1) => [(h0, .inr (5, [.ref pad, .ref pp, .ref im, vse, vtr])), (pad, .inr (0, [.ref sg, .ref sl, .int len1])), (sg, .inl (gI G, 40, .inl fsg)), (sl, .inl (gI G, 10, .inl fsl)), (pp, .inr (1, [.int (nI k), .int told1, .int sp, .int (nI (sc k la)), .ref ac, .ref ak])), (ac, .inl (gI G, 6, .inl fc1)), (ak, .inl (gI G, 4, .inl fk))]) 0 0 := by
  refine Met.ofW (cc := cX9_map) (maxL := 2) (ret := (some .int)) (by decide) rfl ?_
  intro p e s m args below meth c s₁ B hml hv
  obtain ⟨rfl, hsz, hP, hD0, E0⟩ := hv
  have hx := B.exec
  have hb := B.bytes
  have hr := B.returns
  have hts := atoms_spec (ws := wsX9_map) B.pre
  have hown : s.vm.findClass RX9 = some m.cls := findClass_of_methodNamed B.named
  have hlocks := B.notSynchronized
  subst hsz
  have hD := hD0.self (sz := s.heap.size)
  generalize hAe : va_A ([(h0, .inr (5, [.ref pad, .ref pp, .ref im, vse, vtr])), (pad, .inr (0, [.ref sg, .ref sl, .int (nI pm)])), (sg, .inl (gI G, 40, .inl fsg)), (sl, .inl (gI G, 10, .inl fsl)), (pp, .inr (1, [.int (nI k), .int told, .int sp, .int (nI (sc k la)), .ref ac, .ref ak])), (ac, .inl (gI G, 6, .inl fc)), (ak, .inl (gI G, 4, .inl fk))]) s.heap.size = A at hD E0 ⊢
  have E : EV G A s s.heap := E0
  have hA : ∀ q : Nat, s.heap.size ≤ q → A q := fun q h => by rw [← hAe]; exact Or.inr h
  have hS : va_S A s.heap s.heap [] := va_S.rf
  have hl := lv_entry ([.ref h0, .int p0]) (n := 2) (Nat.le_of_ble_eq_true rfl)
  rw [lg_entry_eq]
  generalize (lg_sl ([.ref h0, .int p0]) ++ List.replicate (2 - (lg_sl ([.ref h0, .int p0])).length) Slot.unset).toArray = ls at hl ⊢
  have hl : lv_has ls 2 [(0, .ref h0), (1, .int p0)] := hl
  have hP : va_P G.1 vwCl ([(h0, .inr (5, [.ref pad, .ref pp, .ref im, vse, vtr])), (pad, .inr (0, [.ref sg, .ref sl, .int (nI pm)])), (sg, .inl (gI G, 40, .inl fsg)), (sl, .inl (gI G, 10, .inl fsl)), (pp, .inr (1, [.int (nI k), .int told, .int sp, .int (nI (sc k la)), .ref ac, .ref ak])), (ac, .inl (gI G, 6, .inl fc)), (ak, .inl (gI G, 4, .inl fk))]) s.heap := hP
  refine lv_iload_n hx hb dX9_map_0 rfl (lv_at hl 1 rfl) ?_
  refine ca_iR (va_runS (As := [.int p0]) (rest := []) ⟨hx, hb, hml, hown, hts⟩ (c_isMap l G s.heap.size p0) (va_cwS 1 hts gX9_map_X9_isMap rfl rfl rfl (by decide +kernel) ⟨by decide +kernel, by decide +kernel⟩) (pre_S E hP hD hS hA [] (by decide) rfl) rfl rfl hl.1 rfl (lv_room (Nat.le_of_ble_eq_true rfl)) dX9_map_1 ⟨by decide +kernel, by decide +kernel⟩) hS hP hD hA [] rfl (fun r2 _ H locs w1 hP hS => ?_)
  rcases w1 with ⟨rfl, b3⟩ | ⟨rfl, b3⟩
  · refine lv_if_ne (tgt := 9) hx hb dX9_map_4 (by decide) (fun _ => ?_) (fun c4 => False.elim (by revert c4; decide))
    refine lv_aload_n hx hb dX9_map_9 rfl (lv_at hl 0 rfl) ?_
    refine va_get (D := G.1) (ci := 5) (v := .ref pad) (C := RX9) (T := TX9) (N := 5) hx hb hts (fun _ h => List.mem_cons_of_mem _ (List.mem_append_left _ (List.mem_append_left _ (List.mem_append_right _ h)))) hown E.K hP 0 rfl rfl 0 (by decide) (hts (.fieldLink RX9 10 "LastMap" "pad" "LLastMap$Pad;") (by decide +kernel)) (fun _ h9 => h9) rfl dX9_map_10 ?_
    refine lv_iconst (v := 0) hx hb dX9_map_13 (by decide) ?_
    refine lv_aload_n hx hb dX9_map_14 rfl (lv_at hl 0 rfl) ?_
    refine va_get (D := G.1) (ci := 5) (v := .ref pp) (C := RX9) (T := TX9) (N := 5) hx hb hts (fun _ h => List.mem_cons_of_mem _ (List.mem_append_left _ (List.mem_append_left _ (List.mem_append_right _ h)))) hown E.K hP 0 rfl rfl 1 (by decide) (hts (.fieldLink RX9 19 "LastMap" "papers" "LLastMap$Papers;") (by decide +kernel)) (fun _ h9 => h9) rfl dX9_map_15 ?_
    refine va_get (D := G.1) (ci := 1) (v := .int (nI k)) (C := RX3) (T := TX3) (N := 6) hx hb hts (fun _ h => List.mem_cons_of_mem _ (List.mem_append_left _ (List.mem_append_right _ h))) hown E.K hP 4 rfl rfl 0 (by decide) (hts (.fieldLink RX9 27 "LastMap$Papers" "siteCount" "I") (by decide +kernel)) (fun _ h9 => h9) rfl dX9_map_18 ?_
    refine ca_iR (va_runV (As := [.int 0, .int (nI k)]) (rest := []) ⟨hx, hb, hml, hown, hts⟩ (n_firstWrong l G H.size pad sg sl pm fsg fsl k 0 hk2 hk6 (by omega)) (cwV 2 hts gX9_map_X2_firstWrong rfl rfl rfl (by decide +kernel) ⟨by decide +kernel, by decide +kernel⟩) (pre_V E hP hD hS hA [1, 2, 3] (by decide) rfl 1 0 rfl rfl) rfl rfl hl.1 rfl (lv_room (Nat.le_of_ble_eq_true rfl)) dX9_map_21 ⟨by decide +kernel, by decide +kernel⟩) hS hP hD hA [1, 2, 3] rfl (fun r6 _ H locs w5 hP hS => ?_)
    refine lv_bipush (v := (-6)) hx hb dX9_map_24 (by decide) ?_
    refine lv_icmp_eq (tgt := 32) hx hb dX9_map_26 (by decide) (fun c7 => ?_) (fun c7 => ?_)
    · have hfm0 : fmF fsg pm k False pm 0 = (-6) := by rw [← fw_0 w5]; exact c7
      obtain ⟨hpk, hcan⟩ := fmF_map hpm not_false hfm0
      refine lv_aload_n hx hb dX9_map_32 rfl (lv_at hl 0 rfl) ?_
      refine va_get (D := G.1) (ci := 5) (v := .ref pp) (C := RX9) (T := TX9) (N := 5) hx hb hts (fun _ h => List.mem_cons_of_mem _ (List.mem_append_left _ (List.mem_append_left _ (List.mem_append_right _ h)))) hown E.K hP 0 rfl rfl 1 (by decide) (hts (.fieldLink RX9 19 "LastMap" "papers" "LLastMap$Papers;") (by decide +kernel)) (fun _ h9 => h9) rfl dX9_map_33 ?_
      refine lv_iload_n hx hb dX9_map_36 rfl (lv_at hl 1 rfl) ?_
      refine lv_aload_n hx hb dX9_map_37 rfl (lv_at hl 0 rfl) ?_
      refine va_get (D := G.1) (ci := 5) (v := .ref pad) (C := RX9) (T := TX9) (N := 5) hx hb hts (fun _ h => List.mem_cons_of_mem _ (List.mem_append_left _ (List.mem_append_left _ (List.mem_append_right _ h)))) hown E.K hP 0 rfl rfl 0 (by decide) (hts (.fieldLink RX9 10 "LastMap" "pad" "LLastMap$Pad;") (by decide +kernel)) (fun _ h9 => h9) rfl dX9_map_38 ?_
      refine ca_iR (va_runV (As := []) (rest := [.int p0, .ref pp]) ⟨hx, hb, hml, hown, hts⟩ (n_mapCode l G H.size pad sg sl pm fsg fsl (by omega) (by omega) (fun i hi => hcan i (by omega))) (cwV 0 hts gX9_map_X2_mapCode rfl rfl rfl (by decide +kernel) ⟨by decide +kernel, by decide +kernel⟩) (pre_V E hP hD hS hA [1, 2, 3] (by decide) rfl 1 0 rfl rfl) rfl rfl hl.1 rfl (lv_room (Nat.le_of_ble_eq_true rfl)) dX9_map_41 ⟨by decide +kernel, by decide +kernel⟩) hS hP hD hA [1, 2, 3] rfl (fun r9 _ H locs w8 hP hS => ?_)
      obtain ⟨q9, eq9, hq9, hd9, hz9⟩ := w8
      obtain rfl : r9 = nI (sc k (mkM fsg k)) := by rw [eq9, map_code hk6 hcan hq9 (fun j hj => hd9 j (by omega)) (fun j h1 h2 => hz9 j (by omega) h2)]
      refine ca_v (wr := [(h0, .inr (5, [.ref pad, .ref pp, .ref im, vse, vtr])), (pad, .inr (0, [.ref sg, .ref sl, .int (nI pm)])), (sg, .inl (gI G, 40, .inl fsg)), (sl, .inl (gI G, 10, .inl fsl))]) (va_runV (As := [.int p0, .int (nI (sc k (mkM fsg k)))]) (rest := []) ⟨hx, hb, hml, hown, hts⟩ (n_tell l G H.size pp ac ak (nI k) told sp (nI (sc k la)) fc fk p0 (nI (sc k (mkM fsg k))) b3) (cwV 2 hts gX9_map_X3_tell rfl rfl rfl (by decide +kernel) ⟨by decide +kernel, by decide +kernel⟩) (pre_V E hP hD hS hA [4, 5, 6] (by decide) rfl 4 1 rfl rfl) rfl rfl hl.1 rfl (lv_room (Nat.le_of_ble_eq_true rfl)) dX9_map_44 ⟨by decide +kernel, by decide +kernel⟩) hS hP hD hA [4, 5, 6] [0, 1, 2, 3] rfl rfl (by decide) (by decide) (fun u12 H locs w10 hP hD hS => ?_)
      obtain ⟨told1_13, fc1_14⟩ := u12
      try dsimp only at w10 hP hD
      have hP := (hP.sub (ws' := [(h0, .inr (5, [.ref pad, .ref pp, .ref im, vse, vtr])), (pad, .inr (0, [.ref sg, .ref sl, .int (nI pm)])), (sg, .inl (gI G, 40, .inl fsg)), (sl, .inl (gI G, 10, .inl fsl)), (pp, .inr (1, [.int (nI k), .int told1_13, .int sp, .int (nI (sc k la)), .ref ac, .ref ak])), (ac, .inl (gI G, 6, .inl fc1_14)), (ak, .inl (gI G, 4, .inl fk))]) [0, 1, 2, 3, 4, 5, 6] rfl)
      have hD := (hD.sub (ws' := [(h0, .inr (5, [.ref pad, .ref pp, .ref im, vse, vtr])), (pad, .inr (0, [.ref sg, .ref sl, .int (nI pm)])), (sg, .inl (gI G, 40, .inl fsg)), (sl, .inl (gI G, 10, .inl fsl)), (pp, .inr (1, [.int (nI k), .int told1_13, .int sp, .int (nI (sc k la)), .ref ac, .ref ak])), (ac, .inl (gI G, 6, .inl fc1_14)), (ak, .inl (gI G, 4, .inl fk))]) [0, 1, 2, 3, 4, 5, 6] (by decide) rfl)
      refine lv_aload_n hx hb dX9_map_47 rfl (lv_at hl 0 rfl) ?_
      refine va_get (D := G.1) (ci := 5) (v := .ref pad) (C := RX9) (T := TX9) (N := 5) hx hb hts (fun _ h => List.mem_cons_of_mem _ (List.mem_append_left _ (List.mem_append_left _ (List.mem_append_right _ h)))) hown E.K hP 0 rfl rfl 0 (by decide) (hts (.fieldLink RX9 10 "LastMap" "pad" "LLastMap$Pad;") (by decide +kernel)) (fun _ h9 => h9) rfl dX9_map_48 ?_
      refine lv_iconst (v := 0) hx hb dX9_map_51 (by decide) ?_
      refine va_put (D := G.1) (ci := 0) (v := .int 0) (ty := .int) (C := RX2) (T := TX2) (N := 3) hx hb hts (fun _ h => List.mem_cons_of_mem _ (List.mem_append_right _ h)) tyX2 tyX2_ok nmX2 hown E.K hP hD hS 1 rfl rfl 2 (by decide) (hts (.fieldLink RX9 41 "LastMap$Pad" "length" "I") (by decide +kernel)) (fun _ h9 => h9) rfl (by decide +kernel) rfl rfl (Nat.le_of_ble_eq_true rfl) dX9_map_52 (fun H locs hP hD hS => ?_)
      have hP : va_P G.1 vwCl ([(h0, .inr (5, [.ref pad, .ref pp, .ref im, vse, vtr])), (pad, .inr (0, [.ref sg, .ref sl, .int 0])), (sg, .inl (gI G, 40, .inl fsg)), (sl, .inl (gI G, 10, .inl fsl)), (pp, .inr (1, [.int (nI k), .int told1_13, .int sp, .int (nI (sc k la)), .ref ac, .ref ak])), (ac, .inl (gI G, 6, .inl fc1_14)), (ak, .inl (gI G, 4, .inl fk))]) H := hP
      have hD : va_D A ([(h0, .inr (5, [.ref pad, .ref pp, .ref im, vse, vtr])), (pad, .inr (0, [.ref sg, .ref sl, .int 0])), (sg, .inl (gI G, 40, .inl fsg)), (sl, .inl (gI G, 10, .inl fsl)), (pp, .inr (1, [.int (nI k), .int told1_13, .int sp, .int (nI (sc k la)), .ref ac, .ref ak])), (ac, .inl (gI G, 6, .inl fc1_14)), (ak, .inl (gI G, 4, .inl fk))]) := hD
      refine lv_iconst (v := 1) hx hb dX9_map_55 (by decide) ?_
      have hP9 := (hP.sub (ws' := [(h0, .inr (5, [.ref pad, .ref pp, .ref im, vse, vtr])), (pad, .inr (0, [.ref sg, .ref sl, .int 0])), (sg, .inl (gI G, 40, .inl fsg)), (sl, .inl (gI G, 10, .inl fsl)), (pp, .inr (1, [.int (nI k), .int told1_13, .int sp, .int (nI (sc k la)), .ref ac, .ref ak])), (ac, .inl (gI G, 6, .inl fc1_14)), (ak, .inl (gI G, 4, .inl fk))]) [0, 1, 2, 3, 4, 5, 6] rfl)
      have hD9 := (hD.sub (ws' := [(h0, .inr (5, [.ref pad, .ref pp, .ref im, vse, vtr])), (pad, .inr (0, [.ref sg, .ref sl, .int 0])), (sg, .inl (gI G, 40, .inl fsg)), (sl, .inl (gI G, 10, .inl fsl)), (pp, .inr (1, [.int (nI k), .int told1_13, .int sp, .int (nI (sc k la)), .ref ac, .ref ak])), (ac, .inl (gI G, 6, .inl fc1_14)), (ak, .inl (gI G, 4, .inl fk))]) [0, 1, 2, 3, 4, 5, 6] (by decide) rfl)
      exact W.iret (v := 1) hx hb hr (fun t9_ ht9_ hW9_ => ⟨⟨1, (0, told1_13, fc1_14), rfl, CO_s (mpA_3 b3 hfm0) b3 (mkM_ok k hcan).1 rfl w10.1 w10.2, by rw [ht9_]; exact hP9, hD9⟩, hS.F ht9_⟩) hS.2.2 dX9_map_56
    · refine lv_bipush (v := (-5)) hx hb dX9_map_29 (by decide) ?_
      have hP9 := (hP.sub (ws' := [(h0, .inr (5, [.ref pad, .ref pp, .ref im, vse, vtr])), (pad, .inr (0, [.ref sg, .ref sl, .int (nI pm)])), (sg, .inl (gI G, 40, .inl fsg)), (sl, .inl (gI G, 10, .inl fsl)), (pp, .inr (1, [.int (nI k), .int told, .int sp, .int (nI (sc k la)), .ref ac, .ref ak])), (ac, .inl (gI G, 6, .inl fc)), (ak, .inl (gI G, 4, .inl fk))]) [0, 1, 2, 3, 4, 5, 6] rfl)
      have hD9 := (hD.sub (ws' := [(h0, .inr (5, [.ref pad, .ref pp, .ref im, vse, vtr])), (pad, .inr (0, [.ref sg, .ref sl, .int (nI pm)])), (sg, .inl (gI G, 40, .inl fsg)), (sl, .inl (gI G, 10, .inl fsl)), (pp, .inr (1, [.int (nI k), .int told, .int sp, .int (nI (sc k la)), .ref ac, .ref ak])), (ac, .inl (gI G, 6, .inl fc)), (ak, .inl (gI G, 4, .inl fk))]) [0, 1, 2, 3, 4, 5, 6] (by decide) rfl)
      exact W.iret (v := (-5)) hx hb hr (fun t9_ ht9_ hW9_ => ⟨⟨(-5), (nI pm, told, fc), rfl, CO_n (mpA_2 b3 (fun q9 => c7 (by rw [fw_0 w5]; exact q9))) rfl, by rw [ht9_]; exact hP9, hD9⟩, hS.F ht9_⟩) hS.2.2 dX9_map_31
  · refine lv_if_ne (tgt := 9) hx hb dX9_map_4 (by decide) (fun c15 => False.elim (by revert c15; decide)) (fun _ => ?_)
    refine lv_iconst (v := (-1)) hx hb dX9_map_7 (by decide) ?_
    have hP9 := (hP.sub (ws' := [(h0, .inr (5, [.ref pad, .ref pp, .ref im, vse, vtr])), (pad, .inr (0, [.ref sg, .ref sl, .int (nI pm)])), (sg, .inl (gI G, 40, .inl fsg)), (sl, .inl (gI G, 10, .inl fsl)), (pp, .inr (1, [.int (nI k), .int told, .int sp, .int (nI (sc k la)), .ref ac, .ref ak])), (ac, .inl (gI G, 6, .inl fc)), (ak, .inl (gI G, 4, .inl fk))]) [0, 1, 2, 3, 4, 5, 6] rfl)
    have hD9 := (hD.sub (ws' := [(h0, .inr (5, [.ref pad, .ref pp, .ref im, vse, vtr])), (pad, .inr (0, [.ref sg, .ref sl, .int (nI pm)])), (sg, .inl (gI G, 40, .inl fsg)), (sl, .inl (gI G, 10, .inl fsl)), (pp, .inr (1, [.int (nI k), .int told, .int sp, .int (nI (sc k la)), .ref ac, .ref ak])), (ac, .inl (gI G, 6, .inl fc)), (ak, .inl (gI G, 4, .inl fk))]) [0, 1, 2, 3, 4, 5, 6] (by decide) rfl)
    exact W.iret (v := (-1)) hx hb hr (fun t9_ ht9_ hW9_ => ⟨⟨(-1), (nI pm, told, fc), rfl, CO_n (mpA_1 b3) rfl, by rw [ht9_]; exact hP9, hD9⟩, hS.F ht9_⟩) hS.2.2 dX9_map_8

set_option maxHeartbeats 1000000 in
set_option maxRecDepth 100000 in
theorem g_at (l : Launch) (G : Gy) (sz : Nat) (h0 : Nat) (pad : Nat) (pp : Nat) (im : Nat) (vse : Value) (vtr : Value) (ac : Nat) (ak : Nat) (sg : Nat) (sl : Nat) (k : Nat) (pm : Nat) (la : Nat) (told : Int32) (sp : Int32) (fc : Nat → Int32) (fk : Nat → Int32) (fsg : Nat → Int32) (fsl : Nat → Int32) (ma : Nat → Nat) (p0 : Int32) (p1 : Int32) (hk2 : 2 ≤ k) (hk6 : k ≤ 6) (hpm : pm ≤ 40) (hla : la < 5 ^ k) (hcr : CR k told fc ma) (hsp : inR sp 1 6) : Ci l G yX9_at wsX9_at ({ frames := 3, cells := 0, slots := 0, locals := 62 }) [.ref h0, .int p0, .int p1] ([(h0, .inr (5, [.ref pad, .ref pp, .ref im, vse, vtr])), (pad, .inr (0, [.ref sg, .ref sl, .int (nI pm)])), (sg, .inl (gI G, 40, .inl fsg)), (sl, .inl (gI G, 10, .inl fsl)), (pp, .inr (1, [.int (nI k), .int told, .int sp, .int (nI (sc k la)), .ref ac, .ref ak])), (ac, .inl (gI G, 6, .inl fc)), (ak, .inl (gI G, 4, .inl fk))]) sz (fun (r : Int32) (_ : Unit) => r = atA k told ma p0 p1) (fun (_ : Unit) => [(h0, .inr (5, [.ref pad, .ref pp, .ref im, vse, vtr])), (pad, .inr (0, [.ref sg, .ref sl, .int (nI pm)])), (sg, .inl (gI G, 40, .inl fsg)), (sl, .inl (gI G, 10, .inl fsl)), (pp, .inr (1, [.int (nI k), .int told, .int sp, .int (nI (sc k la)), .ref ac, .ref ak])), (ac, .inl (gI G, 6, .inl fc)), (ak, .inl (gI G, 4, .inl fk))]) 0 0 := by
  refine Met.ofW (cc := cX9_at) (maxL := 3) (ret := (some .int)) (by decide) rfl ?_
  intro p e s m args below meth c s₁ B hml hv
  obtain ⟨rfl, hsz, hP, hD0, E0⟩ := hv
  have hx := B.exec
  have hb := B.bytes
  have hr := B.returns
  have hts := atoms_spec (ws := wsX9_at) B.pre
  have hown : s.vm.findClass RX9 = some m.cls := findClass_of_methodNamed B.named
  have hlocks := B.notSynchronized
  subst hsz
  have hD := hD0.self (sz := s.heap.size)
  generalize hAe : va_A ([(h0, .inr (5, [.ref pad, .ref pp, .ref im, vse, vtr])), (pad, .inr (0, [.ref sg, .ref sl, .int (nI pm)])), (sg, .inl (gI G, 40, .inl fsg)), (sl, .inl (gI G, 10, .inl fsl)), (pp, .inr (1, [.int (nI k), .int told, .int sp, .int (nI (sc k la)), .ref ac, .ref ak])), (ac, .inl (gI G, 6, .inl fc)), (ak, .inl (gI G, 4, .inl fk))]) s.heap.size = A at hD E0 ⊢
  have E : EV G A s s.heap := E0
  have hA : ∀ q : Nat, s.heap.size ≤ q → A q := fun q h => by rw [← hAe]; exact Or.inr h
  have hS : va_S A s.heap s.heap [] := va_S.rf
  have hl := lv_entry ([.ref h0, .int p0, .int p1]) (n := 3) (Nat.le_of_ble_eq_true rfl)
  rw [lg_entry_eq]
  generalize (lg_sl ([.ref h0, .int p0, .int p1]) ++ List.replicate (3 - (lg_sl ([.ref h0, .int p0, .int p1])).length) Slot.unset).toArray = ls at hl ⊢
  have hl : lv_has ls 3 [(0, .ref h0), (1, .int p0), (2, .int p1)] := hl
  have hP : va_P G.1 vwCl ([(h0, .inr (5, [.ref pad, .ref pp, .ref im, vse, vtr])), (pad, .inr (0, [.ref sg, .ref sl, .int (nI pm)])), (sg, .inl (gI G, 40, .inl fsg)), (sl, .inl (gI G, 10, .inl fsl)), (pp, .inr (1, [.int (nI k), .int told, .int sp, .int (nI (sc k la)), .ref ac, .ref ak])), (ac, .inl (gI G, 6, .inl fc)), (ak, .inl (gI G, 4, .inl fk))]) s.heap := hP
  refine lv_iload_n hx hb dX9_at_0 rfl (lv_at hl 1 rfl) ?_
  refine ca_iR (va_runS (As := [.int p0]) (rest := []) ⟨hx, hb, hml, hown, hts⟩ (c_isMap l G s.heap.size p0) (va_cwS 1 hts gX9_at_X9_isMap rfl rfl rfl (by decide +kernel) ⟨by decide +kernel, by decide +kernel⟩) (pre_S E hP hD hS hA [] (by decide) rfl) rfl rfl hl.1 rfl (lv_room (Nat.le_of_ble_eq_true rfl)) dX9_at_1 ⟨by decide +kernel, by decide +kernel⟩) hS hP hD hA [] rfl (fun r2 _ H locs w1 hP hS => ?_)
  rcases w1 with ⟨rfl, b3⟩ | ⟨rfl, b3⟩
  · refine lv_if_eq (tgt := 15) hx hb dX9_at_4 (by decide) (fun c4 => False.elim (by revert c4; decide)) (fun _ => ?_)
    refine lv_aload_n hx hb dX9_at_7 rfl (lv_at hl 0 rfl) ?_
    refine lv_iload_n hx hb dX9_at_8 rfl (lv_at hl 2 rfl) ?_
    refine ca_iR (va_runV (As := [.int p1]) (rest := []) ⟨hx, hb, hml, hown, hts⟩ (n_isSite l G H.size h0 pad pp im vse vtr ac ak k told sp (nI (sc k la)) p1 hk6) (cwV 1 hts gX9_at_X9_isSite rfl rfl rfl (by decide +kernel) ⟨by decide +kernel, by decide +kernel⟩) (pre_V E hP hD hS hA [0, 4] (by decide) rfl 0 5 rfl rfl) rfl rfl hl.1 rfl (lv_room (Nat.le_of_ble_eq_true rfl)) dX9_at_9 ⟨by decide +kernel, by decide +kernel⟩) hS hP hD hA [0, 4] rfl (fun r6 _ H locs w5 hP hS => ?_)
    rcases w5 with ⟨rfl, b7⟩ | ⟨rfl, b7⟩
    · refine lv_if_ne (tgt := 17) hx hb dX9_at_12 (by decide) (fun _ => ?_) (fun c8 => False.elim (by revert c8; decide))
      refine lv_aload_n hx hb dX9_at_17 rfl (lv_at hl 0 rfl) ?_
      refine lv_iload_n hx hb dX9_at_18 rfl (lv_at hl 1 rfl) ?_
      refine ca_iR (va_runV (As := [.int p0]) (rest := []) ⟨hx, hb, hml, hown, hts⟩ (n_isTold l G H.size h0 pad pp im vse vtr ac ak (nI k) told sp (nI (sc k la)) p0) (cwV 1 hts gX9_at_X9_isTold rfl rfl rfl (by decide +kernel) ⟨by decide +kernel, by decide +kernel⟩) (pre_V E hP hD hS hA [0, 4] (by decide) rfl 0 5 rfl rfl) rfl rfl hl.1 rfl (lv_room (Nat.le_of_ble_eq_true rfl)) dX9_at_19 ⟨by decide +kernel, by decide +kernel⟩) hS hP hD hA [0, 4] rfl (fun r10 _ H locs w9 hP hS => ?_)
      rcases w9 with ⟨rfl, b11⟩ | ⟨rfl, b11⟩
      · refine lv_if_ne (tgt := 28) hx hb dX9_at_22 (by decide) (fun _ => ?_) (fun c12 => False.elim (by revert c12; decide))
        obtain ⟨j_p0, hj_p0, ej_p0⟩ := inR6 b3
        have hl : lv_has ls 3 [(0, .ref h0), (1, .int (nI j_p0)), (2, .int p1)] := by have q := hl; rw [ej_p0] at q; exact q
        have htd := b11.2
        have hcj := hcr j_p0 hj_p0 (by rw [← ej_p0]; exact htd)
        have hc6 := sc_lt hk6 hcj.1
        obtain ⟨j_p1, hj_p1, ej_p1⟩ := b7
        have hl : lv_has ls 3 [(0, .ref h0), (1, .int (nI j_p0)), (2, .int (nI j_p1))] := by have q := hl; rw [ej_p1] at q; exact q
        refine lv_aload_n hx hb dX9_at_28 rfl (lv_at hl 0 rfl) ?_
        refine va_get (D := G.1) (ci := 5) (v := .ref pp) (C := RX9) (T := TX9) (N := 5) hx hb hts (fun _ h => List.mem_cons_of_mem _ (List.mem_append_left _ (List.mem_append_right _ h))) hown E.K hP 0 rfl rfl 1 (by decide) (hts (.fieldLink RX9 19 "LastMap" "papers" "LLastMap$Papers;") (by decide +kernel)) (fun _ h9 => h9) rfl dX9_at_29 ?_
        refine lv_iload_n hx hb dX9_at_32 rfl (lv_at hl 1 rfl) ?_
        refine ca_iR (va_runV (As := [.int (nI j_p0)]) (rest := []) ⟨hx, hb, hml, hown, hts⟩ (n_codeOf l G H.size pp ac ak (nI k) told sp (nI (sc k la)) fc fk j_p0 (by omega)) (cwV 1 hts gX9_at_X3_codeOf rfl rfl rfl (by decide +kernel) ⟨by decide +kernel, by decide +kernel⟩) (pre_V E hP hD hS hA [4, 5, 6] (by decide) rfl 4 1 rfl rfl) rfl rfl hl.1 rfl (lv_room (Nat.le_of_ble_eq_true rfl)) dX9_at_33 ⟨by decide +kernel, by decide +kernel⟩) hS hP hD hA [4, 5, 6] rfl (fun r14 _ H locs w13 hP hS => ?_)
        obtain rfl : r14 = nI (sc k (ma j_p0)) := by rw [w13]; exact hcj.2
        refine lv_iload_n hx hb dX9_at_36 rfl (lv_at hl 2 rfl) ?_
        refine ca_iR (va_runS (As := [.int (nI (sc k (ma j_p0))), .int (nI j_p1)]) (rest := []) ⟨hx, hb, hml, hown, hts⟩ (n_signAt l G H.size (sc k (ma j_p0)) j_p1 (by first | exact hc6 | omega) (by omega)) (va_cwS 2 hts gX9_at_X1_signAt rfl rfl rfl (by decide +kernel) ⟨by decide +kernel, by decide +kernel⟩) (pre_S E hP hD hS hA [] (by decide) rfl) rfl rfl hl.1 rfl (lv_room (Nat.le_of_ble_eq_true rfl)) dX9_at_37 ⟨by decide +kernel, by decide +kernel⟩) hS hP hD hA [] rfl (fun r16 _ H locs w15 hP hS => ?_)
        rw [w15]
        refine ca_iR (va_runS (As := [.int (nI (dg 6 (sc k (ma j_p0)) j_p1))]) (rest := []) ⟨hx, hb, hml, hown, hts⟩ (n_written l G H.size (dg 6 (sc k (ma j_p0)) j_p1) (dg_lt _ _ _)) (va_cwS 1 hts gX9_at_X5_written rfl rfl rfl (by decide +kernel) ⟨by decide +kernel, by decide +kernel⟩) (pre_S E hP hD hS hA [] (by decide) rfl) rfl rfl hl.1 rfl (lv_room (Nat.le_of_ble_eq_true rfl)) dX9_at_40 ⟨by decide +kernel, by decide +kernel⟩) hS hP hD hA [] rfl (fun r18 _ H locs w17 hP hS => ?_)
        have hP9 := (hP.sub (ws' := [(h0, .inr (5, [.ref pad, .ref pp, .ref im, vse, vtr])), (pad, .inr (0, [.ref sg, .ref sl, .int (nI pm)])), (sg, .inl (gI G, 40, .inl fsg)), (sl, .inl (gI G, 10, .inl fsl)), (pp, .inr (1, [.int (nI k), .int told, .int sp, .int (nI (sc k la)), .ref ac, .ref ak])), (ac, .inl (gI G, 6, .inl fc)), (ak, .inl (gI G, 4, .inl fk))]) [0, 1, 2, 3, 4, 5, 6] rfl)
        have hD9 := (hD.sub (ws' := [(h0, .inr (5, [.ref pad, .ref pp, .ref im, vse, vtr])), (pad, .inr (0, [.ref sg, .ref sl, .int (nI pm)])), (sg, .inl (gI G, 40, .inl fsg)), (sl, .inl (gI G, 10, .inl fsl)), (pp, .inr (1, [.int (nI k), .int told, .int sp, .int (nI (sc k la)), .ref ac, .ref ak])), (ac, .inl (gI G, 6, .inl fc)), (ak, .inl (gI G, 4, .inl fk))]) [0, 1, 2, 3, 4, 5, 6] (by decide) rfl)
        exact W.iret (v := r18) hx hb hr (fun t9_ ht9_ hW9_ => ⟨⟨r18, (), rfl, by rw [w17, dg_sc hk6 hj_p1]; exact atA_3 hk6 hj_p0 hj_p1 ej_p0 ej_p1 htd, by rw [ht9_]; exact hP9, hD9⟩, hS.F ht9_⟩) hS.2.2 dX9_at_43
      · refine lv_if_ne (tgt := 28) hx hb dX9_at_22 (by decide) (fun c19 => False.elim (by revert c19; decide)) (fun _ => ?_)
        refine lv_bipush (v := (-3)) hx hb dX9_at_25 (by decide) ?_
        have hP9 := (hP.sub (ws' := [(h0, .inr (5, [.ref pad, .ref pp, .ref im, vse, vtr])), (pad, .inr (0, [.ref sg, .ref sl, .int (nI pm)])), (sg, .inl (gI G, 40, .inl fsg)), (sl, .inl (gI G, 10, .inl fsl)), (pp, .inr (1, [.int (nI k), .int told, .int sp, .int (nI (sc k la)), .ref ac, .ref ak])), (ac, .inl (gI G, 6, .inl fc)), (ak, .inl (gI G, 4, .inl fk))]) [0, 1, 2, 3, 4, 5, 6] rfl)
        have hD9 := (hD.sub (ws' := [(h0, .inr (5, [.ref pad, .ref pp, .ref im, vse, vtr])), (pad, .inr (0, [.ref sg, .ref sl, .int (nI pm)])), (sg, .inl (gI G, 40, .inl fsg)), (sl, .inl (gI G, 10, .inl fsl)), (pp, .inr (1, [.int (nI k), .int told, .int sp, .int (nI (sc k la)), .ref ac, .ref ak])), (ac, .inl (gI G, 6, .inl fc)), (ak, .inl (gI G, 4, .inl fk))]) [0, 1, 2, 3, 4, 5, 6] (by decide) rfl)
        exact W.iret (v := (-3)) hx hb hr (fun t9_ ht9_ hW9_ => ⟨⟨(-3), (), rfl, atA_2 ⟨b3, b7⟩ (fun q9 => b11 ⟨b3, q9⟩), by rw [ht9_]; exact hP9, hD9⟩, hS.F ht9_⟩) hS.2.2 dX9_at_27
    · refine lv_if_ne (tgt := 17) hx hb dX9_at_12 (by decide) (fun c20 => False.elim (by revert c20; decide)) (fun _ => ?_)
      refine lv_iconst (v := (-1)) hx hb dX9_at_15 (by decide) ?_
      have hP9 := (hP.sub (ws' := [(h0, .inr (5, [.ref pad, .ref pp, .ref im, vse, vtr])), (pad, .inr (0, [.ref sg, .ref sl, .int (nI pm)])), (sg, .inl (gI G, 40, .inl fsg)), (sl, .inl (gI G, 10, .inl fsl)), (pp, .inr (1, [.int (nI k), .int told, .int sp, .int (nI (sc k la)), .ref ac, .ref ak])), (ac, .inl (gI G, 6, .inl fc)), (ak, .inl (gI G, 4, .inl fk))]) [0, 1, 2, 3, 4, 5, 6] rfl)
      have hD9 := (hD.sub (ws' := [(h0, .inr (5, [.ref pad, .ref pp, .ref im, vse, vtr])), (pad, .inr (0, [.ref sg, .ref sl, .int (nI pm)])), (sg, .inl (gI G, 40, .inl fsg)), (sl, .inl (gI G, 10, .inl fsl)), (pp, .inr (1, [.int (nI k), .int told, .int sp, .int (nI (sc k la)), .ref ac, .ref ak])), (ac, .inl (gI G, 6, .inl fc)), (ak, .inl (gI G, 4, .inl fk))]) [0, 1, 2, 3, 4, 5, 6] (by decide) rfl)
      exact W.iret (v := (-1)) hx hb hr (fun t9_ ht9_ hW9_ => ⟨⟨(-1), (), rfl, atA_1 (fun q9 => b7 q9.2), by rw [ht9_]; exact hP9, hD9⟩, hS.F ht9_⟩) hS.2.2 dX9_at_16
  · refine lv_if_eq (tgt := 15) hx hb dX9_at_4 (by decide) (fun _ => ?_) (fun c21 => False.elim (by revert c21; decide))
    refine lv_iconst (v := (-1)) hx hb dX9_at_15 (by decide) ?_
    have hP9 := (hP.sub (ws' := [(h0, .inr (5, [.ref pad, .ref pp, .ref im, vse, vtr])), (pad, .inr (0, [.ref sg, .ref sl, .int (nI pm)])), (sg, .inl (gI G, 40, .inl fsg)), (sl, .inl (gI G, 10, .inl fsl)), (pp, .inr (1, [.int (nI k), .int told, .int sp, .int (nI (sc k la)), .ref ac, .ref ak])), (ac, .inl (gI G, 6, .inl fc)), (ak, .inl (gI G, 4, .inl fk))]) [0, 1, 2, 3, 4, 5, 6] rfl)
    have hD9 := (hD.sub (ws' := [(h0, .inr (5, [.ref pad, .ref pp, .ref im, vse, vtr])), (pad, .inr (0, [.ref sg, .ref sl, .int (nI pm)])), (sg, .inl (gI G, 40, .inl fsg)), (sl, .inl (gI G, 10, .inl fsl)), (pp, .inr (1, [.int (nI k), .int told, .int sp, .int (nI (sc k la)), .ref ac, .ref ak])), (ac, .inl (gI G, 6, .inl fc)), (ak, .inl (gI G, 4, .inl fk))]) [0, 1, 2, 3, 4, 5, 6] (by decide) rfl)
    exact W.iret (v := (-1)) hx hb hr (fun t9_ ht9_ hW9_ => ⟨⟨(-1), (), rfl, atA_1 (fun q9 => b3 q9.1), by rw [ht9_]; exact hP9, hD9⟩, hS.F ht9_⟩) hS.2.2 dX9_at_16

set_option maxHeartbeats 1000000 in
set_option maxRecDepth 100000 in
theorem g_judge (l : Launch) (G : Gy) (sz : Nat) (h0 : Nat) (pad : Nat) (pp : Nat) (im : Nat) (vse : Value) (vtr : Value) (ac : Nat) (ak : Nat) (sg : Nat) (sl : Nat) (k : Nat) (pm : Nat) (la : Nat) (told : Int32) (sp : Int32) (fc : Nat → Int32) (fk : Nat → Int32) (fsg : Nat → Int32) (fsl : Nat → Int32) (ma : Nat → Nat) (p0 : Int32) (hk2 : 2 ≤ k) (hk6 : k ≤ 6) (hpm : pm ≤ 40) (hla : la < 5 ^ k) (hcr : CR k told fc ma) (hsp : inR sp 1 6) : Ci l G yX9_judge wsX9_judge ({ frames := 5, cells := 0, slots := 0, locals := 116 }) [.ref h0, .int p0] ([(h0, .inr (5, [.ref pad, .ref pp, .ref im, vse, vtr])), (pad, .inr (0, [.ref sg, .ref sl, .int (nI pm)])), (sg, .inl (gI G, 40, .inl fsg)), (sl, .inl (gI G, 10, .inl fsl)), (pp, .inr (1, [.int (nI k), .int told, .int sp, .int (nI (sc k la)), .ref ac, .ref ak])), (ac, .inl (gI G, 6, .inl fc)), (ak, .inl (gI G, 4, .inl fk))]) sz (fun (r : Int32) (fsl1 : Nat → Int32) => r = jdA k pm told fsg ma p0) (fun (fsl1 : Nat → Int32) => [(h0, .inr (5, [.ref pad, .ref pp, .ref im, vse, vtr])), (pad, .inr (0, [.ref sg, .ref sl, .int (nI pm)])), (sg, .inl (gI G, 40, .inl fsg)), (sl, .inl (gI G, 10, .inl fsl1)), (pp, .inr (1, [.int (nI k), .int told, .int sp, .int (nI (sc k la)), .ref ac, .ref ak])), (ac, .inl (gI G, 6, .inl fc)), (ak, .inl (gI G, 4, .inl fk))]) 0 0 := by
  refine Met.ofW (cc := cX9_judge) (maxL := 2) (ret := (some .int)) (by decide) rfl ?_
  intro p e s m args below meth c s₁ B hml hv
  obtain ⟨rfl, hsz, hP, hD0, E0⟩ := hv
  have hx := B.exec
  have hb := B.bytes
  have hr := B.returns
  have hts := atoms_spec (ws := wsX9_judge) B.pre
  have hown : s.vm.findClass RX9 = some m.cls := findClass_of_methodNamed B.named
  have hlocks := B.notSynchronized
  subst hsz
  have hD := hD0.self (sz := s.heap.size)
  generalize hAe : va_A ([(h0, .inr (5, [.ref pad, .ref pp, .ref im, vse, vtr])), (pad, .inr (0, [.ref sg, .ref sl, .int (nI pm)])), (sg, .inl (gI G, 40, .inl fsg)), (sl, .inl (gI G, 10, .inl fsl)), (pp, .inr (1, [.int (nI k), .int told, .int sp, .int (nI (sc k la)), .ref ac, .ref ak])), (ac, .inl (gI G, 6, .inl fc)), (ak, .inl (gI G, 4, .inl fk))]) s.heap.size = A at hD E0 ⊢
  have E : EV G A s s.heap := E0
  have hA : ∀ q : Nat, s.heap.size ≤ q → A q := fun q h => by rw [← hAe]; exact Or.inr h
  have hS : va_S A s.heap s.heap [] := va_S.rf
  have hl := lv_entry ([.ref h0, .int p0]) (n := 2) (Nat.le_of_ble_eq_true rfl)
  rw [lg_entry_eq]
  generalize (lg_sl ([.ref h0, .int p0]) ++ List.replicate (2 - (lg_sl ([.ref h0, .int p0])).length) Slot.unset).toArray = ls at hl ⊢
  have hl : lv_has ls 2 [(0, .ref h0), (1, .int p0)] := hl
  have hP : va_P G.1 vwCl ([(h0, .inr (5, [.ref pad, .ref pp, .ref im, vse, vtr])), (pad, .inr (0, [.ref sg, .ref sl, .int (nI pm)])), (sg, .inl (gI G, 40, .inl fsg)), (sl, .inl (gI G, 10, .inl fsl)), (pp, .inr (1, [.int (nI k), .int told, .int sp, .int (nI (sc k la)), .ref ac, .ref ak])), (ac, .inl (gI G, 6, .inl fc)), (ak, .inl (gI G, 4, .inl fk))]) s.heap := hP
  refine lv_iload_n hx hb dX9_judge_0 rfl (lv_at hl 1 rfl) ?_
  refine ca_iR (va_runS (As := [.int p0]) (rest := []) ⟨hx, hb, hml, hown, hts⟩ (c_isMap l G s.heap.size p0) (va_cwS 1 hts gX9_judge_X9_isMap rfl rfl rfl (by decide +kernel) ⟨by decide +kernel, by decide +kernel⟩) (pre_S E hP hD hS hA [] (by decide) rfl) rfl rfl hl.1 rfl (lv_room (Nat.le_of_ble_eq_true rfl)) dX9_judge_1 ⟨by decide +kernel, by decide +kernel⟩) hS hP hD hA [] rfl (fun r2 _ H locs w1 hP hS => ?_)
  rcases w1 with ⟨rfl, b3⟩ | ⟨rfl, b3⟩
  · refine lv_if_ne (tgt := 9) hx hb dX9_judge_4 (by decide) (fun _ => ?_) (fun c4 => False.elim (by revert c4; decide))
    refine lv_aload_n hx hb dX9_judge_9 rfl (lv_at hl 0 rfl) ?_
    refine lv_iload_n hx hb dX9_judge_10 rfl (lv_at hl 1 rfl) ?_
    refine ca_iR (va_runV (As := [.int p0]) (rest := []) ⟨hx, hb, hml, hown, hts⟩ (n_isTold l G H.size h0 pad pp im vse vtr ac ak (nI k) told sp (nI (sc k la)) p0) (cwV 1 hts gX9_judge_X9_isTold rfl rfl rfl (by decide +kernel) ⟨by decide +kernel, by decide +kernel⟩) (pre_V E hP hD hS hA [0, 4] (by decide) rfl 0 5 rfl rfl) rfl rfl hl.1 rfl (lv_room (Nat.le_of_ble_eq_true rfl)) dX9_judge_11 ⟨by decide +kernel, by decide +kernel⟩) hS hP hD hA [0, 4] rfl (fun r6 _ H locs w5 hP hS => ?_)
    rcases w5 with ⟨rfl, b7⟩ | ⟨rfl, b7⟩
    · refine lv_if_ne (tgt := 20) hx hb dX9_judge_14 (by decide) (fun _ => ?_) (fun c8 => False.elim (by revert c8; decide))
      refine lv_aload_n hx hb dX9_judge_20 rfl (lv_at hl 0 rfl) ?_
      refine va_get (D := G.1) (ci := 5) (v := .ref pad) (C := RX9) (T := TX9) (N := 5) hx hb hts (fun _ h => List.mem_cons_of_mem _ (List.mem_append_left _ (List.mem_append_left _ (List.mem_append_right _ h)))) hown E.K hP 0 rfl rfl 0 (by decide) (hts (.fieldLink RX9 10 "LastMap" "pad" "LLastMap$Pad;") (by decide +kernel)) (fun _ h9 => h9) rfl dX9_judge_21 ?_
      refine lv_iconst (v := 1) hx hb dX9_judge_24 (by decide) ?_
      refine lv_aload_n hx hb dX9_judge_25 rfl (lv_at hl 0 rfl) ?_
      refine va_get (D := G.1) (ci := 5) (v := .ref pp) (C := RX9) (T := TX9) (N := 5) hx hb hts (fun _ h => List.mem_cons_of_mem _ (List.mem_append_left _ (List.mem_append_left _ (List.mem_append_right _ h)))) hown E.K hP 0 rfl rfl 1 (by decide) (hts (.fieldLink RX9 19 "LastMap" "papers" "LLastMap$Papers;") (by decide +kernel)) (fun _ h9 => h9) rfl dX9_judge_26 ?_
      refine va_get (D := G.1) (ci := 1) (v := .int (nI k)) (C := RX3) (T := TX3) (N := 6) hx hb hts (fun _ h => List.mem_cons_of_mem _ (List.mem_append_left _ (List.mem_append_right _ h))) hown E.K hP 4 rfl rfl 0 (by decide) (hts (.fieldLink RX9 27 "LastMap$Papers" "siteCount" "I") (by decide +kernel)) (fun _ h9 => h9) rfl dX9_judge_29 ?_
      refine ca_iR (va_runV (As := [.int 1, .int (nI k)]) (rest := []) ⟨hx, hb, hml, hown, hts⟩ (n_firstWrong l G H.size pad sg sl pm fsg fsl k 1 hk2 hk6 (by omega)) (cwV 2 hts gX9_judge_X2_firstWrong rfl rfl rfl (by decide +kernel) ⟨by decide +kernel, by decide +kernel⟩) (pre_V E hP hD hS hA [1, 2, 3] (by decide) rfl 1 0 rfl rfl) rfl rfl hl.1 rfl (lv_room (Nat.le_of_ble_eq_true rfl)) dX9_judge_32 ⟨by decide +kernel, by decide +kernel⟩) hS hP hD hA [1, 2, 3] rfl (fun r10 _ H locs w9 hP hS => ?_)
      refine lv_bipush (v := (-6)) hx hb dX9_judge_35 (by decide) ?_
      refine lv_icmp_eq (tgt := 43) hx hb dX9_judge_37 (by decide) (fun c11 => ?_) (fun c11 => ?_)
      · have hps0 : psl fsg pm k 10 0 = (-6) := by rw [← fw_1 w9]; exact c11
        have hps := psl_all hpm hk2 hk6 hps0
        have hn10 := hps.1
        obtain ⟨j_p0, hj_p0, ej_p0⟩ := inR6 b3
        have hl : lv_has ls 2 [(0, .ref h0), (1, .int (nI j_p0))] := by have q := hl; rw [ej_p0] at q; exact q
        have htd := b7.2
        have hcj := hcr j_p0 hj_p0 (by rw [← ej_p0]; exact htd)
        have hc6 := sc_lt hk6 hcj.1
        refine lv_aload_n hx hb dX9_judge_43 rfl (lv_at hl 0 rfl) ?_
        refine lv_aload_n hx hb dX9_judge_44 rfl (lv_at hl 0 rfl) ?_
        refine va_get (D := G.1) (ci := 5) (v := .ref pp) (C := RX9) (T := TX9) (N := 5) hx hb hts (fun _ h => List.mem_cons_of_mem _ (List.mem_append_left _ (List.mem_append_left _ (List.mem_append_right _ h)))) hown E.K hP 0 rfl rfl 1 (by decide) (hts (.fieldLink RX9 19 "LastMap" "papers" "LLastMap$Papers;") (by decide +kernel)) (fun _ h9 => h9) rfl dX9_judge_45 ?_
        refine lv_iload_n hx hb dX9_judge_48 rfl (lv_at hl 1 rfl) ?_
        refine ca_iR (va_runV (As := [.int (nI j_p0)]) (rest := [.ref h0]) ⟨hx, hb, hml, hown, hts⟩ (n_codeOf l G H.size pp ac ak (nI k) told sp (nI (sc k la)) fc fk j_p0 (by omega)) (cwV 1 hts gX9_judge_X3_codeOf rfl rfl rfl (by decide +kernel) ⟨by decide +kernel, by decide +kernel⟩) (pre_V E hP hD hS hA [4, 5, 6] (by decide) rfl 4 1 rfl rfl) rfl rfl hl.1 rfl (lv_room (Nat.le_of_ble_eq_true rfl)) dX9_judge_49 ⟨by decide +kernel, by decide +kernel⟩) hS hP hD hA [4, 5, 6] rfl (fun r13 _ H locs w12 hP hS => ?_)
        obtain rfl : r13 = nI (sc k (ma j_p0)) := by rw [w12]; exact hcj.2
        refine ca_i (wr := [(pp, .inr (1, [.int (nI k), .int told, .int sp, .int (nI (sc k la)), .ref ac, .ref ak])), (ac, .inl (gI G, 6, .inl fc)), (ak, .inl (gI G, 4, .inl fk))]) (va_runV (As := [.int (nI (sc k (ma j_p0)))]) (rest := []) ⟨hx, hb, hml, hown, hts⟩ (n_firstIdle l G H.size h0 pad pp im vse vtr sg sl pm k (nS fsg pm) (ma j_p0) (sc k (ma j_p0)) fsg fsl hk2 hk6 hpm hps.1 hps.2.1 hps.2.2 hcj.1 rfl) (cwV 1 hts gX9_judge_X9_firstIdle rfl rfl rfl (by decide +kernel) ⟨by decide +kernel, by decide +kernel⟩) (pre_V E hP hD hS hA [0, 1, 2, 3] (by decide) rfl 0 5 rfl rfl) rfl rfl hl.1 rfl (lv_room (Nat.le_of_ble_eq_true rfl)) dX9_judge_52 ⟨by decide +kernel, by decide +kernel⟩) hS hP hD hA [0, 1, 2, 3] [4, 5, 6] rfl rfl (by decide) (by decide) (fun r15 u16 H locs w14 hP hD hS => ?_)
        obtain ⟨fsl1_17, rfl⟩ : ∃ z, z = u16 := ⟨_, rfl⟩
        try dsimp only at w14 hP hD
        have hP := (hP.sub (ws' := [(h0, .inr (5, [.ref pad, .ref pp, .ref im, vse, vtr])), (pad, .inr (0, [.ref sg, .ref sl, .int (nI pm)])), (sg, .inl (gI G, 40, .inl fsg)), (sl, .inl (gI G, 10, .inl fsl1_17)), (pp, .inr (1, [.int (nI k), .int told, .int sp, .int (nI (sc k la)), .ref ac, .ref ak])), (ac, .inl (gI G, 6, .inl fc)), (ak, .inl (gI G, 4, .inl fk))]) [3, 4, 5, 6, 0, 1, 2] rfl)
        have hD := (hD.sub (ws' := [(h0, .inr (5, [.ref pad, .ref pp, .ref im, vse, vtr])), (pad, .inr (0, [.ref sg, .ref sl, .int (nI pm)])), (sg, .inl (gI G, 40, .inl fsg)), (sl, .inl (gI G, 10, .inl fsl1_17)), (pp, .inr (1, [.int (nI k), .int told, .int sp, .int (nI (sc k la)), .ref ac, .ref ak])), (ac, .inl (gI G, 6, .inl fc)), (ak, .inl (gI G, 4, .inl fk))]) [3, 4, 5, 6, 0, 1, 2] (by decide) rfl)
        have hP9 := (hP.sub (ws' := [(h0, .inr (5, [.ref pad, .ref pp, .ref im, vse, vtr])), (pad, .inr (0, [.ref sg, .ref sl, .int (nI pm)])), (sg, .inl (gI G, 40, .inl fsg)), (sl, .inl (gI G, 10, .inl fsl1_17)), (pp, .inr (1, [.int (nI k), .int told, .int sp, .int (nI (sc k la)), .ref ac, .ref ak])), (ac, .inl (gI G, 6, .inl fc)), (ak, .inl (gI G, 4, .inl fk))]) [0, 1, 2, 3, 4, 5, 6] rfl)
        have hD9 := (hD.sub (ws' := [(h0, .inr (5, [.ref pad, .ref pp, .ref im, vse, vtr])), (pad, .inr (0, [.ref sg, .ref sl, .int (nI pm)])), (sg, .inl (gI G, 40, .inl fsg)), (sl, .inl (gI G, 10, .inl fsl1_17)), (pp, .inr (1, [.int (nI k), .int told, .int sp, .int (nI (sc k la)), .ref ac, .ref ak])), (ac, .inl (gI G, 6, .inl fc)), (ak, .inl (gI G, 4, .inl fk))]) [0, 1, 2, 3, 4, 5, 6] (by decide) rfl)
        exact W.iret (v := r15) hx hb hr (fun t9_ ht9_ hW9_ => ⟨⟨r15, fsl1_17, rfl, by rw [w14]; exact jdA_4 hj_p0 ej_p0 htd hps0, by rw [ht9_]; exact hP9, hD9⟩, hS.F ht9_⟩) hS.2.2 dX9_judge_55
      · refine lv_bipush (v := (-5)) hx hb dX9_judge_40 (by decide) ?_
        have hP9 := (hP.sub (ws' := [(h0, .inr (5, [.ref pad, .ref pp, .ref im, vse, vtr])), (pad, .inr (0, [.ref sg, .ref sl, .int (nI pm)])), (sg, .inl (gI G, 40, .inl fsg)), (sl, .inl (gI G, 10, .inl fsl)), (pp, .inr (1, [.int (nI k), .int told, .int sp, .int (nI (sc k la)), .ref ac, .ref ak])), (ac, .inl (gI G, 6, .inl fc)), (ak, .inl (gI G, 4, .inl fk))]) [0, 1, 2, 3, 4, 5, 6] rfl)
        have hD9 := (hD.sub (ws' := [(h0, .inr (5, [.ref pad, .ref pp, .ref im, vse, vtr])), (pad, .inr (0, [.ref sg, .ref sl, .int (nI pm)])), (sg, .inl (gI G, 40, .inl fsg)), (sl, .inl (gI G, 10, .inl fsl)), (pp, .inr (1, [.int (nI k), .int told, .int sp, .int (nI (sc k la)), .ref ac, .ref ak])), (ac, .inl (gI G, 6, .inl fc)), (ak, .inl (gI G, 4, .inl fk))]) [0, 1, 2, 3, 4, 5, 6] (by decide) rfl)
        exact W.iret (v := (-5)) hx hb hr (fun t9_ ht9_ hW9_ => ⟨⟨(-5), fsl, rfl, jdA_3 b3 b7.2 (fun q9 => c11 (by rw [fw_1 w9]; exact q9)), by rw [ht9_]; exact hP9, hD9⟩, hS.F ht9_⟩) hS.2.2 dX9_judge_42
    · refine lv_if_ne (tgt := 20) hx hb dX9_judge_14 (by decide) (fun c18 => False.elim (by revert c18; decide)) (fun _ => ?_)
      refine lv_bipush (v := (-3)) hx hb dX9_judge_17 (by decide) ?_
      have hP9 := (hP.sub (ws' := [(h0, .inr (5, [.ref pad, .ref pp, .ref im, vse, vtr])), (pad, .inr (0, [.ref sg, .ref sl, .int (nI pm)])), (sg, .inl (gI G, 40, .inl fsg)), (sl, .inl (gI G, 10, .inl fsl)), (pp, .inr (1, [.int (nI k), .int told, .int sp, .int (nI (sc k la)), .ref ac, .ref ak])), (ac, .inl (gI G, 6, .inl fc)), (ak, .inl (gI G, 4, .inl fk))]) [0, 1, 2, 3, 4, 5, 6] rfl)
      have hD9 := (hD.sub (ws' := [(h0, .inr (5, [.ref pad, .ref pp, .ref im, vse, vtr])), (pad, .inr (0, [.ref sg, .ref sl, .int (nI pm)])), (sg, .inl (gI G, 40, .inl fsg)), (sl, .inl (gI G, 10, .inl fsl)), (pp, .inr (1, [.int (nI k), .int told, .int sp, .int (nI (sc k la)), .ref ac, .ref ak])), (ac, .inl (gI G, 6, .inl fc)), (ak, .inl (gI G, 4, .inl fk))]) [0, 1, 2, 3, 4, 5, 6] (by decide) rfl)
      exact W.iret (v := (-3)) hx hb hr (fun t9_ ht9_ hW9_ => ⟨⟨(-3), fsl, rfl, jdA_2 b3 (fun q9 => b7 ⟨b3, q9⟩), by rw [ht9_]; exact hP9, hD9⟩, hS.F ht9_⟩) hS.2.2 dX9_judge_19
  · refine lv_if_ne (tgt := 9) hx hb dX9_judge_4 (by decide) (fun c19 => False.elim (by revert c19; decide)) (fun _ => ?_)
    refine lv_iconst (v := (-1)) hx hb dX9_judge_7 (by decide) ?_
    have hP9 := (hP.sub (ws' := [(h0, .inr (5, [.ref pad, .ref pp, .ref im, vse, vtr])), (pad, .inr (0, [.ref sg, .ref sl, .int (nI pm)])), (sg, .inl (gI G, 40, .inl fsg)), (sl, .inl (gI G, 10, .inl fsl)), (pp, .inr (1, [.int (nI k), .int told, .int sp, .int (nI (sc k la)), .ref ac, .ref ak])), (ac, .inl (gI G, 6, .inl fc)), (ak, .inl (gI G, 4, .inl fk))]) [0, 1, 2, 3, 4, 5, 6] rfl)
    have hD9 := (hD.sub (ws' := [(h0, .inr (5, [.ref pad, .ref pp, .ref im, vse, vtr])), (pad, .inr (0, [.ref sg, .ref sl, .int (nI pm)])), (sg, .inl (gI G, 40, .inl fsg)), (sl, .inl (gI G, 10, .inl fsl)), (pp, .inr (1, [.int (nI k), .int told, .int sp, .int (nI (sc k la)), .ref ac, .ref ak])), (ac, .inl (gI G, 6, .inl fc)), (ak, .inl (gI G, 4, .inl fk))]) [0, 1, 2, 3, 4, 5, 6] (by decide) rfl)
    exact W.iret (v := (-1)) hx hb hr (fun t9_ ht9_ hW9_ => ⟨⟨(-1), fsl, rfl, jdA_1 b3, by rw [ht9_]; exact hP9, hD9⟩, hS.F ht9_⟩) hS.2.2 dX9_judge_8

set_option maxHeartbeats 1000000 in
set_option maxRecDepth 100000 in
theorem g_copy (l : Launch) (G : Gy) (sz : Nat) (h0 : Nat) (pad : Nat) (pp : Nat) (im : Nat) (vse : Value) (vtr : Value) (ac : Nat) (ak : Nat) (sg : Nat) (sl : Nat) (k : Nat) (pm : Nat) (la : Nat) (told : Int32) (sp : Int32) (fc : Nat → Int32) (fk : Nat → Int32) (fsg : Nat → Int32) (fsl : Nat → Int32) (ma : Nat → Nat) (p0 : Int32) (p1 : Int32) (hk2 : 2 ≤ k) (hk6 : k ≤ 6) (hpm : pm ≤ 40) (hla : la < 5 ^ k) (hcr : CR k told fc ma) (hsp : inR sp 1 6) : Ci l G yX9_copy wsX9_copy ({ frames := 5, cells := 0, slots := 0, locals := 116 }) [.ref h0, .int p0, .int p1] ([(h0, .inr (5, [.ref pad, .ref pp, .ref im, vse, vtr])), (pad, .inr (0, [.ref sg, .ref sl, .int (nI pm)])), (sg, .inl (gI G, 40, .inl fsg)), (sl, .inl (gI G, 10, .inl fsl)), (pp, .inr (1, [.int (nI k), .int told, .int sp, .int (nI (sc k la)), .ref ac, .ref ak])), (ac, .inl (gI G, 6, .inl fc)), (ak, .inl (gI G, 4, .inl fk))]) sz (fun (r : Int32) (u : Int32 × (Nat → Int32) × Int32 × (Nat → Int32)) => match u with | (len1, fsl1, told1, fc1) => r = (cpA k pm told fsg ma p0 p1).1 ∧ COut k (cpA k pm told fsg ma p0 p1).2 p0 told told1 (nI pm) len1 fc fc1) (fun (u : Int32 × (Nat → Int32) × Int32 × (Nat → Int32)) => match u with | (len1, fsl1, told1, fc1) => [(h0, .inr (5, [.ref pad, .ref pp, .ref im, vse, vtr])), (pad, .inr (0, [.ref sg, .ref sl, .int len1])), (sg, .inl (gI G, 40, .inl fsg)), (sl, .inl (gI G, 10, .inl fsl1)), (pp, .inr (1, [.int (nI k), .int told1, .int sp, .int (nI (sc k la)), .ref ac, .ref ak])), (ac, .inl (gI G, 6, .inl fc1)), (ak, .inl (gI G, 4, .inl fk))]) 0 0 := by
  refine Met.ofW (cc := cX9_copy) (maxL := 6) (ret := (some .int)) (by decide) rfl ?_
  intro p e s m args below meth c s₁ B hml hv
  obtain ⟨rfl, hsz, hP, hD0, E0⟩ := hv
  have hx := B.exec
  have hb := B.bytes
  have hr := B.returns
  have hts := atoms_spec (ws := wsX9_copy) B.pre
  have hown : s.vm.findClass RX9 = some m.cls := findClass_of_methodNamed B.named
  have hlocks := B.notSynchronized
  subst hsz
  have hD := hD0.self (sz := s.heap.size)
  generalize hAe : va_A ([(h0, .inr (5, [.ref pad, .ref pp, .ref im, vse, vtr])), (pad, .inr (0, [.ref sg, .ref sl, .int (nI pm)])), (sg, .inl (gI G, 40, .inl fsg)), (sl, .inl (gI G, 10, .inl fsl)), (pp, .inr (1, [.int (nI k), .int told, .int sp, .int (nI (sc k la)), .ref ac, .ref ak])), (ac, .inl (gI G, 6, .inl fc)), (ak, .inl (gI G, 4, .inl fk))]) s.heap.size = A at hD E0 ⊢
  have E : EV G A s s.heap := E0
  have hA : ∀ q : Nat, s.heap.size ≤ q → A q := fun q h => by rw [← hAe]; exact Or.inr h
  have hS : va_S A s.heap s.heap [] := va_S.rf
  have hl := lv_entry ([.ref h0, .int p0, .int p1]) (n := 6) (Nat.le_of_ble_eq_true rfl)
  rw [lg_entry_eq]
  generalize (lg_sl ([.ref h0, .int p0, .int p1]) ++ List.replicate (6 - (lg_sl ([.ref h0, .int p0, .int p1])).length) Slot.unset).toArray = ls at hl ⊢
  have hl : lv_has ls 6 [(0, .ref h0), (1, .int p0), (2, .int p1)] := hl
  have hP : va_P G.1 vwCl ([(h0, .inr (5, [.ref pad, .ref pp, .ref im, vse, vtr])), (pad, .inr (0, [.ref sg, .ref sl, .int (nI pm)])), (sg, .inl (gI G, 40, .inl fsg)), (sl, .inl (gI G, 10, .inl fsl)), (pp, .inr (1, [.int (nI k), .int told, .int sp, .int (nI (sc k la)), .ref ac, .ref ak])), (ac, .inl (gI G, 6, .inl fc)), (ak, .inl (gI G, 4, .inl fk))]) s.heap := hP
  refine lv_iload_n hx hb dX9_copy_0 rfl (lv_at hl 1 rfl) ?_
  refine ca_iR (va_runS (As := [.int p0]) (rest := []) ⟨hx, hb, hml, hown, hts⟩ (c_isMap l G s.heap.size p0) (va_cwS 1 hts gX9_copy_X9_isMap rfl rfl rfl (by decide +kernel) ⟨by decide +kernel, by decide +kernel⟩) (pre_S E hP hD hS hA [] (by decide) rfl) rfl rfl hl.1 rfl (lv_room (Nat.le_of_ble_eq_true rfl)) dX9_copy_1 ⟨by decide +kernel, by decide +kernel⟩) hS hP hD hA [] rfl (fun r2 _ H locs w1 hP hS => ?_)
  rcases w1 with ⟨rfl, b3⟩ | ⟨rfl, b3⟩
  · refine lv_if_eq (tgt := 14) hx hb dX9_copy_4 (by decide) (fun c4 => False.elim (by revert c4; decide)) (fun _ => ?_)
    refine lv_iload_n hx hb dX9_copy_7 rfl (lv_at hl 2 rfl) ?_
    refine ca_iR (va_runS (As := [.int p1]) (rest := []) ⟨hx, hb, hml, hown, hts⟩ (c_isMap l G H.size p1) (va_cwS 1 hts gX9_copy_X9_isMap rfl rfl rfl (by decide +kernel) ⟨by decide +kernel, by decide +kernel⟩) (pre_S E hP hD hS hA [] (by decide) rfl) rfl rfl hl.1 rfl (lv_room (Nat.le_of_ble_eq_true rfl)) dX9_copy_8 ⟨by decide +kernel, by decide +kernel⟩) hS hP hD hA [] rfl (fun r6 _ H locs w5 hP hS => ?_)
    rcases w5 with ⟨rfl, b7⟩ | ⟨rfl, b7⟩
    · refine lv_if_ne (tgt := 16) hx hb dX9_copy_11 (by decide) (fun _ => ?_) (fun c8 => False.elim (by revert c8; decide))
      refine lv_aload_n hx hb dX9_copy_16 rfl (lv_at hl 0 rfl) ?_
      refine lv_iload_n hx hb dX9_copy_17 rfl (lv_at hl 2 rfl) ?_
      refine ca_iR (va_runV (As := [.int p1]) (rest := []) ⟨hx, hb, hml, hown, hts⟩ (n_isTold l G H.size h0 pad pp im vse vtr ac ak (nI k) told sp (nI (sc k la)) p1) (cwV 1 hts gX9_copy_X9_isTold rfl rfl rfl (by decide +kernel) ⟨by decide +kernel, by decide +kernel⟩) (pre_V E hP hD hS hA [0, 4] (by decide) rfl 0 5 rfl rfl) rfl rfl hl.1 rfl (lv_room (Nat.le_of_ble_eq_true rfl)) dX9_copy_18 ⟨by decide +kernel, by decide +kernel⟩) hS hP hD hA [0, 4] rfl (fun r10 _ H locs w9 hP hS => ?_)
      rcases w9 with ⟨rfl, b11⟩ | ⟨rfl, b11⟩
      · refine lv_if_ne (tgt := 27) hx hb dX9_copy_21 (by decide) (fun _ => ?_) (fun c12 => False.elim (by revert c12; decide))
        refine lv_aload_n hx hb dX9_copy_27 rfl (lv_at hl 0 rfl) ?_
        refine va_get (D := G.1) (ci := 5) (v := .ref pad) (C := RX9) (T := TX9) (N := 5) hx hb hts (fun _ h => List.mem_cons_of_mem _ (List.mem_append_left _ (List.mem_append_left _ (List.mem_append_right _ h)))) hown E.K hP 0 rfl rfl 0 (by decide) (hts (.fieldLink RX9 10 "LastMap" "pad" "LLastMap$Pad;") (by decide +kernel)) (fun _ h9 => h9) rfl dX9_copy_28 ?_
        refine lv_iconst (v := 1) hx hb dX9_copy_31 (by decide) ?_
        refine lv_aload_n hx hb dX9_copy_32 rfl (lv_at hl 0 rfl) ?_
        refine va_get (D := G.1) (ci := 5) (v := .ref pp) (C := RX9) (T := TX9) (N := 5) hx hb hts (fun _ h => List.mem_cons_of_mem _ (List.mem_append_left _ (List.mem_append_left _ (List.mem_append_right _ h)))) hown E.K hP 0 rfl rfl 1 (by decide) (hts (.fieldLink RX9 19 "LastMap" "papers" "LLastMap$Papers;") (by decide +kernel)) (fun _ h9 => h9) rfl dX9_copy_33 ?_
        refine va_get (D := G.1) (ci := 1) (v := .int (nI k)) (C := RX3) (T := TX3) (N := 6) hx hb hts (fun _ h => List.mem_cons_of_mem _ (List.mem_append_left _ (List.mem_append_right _ h))) hown E.K hP 4 rfl rfl 0 (by decide) (hts (.fieldLink RX9 27 "LastMap$Papers" "siteCount" "I") (by decide +kernel)) (fun _ h9 => h9) rfl dX9_copy_36 ?_
        refine ca_iR (va_runV (As := [.int 1, .int (nI k)]) (rest := []) ⟨hx, hb, hml, hown, hts⟩ (n_firstWrong l G H.size pad sg sl pm fsg fsl k 1 hk2 hk6 (by omega)) (cwV 2 hts gX9_copy_X2_firstWrong rfl rfl rfl (by decide +kernel) ⟨by decide +kernel, by decide +kernel⟩) (pre_V E hP hD hS hA [1, 2, 3] (by decide) rfl 1 0 rfl rfl) rfl rfl hl.1 rfl (lv_room (Nat.le_of_ble_eq_true rfl)) dX9_copy_39 ⟨by decide +kernel, by decide +kernel⟩) hS hP hD hA [1, 2, 3] rfl (fun r14 _ H locs w13 hP hS => ?_)
        refine lv_bipush (v := (-6)) hx hb dX9_copy_42 (by decide) ?_
        refine lv_icmp_ne (tgt := 64) hx hb dX9_copy_44 (by decide) (fun c15 => ?_) (fun c15 => ?_)
        · refine lv_bipush (v := (-5)) hx hb dX9_copy_64 (by decide) ?_
          have hP9 := (hP.sub (ws' := [(h0, .inr (5, [.ref pad, .ref pp, .ref im, vse, vtr])), (pad, .inr (0, [.ref sg, .ref sl, .int (nI pm)])), (sg, .inl (gI G, 40, .inl fsg)), (sl, .inl (gI G, 10, .inl fsl)), (pp, .inr (1, [.int (nI k), .int told, .int sp, .int (nI (sc k la)), .ref ac, .ref ak])), (ac, .inl (gI G, 6, .inl fc)), (ak, .inl (gI G, 4, .inl fk))]) [0, 1, 2, 3, 4, 5, 6] rfl)
          have hD9 := (hD.sub (ws' := [(h0, .inr (5, [.ref pad, .ref pp, .ref im, vse, vtr])), (pad, .inr (0, [.ref sg, .ref sl, .int (nI pm)])), (sg, .inl (gI G, 40, .inl fsg)), (sl, .inl (gI G, 10, .inl fsl)), (pp, .inr (1, [.int (nI k), .int told, .int sp, .int (nI (sc k la)), .ref ac, .ref ak])), (ac, .inl (gI G, 6, .inl fc)), (ak, .inl (gI G, 4, .inl fk))]) [0, 1, 2, 3, 4, 5, 6] (by decide) rfl)
          exact W.iret (v := (-5)) hx hb hr (fun t9_ ht9_ hW9_ => ⟨⟨(-5), (nI pm, fsl, told, fc), rfl, CO_n (cpA_3 ⟨b3, b7⟩ b11.2 (fun q9 => c15 (by rw [fw_1 w13]; exact q9))) rfl, by rw [ht9_]; exact hP9, hD9⟩, hS.F ht9_⟩) hS.2.2 dX9_copy_66
        · have hps0 : psl fsg pm k 10 0 = (-6) := by rw [← fw_1 w13]; exact c15
          have hps := psl_all hpm hk2 hk6 hps0
          have hn10 := hps.1
          obtain ⟨j_p1, hj_p1, ej_p1⟩ := inR6 b7
          have hl : lv_has ls 6 [(0, .ref h0), (1, .int p0), (2, .int (nI j_p1))] := by have q := hl; rw [ej_p1] at q; exact q
          have htd := b11.2
          have hcj := hcr j_p1 hj_p1 (by rw [← ej_p1]; exact htd)
          have hc6 := sc_lt hk6 hcj.1
          refine lv_aload_n hx hb dX9_copy_47 rfl (lv_at hl 0 rfl) ?_
          refine lv_aload_n hx hb dX9_copy_48 rfl (lv_at hl 0 rfl) ?_
          refine va_get (D := G.1) (ci := 5) (v := .ref pp) (C := RX9) (T := TX9) (N := 5) hx hb hts (fun _ h => List.mem_cons_of_mem _ (List.mem_append_left _ (List.mem_append_left _ (List.mem_append_right _ h)))) hown E.K hP 0 rfl rfl 1 (by decide) (hts (.fieldLink RX9 19 "LastMap" "papers" "LLastMap$Papers;") (by decide +kernel)) (fun _ h9 => h9) rfl dX9_copy_49 ?_
          refine lv_iload_n hx hb dX9_copy_52 rfl (lv_at hl 2 rfl) ?_
          refine ca_iR (va_runV (As := [.int (nI j_p1)]) (rest := [.ref h0]) ⟨hx, hb, hml, hown, hts⟩ (n_codeOf l G H.size pp ac ak (nI k) told sp (nI (sc k la)) fc fk j_p1 (by omega)) (cwV 1 hts gX9_copy_X3_codeOf rfl rfl rfl (by decide +kernel) ⟨by decide +kernel, by decide +kernel⟩) (pre_V E hP hD hS hA [4, 5, 6] (by decide) rfl 4 1 rfl rfl) rfl rfl hl.1 rfl (lv_room (Nat.le_of_ble_eq_true rfl)) dX9_copy_53 ⟨by decide +kernel, by decide +kernel⟩) hS hP hD hA [4, 5, 6] rfl (fun r17 _ H locs w16 hP hS => ?_)
          obtain rfl : r17 = nI (sc k (ma j_p1)) := by rw [w16]; exact hcj.2
          refine ca_i (wr := [(pp, .inr (1, [.int (nI k), .int told, .int sp, .int (nI (sc k la)), .ref ac, .ref ak])), (ac, .inl (gI G, 6, .inl fc)), (ak, .inl (gI G, 4, .inl fk))]) (va_runV (As := [.int (nI (sc k (ma j_p1)))]) (rest := []) ⟨hx, hb, hml, hown, hts⟩ (n_firstIdle l G H.size h0 pad pp im vse vtr sg sl pm k (nS fsg pm) (ma j_p1) (sc k (ma j_p1)) fsg fsl hk2 hk6 hpm hps.1 hps.2.1 hps.2.2 hcj.1 rfl) (cwV 1 hts gX9_copy_X9_firstIdle rfl rfl rfl (by decide +kernel) ⟨by decide +kernel, by decide +kernel⟩) (pre_V E hP hD hS hA [0, 1, 2, 3] (by decide) rfl 0 5 rfl rfl) rfl rfl hl.1 rfl (lv_room (Nat.le_of_ble_eq_true rfl)) dX9_copy_56 ⟨by decide +kernel, by decide +kernel⟩) hS hP hD hA [0, 1, 2, 3] [4, 5, 6] rfl rfl (by decide) (by decide) (fun r19 u20 H locs w18 hP hD hS => ?_)
          obtain ⟨fsl1_21, rfl⟩ : ∃ z, z = u20 := ⟨_, rfl⟩
          try dsimp only at w18 hP hD
          have hP := (hP.sub (ws' := [(h0, .inr (5, [.ref pad, .ref pp, .ref im, vse, vtr])), (pad, .inr (0, [.ref sg, .ref sl, .int (nI pm)])), (sg, .inl (gI G, 40, .inl fsg)), (sl, .inl (gI G, 10, .inl fsl1_21)), (pp, .inr (1, [.int (nI k), .int told, .int sp, .int (nI (sc k la)), .ref ac, .ref ak])), (ac, .inl (gI G, 6, .inl fc)), (ak, .inl (gI G, 4, .inl fk))]) [3, 4, 5, 6, 0, 1, 2] rfl)
          have hD := (hD.sub (ws' := [(h0, .inr (5, [.ref pad, .ref pp, .ref im, vse, vtr])), (pad, .inr (0, [.ref sg, .ref sl, .int (nI pm)])), (sg, .inl (gI G, 40, .inl fsg)), (sl, .inl (gI G, 10, .inl fsl1_21)), (pp, .inr (1, [.int (nI k), .int told, .int sp, .int (nI (sc k la)), .ref ac, .ref ak])), (ac, .inl (gI G, 6, .inl fc)), (ak, .inl (gI G, 4, .inl fk))]) [3, 4, 5, 6, 0, 1, 2] (by decide) rfl)
          refine lv_bipush (v := (-6)) hx hb dX9_copy_59 (by decide) ?_
          refine lv_icmp_eq (tgt := 67) hx hb dX9_copy_61 (by decide) (fun c22 => ?_) (fun c22 => ?_)
          · have hbd : bdF k (sF fsg) (nS fsg pm) 0 (ma j_p1) = (-6) := by have q9 := c22; rw [w18] at q9; exact q9
            refine lv_aload_n hx hb dX9_copy_67 rfl (lv_at hl 0 rfl) ?_
            refine va_get (D := G.1) (ci := 5) (v := .ref pp) (C := RX9) (T := TX9) (N := 5) hx hb hts (fun _ h => List.mem_cons_of_mem _ (List.mem_append_left _ (List.mem_append_left _ (List.mem_append_right _ h)))) hown E.K hP 0 rfl rfl 1 (by decide) (hts (.fieldLink RX9 19 "LastMap" "papers" "LLastMap$Papers;") (by decide +kernel)) (fun _ h9 => h9) rfl dX9_copy_68 ?_
            refine lv_iload_n hx hb dX9_copy_71 rfl (lv_at hl 2 rfl) ?_
            refine ca_iR (va_runV (As := [.int (nI j_p1)]) (rest := []) ⟨hx, hb, hml, hown, hts⟩ (n_codeOf l G H.size pp ac ak (nI k) told sp (nI (sc k la)) fc fk j_p1 (by omega)) (cwV 1 hts gX9_copy_X3_codeOf rfl rfl rfl (by decide +kernel) ⟨by decide +kernel, by decide +kernel⟩) (pre_V E hP hD hS hA [4, 5, 6] (by decide) rfl 4 1 rfl rfl) rfl rfl hl.1 rfl (lv_room (Nat.le_of_ble_eq_true rfl)) dX9_copy_72 ⟨by decide +kernel, by decide +kernel⟩) hS hP hD hA [4, 5, 6] rfl (fun r24 _ H locs w23 hP hS => ?_)
            obtain rfl : r24 = nI (sc k (ma j_p1)) := by rw [w23]; exact hcj.2
            refine lv_istore_n (lv' := [(3, .int (nI (sc k (ma j_p1)))), (0, .ref h0), (1, .int p0), (2, .int (nI j_p1))]) hx hb dX9_copy_75 rfl hl (by decide) rfl (fun ls hl => ?_)
            refine lv_aload_n hx hb dX9_copy_76 rfl (lv_at hl 1 rfl) ?_
            refine va_get (D := G.1) (ci := 5) (v := .ref pad) (C := RX9) (T := TX9) (N := 5) hx hb hts (fun _ h => List.mem_cons_of_mem _ (List.mem_append_left _ (List.mem_append_left _ (List.mem_append_right _ h)))) hown E.K hP 0 rfl rfl 0 (by decide) (hts (.fieldLink RX9 10 "LastMap" "pad" "LLastMap$Pad;") (by decide +kernel)) (fun _ h9 => h9) rfl dX9_copy_77 ?_
            refine ca_i (wr := [(h0, .inr (5, [.ref pad, .ref pp, .ref im, vse, vtr])), (pp, .inr (1, [.int (nI k), .int told, .int sp, .int (nI (sc k la)), .ref ac, .ref ak])), (ac, .inl (gI G, 6, .inl fc)), (ak, .inl (gI G, 4, .inl fk))]) (va_runV (As := []) (rest := []) ⟨hx, hb, hml, hown, hts⟩ (n_readSlips l G H.size pad sg sl pm fsg fsl1_21 k (nS fsg pm) hk2 hk6 hpm hps.1 hps.2.1 hps.2.2) (cwV 0 hts gX9_copy_X2_readSlips rfl rfl rfl (by decide +kernel) ⟨by decide +kernel, by decide +kernel⟩) (pre_V E hP hD hS hA [1, 2, 3] (by decide) rfl 1 0 rfl rfl) rfl rfl hl.1 rfl (lv_room (Nat.le_of_ble_eq_true rfl)) dX9_copy_80 ⟨by decide +kernel, by decide +kernel⟩) hS hP hD hA [1, 2, 3] [0, 4, 5, 6] rfl rfl (by decide) (by decide) (fun r26 u27 H locs w25 hP hD hS => ?_)
            obtain ⟨fsl1_28, rfl⟩ : ∃ z, z = u27 := ⟨_, rfl⟩
            try dsimp only at w25 hP hD
            have hP := (hP.sub (ws' := [(h0, .inr (5, [.ref pad, .ref pp, .ref im, vse, vtr])), (pad, .inr (0, [.ref sg, .ref sl, .int (nI pm)])), (sg, .inl (gI G, 40, .inl fsg)), (sl, .inl (gI G, 10, .inl fsl1_28)), (pp, .inr (1, [.int (nI k), .int told, .int sp, .int (nI (sc k la)), .ref ac, .ref ak])), (ac, .inl (gI G, 6, .inl fc)), (ak, .inl (gI G, 4, .inl fk))]) [0, 4, 5, 6, 1, 2, 3] rfl)
            have hD := (hD.sub (ws' := [(h0, .inr (5, [.ref pad, .ref pp, .ref im, vse, vtr])), (pad, .inr (0, [.ref sg, .ref sl, .int (nI pm)])), (sg, .inl (gI G, 40, .inl fsg)), (sl, .inl (gI G, 10, .inl fsl1_28)), (pp, .inr (1, [.int (nI k), .int told, .int sp, .int (nI (sc k la)), .ref ac, .ref ak])), (ac, .inl (gI G, 6, .inl fc)), (ak, .inl (gI G, 4, .inl fk))]) [0, 4, 5, 6, 1, 2, 3] (by decide) rfl)
            obtain rfl : r26 = nI (nS fsg pm) := w25.1
            refine lv_istore (lv' := [(4, .int (nI (nS fsg pm))), (3, .int (nI (sc k (ma j_p1)))), (0, .ref h0), (1, .int p0), (2, .int (nI j_p1))]) hx hb dX9_copy_83 hl (by decide) rfl (fun ls hl => ?_)
            refine lv_iconst (v := 0) hx hb dX9_copy_85 (by decide) ?_
            refine lv_istore (lv' := [(5, .int 0), (4, .int (nI (nS fsg pm))), (3, .int (nI (sc k (ma j_p1)))), (0, .ref h0), (1, .int p0), (2, .int (nI j_p1))]) hx hb dX9_copy_86 hl (by decide) rfl (fun ls hl => ?_)
            refine lp_run (x0 := (0, (sc k (ma j_p1)))) (fun xx_ : Nat × Nat => match xx_ with | (x, qq) => [(h0, .inr (5, [.ref pad, .ref pp, .ref im, vse, vtr])), (pad, .inr (0, [.ref sg, .ref sl, .int (nI pm)])), (sg, .inl (gI G, 40, .inl fsg)), (sl, .inl (gI G, 10, .inl fsl1_28)), (pp, .inr (1, [.int (nI k), .int told, .int sp, .int (nI (sc k la)), .ref ac, .ref ak])), (ac, .inl (gI G, 6, .inl fc)), (ak, .inl (gI G, 4, .inl fk))]) (fun xx_ : Nat × Nat => match xx_ with | (x, qq) => [(5, .int (nI x)), (4, .int (nI (nS fsg pm))), (3, .int (nI qq)), (0, .ref h0), (1, .int p0), (2, .int (nI j_p1))]) (fun xx_ : Nat × Nat => match xx_ with | (x, qq) => (x ≤ nS fsg pm) ∧ (qq = sc k (runS k (sF fsg) x 0 (ma j_p1)) ∧ runS k (sF fsg) x 0 (ma j_p1) < 5 ^ k)) (fun xx_ : Nat × Nat => match xx_ with | (x, qq) => (nS fsg pm) - x) (hP.sub [0, 1, 2, 3, 4, 5, 6] rfl) (hD.sub [0, 1, 2, 3, 4, 5, 6] (by decide) rfl) hS (lv_sub hl [0, 1, 2, 3, 4, 5] rfl) ⟨(by omega), ⟨rfl, hcj.1⟩⟩ ?_
            intro xx_ hI ih88 H locs ls hP hD hS hl
            obtain ⟨x, qq⟩ := xx_
            dsimp only at hI ih88 hP hD hl
            obtain ⟨hx0, hqq⟩ := hI
            have hl : lv_has ls 6 [(5, .int (nI x)), (4, .int (nI (nS fsg pm))), (3, .int (nI qq)), (0, .ref h0), (1, .int p0), (2, .int (nI j_p1))] := hl
            have hP : va_P G.1 vwCl ([(h0, .inr (5, [.ref pad, .ref pp, .ref im, vse, vtr])), (pad, .inr (0, [.ref sg, .ref sl, .int (nI pm)])), (sg, .inl (gI G, 40, .inl fsg)), (sl, .inl (gI G, 10, .inl fsl1_28)), (pp, .inr (1, [.int (nI k), .int told, .int sp, .int (nI (sc k la)), .ref ac, .ref ak])), (ac, .inl (gI G, 6, .inl fc)), (ak, .inl (gI G, 4, .inl fk))]) H := hP
            have hD : va_D A ([(h0, .inr (5, [.ref pad, .ref pp, .ref im, vse, vtr])), (pad, .inr (0, [.ref sg, .ref sl, .int (nI pm)])), (sg, .inl (gI G, 40, .inl fsg)), (sl, .inl (gI G, 10, .inl fsl1_28)), (pp, .inr (1, [.int (nI k), .int told, .int sp, .int (nI (sc k la)), .ref ac, .ref ak])), (ac, .inl (gI G, 6, .inl fc)), (ak, .inl (gI G, 4, .inl fk))]) := hD
            refine lv_iload hx hb dX9_copy_88 (lv_at hl 0 rfl) ?_
            refine lv_iload hx hb dX9_copy_90 (lv_at hl 1 rfl) ?_
            refine lv_icmp_ge (tgt := 115) hx hb dX9_copy_92 (by decide) (fun c29 => ?_) (fun c29 => ?_)
            · have c29 : (nS fsg pm) ≤ x := (nI_leI (a := (nS fsg pm)) (b := x) (by omega) (by omega)).mp c29
              refine lv_aload_n hx hb dX9_copy_115 rfl (lv_at hl 3 rfl) ?_
              refine va_get (D := G.1) (ci := 5) (v := .ref pp) (C := RX9) (T := TX9) (N := 5) hx hb hts (fun _ h => List.mem_cons_of_mem _ (List.mem_append_left _ (List.mem_append_left _ (List.mem_append_right _ h)))) hown E.K hP 0 rfl rfl 1 (by decide) (hts (.fieldLink RX9 19 "LastMap" "papers" "LLastMap$Papers;") (by decide +kernel)) (fun _ h9 => h9) rfl dX9_copy_116 ?_
              refine lv_iload_n hx hb dX9_copy_119 rfl (lv_at hl 4 rfl) ?_
              refine lv_iload_n hx hb dX9_copy_120 rfl (lv_at hl 2 rfl) ?_
              refine ca_v (wr := [(h0, .inr (5, [.ref pad, .ref pp, .ref im, vse, vtr])), (pad, .inr (0, [.ref sg, .ref sl, .int (nI pm)])), (sg, .inl (gI G, 40, .inl fsg)), (sl, .inl (gI G, 10, .inl fsl1_28))]) (va_runV (As := [.int p0, .int (nI qq)]) (rest := []) ⟨hx, hb, hml, hown, hts⟩ (n_tell l G H.size pp ac ak (nI k) told sp (nI (sc k la)) fc fk p0 (nI qq) b3) (cwV 2 hts gX9_copy_X3_tell rfl rfl rfl (by decide +kernel) ⟨by decide +kernel, by decide +kernel⟩) (pre_V E hP hD hS hA [4, 5, 6] (by decide) rfl 4 1 rfl rfl) rfl rfl hl.1 rfl (lv_room (Nat.le_of_ble_eq_true rfl)) dX9_copy_121 ⟨by decide +kernel, by decide +kernel⟩) hS hP hD hA [4, 5, 6] [0, 1, 2, 3] rfl rfl (by decide) (by decide) (fun u32 H locs w30 hP hD hS => ?_)
              obtain ⟨told1_33, fc1_34⟩ := u32
              try dsimp only at w30 hP hD
              have hP := (hP.sub (ws' := [(h0, .inr (5, [.ref pad, .ref pp, .ref im, vse, vtr])), (pad, .inr (0, [.ref sg, .ref sl, .int (nI pm)])), (sg, .inl (gI G, 40, .inl fsg)), (sl, .inl (gI G, 10, .inl fsl1_28)), (pp, .inr (1, [.int (nI k), .int told1_33, .int sp, .int (nI (sc k la)), .ref ac, .ref ak])), (ac, .inl (gI G, 6, .inl fc1_34)), (ak, .inl (gI G, 4, .inl fk))]) [0, 1, 2, 3, 4, 5, 6] rfl)
              have hD := (hD.sub (ws' := [(h0, .inr (5, [.ref pad, .ref pp, .ref im, vse, vtr])), (pad, .inr (0, [.ref sg, .ref sl, .int (nI pm)])), (sg, .inl (gI G, 40, .inl fsg)), (sl, .inl (gI G, 10, .inl fsl1_28)), (pp, .inr (1, [.int (nI k), .int told1_33, .int sp, .int (nI (sc k la)), .ref ac, .ref ak])), (ac, .inl (gI G, 6, .inl fc1_34)), (ak, .inl (gI G, 4, .inl fk))]) [0, 1, 2, 3, 4, 5, 6] (by decide) rfl)
              refine lv_aload_n hx hb dX9_copy_124 rfl (lv_at hl 3 rfl) ?_
              refine va_get (D := G.1) (ci := 5) (v := .ref pad) (C := RX9) (T := TX9) (N := 5) hx hb hts (fun _ h => List.mem_cons_of_mem _ (List.mem_append_left _ (List.mem_append_left _ (List.mem_append_right _ h)))) hown E.K hP 0 rfl rfl 0 (by decide) (hts (.fieldLink RX9 10 "LastMap" "pad" "LLastMap$Pad;") (by decide +kernel)) (fun _ h9 => h9) rfl dX9_copy_125 ?_
              refine lv_iconst (v := 0) hx hb dX9_copy_128 (by decide) ?_
              refine va_put (D := G.1) (ci := 0) (v := .int 0) (ty := .int) (C := RX2) (T := TX2) (N := 3) hx hb hts (fun _ h => List.mem_cons_of_mem _ (List.mem_append_right _ h)) tyX2 tyX2_ok nmX2 hown E.K hP hD hS 1 rfl rfl 2 (by decide) (hts (.fieldLink RX9 41 "LastMap$Pad" "length" "I") (by decide +kernel)) (fun _ h9 => h9) rfl (by decide +kernel) rfl rfl (Nat.le_of_ble_eq_true rfl) dX9_copy_129 (fun H locs hP hD hS => ?_)
              have hP : va_P G.1 vwCl ([(h0, .inr (5, [.ref pad, .ref pp, .ref im, vse, vtr])), (pad, .inr (0, [.ref sg, .ref sl, .int 0])), (sg, .inl (gI G, 40, .inl fsg)), (sl, .inl (gI G, 10, .inl fsl1_28)), (pp, .inr (1, [.int (nI k), .int told1_33, .int sp, .int (nI (sc k la)), .ref ac, .ref ak])), (ac, .inl (gI G, 6, .inl fc1_34)), (ak, .inl (gI G, 4, .inl fk))]) H := hP
              have hD : va_D A ([(h0, .inr (5, [.ref pad, .ref pp, .ref im, vse, vtr])), (pad, .inr (0, [.ref sg, .ref sl, .int 0])), (sg, .inl (gI G, 40, .inl fsg)), (sl, .inl (gI G, 10, .inl fsl1_28)), (pp, .inr (1, [.int (nI k), .int told1_33, .int sp, .int (nI (sc k la)), .ref ac, .ref ak])), (ac, .inl (gI G, 6, .inl fc1_34)), (ak, .inl (gI G, 4, .inl fk))]) := hD
              refine lv_iload hx hb dX9_copy_132 (lv_at hl 1 rfl) ?_
              have hP9 := (hP.sub (ws' := [(h0, .inr (5, [.ref pad, .ref pp, .ref im, vse, vtr])), (pad, .inr (0, [.ref sg, .ref sl, .int 0])), (sg, .inl (gI G, 40, .inl fsg)), (sl, .inl (gI G, 10, .inl fsl1_28)), (pp, .inr (1, [.int (nI k), .int told1_33, .int sp, .int (nI (sc k la)), .ref ac, .ref ak])), (ac, .inl (gI G, 6, .inl fc1_34)), (ak, .inl (gI G, 4, .inl fk))]) [0, 1, 2, 3, 4, 5, 6] rfl)
              have hD9 := (hD.sub (ws' := [(h0, .inr (5, [.ref pad, .ref pp, .ref im, vse, vtr])), (pad, .inr (0, [.ref sg, .ref sl, .int 0])), (sg, .inl (gI G, 40, .inl fsg)), (sl, .inl (gI G, 10, .inl fsl1_28)), (pp, .inr (1, [.int (nI k), .int told1_33, .int sp, .int (nI (sc k la)), .ref ac, .ref ak])), (ac, .inl (gI G, 6, .inl fc1_34)), (ak, .inl (gI G, 4, .inl fk))]) [0, 1, 2, 3, 4, 5, 6] (by decide) rfl)
              exact W.iret (v := (nI (nS fsg pm))) hx hb hr (fun t9_ ht9_ hW9_ => ⟨⟨nI (nS fsg pm), (0, fsl1_28, told1_33, fc1_34), rfl, CO_s (cpA_5 hj_p1 ej_p1 b3 htd hps0 hbd) b3 (cp_lt hk2 hk6 hcj.1 hps.2.2) rfl w30.1 (by rw [w30.2, hqq.1, show x = nS fsg pm by omega]), by rw [ht9_]; exact hP9, hD9⟩, hS.F ht9_⟩) hS.2.2 dX9_copy_134
            · have c29 : ¬ (nS fsg pm) ≤ x := fun h9_ => c29 ((nI_leI (a := (nS fsg pm)) (b := x) (by omega) (by omega)).mpr h9_)
              have hs := (w1_ok hk2 hk6 (hps.2.2 x (by omega))).2.2
              have hmo := mvOf_ok hk6 hs
              have hq6 : qq < 5 ^ 6 := by rw [hqq.1]; exact sc_lt hk6 hqq.2
              refine lv_iload_n hx hb dX9_copy_95 rfl (lv_at hl 2 rfl) ?_
              refine lv_aload_n hx hb dX9_copy_96 rfl (lv_at hl 3 rfl) ?_
              refine va_get (D := G.1) (ci := 5) (v := .ref pad) (C := RX9) (T := TX9) (N := 5) hx hb hts (fun _ h => List.mem_cons_of_mem _ (List.mem_append_left _ (List.mem_append_left _ (List.mem_append_right _ h)))) hown E.K hP 0 rfl rfl 0 (by decide) (hts (.fieldLink RX9 10 "LastMap" "pad" "LLastMap$Pad;") (by decide +kernel)) (fun _ h9 => h9) rfl dX9_copy_97 ?_
              refine lv_iload hx hb dX9_copy_100 (lv_at hl 0 rfl) ?_
              refine ca_iR (va_runV (As := [.int (nI x)]) (rest := [.int (nI qq)]) ⟨hx, hb, hml, hown, hts⟩ (n_slipAt l G H.size pad sg sl (nI pm) fsg fsl1_28 x (by omega)) (cwV 1 hts gX9_copy_X2_slipAt rfl rfl rfl (by decide +kernel) ⟨by decide +kernel, by decide +kernel⟩) (pre_V E hP hD hS hA [1, 2, 3] (by decide) rfl 1 0 rfl rfl) rfl rfl hl.1 rfl (lv_room (Nat.le_of_ble_eq_true rfl)) dX9_copy_102 ⟨by decide +kernel, by decide +kernel⟩) hS hP hD hA [1, 2, 3] rfl (fun r36 _ H locs w35 hP hS => ?_)
              obtain rfl : r36 = nI (100 * (mvOf (slp fsg (pl fsg x))).1 + 10 * (mvOf (slp fsg (pl fsg x))).2.1 + (mvOf (slp fsg (pl fsg x))).2.2) := by rw [w35, w25.2 x (by omega)]; exact hmo.2
              refine ca_iR (va_runS (As := [.int (nI qq), .int (nI (100 * (mvOf (slp fsg (pl fsg x))).1 + 10 * (mvOf (slp fsg (pl fsg x))).2.1 + (mvOf (slp fsg (pl fsg x))).2.2))]) (rest := []) ⟨hx, hb, hml, hown, hts⟩ (n_after l G H.size qq (100 * (mvOf (slp fsg (pl fsg x))).1 + 10 * (mvOf (slp fsg (pl fsg x))).2.1 + (mvOf (slp fsg (pl fsg x))).2.2) ((mvOf (slp fsg (pl fsg x))).1) ((mvOf (slp fsg (pl fsg x))).2.1) ((mvOf (slp fsg (pl fsg x))).2.2) hq6 (okV_six hk6 hmo.1) rfl) (va_cwS 2 hts gX9_copy_X6_after rfl rfl rfl (by decide +kernel) ⟨by decide +kernel, by decide +kernel⟩) (pre_S E hP hD hS hA [] (by decide) rfl) rfl rfl hl.1 rfl (lv_room (Nat.le_of_ble_eq_true rfl)) dX9_copy_105 ⟨by decide +kernel, by decide +kernel⟩) hS hP hD hA [] rfl (fun r38 _ H locs w37 hP hS => ?_)
              rw [w37]
              have hnew : slN 6 qq ((mvOf (slp fsg (pl fsg x))).1, (mvOf (slp fsg (pl fsg x))).2.1, (mvOf (slp fsg (pl fsg x))).2.2) = sc k (runS k (sF fsg) (x + 1) 0 (ma j_p1)) ∧ runS k (sF fsg) (x + 1) 0 (ma j_p1) < 5 ^ k := by
                rw [runS_s x 0, Nat.zero_add]
                exact ⟨by rw [hqq.1]; exact slN_sc hk6 hmo.1, slN_lt hqq.2 hmo.1⟩
              refine lv_istore_n (lv' := [(3, .int (nI (slN 6 qq (((mvOf (slp fsg (pl fsg x))).1), ((mvOf (slp fsg (pl fsg x))).2.1), ((mvOf (slp fsg (pl fsg x))).2.2))))), (5, .int (nI x)), (4, .int (nI (nS fsg pm))), (0, .ref h0), (1, .int p0), (2, .int (nI j_p1))]) hx hb dX9_copy_108 rfl hl (by decide) rfl (fun ls hl => ?_)
              obtain ⟨x39, ex39⟩ : ∃ yy_ : Int32, yy_ = (nI x) + 1 := ⟨_, rfl⟩
              refine lv_iinc (v := x39) (lv' := [(5, .int x39), (3, .int (nI (slN 6 qq (((mvOf (slp fsg (pl fsg x))).1), ((mvOf (slp fsg (pl fsg x))).2.1), ((mvOf (slp fsg (pl fsg x))).2.2))))), (4, .int (nI (nS fsg pm))), (0, .ref h0), (1, .int p0), (2, .int (nI j_p1))]) hx hb dX9_copy_109 hl (k := 1) rfl (by rw [ex39]; rfl) (by decide) rfl (fun ls hl => ?_)
              obtain rfl : x39 = nI (x + 1) := by rw [ex39]; exact nI_add x 1
              refine lv_goto (tgt := 88) hx hb dX9_copy_112 (by decide) ?_
              refine ih88 ((x + 1), (slN 6 qq (((mvOf (slp fsg (pl fsg x))).1), ((mvOf (slp fsg (pl fsg x))).2.1), ((mvOf (slp fsg (pl fsg x))).2.2)))) ⟨?_, ?_⟩ (by first | omega | (dsimp only; omega)) H locs ls (hP.sub [0, 1, 2, 3, 4, 5, 6] rfl) (hD.sub [0, 1, 2, 3, 4, 5, 6] (by decide) rfl) hS (lv_sub hl [0, 2, 1, 3, 4, 5] rfl)
              · try dsimp only
                omega
              · try dsimp only
                exact hnew
          · refine lv_bipush (v := (-5)) hx hb dX9_copy_64 (by decide) ?_
            have hP9 := (hP.sub (ws' := [(h0, .inr (5, [.ref pad, .ref pp, .ref im, vse, vtr])), (pad, .inr (0, [.ref sg, .ref sl, .int (nI pm)])), (sg, .inl (gI G, 40, .inl fsg)), (sl, .inl (gI G, 10, .inl fsl1_21)), (pp, .inr (1, [.int (nI k), .int told, .int sp, .int (nI (sc k la)), .ref ac, .ref ak])), (ac, .inl (gI G, 6, .inl fc)), (ak, .inl (gI G, 4, .inl fk))]) [0, 1, 2, 3, 4, 5, 6] rfl)
            have hD9 := (hD.sub (ws' := [(h0, .inr (5, [.ref pad, .ref pp, .ref im, vse, vtr])), (pad, .inr (0, [.ref sg, .ref sl, .int (nI pm)])), (sg, .inl (gI G, 40, .inl fsg)), (sl, .inl (gI G, 10, .inl fsl1_21)), (pp, .inr (1, [.int (nI k), .int told, .int sp, .int (nI (sc k la)), .ref ac, .ref ak])), (ac, .inl (gI G, 6, .inl fc)), (ak, .inl (gI G, 4, .inl fk))]) [0, 1, 2, 3, 4, 5, 6] (by decide) rfl)
            exact W.iret (v := (-5)) hx hb hr (fun t9_ ht9_ hW9_ => ⟨⟨(-5), (nI pm, fsl1_21, told, fc), rfl, CO_n (cpA_4 hj_p1 ej_p1 b3 htd hps0 (fun q9 => c22 (by rw [w18]; exact q9))) rfl, by rw [ht9_]; exact hP9, hD9⟩, hS.F ht9_⟩) hS.2.2 dX9_copy_66
      · refine lv_if_ne (tgt := 27) hx hb dX9_copy_21 (by decide) (fun c40 => False.elim (by revert c40; decide)) (fun _ => ?_)
        refine lv_bipush (v := (-3)) hx hb dX9_copy_24 (by decide) ?_
        have hP9 := (hP.sub (ws' := [(h0, .inr (5, [.ref pad, .ref pp, .ref im, vse, vtr])), (pad, .inr (0, [.ref sg, .ref sl, .int (nI pm)])), (sg, .inl (gI G, 40, .inl fsg)), (sl, .inl (gI G, 10, .inl fsl)), (pp, .inr (1, [.int (nI k), .int told, .int sp, .int (nI (sc k la)), .ref ac, .ref ak])), (ac, .inl (gI G, 6, .inl fc)), (ak, .inl (gI G, 4, .inl fk))]) [0, 1, 2, 3, 4, 5, 6] rfl)
        have hD9 := (hD.sub (ws' := [(h0, .inr (5, [.ref pad, .ref pp, .ref im, vse, vtr])), (pad, .inr (0, [.ref sg, .ref sl, .int (nI pm)])), (sg, .inl (gI G, 40, .inl fsg)), (sl, .inl (gI G, 10, .inl fsl)), (pp, .inr (1, [.int (nI k), .int told, .int sp, .int (nI (sc k la)), .ref ac, .ref ak])), (ac, .inl (gI G, 6, .inl fc)), (ak, .inl (gI G, 4, .inl fk))]) [0, 1, 2, 3, 4, 5, 6] (by decide) rfl)
        exact W.iret (v := (-3)) hx hb hr (fun t9_ ht9_ hW9_ => ⟨⟨(-3), (nI pm, fsl, told, fc), rfl, CO_n (cpA_2 ⟨b3, b7⟩ (fun q9 => b11 ⟨b7, q9⟩)) rfl, by rw [ht9_]; exact hP9, hD9⟩, hS.F ht9_⟩) hS.2.2 dX9_copy_26
    · refine lv_if_ne (tgt := 16) hx hb dX9_copy_11 (by decide) (fun c41 => False.elim (by revert c41; decide)) (fun _ => ?_)
      refine lv_iconst (v := (-1)) hx hb dX9_copy_14 (by decide) ?_
      have hP9 := (hP.sub (ws' := [(h0, .inr (5, [.ref pad, .ref pp, .ref im, vse, vtr])), (pad, .inr (0, [.ref sg, .ref sl, .int (nI pm)])), (sg, .inl (gI G, 40, .inl fsg)), (sl, .inl (gI G, 10, .inl fsl)), (pp, .inr (1, [.int (nI k), .int told, .int sp, .int (nI (sc k la)), .ref ac, .ref ak])), (ac, .inl (gI G, 6, .inl fc)), (ak, .inl (gI G, 4, .inl fk))]) [0, 1, 2, 3, 4, 5, 6] rfl)
      have hD9 := (hD.sub (ws' := [(h0, .inr (5, [.ref pad, .ref pp, .ref im, vse, vtr])), (pad, .inr (0, [.ref sg, .ref sl, .int (nI pm)])), (sg, .inl (gI G, 40, .inl fsg)), (sl, .inl (gI G, 10, .inl fsl)), (pp, .inr (1, [.int (nI k), .int told, .int sp, .int (nI (sc k la)), .ref ac, .ref ak])), (ac, .inl (gI G, 6, .inl fc)), (ak, .inl (gI G, 4, .inl fk))]) [0, 1, 2, 3, 4, 5, 6] (by decide) rfl)
      exact W.iret (v := (-1)) hx hb hr (fun t9_ ht9_ hW9_ => ⟨⟨(-1), (nI pm, fsl, told, fc), rfl, CO_n (cpA_1 (fun q9 => b7 q9.2)) rfl, by rw [ht9_]; exact hP9, hD9⟩, hS.F ht9_⟩) hS.2.2 dX9_copy_15
  · refine lv_if_eq (tgt := 14) hx hb dX9_copy_4 (by decide) (fun _ => ?_) (fun c42 => False.elim (by revert c42; decide))
    refine lv_iconst (v := (-1)) hx hb dX9_copy_14 (by decide) ?_
    have hP9 := (hP.sub (ws' := [(h0, .inr (5, [.ref pad, .ref pp, .ref im, vse, vtr])), (pad, .inr (0, [.ref sg, .ref sl, .int (nI pm)])), (sg, .inl (gI G, 40, .inl fsg)), (sl, .inl (gI G, 10, .inl fsl)), (pp, .inr (1, [.int (nI k), .int told, .int sp, .int (nI (sc k la)), .ref ac, .ref ak])), (ac, .inl (gI G, 6, .inl fc)), (ak, .inl (gI G, 4, .inl fk))]) [0, 1, 2, 3, 4, 5, 6] rfl)
    have hD9 := (hD.sub (ws' := [(h0, .inr (5, [.ref pad, .ref pp, .ref im, vse, vtr])), (pad, .inr (0, [.ref sg, .ref sl, .int (nI pm)])), (sg, .inl (gI G, 40, .inl fsg)), (sl, .inl (gI G, 10, .inl fsl)), (pp, .inr (1, [.int (nI k), .int told, .int sp, .int (nI (sc k la)), .ref ac, .ref ak])), (ac, .inl (gI G, 6, .inl fc)), (ak, .inl (gI G, 4, .inl fk))]) [0, 1, 2, 3, 4, 5, 6] (by decide) rfl)
    exact W.iret (v := (-1)) hx hb hr (fun t9_ ht9_ hW9_ => ⟨⟨(-1), (nI pm, fsl, told, fc), rfl, CO_n (cpA_1 (fun q9 => b3 q9.1)) rfl, by rw [ht9_]; exact hP9, hD9⟩, hS.F ht9_⟩) hS.2.2 dX9_copy_15

set_option maxHeartbeats 1000000 in
set_option maxRecDepth 100000 in
theorem g_told (l : Launch) (G : Gy) (sz : Nat) (h0 : Nat) (pad : Nat) (pp : Nat) (im : Nat) (vse : Value) (vtr : Value) (ac : Nat) (ak : Nat) (sg : Nat) (sl : Nat) (k : Nat) (pm : Nat) (la : Nat) (told : Int32) (sp : Int32) (fc : Nat → Int32) (fk : Nat → Int32) (fsg : Nat → Int32) (fsl : Nat → Int32) (ma : Nat → Nat) (p0 : Int32) (hk2 : 2 ≤ k) (hk6 : k ≤ 6) (hpm : pm ≤ 40) (hla : la < 5 ^ k) (hcr : CR k told fc ma) (hsp : inR sp 1 6) : Ci l G yX9_told wsX9_told ({ frames := 1, cells := 0, slots := 0, locals := 21 }) [.ref h0, .int p0] ([(h0, .inr (5, [.ref pad, .ref pp, .ref im, vse, vtr])), (pad, .inr (0, [.ref sg, .ref sl, .int (nI pm)])), (sg, .inl (gI G, 40, .inl fsg)), (sl, .inl (gI G, 10, .inl fsl)), (pp, .inr (1, [.int (nI k), .int told, .int sp, .int (nI (sc k la)), .ref ac, .ref ak])), (ac, .inl (gI G, 6, .inl fc)), (ak, .inl (gI G, 4, .inl fk))]) sz (fun (r : Int32) (_ : Unit) => r = tdA p0 fk pm k told sp) (fun (_ : Unit) => [(h0, .inr (5, [.ref pad, .ref pp, .ref im, vse, vtr])), (pad, .inr (0, [.ref sg, .ref sl, .int (nI pm)])), (sg, .inl (gI G, 40, .inl fsg)), (sl, .inl (gI G, 10, .inl fsl)), (pp, .inr (1, [.int (nI k), .int told, .int sp, .int (nI (sc k la)), .ref ac, .ref ak])), (ac, .inl (gI G, 6, .inl fc)), (ak, .inl (gI G, 4, .inl fk))]) 0 0 := by
  refine Met.ofW (cc := cX9_told) (maxL := 2) (ret := (some .int)) (by decide) rfl ?_
  intro p e s m args below meth c s₁ B hml hv
  obtain ⟨rfl, hsz, hP, hD0, E0⟩ := hv
  have hx := B.exec
  have hb := B.bytes
  have hr := B.returns
  have hts := atoms_spec (ws := wsX9_told) B.pre
  have hown : s.vm.findClass RX9 = some m.cls := findClass_of_methodNamed B.named
  have hlocks := B.notSynchronized
  subst hsz
  have hD := hD0.self (sz := s.heap.size)
  generalize hAe : va_A ([(h0, .inr (5, [.ref pad, .ref pp, .ref im, vse, vtr])), (pad, .inr (0, [.ref sg, .ref sl, .int (nI pm)])), (sg, .inl (gI G, 40, .inl fsg)), (sl, .inl (gI G, 10, .inl fsl)), (pp, .inr (1, [.int (nI k), .int told, .int sp, .int (nI (sc k la)), .ref ac, .ref ak])), (ac, .inl (gI G, 6, .inl fc)), (ak, .inl (gI G, 4, .inl fk))]) s.heap.size = A at hD E0 ⊢
  have E : EV G A s s.heap := E0
  have hA : ∀ q : Nat, s.heap.size ≤ q → A q := fun q h => by rw [← hAe]; exact Or.inr h
  have hS : va_S A s.heap s.heap [] := va_S.rf
  have hl := lv_entry ([.ref h0, .int p0]) (n := 2) (Nat.le_of_ble_eq_true rfl)
  rw [lg_entry_eq]
  generalize (lg_sl ([.ref h0, .int p0]) ++ List.replicate (2 - (lg_sl ([.ref h0, .int p0])).length) Slot.unset).toArray = ls at hl ⊢
  have hl : lv_has ls 2 [(0, .ref h0), (1, .int p0)] := hl
  have hP : va_P G.1 vwCl ([(h0, .inr (5, [.ref pad, .ref pp, .ref im, vse, vtr])), (pad, .inr (0, [.ref sg, .ref sl, .int (nI pm)])), (sg, .inl (gI G, 40, .inl fsg)), (sl, .inl (gI G, 10, .inl fsl)), (pp, .inr (1, [.int (nI k), .int told, .int sp, .int (nI (sc k la)), .ref ac, .ref ak])), (ac, .inl (gI G, 6, .inl fc)), (ak, .inl (gI G, 4, .inl fk))]) s.heap := hP
  refine lv_iload_n hx hb dX9_told_0 rfl (lv_at hl 1 rfl) ?_
  refine lv_bipush (v := 10) hx hb dX9_told_1 (by decide) ?_
  refine lv_icmp_lt (tgt := 28) hx hb dX9_told_3 (by decide) (fun c1 => ?_) (fun c1 => ?_)
  · refine lv_iload_n hx hb dX9_told_28 rfl (lv_at hl 1 rfl) ?_
    by_cases c90 : p0 = 0
    · refine lv_tableIn (off := 31) (tgt := 60) hx hb dX9_told_29 (by rw [c90]; decide) (by rw [c90]; decide) (by rw [c90]; decide) (by decide) ?_
      refine lv_aload_n hx hb dX9_told_60 rfl (lv_at hl 0 rfl) ?_
      refine va_get (D := G.1) (ci := 5) (v := .ref pad) (C := RX9) (T := TX9) (N := 5) hx hb hts (fun _ h => List.mem_cons_of_mem _ (List.mem_append_left _ (List.mem_append_left _ (List.mem_append_right _ h)))) hown E.K hP 0 rfl rfl 0 (by decide) (hts (.fieldLink RX9 10 "LastMap" "pad" "LLastMap$Pad;") (by decide +kernel)) (fun _ h9 => h9) rfl dX9_told_61 ?_
      refine va_get (D := G.1) (ci := 0) (v := .int (nI pm)) (C := RX2) (T := TX2) (N := 3) hx hb hts (fun _ h => List.mem_cons_of_mem _ (List.mem_append_left _ (List.mem_append_right _ h))) hown E.K hP 1 rfl rfl 2 (by decide) (hts (.fieldLink RX9 41 "LastMap$Pad" "length" "I") (by decide +kernel)) (fun _ h9 => h9) rfl dX9_told_64 ?_
      have hP9 := (hP.sub (ws' := [(h0, .inr (5, [.ref pad, .ref pp, .ref im, vse, vtr])), (pad, .inr (0, [.ref sg, .ref sl, .int (nI pm)])), (sg, .inl (gI G, 40, .inl fsg)), (sl, .inl (gI G, 10, .inl fsl)), (pp, .inr (1, [.int (nI k), .int told, .int sp, .int (nI (sc k la)), .ref ac, .ref ak])), (ac, .inl (gI G, 6, .inl fc)), (ak, .inl (gI G, 4, .inl fk))]) [0, 1, 2, 3, 4, 5, 6] rfl)
      have hD9 := (hD.sub (ws' := [(h0, .inr (5, [.ref pad, .ref pp, .ref im, vse, vtr])), (pad, .inr (0, [.ref sg, .ref sl, .int (nI pm)])), (sg, .inl (gI G, 40, .inl fsg)), (sl, .inl (gI G, 10, .inl fsl)), (pp, .inr (1, [.int (nI k), .int told, .int sp, .int (nI (sc k la)), .ref ac, .ref ak])), (ac, .inl (gI G, 6, .inl fc)), (ak, .inl (gI G, 4, .inl fk))]) [0, 1, 2, 3, 4, 5, 6] (by decide) rfl)
      exact W.iret (v := (nI pm)) hx hb hr (fun t9_ ht9_ hW9_ => ⟨⟨nI pm, (), rfl, by rw [c90]; exact tdA_0, by rw [ht9_]; exact hP9, hD9⟩, hS.F ht9_⟩) hS.2.2 dX9_told_67
    by_cases c91 : p0 = 1
    · refine lv_tableIn (off := 39) (tgt := 68) hx hb dX9_told_29 (by rw [c91]; decide) (by rw [c91]; decide) (by rw [c91]; decide) (by decide) ?_
      refine lv_aload_n hx hb dX9_told_68 rfl (lv_at hl 0 rfl) ?_
      refine va_get (D := G.1) (ci := 5) (v := .ref pp) (C := RX9) (T := TX9) (N := 5) hx hb hts (fun _ h => List.mem_cons_of_mem _ (List.mem_append_left _ (List.mem_append_left _ (List.mem_append_right _ h)))) hown E.K hP 0 rfl rfl 1 (by decide) (hts (.fieldLink RX9 19 "LastMap" "papers" "LLastMap$Papers;") (by decide +kernel)) (fun _ h9 => h9) rfl dX9_told_69 ?_
      refine va_get (D := G.1) (ci := 1) (v := .int (nI k)) (C := RX3) (T := TX3) (N := 6) hx hb hts (fun _ h => List.mem_cons_of_mem _ (List.mem_append_right _ h)) hown E.K hP 4 rfl rfl 0 (by decide) (hts (.fieldLink RX9 27 "LastMap$Papers" "siteCount" "I") (by decide +kernel)) (fun _ h9 => h9) rfl dX9_told_72 ?_
      have hP9 := (hP.sub (ws' := [(h0, .inr (5, [.ref pad, .ref pp, .ref im, vse, vtr])), (pad, .inr (0, [.ref sg, .ref sl, .int (nI pm)])), (sg, .inl (gI G, 40, .inl fsg)), (sl, .inl (gI G, 10, .inl fsl)), (pp, .inr (1, [.int (nI k), .int told, .int sp, .int (nI (sc k la)), .ref ac, .ref ak])), (ac, .inl (gI G, 6, .inl fc)), (ak, .inl (gI G, 4, .inl fk))]) [0, 1, 2, 3, 4, 5, 6] rfl)
      have hD9 := (hD.sub (ws' := [(h0, .inr (5, [.ref pad, .ref pp, .ref im, vse, vtr])), (pad, .inr (0, [.ref sg, .ref sl, .int (nI pm)])), (sg, .inl (gI G, 40, .inl fsg)), (sl, .inl (gI G, 10, .inl fsl)), (pp, .inr (1, [.int (nI k), .int told, .int sp, .int (nI (sc k la)), .ref ac, .ref ak])), (ac, .inl (gI G, 6, .inl fc)), (ak, .inl (gI G, 4, .inl fk))]) [0, 1, 2, 3, 4, 5, 6] (by decide) rfl)
      exact W.iret (v := (nI k)) hx hb hr (fun t9_ ht9_ hW9_ => ⟨⟨nI k, (), rfl, by rw [c91]; exact tdA_1, by rw [ht9_]; exact hP9, hD9⟩, hS.F ht9_⟩) hS.2.2 dX9_told_75
    by_cases c92 : p0 = 2
    · refine lv_tableIn (off := 47) (tgt := 76) hx hb dX9_told_29 (by rw [c92]; decide) (by rw [c92]; decide) (by rw [c92]; decide) (by decide) ?_
      refine lv_aload_n hx hb dX9_told_76 rfl (lv_at hl 0 rfl) ?_
      refine va_get (D := G.1) (ci := 5) (v := .ref pp) (C := RX9) (T := TX9) (N := 5) hx hb hts (fun _ h => List.mem_cons_of_mem _ (List.mem_append_left _ (List.mem_append_left _ (List.mem_append_right _ h)))) hown E.K hP 0 rfl rfl 1 (by decide) (hts (.fieldLink RX9 19 "LastMap" "papers" "LLastMap$Papers;") (by decide +kernel)) (fun _ h9 => h9) rfl dX9_told_77 ?_
      refine va_get (D := G.1) (ci := 1) (v := .int told) (C := RX3) (T := TX3) (N := 6) hx hb hts (fun _ h => List.mem_cons_of_mem _ (List.mem_append_right _ h)) hown E.K hP 4 rfl rfl 1 (by decide) (hts (.fieldLink RX9 31 "LastMap$Papers" "toldMaps" "I") (by decide +kernel)) (fun _ h9 => h9) rfl dX9_told_80 ?_
      have hP9 := (hP.sub (ws' := [(h0, .inr (5, [.ref pad, .ref pp, .ref im, vse, vtr])), (pad, .inr (0, [.ref sg, .ref sl, .int (nI pm)])), (sg, .inl (gI G, 40, .inl fsg)), (sl, .inl (gI G, 10, .inl fsl)), (pp, .inr (1, [.int (nI k), .int told, .int sp, .int (nI (sc k la)), .ref ac, .ref ak])), (ac, .inl (gI G, 6, .inl fc)), (ak, .inl (gI G, 4, .inl fk))]) [0, 1, 2, 3, 4, 5, 6] rfl)
      have hD9 := (hD.sub (ws' := [(h0, .inr (5, [.ref pad, .ref pp, .ref im, vse, vtr])), (pad, .inr (0, [.ref sg, .ref sl, .int (nI pm)])), (sg, .inl (gI G, 40, .inl fsg)), (sl, .inl (gI G, 10, .inl fsl)), (pp, .inr (1, [.int (nI k), .int told, .int sp, .int (nI (sc k la)), .ref ac, .ref ak])), (ac, .inl (gI G, 6, .inl fc)), (ak, .inl (gI G, 4, .inl fk))]) [0, 1, 2, 3, 4, 5, 6] (by decide) rfl)
      exact W.iret (v := told) hx hb hr (fun t9_ ht9_ hW9_ => ⟨⟨told, (), rfl, by rw [c92]; exact tdA_2, by rw [ht9_]; exact hP9, hD9⟩, hS.F ht9_⟩) hS.2.2 dX9_told_83
    by_cases c93 : p0 = 3
    · refine lv_tableIn (off := 55) (tgt := 84) hx hb dX9_told_29 (by rw [c93]; decide) (by rw [c93]; decide) (by rw [c93]; decide) (by decide) ?_
      refine lv_aload_n hx hb dX9_told_84 rfl (lv_at hl 0 rfl) ?_
      refine va_get (D := G.1) (ci := 5) (v := .ref pp) (C := RX9) (T := TX9) (N := 5) hx hb hts (fun _ h => List.mem_cons_of_mem _ (List.mem_append_left _ (List.mem_append_left _ (List.mem_append_right _ h)))) hown E.K hP 0 rfl rfl 1 (by decide) (hts (.fieldLink RX9 19 "LastMap" "papers" "LLastMap$Papers;") (by decide +kernel)) (fun _ h9 => h9) rfl dX9_told_85 ?_
      refine va_get (D := G.1) (ci := 1) (v := .int sp) (C := RX3) (T := TX3) (N := 6) hx hb hts (fun _ h => List.mem_cons_of_mem _ (List.mem_append_right _ h)) hown E.K hP 4 rfl rfl 2 (by decide) (hts (.fieldLink RX9 184 "LastMap$Papers" "spadeCount" "I") (by decide +kernel)) (fun _ h9 => h9) rfl dX9_told_88 ?_
      have hP9 := (hP.sub (ws' := [(h0, .inr (5, [.ref pad, .ref pp, .ref im, vse, vtr])), (pad, .inr (0, [.ref sg, .ref sl, .int (nI pm)])), (sg, .inl (gI G, 40, .inl fsg)), (sl, .inl (gI G, 10, .inl fsl)), (pp, .inr (1, [.int (nI k), .int told, .int sp, .int (nI (sc k la)), .ref ac, .ref ak])), (ac, .inl (gI G, 6, .inl fc)), (ak, .inl (gI G, 4, .inl fk))]) [0, 1, 2, 3, 4, 5, 6] rfl)
      have hD9 := (hD.sub (ws' := [(h0, .inr (5, [.ref pad, .ref pp, .ref im, vse, vtr])), (pad, .inr (0, [.ref sg, .ref sl, .int (nI pm)])), (sg, .inl (gI G, 40, .inl fsg)), (sl, .inl (gI G, 10, .inl fsl)), (pp, .inr (1, [.int (nI k), .int told, .int sp, .int (nI (sc k la)), .ref ac, .ref ak])), (ac, .inl (gI G, 6, .inl fc)), (ak, .inl (gI G, 4, .inl fk))]) [0, 1, 2, 3, 4, 5, 6] (by decide) rfl)
      exact W.iret (v := sp) hx hb hr (fun t9_ ht9_ hW9_ => ⟨⟨sp, (), rfl, by rw [c93]; exact tdA_3, by rw [ht9_]; exact hP9, hD9⟩, hS.F ht9_⟩) hS.2.2 dX9_told_91
    refine lv_tableOut (tgt := 92) hx hb dX9_told_29 (by ((try simp only [inR, inS, i3_lt, i3_le, i3_eq, i6_lt, i6_le, Int32.toInt_toInt64, lg_cmp_lt, lg_cmp_gt, lg_cmp_ge, lg_cmp_le, Int32.reduceToInt, Int64.reduceToInt] at c90 c91 c92 c93 ⊢); omega)) (by decide) ?_
    refine lv_bipush (v := (-2)) hx hb dX9_told_92 (by decide) ?_
    have hP9 := (hP.sub (ws' := [(h0, .inr (5, [.ref pad, .ref pp, .ref im, vse, vtr])), (pad, .inr (0, [.ref sg, .ref sl, .int (nI pm)])), (sg, .inl (gI G, 40, .inl fsg)), (sl, .inl (gI G, 10, .inl fsl)), (pp, .inr (1, [.int (nI k), .int told, .int sp, .int (nI (sc k la)), .ref ac, .ref ak])), (ac, .inl (gI G, 6, .inl fc)), (ak, .inl (gI G, 4, .inl fk))]) [0, 1, 2, 3, 4, 5, 6] rfl)
    have hD9 := (hD.sub (ws' := [(h0, .inr (5, [.ref pad, .ref pp, .ref im, vse, vtr])), (pad, .inr (0, [.ref sg, .ref sl, .int (nI pm)])), (sg, .inl (gI G, 40, .inl fsg)), (sl, .inl (gI G, 10, .inl fsl)), (pp, .inr (1, [.int (nI k), .int told, .int sp, .int (nI (sc k la)), .ref ac, .ref ak])), (ac, .inl (gI G, 6, .inl fc)), (ak, .inl (gI G, 4, .inl fk))]) [0, 1, 2, 3, 4, 5, 6] (by decide) rfl)
    exact W.iret (v := (-2)) hx hb hr (fun t9_ ht9_ hW9_ => ⟨⟨(-2), (), rfl, tdA_d (by ((try simp only [inR, inS, i3_lt, i3_le, i3_eq, i6_lt, i6_le, Int32.toInt_toInt64, lg_cmp_lt, lg_cmp_gt, lg_cmp_ge, lg_cmp_le, Int32.reduceToInt, Int64.reduceToInt] at c1 c90 c91 c92 c93 ⊢); omega)) c90 c91 c92 c93, by rw [ht9_]; exact hP9, hD9⟩, hS.F ht9_⟩) hS.2.2 dX9_told_94
  · refine lv_iload_n hx hb dX9_told_6 rfl (lv_at hl 1 rfl) ?_
    refine lv_bipush (v := 10) hx hb dX9_told_7 (by decide) ?_
    refine lv_isub hx hb dX9_told_9 ?_
    refine lv_topi (fun x2 ex2 => ?_)
    refine ca_iR (va_runS (As := [.int x2]) (rest := []) ⟨hx, hb, hml, hown, hts⟩ (c_isHand l G s.heap.size x2) (va_cwS 1 hts gX9_told_X9_isHand rfl rfl rfl (by decide +kernel) ⟨by decide +kernel, by decide +kernel⟩) (pre_S E hP hD hS hA [] (by decide) rfl) rfl rfl hl.1 rfl (lv_room (Nat.le_of_ble_eq_true rfl)) dX9_told_10 ⟨by decide +kernel, by decide +kernel⟩) hS hP hD hA [] rfl (fun r4 _ H locs w3 hP hS => ?_)
    rcases w3 with ⟨rfl, b5⟩ | ⟨rfl, b5⟩
    · refine lv_if_eq (tgt := 28) hx hb dX9_told_13 (by decide) (fun c6 => False.elim (by revert c6; decide)) (fun _ => ?_)
      refine lv_aload_n hx hb dX9_told_16 rfl (lv_at hl 0 rfl) ?_
      refine va_get (D := G.1) (ci := 5) (v := .ref pp) (C := RX9) (T := TX9) (N := 5) hx hb hts (fun _ h => List.mem_cons_of_mem _ (List.mem_append_left _ (List.mem_append_left _ (List.mem_append_right _ h)))) hown E.K hP 0 rfl rfl 1 (by decide) (hts (.fieldLink RX9 19 "LastMap" "papers" "LLastMap$Papers;") (by decide +kernel)) (fun _ h9 => h9) rfl dX9_told_17 ?_
      refine lv_iload_n hx hb dX9_told_20 rfl (lv_at hl 1 rfl) ?_
      refine lv_bipush (v := 10) hx hb dX9_told_21 (by decide) ?_
      refine lv_isub hx hb dX9_told_23 ?_
      refine lv_topi (fun x7 ex7 => ?_)
      refine ca_iR (va_runV (As := [.int x7]) (rest := []) ⟨hx, hb, hml, hown, hts⟩ (c_kindsOf l G H.size pp ac ak (nI k) told sp (nI (sc k la)) fc fk x7) (cwV 1 hts gX9_told_X3_kindsOf rfl rfl rfl (by decide +kernel) ⟨by decide +kernel, by decide +kernel⟩) (pre_V E hP hD hS hA [4, 5, 6] (by decide) rfl 4 1 rfl rfl) rfl rfl hl.1 rfl (lv_room (Nat.le_of_ble_eq_true rfl)) dX9_told_24 ⟨by decide +kernel, by decide +kernel⟩) hS hP hD hA [4, 5, 6] rfl (fun r9 _ H locs w8 hP hS => ?_)
      have hP9 := (hP.sub (ws' := [(h0, .inr (5, [.ref pad, .ref pp, .ref im, vse, vtr])), (pad, .inr (0, [.ref sg, .ref sl, .int (nI pm)])), (sg, .inl (gI G, 40, .inl fsg)), (sl, .inl (gI G, 10, .inl fsl)), (pp, .inr (1, [.int (nI k), .int told, .int sp, .int (nI (sc k la)), .ref ac, .ref ak])), (ac, .inl (gI G, 6, .inl fc)), (ak, .inl (gI G, 4, .inl fk))]) [0, 1, 2, 3, 4, 5, 6] rfl)
      have hD9 := (hD.sub (ws' := [(h0, .inr (5, [.ref pad, .ref pp, .ref im, vse, vtr])), (pad, .inr (0, [.ref sg, .ref sl, .int (nI pm)])), (sg, .inl (gI G, 40, .inl fsg)), (sl, .inl (gI G, 10, .inl fsl)), (pp, .inr (1, [.int (nI k), .int told, .int sp, .int (nI (sc k la)), .ref ac, .ref ak])), (ac, .inl (gI G, 6, .inl fc)), (ak, .inl (gI G, 4, .inl fk))]) [0, 1, 2, 3, 4, 5, 6] (by decide) rfl)
      exact W.iret (v := r9) hx hb hr (fun t9_ ht9_ hW9_ => ⟨⟨r9, (), rfl, by rw [w8, cIf_t (by rw [ex7, ← ex2]; exact b5), ex7]; exact tdA_k ((td10 c1).mp (by rw [← ex2]; exact b5)), by rw [ht9_]; exact hP9, hD9⟩, hS.F ht9_⟩) hS.2.2 dX9_told_27
    · refine lv_if_eq (tgt := 28) hx hb dX9_told_13 (by decide) (fun _ => ?_) (fun c10 => False.elim (by revert c10; decide))
      refine lv_iload_n hx hb dX9_told_28 rfl (lv_at hl 1 rfl) ?_
      by_cases c90 : p0 = 0
      · refine lv_tableIn (off := 31) (tgt := 60) hx hb dX9_told_29 (by rw [c90]; decide) (by rw [c90]; decide) (by rw [c90]; decide) (by decide) ?_
        refine lv_aload_n hx hb dX9_told_60 rfl (lv_at hl 0 rfl) ?_
        refine va_get (D := G.1) (ci := 5) (v := .ref pad) (C := RX9) (T := TX9) (N := 5) hx hb hts (fun _ h => List.mem_cons_of_mem _ (List.mem_append_left _ (List.mem_append_left _ (List.mem_append_right _ h)))) hown E.K hP 0 rfl rfl 0 (by decide) (hts (.fieldLink RX9 10 "LastMap" "pad" "LLastMap$Pad;") (by decide +kernel)) (fun _ h9 => h9) rfl dX9_told_61 ?_
        refine va_get (D := G.1) (ci := 0) (v := .int (nI pm)) (C := RX2) (T := TX2) (N := 3) hx hb hts (fun _ h => List.mem_cons_of_mem _ (List.mem_append_left _ (List.mem_append_right _ h))) hown E.K hP 1 rfl rfl 2 (by decide) (hts (.fieldLink RX9 41 "LastMap$Pad" "length" "I") (by decide +kernel)) (fun _ h9 => h9) rfl dX9_told_64 ?_
        have hP9 := (hP.sub (ws' := [(h0, .inr (5, [.ref pad, .ref pp, .ref im, vse, vtr])), (pad, .inr (0, [.ref sg, .ref sl, .int (nI pm)])), (sg, .inl (gI G, 40, .inl fsg)), (sl, .inl (gI G, 10, .inl fsl)), (pp, .inr (1, [.int (nI k), .int told, .int sp, .int (nI (sc k la)), .ref ac, .ref ak])), (ac, .inl (gI G, 6, .inl fc)), (ak, .inl (gI G, 4, .inl fk))]) [0, 1, 2, 3, 4, 5, 6] rfl)
        have hD9 := (hD.sub (ws' := [(h0, .inr (5, [.ref pad, .ref pp, .ref im, vse, vtr])), (pad, .inr (0, [.ref sg, .ref sl, .int (nI pm)])), (sg, .inl (gI G, 40, .inl fsg)), (sl, .inl (gI G, 10, .inl fsl)), (pp, .inr (1, [.int (nI k), .int told, .int sp, .int (nI (sc k la)), .ref ac, .ref ak])), (ac, .inl (gI G, 6, .inl fc)), (ak, .inl (gI G, 4, .inl fk))]) [0, 1, 2, 3, 4, 5, 6] (by decide) rfl)
        exact W.iret (v := (nI pm)) hx hb hr (fun t9_ ht9_ hW9_ => ⟨⟨nI pm, (), rfl, by rw [c90]; exact tdA_0, by rw [ht9_]; exact hP9, hD9⟩, hS.F ht9_⟩) hS.2.2 dX9_told_67
      by_cases c91 : p0 = 1
      · refine lv_tableIn (off := 39) (tgt := 68) hx hb dX9_told_29 (by rw [c91]; decide) (by rw [c91]; decide) (by rw [c91]; decide) (by decide) ?_
        refine lv_aload_n hx hb dX9_told_68 rfl (lv_at hl 0 rfl) ?_
        refine va_get (D := G.1) (ci := 5) (v := .ref pp) (C := RX9) (T := TX9) (N := 5) hx hb hts (fun _ h => List.mem_cons_of_mem _ (List.mem_append_left _ (List.mem_append_left _ (List.mem_append_right _ h)))) hown E.K hP 0 rfl rfl 1 (by decide) (hts (.fieldLink RX9 19 "LastMap" "papers" "LLastMap$Papers;") (by decide +kernel)) (fun _ h9 => h9) rfl dX9_told_69 ?_
        refine va_get (D := G.1) (ci := 1) (v := .int (nI k)) (C := RX3) (T := TX3) (N := 6) hx hb hts (fun _ h => List.mem_cons_of_mem _ (List.mem_append_right _ h)) hown E.K hP 4 rfl rfl 0 (by decide) (hts (.fieldLink RX9 27 "LastMap$Papers" "siteCount" "I") (by decide +kernel)) (fun _ h9 => h9) rfl dX9_told_72 ?_
        have hP9 := (hP.sub (ws' := [(h0, .inr (5, [.ref pad, .ref pp, .ref im, vse, vtr])), (pad, .inr (0, [.ref sg, .ref sl, .int (nI pm)])), (sg, .inl (gI G, 40, .inl fsg)), (sl, .inl (gI G, 10, .inl fsl)), (pp, .inr (1, [.int (nI k), .int told, .int sp, .int (nI (sc k la)), .ref ac, .ref ak])), (ac, .inl (gI G, 6, .inl fc)), (ak, .inl (gI G, 4, .inl fk))]) [0, 1, 2, 3, 4, 5, 6] rfl)
        have hD9 := (hD.sub (ws' := [(h0, .inr (5, [.ref pad, .ref pp, .ref im, vse, vtr])), (pad, .inr (0, [.ref sg, .ref sl, .int (nI pm)])), (sg, .inl (gI G, 40, .inl fsg)), (sl, .inl (gI G, 10, .inl fsl)), (pp, .inr (1, [.int (nI k), .int told, .int sp, .int (nI (sc k la)), .ref ac, .ref ak])), (ac, .inl (gI G, 6, .inl fc)), (ak, .inl (gI G, 4, .inl fk))]) [0, 1, 2, 3, 4, 5, 6] (by decide) rfl)
        exact W.iret (v := (nI k)) hx hb hr (fun t9_ ht9_ hW9_ => ⟨⟨nI k, (), rfl, by rw [c91]; exact tdA_1, by rw [ht9_]; exact hP9, hD9⟩, hS.F ht9_⟩) hS.2.2 dX9_told_75
      by_cases c92 : p0 = 2
      · refine lv_tableIn (off := 47) (tgt := 76) hx hb dX9_told_29 (by rw [c92]; decide) (by rw [c92]; decide) (by rw [c92]; decide) (by decide) ?_
        refine lv_aload_n hx hb dX9_told_76 rfl (lv_at hl 0 rfl) ?_
        refine va_get (D := G.1) (ci := 5) (v := .ref pp) (C := RX9) (T := TX9) (N := 5) hx hb hts (fun _ h => List.mem_cons_of_mem _ (List.mem_append_left _ (List.mem_append_left _ (List.mem_append_right _ h)))) hown E.K hP 0 rfl rfl 1 (by decide) (hts (.fieldLink RX9 19 "LastMap" "papers" "LLastMap$Papers;") (by decide +kernel)) (fun _ h9 => h9) rfl dX9_told_77 ?_
        refine va_get (D := G.1) (ci := 1) (v := .int told) (C := RX3) (T := TX3) (N := 6) hx hb hts (fun _ h => List.mem_cons_of_mem _ (List.mem_append_right _ h)) hown E.K hP 4 rfl rfl 1 (by decide) (hts (.fieldLink RX9 31 "LastMap$Papers" "toldMaps" "I") (by decide +kernel)) (fun _ h9 => h9) rfl dX9_told_80 ?_
        have hP9 := (hP.sub (ws' := [(h0, .inr (5, [.ref pad, .ref pp, .ref im, vse, vtr])), (pad, .inr (0, [.ref sg, .ref sl, .int (nI pm)])), (sg, .inl (gI G, 40, .inl fsg)), (sl, .inl (gI G, 10, .inl fsl)), (pp, .inr (1, [.int (nI k), .int told, .int sp, .int (nI (sc k la)), .ref ac, .ref ak])), (ac, .inl (gI G, 6, .inl fc)), (ak, .inl (gI G, 4, .inl fk))]) [0, 1, 2, 3, 4, 5, 6] rfl)
        have hD9 := (hD.sub (ws' := [(h0, .inr (5, [.ref pad, .ref pp, .ref im, vse, vtr])), (pad, .inr (0, [.ref sg, .ref sl, .int (nI pm)])), (sg, .inl (gI G, 40, .inl fsg)), (sl, .inl (gI G, 10, .inl fsl)), (pp, .inr (1, [.int (nI k), .int told, .int sp, .int (nI (sc k la)), .ref ac, .ref ak])), (ac, .inl (gI G, 6, .inl fc)), (ak, .inl (gI G, 4, .inl fk))]) [0, 1, 2, 3, 4, 5, 6] (by decide) rfl)
        exact W.iret (v := told) hx hb hr (fun t9_ ht9_ hW9_ => ⟨⟨told, (), rfl, by rw [c92]; exact tdA_2, by rw [ht9_]; exact hP9, hD9⟩, hS.F ht9_⟩) hS.2.2 dX9_told_83
      by_cases c93 : p0 = 3
      · refine lv_tableIn (off := 55) (tgt := 84) hx hb dX9_told_29 (by rw [c93]; decide) (by rw [c93]; decide) (by rw [c93]; decide) (by decide) ?_
        refine lv_aload_n hx hb dX9_told_84 rfl (lv_at hl 0 rfl) ?_
        refine va_get (D := G.1) (ci := 5) (v := .ref pp) (C := RX9) (T := TX9) (N := 5) hx hb hts (fun _ h => List.mem_cons_of_mem _ (List.mem_append_left _ (List.mem_append_left _ (List.mem_append_right _ h)))) hown E.K hP 0 rfl rfl 1 (by decide) (hts (.fieldLink RX9 19 "LastMap" "papers" "LLastMap$Papers;") (by decide +kernel)) (fun _ h9 => h9) rfl dX9_told_85 ?_
        refine va_get (D := G.1) (ci := 1) (v := .int sp) (C := RX3) (T := TX3) (N := 6) hx hb hts (fun _ h => List.mem_cons_of_mem _ (List.mem_append_right _ h)) hown E.K hP 4 rfl rfl 2 (by decide) (hts (.fieldLink RX9 184 "LastMap$Papers" "spadeCount" "I") (by decide +kernel)) (fun _ h9 => h9) rfl dX9_told_88 ?_
        have hP9 := (hP.sub (ws' := [(h0, .inr (5, [.ref pad, .ref pp, .ref im, vse, vtr])), (pad, .inr (0, [.ref sg, .ref sl, .int (nI pm)])), (sg, .inl (gI G, 40, .inl fsg)), (sl, .inl (gI G, 10, .inl fsl)), (pp, .inr (1, [.int (nI k), .int told, .int sp, .int (nI (sc k la)), .ref ac, .ref ak])), (ac, .inl (gI G, 6, .inl fc)), (ak, .inl (gI G, 4, .inl fk))]) [0, 1, 2, 3, 4, 5, 6] rfl)
        have hD9 := (hD.sub (ws' := [(h0, .inr (5, [.ref pad, .ref pp, .ref im, vse, vtr])), (pad, .inr (0, [.ref sg, .ref sl, .int (nI pm)])), (sg, .inl (gI G, 40, .inl fsg)), (sl, .inl (gI G, 10, .inl fsl)), (pp, .inr (1, [.int (nI k), .int told, .int sp, .int (nI (sc k la)), .ref ac, .ref ak])), (ac, .inl (gI G, 6, .inl fc)), (ak, .inl (gI G, 4, .inl fk))]) [0, 1, 2, 3, 4, 5, 6] (by decide) rfl)
        exact W.iret (v := sp) hx hb hr (fun t9_ ht9_ hW9_ => ⟨⟨sp, (), rfl, by rw [c93]; exact tdA_3, by rw [ht9_]; exact hP9, hD9⟩, hS.F ht9_⟩) hS.2.2 dX9_told_91
      refine lv_tableOut (tgt := 92) hx hb dX9_told_29 (by ((try simp only [inR, inS, i3_lt, i3_le, i3_eq, i6_lt, i6_le, Int32.toInt_toInt64, lg_cmp_lt, lg_cmp_gt, lg_cmp_ge, lg_cmp_le, Int32.reduceToInt, Int64.reduceToInt] at c90 c91 c92 c93 ⊢); omega)) (by decide) ?_
      refine lv_bipush (v := (-2)) hx hb dX9_told_92 (by decide) ?_
      have hP9 := (hP.sub (ws' := [(h0, .inr (5, [.ref pad, .ref pp, .ref im, vse, vtr])), (pad, .inr (0, [.ref sg, .ref sl, .int (nI pm)])), (sg, .inl (gI G, 40, .inl fsg)), (sl, .inl (gI G, 10, .inl fsl)), (pp, .inr (1, [.int (nI k), .int told, .int sp, .int (nI (sc k la)), .ref ac, .ref ak])), (ac, .inl (gI G, 6, .inl fc)), (ak, .inl (gI G, 4, .inl fk))]) [0, 1, 2, 3, 4, 5, 6] rfl)
      have hD9 := (hD.sub (ws' := [(h0, .inr (5, [.ref pad, .ref pp, .ref im, vse, vtr])), (pad, .inr (0, [.ref sg, .ref sl, .int (nI pm)])), (sg, .inl (gI G, 40, .inl fsg)), (sl, .inl (gI G, 10, .inl fsl)), (pp, .inr (1, [.int (nI k), .int told, .int sp, .int (nI (sc k la)), .ref ac, .ref ak])), (ac, .inl (gI G, 6, .inl fc)), (ak, .inl (gI G, 4, .inl fk))]) [0, 1, 2, 3, 4, 5, 6] (by decide) rfl)
      exact W.iret (v := (-2)) hx hb hr (fun t9_ ht9_ hW9_ => ⟨⟨(-2), (), rfl, tdA_d (fun q9 => b5 ((td10 c1).mpr q9 |> fun q8 => by rw [ex2]; exact q8)) c90 c91 c92 c93, by rw [ht9_]; exact hP9, hD9⟩, hS.F ht9_⟩) hS.2.2 dX9_told_94

set_option maxHeartbeats 1000000 in
set_option maxRecDepth 100000 in
theorem g_land (l : Launch) (G : Gy) (sz : Nat) (h0 : Nat) (pad : Nat) (pp : Nat) (im : Nat) (vse : Value) (vtr : Value) (ac : Nat) (ak : Nat) (sg : Nat) (sl : Nat) (k : Nat) (pm : Nat) (la : Nat) (told : Int32) (sp : Int32) (fc : Nat → Int32) (fk : Nat → Int32) (fsg : Nat → Int32) (fsl : Nat → Int32) (ma : Nat → Nat) (p0 : Int32) (hk2 : 2 ≤ k) (hk6 : k ≤ 6) (hpm : pm ≤ 40) (hla : la < 5 ^ k) (hcr : CR k told fc ma) (hsp : inR sp 1 6) : Ci l G yX9_land wsX9_land ({ frames := 2, cells := 0, slots := 0, locals := 42 }) [.ref h0, .int p0] ([(h0, .inr (5, [.ref pad, .ref pp, .ref im, vse, vtr])), (pad, .inr (0, [.ref sg, .ref sl, .int (nI pm)])), (sg, .inl (gI G, 40, .inl fsg)), (sl, .inl (gI G, 10, .inl fsl)), (pp, .inr (1, [.int (nI k), .int told, .int sp, .int (nI (sc k la)), .ref ac, .ref ak])), (ac, .inl (gI G, 6, .inl fc)), (ak, .inl (gI G, 4, .inl fk))]) sz (fun (r : Int32) (_ : Unit) => r = ldA k la p0) (fun (_ : Unit) => [(h0, .inr (5, [.ref pad, .ref pp, .ref im, vse, vtr])), (pad, .inr (0, [.ref sg, .ref sl, .int (nI pm)])), (sg, .inl (gI G, 40, .inl fsg)), (sl, .inl (gI G, 10, .inl fsl)), (pp, .inr (1, [.int (nI k), .int told, .int sp, .int (nI (sc k la)), .ref ac, .ref ak])), (ac, .inl (gI G, 6, .inl fc)), (ak, .inl (gI G, 4, .inl fk))]) 0 0 := by
  refine Met.ofW (cc := cX9_land) (maxL := 2) (ret := (some .int)) (by decide) rfl ?_
  intro p e s m args below meth c s₁ B hml hv
  obtain ⟨rfl, hsz, hP, hD0, E0⟩ := hv
  have hx := B.exec
  have hb := B.bytes
  have hr := B.returns
  have hts := atoms_spec (ws := wsX9_land) B.pre
  have hown : s.vm.findClass RX9 = some m.cls := findClass_of_methodNamed B.named
  have hlocks := B.notSynchronized
  subst hsz
  have hD := hD0.self (sz := s.heap.size)
  generalize hAe : va_A ([(h0, .inr (5, [.ref pad, .ref pp, .ref im, vse, vtr])), (pad, .inr (0, [.ref sg, .ref sl, .int (nI pm)])), (sg, .inl (gI G, 40, .inl fsg)), (sl, .inl (gI G, 10, .inl fsl)), (pp, .inr (1, [.int (nI k), .int told, .int sp, .int (nI (sc k la)), .ref ac, .ref ak])), (ac, .inl (gI G, 6, .inl fc)), (ak, .inl (gI G, 4, .inl fk))]) s.heap.size = A at hD E0 ⊢
  have E : EV G A s s.heap := E0
  have hA : ∀ q : Nat, s.heap.size ≤ q → A q := fun q h => by rw [← hAe]; exact Or.inr h
  have hS : va_S A s.heap s.heap [] := va_S.rf
  have hl := lv_entry ([.ref h0, .int p0]) (n := 2) (Nat.le_of_ble_eq_true rfl)
  rw [lg_entry_eq]
  generalize (lg_sl ([.ref h0, .int p0]) ++ List.replicate (2 - (lg_sl ([.ref h0, .int p0])).length) Slot.unset).toArray = ls at hl ⊢
  have hl : lv_has ls 2 [(0, .ref h0), (1, .int p0)] := hl
  have hP : va_P G.1 vwCl ([(h0, .inr (5, [.ref pad, .ref pp, .ref im, vse, vtr])), (pad, .inr (0, [.ref sg, .ref sl, .int (nI pm)])), (sg, .inl (gI G, 40, .inl fsg)), (sl, .inl (gI G, 10, .inl fsl)), (pp, .inr (1, [.int (nI k), .int told, .int sp, .int (nI (sc k la)), .ref ac, .ref ak])), (ac, .inl (gI G, 6, .inl fc)), (ak, .inl (gI G, 4, .inl fk))]) s.heap := hP
  refine lv_aload_n hx hb dX9_land_0 rfl (lv_at hl 0 rfl) ?_
  refine lv_iload_n hx hb dX9_land_1 rfl (lv_at hl 1 rfl) ?_
  refine ca_iR (va_runV (As := [.int p0]) (rest := []) ⟨hx, hb, hml, hown, hts⟩ (n_isSite l G s.heap.size h0 pad pp im vse vtr ac ak k told sp (nI (sc k la)) p0 hk6) (cwV 1 hts gX9_land_X9_isSite rfl rfl rfl (by decide +kernel) ⟨by decide +kernel, by decide +kernel⟩) (pre_V E hP hD hS hA [0, 4] (by decide) rfl 0 5 rfl rfl) rfl rfl hl.1 rfl (lv_room (Nat.le_of_ble_eq_true rfl)) dX9_land_2 ⟨by decide +kernel, by decide +kernel⟩) hS hP hD hA [0, 4] rfl (fun r2 _ H locs w1 hP hS => ?_)
  rcases w1 with ⟨rfl, b3⟩ | ⟨rfl, b3⟩
  · refine lv_if_eq (tgt := 25) hx hb dX9_land_5 (by decide) (fun c4 => False.elim (by revert c4; decide)) (fun _ => ?_)
    obtain ⟨j_p0, hj_p0, ej_p0⟩ := b3
    have hl : lv_has ls 2 [(0, .ref h0), (1, .int (nI j_p0))] := by have q := hl; rw [ej_p0] at q; exact q
    refine lv_aload_n hx hb dX9_land_8 rfl (lv_at hl 0 rfl) ?_
    refine va_get (D := G.1) (ci := 5) (v := .ref pp) (C := RX9) (T := TX9) (N := 5) hx hb hts (fun _ h => List.mem_cons_of_mem _ (List.mem_append_left _ (List.mem_append_right _ h))) hown E.K hP 0 rfl rfl 1 (by decide) (hts (.fieldLink RX9 19 "LastMap" "papers" "LLastMap$Papers;") (by decide +kernel)) (fun _ h9 => h9) rfl dX9_land_9 ?_
    refine va_get (D := G.1) (ci := 1) (v := .int (nI (sc k la))) (C := RX3) (T := TX3) (N := 6) hx hb hts (fun _ h => List.mem_cons_of_mem _ (List.mem_append_right _ h)) hown E.K hP 4 rfl rfl 3 (by decide) (hts (.fieldLink RX9 34 "LastMap$Papers" "ground" "I") (by decide +kernel)) (fun _ h9 => h9) rfl dX9_land_12 ?_
    refine lv_iload_n hx hb dX9_land_15 rfl (lv_at hl 1 rfl) ?_
    refine ca_iR (va_runS (As := [.int (nI (sc k la)), .int (nI j_p0)]) (rest := []) ⟨hx, hb, hml, hown, hts⟩ (n_signAt l G H.size (sc k la) j_p0 (sc_lt hk6 hla) (by omega)) (va_cwS 2 hts gX9_land_X1_signAt rfl rfl rfl (by decide +kernel) ⟨by decide +kernel, by decide +kernel⟩) (pre_S E hP hD hS hA [] (by decide) rfl) rfl rfl hl.1 rfl (lv_room (Nat.le_of_ble_eq_true rfl)) dX9_land_16 ⟨by decide +kernel, by decide +kernel⟩) hS hP hD hA [] rfl (fun r6 _ H locs w5 hP hS => ?_)
    rw [w5]
    refine ca_iR (va_runS (As := [.int (nI (dg 6 (sc k la) j_p0))]) (rest := []) ⟨hx, hb, hml, hown, hts⟩ (n_written l G H.size (dg 6 (sc k la) j_p0) (dg_lt _ _ _)) (va_cwS 1 hts gX9_land_X5_written rfl rfl rfl (by decide +kernel) ⟨by decide +kernel, by decide +kernel⟩) (pre_S E hP hD hS hA [] (by decide) rfl) rfl rfl hl.1 rfl (lv_room (Nat.le_of_ble_eq_true rfl)) dX9_land_19 ⟨by decide +kernel, by decide +kernel⟩) hS hP hD hA [] rfl (fun r8 _ H locs w7 hP hS => ?_)
    refine lv_goto (tgt := 26) hx hb dX9_land_22 (by decide) ?_
    have hP9 := (hP.sub (ws' := [(h0, .inr (5, [.ref pad, .ref pp, .ref im, vse, vtr])), (pad, .inr (0, [.ref sg, .ref sl, .int (nI pm)])), (sg, .inl (gI G, 40, .inl fsg)), (sl, .inl (gI G, 10, .inl fsl)), (pp, .inr (1, [.int (nI k), .int told, .int sp, .int (nI (sc k la)), .ref ac, .ref ak])), (ac, .inl (gI G, 6, .inl fc)), (ak, .inl (gI G, 4, .inl fk))]) [0, 1, 2, 3, 4, 5, 6] rfl)
    have hD9 := (hD.sub (ws' := [(h0, .inr (5, [.ref pad, .ref pp, .ref im, vse, vtr])), (pad, .inr (0, [.ref sg, .ref sl, .int (nI pm)])), (sg, .inl (gI G, 40, .inl fsg)), (sl, .inl (gI G, 10, .inl fsl)), (pp, .inr (1, [.int (nI k), .int told, .int sp, .int (nI (sc k la)), .ref ac, .ref ak])), (ac, .inl (gI G, 6, .inl fc)), (ak, .inl (gI G, 4, .inl fk))]) [0, 1, 2, 3, 4, 5, 6] (by decide) rfl)
    exact W.iret (v := r8) hx hb hr (fun t9_ ht9_ hW9_ => ⟨⟨r8, (), rfl, by rw [w7, dg_sc hk6 hj_p0]; exact ldA_2 hk6 hj_p0 ej_p0, by rw [ht9_]; exact hP9, hD9⟩, hS.F ht9_⟩) hS.2.2 dX9_land_26
  · refine lv_if_eq (tgt := 25) hx hb dX9_land_5 (by decide) (fun _ => ?_) (fun c9 => False.elim (by revert c9; decide))
    refine lv_iconst (v := (-1)) hx hb dX9_land_25 (by decide) ?_
    have hP9 := (hP.sub (ws' := [(h0, .inr (5, [.ref pad, .ref pp, .ref im, vse, vtr])), (pad, .inr (0, [.ref sg, .ref sl, .int (nI pm)])), (sg, .inl (gI G, 40, .inl fsg)), (sl, .inl (gI G, 10, .inl fsl)), (pp, .inr (1, [.int (nI k), .int told, .int sp, .int (nI (sc k la)), .ref ac, .ref ak])), (ac, .inl (gI G, 6, .inl fc)), (ak, .inl (gI G, 4, .inl fk))]) [0, 1, 2, 3, 4, 5, 6] rfl)
    have hD9 := (hD.sub (ws' := [(h0, .inr (5, [.ref pad, .ref pp, .ref im, vse, vtr])), (pad, .inr (0, [.ref sg, .ref sl, .int (nI pm)])), (sg, .inl (gI G, 40, .inl fsg)), (sl, .inl (gI G, 10, .inl fsl)), (pp, .inr (1, [.int (nI k), .int told, .int sp, .int (nI (sc k la)), .ref ac, .ref ak])), (ac, .inl (gI G, 6, .inl fc)), (ak, .inl (gI G, 4, .inl fk))]) [0, 1, 2, 3, 4, 5, 6] (by decide) rfl)
    exact W.iret (v := (-1)) hx hb hr (fun t9_ ht9_ hW9_ => ⟨⟨(-1), (), rfl, ldA_1 b3, by rw [ht9_]; exact hP9, hD9⟩, hS.F ht9_⟩) hS.2.2 dX9_land_26

set_option maxHeartbeats 1000000 in
set_option maxRecDepth 100000 in
theorem g_years (l : Launch) (G : Gy) (sz : Nat) (h0 : Nat) (pad : Nat) (pp : Nat) (im : Nat) (vse : Value) (vtr : Value) (ac : Nat) (ak : Nat) (sg : Nat) (sl : Nat) (k : Nat) (pm : Nat) (la : Nat) (told : Int32) (sp : Int32) (fc : Nat → Int32) (fk : Nat → Int32) (fsg : Nat → Int32) (fsl : Nat → Int32) (ma : Nat → Nat) (p0 : Int32) (hk2 : 2 ≤ k) (hk6 : k ≤ 6) (hpm : pm ≤ 40) (hla : la < 5 ^ k) (hcr : CR k told fc ma) (hsp : inR sp 1 6) : Ci l G yX9_years wsX9_years ({ frames := 3, cells := 0, slots := 0, locals := 65 }) [.ref h0, .int p0] ([(h0, .inr (5, [.ref pad, .ref pp, .ref im, vse, vtr])), (pad, .inr (0, [.ref sg, .ref sl, .int (nI pm)])), (sg, .inl (gI G, 40, .inl fsg)), (sl, .inl (gI G, 10, .inl fsl)), (pp, .inr (1, [.int (nI k), .int told, .int sp, .int (nI (sc k la)), .ref ac, .ref ak])), (ac, .inl (gI G, 6, .inl fc)), (ak, .inl (gI G, 4, .inl fk))]) sz (fun (r : Int32) (_ : Unit) => r = yrA k la told sp ma p0) (fun (_ : Unit) => [(h0, .inr (5, [.ref pad, .ref pp, .ref im, vse, vtr])), (pad, .inr (0, [.ref sg, .ref sl, .int (nI pm)])), (sg, .inl (gI G, 40, .inl fsg)), (sl, .inl (gI G, 10, .inl fsl)), (pp, .inr (1, [.int (nI k), .int told, .int sp, .int (nI (sc k la)), .ref ac, .ref ak])), (ac, .inl (gI G, 6, .inl fc)), (ak, .inl (gI G, 4, .inl fk))]) 0 0 := by
  refine Met.ofW (cc := cX9_years) (maxL := 4) (ret := (some .int)) (by decide) rfl ?_
  intro p e s m args below meth c s₁ B hml hv
  obtain ⟨rfl, hsz, hP, hD0, E0⟩ := hv
  have hx := B.exec
  have hb := B.bytes
  have hr := B.returns
  have hts := atoms_spec (ws := wsX9_years) B.pre
  have hown : s.vm.findClass RX9 = some m.cls := findClass_of_methodNamed B.named
  have hlocks := B.notSynchronized
  subst hsz
  have hD := hD0.self (sz := s.heap.size)
  generalize hAe : va_A ([(h0, .inr (5, [.ref pad, .ref pp, .ref im, vse, vtr])), (pad, .inr (0, [.ref sg, .ref sl, .int (nI pm)])), (sg, .inl (gI G, 40, .inl fsg)), (sl, .inl (gI G, 10, .inl fsl)), (pp, .inr (1, [.int (nI k), .int told, .int sp, .int (nI (sc k la)), .ref ac, .ref ak])), (ac, .inl (gI G, 6, .inl fc)), (ak, .inl (gI G, 4, .inl fk))]) s.heap.size = A at hD E0 ⊢
  have E : EV G A s s.heap := E0
  have hA : ∀ q : Nat, s.heap.size ≤ q → A q := fun q h => by rw [← hAe]; exact Or.inr h
  have hS : va_S A s.heap s.heap [] := va_S.rf
  have hl := lv_entry ([.ref h0, .int p0]) (n := 4) (Nat.le_of_ble_eq_true rfl)
  rw [lg_entry_eq]
  generalize (lg_sl ([.ref h0, .int p0]) ++ List.replicate (4 - (lg_sl ([.ref h0, .int p0])).length) Slot.unset).toArray = ls at hl ⊢
  have hl : lv_has ls 4 [(0, .ref h0), (1, .int p0)] := hl
  have hP : va_P G.1 vwCl ([(h0, .inr (5, [.ref pad, .ref pp, .ref im, vse, vtr])), (pad, .inr (0, [.ref sg, .ref sl, .int (nI pm)])), (sg, .inl (gI G, 40, .inl fsg)), (sl, .inl (gI G, 10, .inl fsl)), (pp, .inr (1, [.int (nI k), .int told, .int sp, .int (nI (sc k la)), .ref ac, .ref ak])), (ac, .inl (gI G, 6, .inl fc)), (ak, .inl (gI G, 4, .inl fk))]) s.heap := hP
  refine lv_iload_n hx hb dX9_years_0 rfl (lv_at hl 1 rfl) ?_
  refine ca_iR (va_runS (As := [.int p0]) (rest := []) ⟨hx, hb, hml, hown, hts⟩ (c_isMap l G s.heap.size p0) (va_cwS 1 hts gX9_years_X9_isMap rfl rfl rfl (by decide +kernel) ⟨by decide +kernel, by decide +kernel⟩) (pre_S E hP hD hS hA [] (by decide) rfl) rfl rfl hl.1 rfl (lv_room (Nat.le_of_ble_eq_true rfl)) dX9_years_1 ⟨by decide +kernel, by decide +kernel⟩) hS hP hD hA [] rfl (fun r2 _ H locs w1 hP hS => ?_)
  rcases w1 with ⟨rfl, b3⟩ | ⟨rfl, b3⟩
  · refine lv_if_ne (tgt := 9) hx hb dX9_years_4 (by decide) (fun _ => ?_) (fun c4 => False.elim (by revert c4; decide))
    refine lv_aload_n hx hb dX9_years_9 rfl (lv_at hl 0 rfl) ?_
    refine lv_iload_n hx hb dX9_years_10 rfl (lv_at hl 1 rfl) ?_
    refine ca_iR (va_runV (As := [.int p0]) (rest := []) ⟨hx, hb, hml, hown, hts⟩ (n_isTold l G H.size h0 pad pp im vse vtr ac ak (nI k) told sp (nI (sc k la)) p0) (cwV 1 hts gX9_years_X9_isTold rfl rfl rfl (by decide +kernel) ⟨by decide +kernel, by decide +kernel⟩) (pre_V E hP hD hS hA [0, 4] (by decide) rfl 0 5 rfl rfl) rfl rfl hl.1 rfl (lv_room (Nat.le_of_ble_eq_true rfl)) dX9_years_11 ⟨by decide +kernel, by decide +kernel⟩) hS hP hD hA [0, 4] rfl (fun r6 _ H locs w5 hP hS => ?_)
    rcases w5 with ⟨rfl, b7⟩ | ⟨rfl, b7⟩
    · refine lv_if_ne (tgt := 20) hx hb dX9_years_14 (by decide) (fun _ => ?_) (fun c8 => False.elim (by revert c8; decide))
      obtain ⟨j_p0, hj_p0, ej_p0⟩ := inR6 b3
      have hl : lv_has ls 4 [(0, .ref h0), (1, .int (nI j_p0))] := by have q := hl; rw [ej_p0] at q; exact q
      have htd := b7.2
      have hcj := hcr j_p0 hj_p0 (by rw [← ej_p0]; exact htd)
      have hc6 := sc_lt hk6 hcj.1
      refine lv_aload_n hx hb dX9_years_20 rfl (lv_at hl 0 rfl) ?_
      refine va_get (D := G.1) (ci := 5) (v := .ref pp) (C := RX9) (T := TX9) (N := 5) hx hb hts (fun _ h => List.mem_cons_of_mem _ (List.mem_append_left _ (List.mem_append_right _ h))) hown E.K hP 0 rfl rfl 1 (by decide) (hts (.fieldLink RX9 19 "LastMap" "papers" "LLastMap$Papers;") (by decide +kernel)) (fun _ h9 => h9) rfl dX9_years_21 ?_
      refine va_get (D := G.1) (ci := 1) (v := .int (nI (sc k la))) (C := RX3) (T := TX3) (N := 6) hx hb hts (fun _ h => List.mem_cons_of_mem _ (List.mem_append_right _ h)) hown E.K hP 4 rfl rfl 3 (by decide) (hts (.fieldLink RX9 34 "LastMap$Papers" "ground" "I") (by decide +kernel)) (fun _ h9 => h9) rfl dX9_years_24 ?_
      refine lv_aload_n hx hb dX9_years_27 rfl (lv_at hl 0 rfl) ?_
      refine va_get (D := G.1) (ci := 5) (v := .ref pp) (C := RX9) (T := TX9) (N := 5) hx hb hts (fun _ h => List.mem_cons_of_mem _ (List.mem_append_left _ (List.mem_append_right _ h))) hown E.K hP 0 rfl rfl 1 (by decide) (hts (.fieldLink RX9 19 "LastMap" "papers" "LLastMap$Papers;") (by decide +kernel)) (fun _ h9 => h9) rfl dX9_years_28 ?_
      refine lv_iload_n hx hb dX9_years_31 rfl (lv_at hl 1 rfl) ?_
      refine ca_iR (va_runV (As := [.int (nI j_p0)]) (rest := [.int (nI (sc k la))]) ⟨hx, hb, hml, hown, hts⟩ (n_codeOf l G H.size pp ac ak (nI k) told sp (nI (sc k la)) fc fk j_p0 (by omega)) (cwV 1 hts gX9_years_X3_codeOf rfl rfl rfl (by decide +kernel) ⟨by decide +kernel, by decide +kernel⟩) (pre_V E hP hD hS hA [4, 5, 6] (by decide) rfl 4 1 rfl rfl) rfl rfl hl.1 rfl (lv_room (Nat.le_of_ble_eq_true rfl)) dX9_years_32 ⟨by decide +kernel, by decide +kernel⟩) hS hP hD hA [4, 5, 6] rfl (fun r10 _ H locs w9 hP hS => ?_)
      obtain rfl : r10 = nI (sc k (ma j_p0)) := by rw [w9]; exact hcj.2
      refine ca_iR (va_runS (As := [.int (nI (sc k la)), .int (nI (sc k (ma j_p0)))]) (rest := []) ⟨hx, hb, hml, hown, hts⟩ (n_unlike l G H.size (sc k la) (sc k (ma j_p0)) (sc_lt hk6 hla) hc6) (va_cwS 2 hts gX9_years_X1_unlike rfl rfl rfl (by decide +kernel) ⟨by decide +kernel, by decide +kernel⟩) (pre_S E hP hD hS hA [] (by decide) rfl) rfl rfl hl.1 rfl (lv_room (Nat.le_of_ble_eq_true rfl)) dX9_years_35 ⟨by decide +kernel, by decide +kernel⟩) hS hP hD hA [] rfl (fun r12 _ H locs w11 hP hS => ?_)
      rw [w11]
      refine lv_istore_n (lv' := [(2, .int (nI (unl 6 (sc k la) (sc k (ma j_p0)) 6))), (0, .ref h0), (1, .int (nI j_p0))]) hx hb dX9_years_38 rfl hl (by decide) rfl (fun ls hl => ?_)
      refine lv_iconst (v := 1) hx hb dX9_years_39 (by decide) ?_
      refine lv_aload_n hx hb dX9_years_40 rfl (lv_at hl 1 rfl) ?_
      refine va_get (D := G.1) (ci := 5) (v := .ref pp) (C := RX9) (T := TX9) (N := 5) hx hb hts (fun _ h => List.mem_cons_of_mem _ (List.mem_append_left _ (List.mem_append_right _ h))) hown E.K hP 0 rfl rfl 1 (by decide) (hts (.fieldLink RX9 19 "LastMap" "papers" "LLastMap$Papers;") (by decide +kernel)) (fun _ h9 => h9) rfl dX9_years_41 ?_
      refine va_get (D := G.1) (ci := 1) (v := .int sp) (C := RX3) (T := TX3) (N := 6) hx hb hts (fun _ h => List.mem_cons_of_mem _ (List.mem_append_right _ h)) hown E.K hP 4 rfl rfl 2 (by decide) (hts (.fieldLink RX9 184 "LastMap$Papers" "spadeCount" "I") (by decide +kernel)) (fun _ h9 => h9) rfl dX9_years_44 ?_
      refine va_mmax (x := 1) (y := sp) hx hb (by rw [hml, hl.1]) hown (hts (.methodLink RX9 190 Lib.Math.max.name) (by decide +kernel)) (hts (.static Lib.Math.max.name) (by decide +kernel)) (hts (.initialized "java/lang/Math") (by decide +kernel)) (hts (.code Lib.Math.max.name Lib.Math.max.code 2 (some .int)) (by decide +kernel)) (by decide +kernel) (by decide +kernel) (by decide +kernel) (by decide +kernel) dX9_years_47 ?_
      refine lv_topi (fun x13 ex13 => ?_)
      obtain rfl : sp = x13 := by rw [ex13]; exact (max1_sp hsp).symm
      refine lv_istore_n (lv' := [(3, .int sp), (2, .int (nI (unl 6 (sc k la) (sc k (ma j_p0)) 6))), (0, .ref h0), (1, .int (nI j_p0))]) hx hb dX9_years_50 rfl hl (by decide) rfl (fun ls hl => ?_)
      refine lv_iload_n hx hb dX9_years_51 rfl (lv_at hl 1 rfl) ?_
      refine lv_iload_n hx hb dX9_years_52 rfl (lv_at hl 0 rfl) ?_
      refine lv_iadd hx hb dX9_years_53 ?_
      refine lv_topi (fun x14 ex14 => ?_)
      refine lv_iconst (v := 1) hx hb dX9_years_54 (by decide) ?_
      refine lv_isub hx hb dX9_years_55 ?_
      refine lv_topi (fun x15 ex15 => ?_)
      refine lv_iload_n hx hb dX9_years_56 rfl (lv_at hl 0 rfl) ?_
      refine lv_idiv hx hb dX9_years_57 (sp_ne hsp) ?_
      refine lv_topi (fun x16 ex16 => ?_)
      have hP9 := (hP.sub (ws' := [(h0, .inr (5, [.ref pad, .ref pp, .ref im, vse, vtr])), (pad, .inr (0, [.ref sg, .ref sl, .int (nI pm)])), (sg, .inl (gI G, 40, .inl fsg)), (sl, .inl (gI G, 10, .inl fsl)), (pp, .inr (1, [.int (nI k), .int told, .int sp, .int (nI (sc k la)), .ref ac, .ref ak])), (ac, .inl (gI G, 6, .inl fc)), (ak, .inl (gI G, 4, .inl fk))]) [0, 1, 2, 3, 4, 5, 6] rfl)
      have hD9 := (hD.sub (ws' := [(h0, .inr (5, [.ref pad, .ref pp, .ref im, vse, vtr])), (pad, .inr (0, [.ref sg, .ref sl, .int (nI pm)])), (sg, .inl (gI G, 40, .inl fsg)), (sl, .inl (gI G, 10, .inl fsl)), (pp, .inr (1, [.int (nI k), .int told, .int sp, .int (nI (sc k la)), .ref ac, .ref ak])), (ac, .inl (gI G, 6, .inl fc)), (ak, .inl (gI G, 4, .inl fk))]) [0, 1, 2, 3, 4, 5, 6] (by decide) rfl)
      exact W.iret (v := x16) hx hb hr (fun t9_ ht9_ hW9_ => ⟨⟨x16, (), rfl, by rw [ex16, ex15, ex14, unl_six hk6]; exact yrA_3 hj_p0 ej_p0 htd, by rw [ht9_]; exact hP9, hD9⟩, hS.F ht9_⟩) hS.2.2 dX9_years_58
    · refine lv_if_ne (tgt := 20) hx hb dX9_years_14 (by decide) (fun c17 => False.elim (by revert c17; decide)) (fun _ => ?_)
      refine lv_bipush (v := (-3)) hx hb dX9_years_17 (by decide) ?_
      have hP9 := (hP.sub (ws' := [(h0, .inr (5, [.ref pad, .ref pp, .ref im, vse, vtr])), (pad, .inr (0, [.ref sg, .ref sl, .int (nI pm)])), (sg, .inl (gI G, 40, .inl fsg)), (sl, .inl (gI G, 10, .inl fsl)), (pp, .inr (1, [.int (nI k), .int told, .int sp, .int (nI (sc k la)), .ref ac, .ref ak])), (ac, .inl (gI G, 6, .inl fc)), (ak, .inl (gI G, 4, .inl fk))]) [0, 1, 2, 3, 4, 5, 6] rfl)
      have hD9 := (hD.sub (ws' := [(h0, .inr (5, [.ref pad, .ref pp, .ref im, vse, vtr])), (pad, .inr (0, [.ref sg, .ref sl, .int (nI pm)])), (sg, .inl (gI G, 40, .inl fsg)), (sl, .inl (gI G, 10, .inl fsl)), (pp, .inr (1, [.int (nI k), .int told, .int sp, .int (nI (sc k la)), .ref ac, .ref ak])), (ac, .inl (gI G, 6, .inl fc)), (ak, .inl (gI G, 4, .inl fk))]) [0, 1, 2, 3, 4, 5, 6] (by decide) rfl)
      exact W.iret (v := (-3)) hx hb hr (fun t9_ ht9_ hW9_ => ⟨⟨(-3), (), rfl, yrA_2 b3 (fun q9 => b7 ⟨b3, q9⟩), by rw [ht9_]; exact hP9, hD9⟩, hS.F ht9_⟩) hS.2.2 dX9_years_19
  · refine lv_if_ne (tgt := 9) hx hb dX9_years_4 (by decide) (fun c18 => False.elim (by revert c18; decide)) (fun _ => ?_)
    refine lv_iconst (v := (-1)) hx hb dX9_years_7 (by decide) ?_
    have hP9 := (hP.sub (ws' := [(h0, .inr (5, [.ref pad, .ref pp, .ref im, vse, vtr])), (pad, .inr (0, [.ref sg, .ref sl, .int (nI pm)])), (sg, .inl (gI G, 40, .inl fsg)), (sl, .inl (gI G, 10, .inl fsl)), (pp, .inr (1, [.int (nI k), .int told, .int sp, .int (nI (sc k la)), .ref ac, .ref ak])), (ac, .inl (gI G, 6, .inl fc)), (ak, .inl (gI G, 4, .inl fk))]) [0, 1, 2, 3, 4, 5, 6] rfl)
    have hD9 := (hD.sub (ws' := [(h0, .inr (5, [.ref pad, .ref pp, .ref im, vse, vtr])), (pad, .inr (0, [.ref sg, .ref sl, .int (nI pm)])), (sg, .inl (gI G, 40, .inl fsg)), (sl, .inl (gI G, 10, .inl fsl)), (pp, .inr (1, [.int (nI k), .int told, .int sp, .int (nI (sc k la)), .ref ac, .ref ak])), (ac, .inl (gI G, 6, .inl fc)), (ak, .inl (gI G, 4, .inl fk))]) [0, 1, 2, 3, 4, 5, 6] (by decide) rfl)
    exact W.iret (v := (-1)) hx hb hr (fun t9_ ht9_ hW9_ => ⟨⟨(-1), (), rfl, yrA_1 b3, by rw [ht9_]; exact hP9, hD9⟩, hS.F ht9_⟩) hS.2.2 dX9_years_8

set_option maxHeartbeats 1000000 in
set_option maxRecDepth 100000 in
theorem g_follow (l : Launch) (G : Gy) (sz : Nat) (h0 : Nat) (pad : Nat) (pp : Nat) (im : Nat) (vse : Value) (vtr : Value) (ac : Nat) (ak : Nat) (sg : Nat) (sl : Nat) (k : Nat) (pm : Nat) (la : Nat) (told : Int32) (sp : Int32) (fc : Nat → Int32) (fk : Nat → Int32) (fsg : Nat → Int32) (fsl : Nat → Int32) (ma : Nat → Nat) (p0 : Int32) (p1 : Int32) (hk2 : 2 ≤ k) (hk6 : k ≤ 6) (hpm : pm ≤ 40) (hla : la < 5 ^ k) (hcr : CR k told fc ma) (hsp : inR sp 1 6) : Ci l G yX9_follow wsX9_follow ({ frames := 3, cells := 0, slots := 0, locals := 65 }) [.ref h0, .int p0, .int p1] ([(h0, .inr (5, [.ref pad, .ref pp, .ref im, vse, vtr])), (pad, .inr (0, [.ref sg, .ref sl, .int (nI pm)])), (sg, .inl (gI G, 40, .inl fsg)), (sl, .inl (gI G, 10, .inl fsl)), (pp, .inr (1, [.int (nI k), .int told, .int sp, .int (nI (sc k la)), .ref ac, .ref ak])), (ac, .inl (gI G, 6, .inl fc)), (ak, .inl (gI G, 4, .inl fk))]) sz (fun (r : Int32) (gr1 : Int32) => r = (flA k la told sp ma p0 p1).1 ∧ gr1 = nI (sc k (flA k la told sp ma p0 p1).2)) (fun (gr1 : Int32) => [(h0, .inr (5, [.ref pad, .ref pp, .ref im, vse, vtr])), (pad, .inr (0, [.ref sg, .ref sl, .int (nI pm)])), (sg, .inl (gI G, 40, .inl fsg)), (sl, .inl (gI G, 10, .inl fsl)), (pp, .inr (1, [.int (nI k), .int told, .int sp, .int gr1, .ref ac, .ref ak])), (ac, .inl (gI G, 6, .inl fc)), (ak, .inl (gI G, 4, .inl fk))]) 0 0 := by
  refine Met.ofW (cc := cX9_follow) (maxL := 7) (ret := (some .int)) (by decide) rfl ?_
  intro p e s m args below meth c s₁ B hml hv
  obtain ⟨rfl, hsz, hP, hD0, E0⟩ := hv
  have hx := B.exec
  have hb := B.bytes
  have hr := B.returns
  have hts := atoms_spec (ws := wsX9_follow) B.pre
  have hown : s.vm.findClass RX9 = some m.cls := findClass_of_methodNamed B.named
  have hlocks := B.notSynchronized
  subst hsz
  have hD := hD0.self (sz := s.heap.size)
  generalize hAe : va_A ([(h0, .inr (5, [.ref pad, .ref pp, .ref im, vse, vtr])), (pad, .inr (0, [.ref sg, .ref sl, .int (nI pm)])), (sg, .inl (gI G, 40, .inl fsg)), (sl, .inl (gI G, 10, .inl fsl)), (pp, .inr (1, [.int (nI k), .int told, .int sp, .int (nI (sc k la)), .ref ac, .ref ak])), (ac, .inl (gI G, 6, .inl fc)), (ak, .inl (gI G, 4, .inl fk))]) s.heap.size = A at hD E0 ⊢
  have E : EV G A s s.heap := E0
  have hA : ∀ q : Nat, s.heap.size ≤ q → A q := fun q h => by rw [← hAe]; exact Or.inr h
  have hS : va_S A s.heap s.heap [] := va_S.rf
  have hl := lv_entry ([.ref h0, .int p0, .int p1]) (n := 7) (Nat.le_of_ble_eq_true rfl)
  rw [lg_entry_eq]
  generalize (lg_sl ([.ref h0, .int p0, .int p1]) ++ List.replicate (7 - (lg_sl ([.ref h0, .int p0, .int p1])).length) Slot.unset).toArray = ls at hl ⊢
  have hl : lv_has ls 7 [(0, .ref h0), (1, .int p0), (2, .int p1)] := hl
  have hP : va_P G.1 vwCl ([(h0, .inr (5, [.ref pad, .ref pp, .ref im, vse, vtr])), (pad, .inr (0, [.ref sg, .ref sl, .int (nI pm)])), (sg, .inl (gI G, 40, .inl fsg)), (sl, .inl (gI G, 10, .inl fsl)), (pp, .inr (1, [.int (nI k), .int told, .int sp, .int (nI (sc k la)), .ref ac, .ref ak])), (ac, .inl (gI G, 6, .inl fc)), (ak, .inl (gI G, 4, .inl fk))]) s.heap := hP
  refine lv_iload_n hx hb dX9_follow_0 rfl (lv_at hl 1 rfl) ?_
  refine ca_iR (va_runS (As := [.int p0]) (rest := []) ⟨hx, hb, hml, hown, hts⟩ (c_isMap l G s.heap.size p0) (va_cwS 1 hts gX9_follow_X9_isMap rfl rfl rfl (by decide +kernel) ⟨by decide +kernel, by decide +kernel⟩) (pre_S E hP hD hS hA [] (by decide) rfl) rfl rfl hl.1 rfl (lv_room (Nat.le_of_ble_eq_true rfl)) dX9_follow_1 ⟨by decide +kernel, by decide +kernel⟩) hS hP hD hA [] rfl (fun r2 _ H locs w1 hP hS => ?_)
  rcases w1 with ⟨rfl, b3⟩ | ⟨rfl, b3⟩
  · refine lv_if_ne (tgt := 9) hx hb dX9_follow_4 (by decide) (fun _ => ?_) (fun c4 => False.elim (by revert c4; decide))
    refine lv_iload_n hx hb dX9_follow_9 rfl (lv_at hl 2 rfl) ?_
    refine lv_if_lt (tgt := 19) hx hb dX9_follow_10 (by decide) (fun c5 => ?_) (fun c5 => ?_)
    · refine lv_bipush (v := (-2)) hx hb dX9_follow_19 (by decide) ?_
      have hP9 := (hP.sub (ws' := [(h0, .inr (5, [.ref pad, .ref pp, .ref im, vse, vtr])), (pad, .inr (0, [.ref sg, .ref sl, .int (nI pm)])), (sg, .inl (gI G, 40, .inl fsg)), (sl, .inl (gI G, 10, .inl fsl)), (pp, .inr (1, [.int (nI k), .int told, .int sp, .int (nI (sc k la)), .ref ac, .ref ak])), (ac, .inl (gI G, 6, .inl fc)), (ak, .inl (gI G, 4, .inl fk))]) [0, 1, 2, 3, 4, 5, 6] rfl)
      have hD9 := (hD.sub (ws' := [(h0, .inr (5, [.ref pad, .ref pp, .ref im, vse, vtr])), (pad, .inr (0, [.ref sg, .ref sl, .int (nI pm)])), (sg, .inl (gI G, 40, .inl fsg)), (sl, .inl (gI G, 10, .inl fsl)), (pp, .inr (1, [.int (nI k), .int told, .int sp, .int (nI (sc k la)), .ref ac, .ref ak])), (ac, .inl (gI G, 6, .inl fc)), (ak, .inl (gI G, 4, .inl fk))]) [0, 1, 2, 3, 4, 5, 6] (by decide) rfl)
      exact W.iret (v := (-2)) hx hb hr (fun t9_ ht9_ hW9_ => ⟨⟨(-2), nI (sc k la), rfl, by rw [flA_2 b3 (by ((try simp only [inR, inS, i3_lt, i3_le, i3_eq, i6_lt, i6_le, Int32.toInt_toInt64, lg_cmp_lt, lg_cmp_gt, lg_cmp_ge, lg_cmp_le, Int32.reduceToInt, Int64.reduceToInt] at c5 ⊢); omega))]; exact ⟨rfl, rfl⟩, by rw [ht9_]; exact hP9, hD9⟩, hS.F ht9_⟩) hS.2.2 dX9_follow_21
    · refine lv_iload_n hx hb dX9_follow_13 rfl (lv_at hl 2 rfl) ?_
      refine lv_bipush (v := 9) hx hb dX9_follow_14 (by decide) ?_
      refine lv_icmp_le (tgt := 22) hx hb dX9_follow_16 (by decide) (fun c6 => ?_) (fun c6 => ?_)
      · refine lv_aload_n hx hb dX9_follow_22 rfl (lv_at hl 0 rfl) ?_
        refine lv_iload_n hx hb dX9_follow_23 rfl (lv_at hl 1 rfl) ?_
        refine ca_iR (va_runV (As := [.int p0]) (rest := []) ⟨hx, hb, hml, hown, hts⟩ (n_isTold l G H.size h0 pad pp im vse vtr ac ak (nI k) told sp (nI (sc k la)) p0) (cwV 1 hts gX9_follow_X9_isTold rfl rfl rfl (by decide +kernel) ⟨by decide +kernel, by decide +kernel⟩) (pre_V E hP hD hS hA [0, 4] (by decide) rfl 0 5 rfl rfl) rfl rfl hl.1 rfl (lv_room (Nat.le_of_ble_eq_true rfl)) dX9_follow_24 ⟨by decide +kernel, by decide +kernel⟩) hS hP hD hA [0, 4] rfl (fun r8 _ H locs w7 hP hS => ?_)
        rcases w7 with ⟨rfl, b9⟩ | ⟨rfl, b9⟩
        · refine lv_if_ne (tgt := 33) hx hb dX9_follow_27 (by decide) (fun _ => ?_) (fun c10 => False.elim (by revert c10; decide))
          obtain ⟨j_p0, hj_p0, ej_p0⟩ := inR6 b3
          have hl : lv_has ls 7 [(0, .ref h0), (1, .int (nI j_p0)), (2, .int p1)] := by have q := hl; rw [ej_p0] at q; exact q
          have htd := b9.2
          have hcj := hcr j_p0 hj_p0 (by rw [← ej_p0]; exact htd)
          have hc6 := sc_lt hk6 hcj.1
          obtain ⟨j_p1, hj_p1, ej_p1⟩ := inRn (n := 9) (x := p1) (by decide) (show inR p1 0 9 by ((try simp only [inR, inS, i3_lt, i3_le, i3_eq, i6_lt, i6_le, Int32.toInt_toInt64, lg_cmp_lt, lg_cmp_gt, lg_cmp_ge, lg_cmp_le, Int32.reduceToInt, Int64.reduceToInt] at c5 c6 ⊢); omega))
          have hl : lv_has ls 7 [(0, .ref h0), (1, .int (nI j_p0)), (2, .int (nI j_p1))] := by have q := hl; rw [ej_p1] at q; exact q
          obtain ⟨sn, hsn1, hsn6, esn⟩ := sp_nat hsp
          have hmul : j_p1 * sn ≤ 9 * 6 := Nat.mul_le_mul hj_p1 hsn6
          refine lv_aload_n hx hb dX9_follow_33 rfl (lv_at hl 0 rfl) ?_
          refine va_get (D := G.1) (ci := 5) (v := .ref pp) (C := RX9) (T := TX9) (N := 5) hx hb hts (fun _ h => List.mem_cons_of_mem _ (List.mem_append_left _ (List.mem_append_right _ h))) hown E.K hP 0 rfl rfl 1 (by decide) (hts (.fieldLink RX9 19 "LastMap" "papers" "LLastMap$Papers;") (by decide +kernel)) (fun _ h9 => h9) rfl dX9_follow_34 ?_
          refine lv_iload_n hx hb dX9_follow_37 rfl (lv_at hl 1 rfl) ?_
          refine ca_iR (va_runV (As := [.int (nI j_p0)]) (rest := []) ⟨hx, hb, hml, hown, hts⟩ (n_codeOf l G H.size pp ac ak (nI k) told sp (nI (sc k la)) fc fk j_p0 (by omega)) (cwV 1 hts gX9_follow_X3_codeOf rfl rfl rfl (by decide +kernel) ⟨by decide +kernel, by decide +kernel⟩) (pre_V E hP hD hS hA [4, 5, 6] (by decide) rfl 4 1 rfl rfl) rfl rfl hl.1 rfl (lv_room (Nat.le_of_ble_eq_true rfl)) dX9_follow_38 ⟨by decide +kernel, by decide +kernel⟩) hS hP hD hA [4, 5, 6] rfl (fun r12 _ H locs w11 hP hS => ?_)
          obtain rfl : r12 = nI (sc k (ma j_p0)) := by rw [w11]; exact hcj.2
          refine lv_istore_n (lv' := [(3, .int (nI (sc k (ma j_p0)))), (0, .ref h0), (1, .int (nI j_p0)), (2, .int (nI j_p1))]) hx hb dX9_follow_41 rfl hl (by decide) rfl (fun ls hl => ?_)
          refine lv_iload_n hx hb dX9_follow_42 rfl (lv_at hl 3 rfl) ?_
          refine lv_aload_n hx hb dX9_follow_43 rfl (lv_at hl 1 rfl) ?_
          refine va_get (D := G.1) (ci := 5) (v := .ref pp) (C := RX9) (T := TX9) (N := 5) hx hb hts (fun _ h => List.mem_cons_of_mem _ (List.mem_append_left _ (List.mem_append_right _ h))) hown E.K hP 0 rfl rfl 1 (by decide) (hts (.fieldLink RX9 19 "LastMap" "papers" "LLastMap$Papers;") (by decide +kernel)) (fun _ h9 => h9) rfl dX9_follow_44 ?_
          refine va_get (D := G.1) (ci := 1) (v := .int sp) (C := RX3) (T := TX3) (N := 6) hx hb hts (fun _ h => List.mem_cons_of_mem _ (List.mem_append_right _ h)) hown E.K hP 4 rfl rfl 2 (by decide) (hts (.fieldLink RX9 184 "LastMap$Papers" "spadeCount" "I") (by decide +kernel)) (fun _ h9 => h9) rfl dX9_follow_47 ?_
          refine W.eq (g2 := F0 m 50 ls [.int (nI sn), .int (nI j_p1)]) (by rw [esn]) ?_
          refine lv_imul hx hb dX9_follow_50 ?_
          refine lv_topi (fun x13 ex13 => ?_)
          obtain rfl : x13 = nI (j_p1 * sn) := by rw [ex13]; exact pk_mul j_p1 sn
          refine lv_istore (lv' := [(4, .int (nI (j_p1 * sn))), (3, .int (nI (sc k (ma j_p0)))), (0, .ref h0), (1, .int (nI j_p0)), (2, .int (nI j_p1))]) hx hb dX9_follow_51 hl (by decide) rfl (fun ls hl => ?_)
          refine lv_iconst (v := 0) hx hb dX9_follow_53 (by decide) ?_
          refine lv_istore (lv' := [(5, .int 0), (4, .int (nI (j_p1 * sn))), (3, .int (nI (sc k (ma j_p0)))), (0, .ref h0), (1, .int (nI j_p0)), (2, .int (nI j_p1))]) hx hb dX9_follow_54 hl (by decide) rfl (fun ls hl => ?_)
          refine lp_run (x0 := (0, (j_p1 * sn), (sc k la))) (fun xx_ : Nat × Nat × Nat => match xx_ with | (x, dn, bq) => [(h0, .inr (5, [.ref pad, .ref pp, .ref im, vse, vtr])), (pad, .inr (0, [.ref sg, .ref sl, .int (nI pm)])), (sg, .inl (gI G, 40, .inl fsg)), (sl, .inl (gI G, 10, .inl fsl)), (pp, .inr (1, [.int (nI k), .int told, .int sp, .int (nI bq), .ref ac, .ref ak])), (ac, .inl (gI G, 6, .inl fc)), (ak, .inl (gI G, 4, .inl fk))]) (fun xx_ : Nat × Nat × Nat => match xx_ with | (x, dn, bq) => [(5, .int (nI x)), (4, .int (nI dn)), (3, .int (nI (sc k (ma j_p0)))), (0, .ref h0), (1, .int (nI j_p0)), (2, .int (nI j_p1))]) (fun xx_ : Nat × Nat × Nat => match xx_ with | (x, dn, bq) => (x ≤ k) ∧ (dn ≤ 54) ∧ (∃ b, b < 5 ^ k ∧ bq = sc k b ∧ fol k (ma j_p0) k 0 la (j_p1 * sn) = fol k (ma j_p0) (k - x) x b dn)) (fun xx_ : Nat × Nat × Nat => match xx_ with | (x, dn, bq) => k - x) (hP.sub [0, 1, 2, 3, 4, 5, 6] rfl) (hD.sub [0, 1, 2, 3, 4, 5, 6] (by decide) rfl) hS (lv_sub hl [0, 1, 2, 3, 4, 5] rfl) ⟨(by omega), by omega, ⟨la, hla, rfl, by rw [Nat.sub_zero]⟩⟩ ?_
          intro xx_ hI ih56 H locs ls hP hD hS hl
          obtain ⟨x, dn, bq⟩ := xx_
          dsimp only at hI ih56 hP hD hl
          obtain ⟨hx0, hdn, hbq⟩ := hI
          have hl : lv_has ls 7 [(5, .int (nI x)), (4, .int (nI dn)), (3, .int (nI (sc k (ma j_p0)))), (0, .ref h0), (1, .int (nI j_p0)), (2, .int (nI j_p1))] := hl
          have hP : va_P G.1 vwCl ([(h0, .inr (5, [.ref pad, .ref pp, .ref im, vse, vtr])), (pad, .inr (0, [.ref sg, .ref sl, .int (nI pm)])), (sg, .inl (gI G, 40, .inl fsg)), (sl, .inl (gI G, 10, .inl fsl)), (pp, .inr (1, [.int (nI k), .int told, .int sp, .int (nI bq), .ref ac, .ref ak])), (ac, .inl (gI G, 6, .inl fc)), (ak, .inl (gI G, 4, .inl fk))]) H := hP
          have hD : va_D A ([(h0, .inr (5, [.ref pad, .ref pp, .ref im, vse, vtr])), (pad, .inr (0, [.ref sg, .ref sl, .int (nI pm)])), (sg, .inl (gI G, 40, .inl fsg)), (sl, .inl (gI G, 10, .inl fsl)), (pp, .inr (1, [.int (nI k), .int told, .int sp, .int (nI bq), .ref ac, .ref ak])), (ac, .inl (gI G, 6, .inl fc)), (ak, .inl (gI G, 4, .inl fk))]) := hD
          refine lv_iload hx hb dX9_follow_56 (lv_at hl 0 rfl) ?_
          refine lv_aload_n hx hb dX9_follow_58 rfl (lv_at hl 3 rfl) ?_
          refine va_get (D := G.1) (ci := 5) (v := .ref pp) (C := RX9) (T := TX9) (N := 5) hx hb hts (fun _ h => List.mem_cons_of_mem _ (List.mem_append_left _ (List.mem_append_right _ h))) hown E.K hP 0 rfl rfl 1 (by decide) (hts (.fieldLink RX9 19 "LastMap" "papers" "LLastMap$Papers;") (by decide +kernel)) (fun _ h9 => h9) rfl dX9_follow_59 ?_
          refine va_get (D := G.1) (ci := 1) (v := .int (nI k)) (C := RX3) (T := TX3) (N := 6) hx hb hts (fun _ h => List.mem_cons_of_mem _ (List.mem_append_right _ h)) hown E.K hP 4 rfl rfl 0 (by decide) (hts (.fieldLink RX9 27 "LastMap$Papers" "siteCount" "I") (by decide +kernel)) (fun _ h9 => h9) rfl dX9_follow_62 ?_
          refine lv_icmp_ge (tgt := 128) hx hb dX9_follow_65 (by decide) (fun c14 => ?_) (fun c14 => ?_)
          · have c14 : k ≤ x := (nI_leI (a := k) (b := x) (by omega) (by omega)).mp c14
            obtain ⟨b, hb9, eb, hfo⟩ := hbq
            have hq6 : bq < 5 ^ 6 := by rw [eb]; exact sc_lt hk6 hb9
            have hbe : b = fol k (ma j_p0) k 0 la (j_p1 * sn) := by rw [hfo]; first | (rw [show k - x = 0 by omega]; rfl) | (rw [show dn = 0 by omega, fol_0])
            refine lv_aload_n hx hb dX9_follow_128 rfl (lv_at hl 3 rfl) ?_
            refine va_get (D := G.1) (ci := 5) (v := .ref pp) (C := RX9) (T := TX9) (N := 5) hx hb hts (fun _ h => List.mem_cons_of_mem _ (List.mem_append_left _ (List.mem_append_right _ h))) hown E.K hP 0 rfl rfl 1 (by decide) (hts (.fieldLink RX9 19 "LastMap" "papers" "LLastMap$Papers;") (by decide +kernel)) (fun _ h9 => h9) rfl dX9_follow_129 ?_
            refine va_get (D := G.1) (ci := 1) (v := .int (nI bq)) (C := RX3) (T := TX3) (N := 6) hx hb hts (fun _ h => List.mem_cons_of_mem _ (List.mem_append_right _ h)) hown E.K hP 4 rfl rfl 3 (by decide) (hts (.fieldLink RX9 34 "LastMap$Papers" "ground" "I") (by decide +kernel)) (fun _ h9 => h9) rfl dX9_follow_132 ?_
            refine lv_iload_n hx hb dX9_follow_135 rfl (lv_at hl 2 rfl) ?_
            refine ca_iR (va_runS (As := [.int (nI bq), .int (nI (sc k (ma j_p0)))]) (rest := []) ⟨hx, hb, hml, hown, hts⟩ (n_unlike l G H.size bq (sc k (ma j_p0)) hq6 hc6) (va_cwS 2 hts gX9_follow_X1_unlike rfl rfl rfl (by decide +kernel) ⟨by decide +kernel, by decide +kernel⟩) (pre_S E hP hD hS hA [] (by decide) rfl) rfl rfl hl.1 rfl (lv_room (Nat.le_of_ble_eq_true rfl)) dX9_follow_136 ⟨by decide +kernel, by decide +kernel⟩) hS hP hD hA [] rfl (fun r16 _ H locs w15 hP hS => ?_)
            rw [w15]
            have hP9 := (hP.sub (ws' := [(h0, .inr (5, [.ref pad, .ref pp, .ref im, vse, vtr])), (pad, .inr (0, [.ref sg, .ref sl, .int (nI pm)])), (sg, .inl (gI G, 40, .inl fsg)), (sl, .inl (gI G, 10, .inl fsl)), (pp, .inr (1, [.int (nI k), .int told, .int sp, .int (nI bq), .ref ac, .ref ak])), (ac, .inl (gI G, 6, .inl fc)), (ak, .inl (gI G, 4, .inl fk))]) [0, 1, 2, 3, 4, 5, 6] rfl)
            have hD9 := (hD.sub (ws' := [(h0, .inr (5, [.ref pad, .ref pp, .ref im, vse, vtr])), (pad, .inr (0, [.ref sg, .ref sl, .int (nI pm)])), (sg, .inl (gI G, 40, .inl fsg)), (sl, .inl (gI G, 10, .inl fsl)), (pp, .inr (1, [.int (nI k), .int told, .int sp, .int (nI bq), .ref ac, .ref ak])), (ac, .inl (gI G, 6, .inl fc)), (ak, .inl (gI G, 4, .inl fk))]) [0, 1, 2, 3, 4, 5, 6] (by decide) rfl)
            exact W.iret (v := (nI (unl 6 bq (sc k (ma j_p0)) 6))) hx hb hr (fun t9_ ht9_ hW9_ => ⟨⟨nI (unl 6 bq (sc k (ma j_p0)) 6), nI bq, rfl, by rw [flA_4 hj_p0 ej_p0 hj_p1 ej_p1 hsn6 esn htd, eb, unl_six hk6, hbe]; exact ⟨rfl, rfl⟩, by rw [ht9_]; exact hP9, hD9⟩, hS.F ht9_⟩) hS.2.2 dX9_follow_139
          · have c14 : ¬ k ≤ x := fun h9_ => c14 ((nI_leI (a := k) (b := x) (by omega) (by omega)).mpr h9_)
            refine lv_iload hx hb dX9_follow_68 (lv_at hl 1 rfl) ?_
            refine lv_if_le (tgt := 128) hx hb dX9_follow_70 (by decide) (fun c17 => ?_) (fun c17 => ?_)
            · have c17 : dn ≤ 0 := (nI_leI (a := dn) (b := 0) (by omega) (by omega)).mp c17
              obtain ⟨b, hb9, eb, hfo⟩ := hbq
              have hq6 : bq < 5 ^ 6 := by rw [eb]; exact sc_lt hk6 hb9
              have hbe : b = fol k (ma j_p0) k 0 la (j_p1 * sn) := by rw [hfo]; first | (rw [show k - x = 0 by omega]; rfl) | (rw [show dn = 0 by omega, fol_0])
              refine lv_aload_n hx hb dX9_follow_128 rfl (lv_at hl 3 rfl) ?_
              refine va_get (D := G.1) (ci := 5) (v := .ref pp) (C := RX9) (T := TX9) (N := 5) hx hb hts (fun _ h => List.mem_cons_of_mem _ (List.mem_append_left _ (List.mem_append_right _ h))) hown E.K hP 0 rfl rfl 1 (by decide) (hts (.fieldLink RX9 19 "LastMap" "papers" "LLastMap$Papers;") (by decide +kernel)) (fun _ h9 => h9) rfl dX9_follow_129 ?_
              refine va_get (D := G.1) (ci := 1) (v := .int (nI bq)) (C := RX3) (T := TX3) (N := 6) hx hb hts (fun _ h => List.mem_cons_of_mem _ (List.mem_append_right _ h)) hown E.K hP 4 rfl rfl 3 (by decide) (hts (.fieldLink RX9 34 "LastMap$Papers" "ground" "I") (by decide +kernel)) (fun _ h9 => h9) rfl dX9_follow_132 ?_
              refine lv_iload_n hx hb dX9_follow_135 rfl (lv_at hl 2 rfl) ?_
              refine ca_iR (va_runS (As := [.int (nI bq), .int (nI (sc k (ma j_p0)))]) (rest := []) ⟨hx, hb, hml, hown, hts⟩ (n_unlike l G H.size bq (sc k (ma j_p0)) hq6 hc6) (va_cwS 2 hts gX9_follow_X1_unlike rfl rfl rfl (by decide +kernel) ⟨by decide +kernel, by decide +kernel⟩) (pre_S E hP hD hS hA [] (by decide) rfl) rfl rfl hl.1 rfl (lv_room (Nat.le_of_ble_eq_true rfl)) dX9_follow_136 ⟨by decide +kernel, by decide +kernel⟩) hS hP hD hA [] rfl (fun r19 _ H locs w18 hP hS => ?_)
              rw [w18]
              have hP9 := (hP.sub (ws' := [(h0, .inr (5, [.ref pad, .ref pp, .ref im, vse, vtr])), (pad, .inr (0, [.ref sg, .ref sl, .int (nI pm)])), (sg, .inl (gI G, 40, .inl fsg)), (sl, .inl (gI G, 10, .inl fsl)), (pp, .inr (1, [.int (nI k), .int told, .int sp, .int (nI bq), .ref ac, .ref ak])), (ac, .inl (gI G, 6, .inl fc)), (ak, .inl (gI G, 4, .inl fk))]) [0, 1, 2, 3, 4, 5, 6] rfl)
              have hD9 := (hD.sub (ws' := [(h0, .inr (5, [.ref pad, .ref pp, .ref im, vse, vtr])), (pad, .inr (0, [.ref sg, .ref sl, .int (nI pm)])), (sg, .inl (gI G, 40, .inl fsg)), (sl, .inl (gI G, 10, .inl fsl)), (pp, .inr (1, [.int (nI k), .int told, .int sp, .int (nI bq), .ref ac, .ref ak])), (ac, .inl (gI G, 6, .inl fc)), (ak, .inl (gI G, 4, .inl fk))]) [0, 1, 2, 3, 4, 5, 6] (by decide) rfl)
              exact W.iret (v := (nI (unl 6 bq (sc k (ma j_p0)) 6))) hx hb hr (fun t9_ ht9_ hW9_ => ⟨⟨nI (unl 6 bq (sc k (ma j_p0)) 6), nI bq, rfl, by rw [flA_4 hj_p0 ej_p0 hj_p1 ej_p1 hsn6 esn htd, eb, unl_six hk6, hbe]; exact ⟨rfl, rfl⟩, by rw [ht9_]; exact hP9, hD9⟩, hS.F ht9_⟩) hS.2.2 dX9_follow_139
            · have c17 : ¬ dn ≤ 0 := fun h9_ => c17 ((nI_leI (a := dn) (b := 0) (by omega) (by omega)).mpr h9_)
              obtain ⟨b, hb9, eb, hfo⟩ := hbq
              have hq6 : bq < 5 ^ 6 := by rw [eb]; exact sc_lt hk6 hb9
              refine lv_iload_n hx hb dX9_follow_73 rfl (lv_at hl 2 rfl) ?_
              refine lv_iload hx hb dX9_follow_74 (lv_at hl 0 rfl) ?_
              refine ca_iR (va_runS (As := [.int (nI (sc k (ma j_p0))), .int (nI x)]) (rest := []) ⟨hx, hb, hml, hown, hts⟩ (n_signAt l G H.size (sc k (ma j_p0)) x hc6 (by omega)) (va_cwS 2 hts gX9_follow_X1_signAt rfl rfl rfl (by decide +kernel) ⟨by decide +kernel, by decide +kernel⟩) (pre_S E hP hD hS hA [] (by decide) rfl) rfl rfl hl.1 rfl (lv_room (Nat.le_of_ble_eq_true rfl)) dX9_follow_76 ⟨by decide +kernel, by decide +kernel⟩) hS hP hD hA [] rfl (fun r21 _ H locs w20 hP hS => ?_)
              rw [w20]
              have hdg8 : (dg 6 (sc k (ma j_p0)) x) < 5 := dg_lt _ _ _
              refine lv_istore (lv' := [(6, .int (nI (dg 6 (sc k (ma j_p0)) x))), (5, .int (nI x)), (4, .int (nI dn)), (3, .int (nI (sc k (ma j_p0)))), (0, .ref h0), (1, .int (nI j_p0)), (2, .int (nI j_p1))]) hx hb dX9_follow_79 hl (by decide) rfl (fun ls hl => ?_)
              refine lv_aload_n hx hb dX9_follow_81 rfl (lv_at hl 4 rfl) ?_
              refine va_get (D := G.1) (ci := 5) (v := .ref pp) (C := RX9) (T := TX9) (N := 5) hx hb hts (fun _ h => List.mem_cons_of_mem _ (List.mem_append_left _ (List.mem_append_right _ h))) hown E.K hP 0 rfl rfl 1 (by decide) (hts (.fieldLink RX9 19 "LastMap" "papers" "LLastMap$Papers;") (by decide +kernel)) (fun _ h9 => h9) rfl dX9_follow_82 ?_
              refine va_get (D := G.1) (ci := 1) (v := .int (nI bq)) (C := RX3) (T := TX3) (N := 6) hx hb hts (fun _ h => List.mem_cons_of_mem _ (List.mem_append_right _ h)) hown E.K hP 4 rfl rfl 3 (by decide) (hts (.fieldLink RX9 34 "LastMap$Papers" "ground" "I") (by decide +kernel)) (fun _ h9 => h9) rfl dX9_follow_85 ?_
              refine lv_iload hx hb dX9_follow_88 (lv_at hl 1 rfl) ?_
              refine ca_iR (va_runS (As := [.int (nI bq), .int (nI x)]) (rest := []) ⟨hx, hb, hml, hown, hts⟩ (n_signAt l G H.size bq x hq6 (by omega)) (va_cwS 2 hts gX9_follow_X1_signAt rfl rfl rfl (by decide +kernel) ⟨by decide +kernel, by decide +kernel⟩) (pre_S E hP hD hS hA [] (by decide) rfl) rfl rfl hl.1 rfl (lv_room (Nat.le_of_ble_eq_true rfl)) dX9_follow_90 ⟨by decide +kernel, by decide +kernel⟩) hS hP hD hA [] rfl (fun r23 _ H locs w22 hP hS => ?_)
              rw [w22]
              have hdg9 : (dg 6 bq x) < 5 := dg_lt _ _ _
              refine lv_iload hx hb dX9_follow_93 (lv_at hl 0 rfl) ?_
              refine lv_icmp_eq (tgt := 122) hx hb dX9_follow_95 (by decide) (fun c24 => ?_) (fun c24 => ?_)
              · have c24 : (dg 6 bq x) = (dg 6 (sc k (ma j_p0)) x) := (nI_eq (a := (dg 6 bq x)) (b := (dg 6 (sc k (ma j_p0)) x)) (by omega) (by omega)).mp c24
                have hnew : ∃ b2, b2 < 5 ^ k ∧ bq = sc k b2 ∧ fol k (ma j_p0) k 0 la (j_p1 * sn) = fol k (ma j_p0) (k - (x + 1)) (x + 1) b2 dn := ⟨b, hb9, eb, by rw [hfo, show k - x = (k - (x + 1)) + 1 by omega]; exact fol_f (fun q9 => q9.2 (by have q8 := c24; rw [eb, dg_sc hk6 (by omega), dg_sc hk6 (by omega)] at q8; exact q8))⟩
                obtain ⟨x25, ex25⟩ : ∃ yy_ : Int32, yy_ = (nI x) + 1 := ⟨_, rfl⟩
                refine lv_iinc (v := x25) (lv' := [(5, .int x25), (6, .int (nI (dg 6 (sc k (ma j_p0)) x))), (4, .int (nI dn)), (3, .int (nI (sc k (ma j_p0)))), (0, .ref h0), (1, .int (nI j_p0)), (2, .int (nI j_p1))]) hx hb dX9_follow_122 hl (k := 1) rfl (by rw [ex25]; rfl) (by decide) rfl (fun ls hl => ?_)
                obtain rfl : x25 = nI (x + 1) := by rw [ex25]; exact nI_add x 1
                refine lv_goto (tgt := 56) hx hb dX9_follow_125 (by decide) ?_
                refine ih56 ((x + 1), dn, bq) ⟨?_, ?_, ?_⟩ (by first | omega | (dsimp only; omega)) H locs ls (hP.sub [0, 1, 2, 3, 4, 5, 6] rfl) (hD.sub [0, 1, 2, 3, 4, 5, 6] (by decide) rfl) hS (lv_sub hl [0, 2, 3, 4, 5, 6] rfl)
                · try dsimp only
                  omega
                · try dsimp only
                  omega
                · try dsimp only
                  exact hnew
              · have c24 : ¬ (dg 6 bq x) = (dg 6 (sc k (ma j_p0)) x) := fun h9_ => c24 ((nI_eq (a := (dg 6 bq x)) (b := (dg 6 (sc k (ma j_p0)) x)) (by omega) (by omega)).mpr h9_)
                have hne : ¬ dg k b x = dg k (ma j_p0) x := fun q9 => c24 (by rw [eb, dg_sc hk6 (by omega), dg_sc hk6 (by omega)]; exact q9)
                have hnew : ∃ b2, b2 < 5 ^ k ∧ wN 6 bq x (dg 6 (sc k (ma j_p0)) x) = sc k b2 ∧ fol k (ma j_p0) k 0 la (j_p1 * sn) = fol k (ma j_p0) (k - (x + 1)) (x + 1) b2 (dn - 1) := ⟨wN k b x (dg k (ma j_p0) x), wN_lt hb9 (by omega) (dg_lt _ _ _), by rw [eb, dg_sc hk6 (by omega)]; exact wN_sc hk6 (by omega), by rw [hfo, show k - x = (k - (x + 1)) + 1 by omega]; exact fol_t (by omega) hne⟩
                refine lv_aload_n hx hb dX9_follow_98 rfl (lv_at hl 4 rfl) ?_
                refine va_get (D := G.1) (ci := 5) (v := .ref pp) (C := RX9) (T := TX9) (N := 5) hx hb hts (fun _ h => List.mem_cons_of_mem _ (List.mem_append_left _ (List.mem_append_right _ h))) hown E.K hP 0 rfl rfl 1 (by decide) (hts (.fieldLink RX9 19 "LastMap" "papers" "LLastMap$Papers;") (by decide +kernel)) (fun _ h9 => h9) rfl dX9_follow_99 ?_
                refine lv_aload_n hx hb dX9_follow_102 rfl (lv_at hl 4 rfl) ?_
                refine va_get (D := G.1) (ci := 5) (v := .ref pp) (C := RX9) (T := TX9) (N := 5) hx hb hts (fun _ h => List.mem_cons_of_mem _ (List.mem_append_left _ (List.mem_append_right _ h))) hown E.K hP 0 rfl rfl 1 (by decide) (hts (.fieldLink RX9 19 "LastMap" "papers" "LLastMap$Papers;") (by decide +kernel)) (fun _ h9 => h9) rfl dX9_follow_103 ?_
                refine va_get (D := G.1) (ci := 1) (v := .int (nI bq)) (C := RX3) (T := TX3) (N := 6) hx hb hts (fun _ h => List.mem_cons_of_mem _ (List.mem_append_right _ h)) hown E.K hP 4 rfl rfl 3 (by decide) (hts (.fieldLink RX9 34 "LastMap$Papers" "ground" "I") (by decide +kernel)) (fun _ h9 => h9) rfl dX9_follow_106 ?_
                refine lv_iload hx hb dX9_follow_109 (lv_at hl 1 rfl) ?_
                refine lv_iload hx hb dX9_follow_111 (lv_at hl 0 rfl) ?_
                refine ca_iR (va_runS (As := [.int (nI bq), .int (nI x), .int (nI (dg 6 (sc k (ma j_p0)) x))]) (rest := [.ref pp]) ⟨hx, hb, hml, hown, hts⟩ (n_with l G H.size bq x (dg 6 (sc k (ma j_p0)) x) hq6 (by omega)) (va_cwS 3 hts gX9_follow_X1_with rfl rfl rfl (by decide +kernel) ⟨by decide +kernel, by decide +kernel⟩) (pre_S E hP hD hS hA [] (by decide) rfl) rfl rfl hl.1 rfl (lv_room (Nat.le_of_ble_eq_true rfl)) dX9_follow_113 ⟨by decide +kernel, by decide +kernel⟩) hS hP hD hA [] rfl (fun r27 _ H locs w26 hP hS => ?_)
                rw [w26]
                refine va_put (D := G.1) (ci := 1) (v := .int (nI (wN 6 bq x (dg 6 (sc k (ma j_p0)) x)))) (ty := .int) (C := RX3) (T := TX3) (N := 6) hx hb hts (fun _ h => List.mem_cons_of_mem _ (List.mem_append_right _ h)) tyX3 tyX3_ok nmX3 hown E.K hP hD hS 4 rfl rfl 3 (by decide) (hts (.fieldLink RX9 34 "LastMap$Papers" "ground" "I") (by decide +kernel)) (fun _ h9 => h9) rfl (by decide +kernel) rfl rfl (Nat.le_of_ble_eq_true rfl) dX9_follow_116 (fun H locs hP hD hS => ?_)
                have hP : va_P G.1 vwCl ([(h0, .inr (5, [.ref pad, .ref pp, .ref im, vse, vtr])), (pad, .inr (0, [.ref sg, .ref sl, .int (nI pm)])), (sg, .inl (gI G, 40, .inl fsg)), (sl, .inl (gI G, 10, .inl fsl)), (pp, .inr (1, [.int (nI k), .int told, .int sp, .int (nI (wN 6 bq x (dg 6 (sc k (ma j_p0)) x))), .ref ac, .ref ak])), (ac, .inl (gI G, 6, .inl fc)), (ak, .inl (gI G, 4, .inl fk))]) H := hP
                have hD : va_D A ([(h0, .inr (5, [.ref pad, .ref pp, .ref im, vse, vtr])), (pad, .inr (0, [.ref sg, .ref sl, .int (nI pm)])), (sg, .inl (gI G, 40, .inl fsg)), (sl, .inl (gI G, 10, .inl fsl)), (pp, .inr (1, [.int (nI k), .int told, .int sp, .int (nI (wN 6 bq x (dg 6 (sc k (ma j_p0)) x))), .ref ac, .ref ak])), (ac, .inl (gI G, 6, .inl fc)), (ak, .inl (gI G, 4, .inl fk))]) := hD
                obtain ⟨x28, ex28⟩ : ∃ yy_ : Int32, yy_ = (nI dn) + (-1) := ⟨_, rfl⟩
                refine lv_iinc (v := x28) (lv' := [(4, .int x28), (6, .int (nI (dg 6 (sc k (ma j_p0)) x))), (5, .int (nI x)), (3, .int (nI (sc k (ma j_p0)))), (0, .ref h0), (1, .int (nI j_p0)), (2, .int (nI j_p1))]) hx hb dX9_follow_119 hl (k := 2) rfl (by rw [ex28]; rfl) (by decide) rfl (fun ls hl => ?_)
                have hl : lv_has ls 7 [(4, .int (nI (dn - 1))), (6, .int (nI (dg 6 (sc k (ma j_p0)) x))), (5, .int (nI x)), (3, .int (nI (sc k (ma j_p0)))), (0, .ref h0), (1, .int (nI j_p0)), (2, .int (nI j_p1))] := by have q := hl; rw [(show x28 = nI (dn - 1) by rw [ex28]; exact dec_nI (by omega))] at q; exact q
                obtain ⟨x29, ex29⟩ : ∃ yy_ : Int32, yy_ = (nI x) + 1 := ⟨_, rfl⟩
                refine lv_iinc (v := x29) (lv' := [(5, .int x29), (4, .int (nI (dn - 1))), (6, .int (nI (dg 6 (sc k (ma j_p0)) x))), (3, .int (nI (sc k (ma j_p0)))), (0, .ref h0), (1, .int (nI j_p0)), (2, .int (nI j_p1))]) hx hb dX9_follow_122 hl (k := 2) rfl (by rw [ex29]; rfl) (by decide) rfl (fun ls hl => ?_)
                obtain rfl : x29 = nI (x + 1) := by rw [ex29]; exact nI_add x 1
                refine lv_goto (tgt := 56) hx hb dX9_follow_125 (by decide) ?_
                refine ih56 ((x + 1), (dn - 1), (wN 6 bq x (dg 6 (sc k (ma j_p0)) x))) ⟨?_, ?_, ?_⟩ (by first | omega | (dsimp only; omega)) H locs ls (hP.sub [0, 1, 2, 3, 4, 5, 6] rfl) (hD.sub [0, 1, 2, 3, 4, 5, 6] (by decide) rfl) hS (lv_sub hl [0, 1, 3, 4, 5, 6] rfl)
                · try dsimp only
                  omega
                · try dsimp only
                  omega
                · try dsimp only
                  exact hnew
        · refine lv_if_ne (tgt := 33) hx hb dX9_follow_27 (by decide) (fun c30 => False.elim (by revert c30; decide)) (fun _ => ?_)
          refine lv_bipush (v := (-3)) hx hb dX9_follow_30 (by decide) ?_
          have hP9 := (hP.sub (ws' := [(h0, .inr (5, [.ref pad, .ref pp, .ref im, vse, vtr])), (pad, .inr (0, [.ref sg, .ref sl, .int (nI pm)])), (sg, .inl (gI G, 40, .inl fsg)), (sl, .inl (gI G, 10, .inl fsl)), (pp, .inr (1, [.int (nI k), .int told, .int sp, .int (nI (sc k la)), .ref ac, .ref ak])), (ac, .inl (gI G, 6, .inl fc)), (ak, .inl (gI G, 4, .inl fk))]) [0, 1, 2, 3, 4, 5, 6] rfl)
          have hD9 := (hD.sub (ws' := [(h0, .inr (5, [.ref pad, .ref pp, .ref im, vse, vtr])), (pad, .inr (0, [.ref sg, .ref sl, .int (nI pm)])), (sg, .inl (gI G, 40, .inl fsg)), (sl, .inl (gI G, 10, .inl fsl)), (pp, .inr (1, [.int (nI k), .int told, .int sp, .int (nI (sc k la)), .ref ac, .ref ak])), (ac, .inl (gI G, 6, .inl fc)), (ak, .inl (gI G, 4, .inl fk))]) [0, 1, 2, 3, 4, 5, 6] (by decide) rfl)
          exact W.iret (v := (-3)) hx hb hr (fun t9_ ht9_ hW9_ => ⟨⟨(-3), nI (sc k la), rfl, by rw [flA_3 b3 (by ((try simp only [inR, inS, i3_lt, i3_le, i3_eq, i6_lt, i6_le, Int32.toInt_toInt64, lg_cmp_lt, lg_cmp_gt, lg_cmp_ge, lg_cmp_le, Int32.reduceToInt, Int64.reduceToInt] at c5 c6 ⊢); omega)) (fun q9 => b9 ⟨b3, q9⟩)]; exact ⟨rfl, rfl⟩, by rw [ht9_]; exact hP9, hD9⟩, hS.F ht9_⟩) hS.2.2 dX9_follow_32
      · refine lv_bipush (v := (-2)) hx hb dX9_follow_19 (by decide) ?_
        have hP9 := (hP.sub (ws' := [(h0, .inr (5, [.ref pad, .ref pp, .ref im, vse, vtr])), (pad, .inr (0, [.ref sg, .ref sl, .int (nI pm)])), (sg, .inl (gI G, 40, .inl fsg)), (sl, .inl (gI G, 10, .inl fsl)), (pp, .inr (1, [.int (nI k), .int told, .int sp, .int (nI (sc k la)), .ref ac, .ref ak])), (ac, .inl (gI G, 6, .inl fc)), (ak, .inl (gI G, 4, .inl fk))]) [0, 1, 2, 3, 4, 5, 6] rfl)
        have hD9 := (hD.sub (ws' := [(h0, .inr (5, [.ref pad, .ref pp, .ref im, vse, vtr])), (pad, .inr (0, [.ref sg, .ref sl, .int (nI pm)])), (sg, .inl (gI G, 40, .inl fsg)), (sl, .inl (gI G, 10, .inl fsl)), (pp, .inr (1, [.int (nI k), .int told, .int sp, .int (nI (sc k la)), .ref ac, .ref ak])), (ac, .inl (gI G, 6, .inl fc)), (ak, .inl (gI G, 4, .inl fk))]) [0, 1, 2, 3, 4, 5, 6] (by decide) rfl)
        exact W.iret (v := (-2)) hx hb hr (fun t9_ ht9_ hW9_ => ⟨⟨(-2), nI (sc k la), rfl, by rw [flA_2 b3 (by ((try simp only [inR, inS, i3_lt, i3_le, i3_eq, i6_lt, i6_le, Int32.toInt_toInt64, lg_cmp_lt, lg_cmp_gt, lg_cmp_ge, lg_cmp_le, Int32.reduceToInt, Int64.reduceToInt] at c5 c6 ⊢); omega))]; exact ⟨rfl, rfl⟩, by rw [ht9_]; exact hP9, hD9⟩, hS.F ht9_⟩) hS.2.2 dX9_follow_21
  · refine lv_if_ne (tgt := 9) hx hb dX9_follow_4 (by decide) (fun c31 => False.elim (by revert c31; decide)) (fun _ => ?_)
    refine lv_iconst (v := (-1)) hx hb dX9_follow_7 (by decide) ?_
    have hP9 := (hP.sub (ws' := [(h0, .inr (5, [.ref pad, .ref pp, .ref im, vse, vtr])), (pad, .inr (0, [.ref sg, .ref sl, .int (nI pm)])), (sg, .inl (gI G, 40, .inl fsg)), (sl, .inl (gI G, 10, .inl fsl)), (pp, .inr (1, [.int (nI k), .int told, .int sp, .int (nI (sc k la)), .ref ac, .ref ak])), (ac, .inl (gI G, 6, .inl fc)), (ak, .inl (gI G, 4, .inl fk))]) [0, 1, 2, 3, 4, 5, 6] rfl)
    have hD9 := (hD.sub (ws' := [(h0, .inr (5, [.ref pad, .ref pp, .ref im, vse, vtr])), (pad, .inr (0, [.ref sg, .ref sl, .int (nI pm)])), (sg, .inl (gI G, 40, .inl fsg)), (sl, .inl (gI G, 10, .inl fsl)), (pp, .inr (1, [.int (nI k), .int told, .int sp, .int (nI (sc k la)), .ref ac, .ref ak])), (ac, .inl (gI G, 6, .inl fc)), (ak, .inl (gI G, 4, .inl fk))]) [0, 1, 2, 3, 4, 5, 6] (by decide) rfl)
    exact W.iret (v := (-1)) hx hb hr (fun t9_ ht9_ hW9_ => ⟨⟨(-1), nI (sc k la), rfl, by rw [flA_1 b3]; exact ⟨rfl, rfl⟩, by rw [ht9_]; exact hP9, hD9⟩, hS.F ht9_⟩) hS.2.2 dX9_follow_8
