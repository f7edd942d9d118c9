set_option maxHeartbeats 1000000 in
set_option maxRecDepth 100000 in
theorem f_sites (l : Launch) (G : Gy) (sz : Nat) (h0 : Nat) (pad : Nat) (pp : Nat) (im : Nat) (sg : Nat) (sl : Nat) (ac : Nat) (ak : Nat) (fk : Nat → Int32) (p0 : Int32) (hk : ∀ j : Nat, j < 4 → fk j = 15) : Ci l G yX9_sites wsX9_sites ({ frames := 0, cells := 0, slots := 0, locals := 0 }) [.ref h0, .int p0] [(h0, .inr (5, [.ref pad, .ref pp, .ref im, .null, .null])), (im, .inl (gP G, 2, .inr (.inr (.inr (.inr (fun _ => none)))))), (pad, .inr (0, [.ref sg, .ref sl, .int 0])), (sg, .inl (gI G, 40, .inl (fun _ => 0))), (sl, .inl (gI G, 10, .inl (fun _ => 0))), (pp, .inr (1, [.int 6, .int 0, .int 1, .int 0, .ref ac, .ref ak])), (ac, .inl (gI G, 6, .inl (fun _ => 0))), (ak, .inl (gI G, 4, .inl fk))] sz (fun (r : Int32) (_ : Unit) => r = sp_sites p0) (fun (_ : Unit) => []) 0 0 := by
  refine Met.ofW (cc := cX9_sites) (maxL := 3) (ret := (some .int)) (by decide) rfl ?_
  intro p e s m args below meth c s₁ B hml hv
  obtain ⟨rfl, hsz, hP, hD0, E0⟩ := hv
  have hx := B.exec
  have hb := B.bytes
  have hr := B.returns
  have hts := atoms_spec (ws := wsX9_sites) B.pre
  have hown : s.vm.findClass RX9 = some m.cls := findClass_of_methodNamed B.named
  have hlocks := B.notSynchronized
  subst hsz
  have hD := hD0.self (sz := s.heap.size)
  generalize hAe : va_A [(h0, .inr (5, [.ref pad, .ref pp, .ref im, .null, .null])), (im, .inl (gP G, 2, .inr (.inr (.inr (.inr (fun _ => none)))))), (pad, .inr (0, [.ref sg, .ref sl, .int 0])), (sg, .inl (gI G, 40, .inl (fun _ => 0))), (sl, .inl (gI G, 10, .inl (fun _ => 0))), (pp, .inr (1, [.int 6, .int 0, .int 1, .int 0, .ref ac, .ref ak])), (ac, .inl (gI G, 6, .inl (fun _ => 0))), (ak, .inl (gI G, 4, .inl fk))] s.heap.size = A at hD E0 ⊢
  have E : EV G A s s.heap := E0
  have hA : ∀ q : Nat, s.heap.size ≤ q → A q := fun q h => by rw [← hAe]; exact Or.inr h
  have hS : va_S A s.heap s.heap [] := va_S.rf
  have hl := lv_entry ([.ref h0, .int p0]) (n := 3) (Nat.le_of_ble_eq_true rfl)
  rw [lg_entry_eq]
  generalize (lg_sl ([.ref h0, .int p0]) ++ List.replicate (3 - (lg_sl ([.ref h0, .int p0])).length) Slot.unset).toArray = ls at hl ⊢
  have hl : lv_has ls 3 [(0, .ref h0), (1, .int p0)] := hl
  have hP : va_P G.1 vwCl [(h0, .inr (5, [.ref pad, .ref pp, .ref im, .null, .null])), (im, .inl (gP G, 2, .inr (.inr (.inr (.inr (fun _ => none)))))), (pad, .inr (0, [.ref sg, .ref sl, .int 0])), (sg, .inl (gI G, 40, .inl (fun _ => 0))), (sl, .inl (gI G, 10, .inl (fun _ => 0))), (pp, .inr (1, [.int 6, .int 0, .int 1, .int 0, .ref ac, .ref ak])), (ac, .inl (gI G, 6, .inl (fun _ => 0))), (ak, .inl (gI G, 4, .inl fk))] s.heap := hP
  refine lv_iload_n hx hb dX9_sites_0 rfl (lv_at hl 1 rfl) ?_
  refine lv_iconst (v := 2) hx hb dX9_sites_1 (by decide) ?_
  refine lv_icmp_lt (tgt := 11) hx hb dX9_sites_2 (by decide) (fun c1 => ?_) (fun c1 => ?_)
  · refine lv_bipush (v := (-2)) hx hb dX9_sites_11 (by decide) ?_
    have hP9 := hP.sub (ws' := []) [] rfl
    have hD9 := hD.sub (ws' := []) [] (by decide) rfl
    exact W.iret (v := (-2)) hx hb hr (fun t ht hW => ⟨⟨(-2), (), rfl, by dsimp only; symm; unfold sp_sites; (repeat (first | (refine Eq.trans (cIf_t ?_) ?_; · first | assumption | ((try simp only [inR, inS, i3_lt, i3_le, i3_eq, i6_lt, i6_le, Int32.toInt_toInt64, lg_cmp_lt, lg_cmp_gt, lg_cmp_ge, lg_cmp_le, Int32.reduceToInt, Int64.reduceToInt] at c1 ⊢); omega)) | (refine Eq.trans (cIf_f ?_) ?_; · first | assumption | ((try simp only [inR, inS, i3_lt, i3_le, i3_eq, i6_lt, i6_le, Int32.toInt_toInt64, lg_cmp_lt, lg_cmp_gt, lg_cmp_ge, lg_cmp_le, Int32.reduceToInt, Int64.reduceToInt] at c1 ⊢); omega)))); first | rfl | (exfalso; ((try simp only [inR, inS, i3_lt, i3_le, i3_eq, i6_lt, i6_le, Int32.toInt_toInt64, lg_cmp_lt, lg_cmp_gt, lg_cmp_ge, lg_cmp_le, Int32.reduceToInt, Int64.reduceToInt] at c1); omega)), by rw [ht]; exact hP9, hD9⟩, hS.F ht⟩) hS.2.2 dX9_sites_13
  · refine lv_iload_n hx hb dX9_sites_5 rfl (lv_at hl 1 rfl) ?_
    refine lv_bipush (v := 6) hx hb dX9_sites_6 (by decide) ?_
    refine lv_icmp_le (tgt := 14) hx hb dX9_sites_8 (by decide) (fun c2 => ?_) (fun c2 => ?_)
    · refine lv_aload_n hx hb dX9_sites_14 rfl (lv_at hl 0 rfl) ?_
      refine va_get (D := G.1) (ci := 5) (v := .ref pp) (C := RX9) (T := TX9) (N := 5) hx hb hts (fun _ h => List.mem_cons_of_mem _ (List.mem_append_left _ (List.mem_append_right _ h))) hown E.K hP 0 rfl rfl 1 (by decide) (hts (.fieldLink RX9 19 "LastMap" "papers" "LLastMap$Papers;") (by decide +kernel)) (fun _ h9 => h9) rfl dX9_sites_15 ?_
      refine va_get (D := G.1) (ci := 1) (v := .int 6) (C := RX3) (T := TX3) (N := 6) hx hb hts (fun _ h => List.mem_cons_of_mem _ (List.mem_append_right _ h)) hown E.K hP 5 rfl rfl 0 (by decide) (hts (.fieldLink RX9 27 "LastMap$Papers" "siteCount" "I") (by decide +kernel)) (fun _ h9 => h9) rfl dX9_sites_18 ?_
      refine lv_istore_n (lv' := [(2, .int 6), (0, .ref h0), (1, .int p0)]) hx hb dX9_sites_21 rfl hl (by decide) rfl (fun ls hl => ?_)
      refine lv_aload_n hx hb dX9_sites_22 rfl (lv_at hl 1 rfl) ?_
      refine va_get (D := G.1) (ci := 5) (v := .ref pp) (C := RX9) (T := TX9) (N := 5) hx hb hts (fun _ h => List.mem_cons_of_mem _ (List.mem_append_left _ (List.mem_append_right _ h))) hown E.K hP 0 rfl rfl 1 (by decide) (hts (.fieldLink RX9 19 "LastMap" "papers" "LLastMap$Papers;") (by decide +kernel)) (fun _ h9 => h9) rfl dX9_sites_23 ?_
      refine lv_iload_n hx hb dX9_sites_26 rfl (lv_at hl 2 rfl) ?_
      refine va_put (D := G.1) (ci := 1) (v := .int p0) (ty := .int) (C := RX3) (T := TX3) (N := 6) hx hb hts (fun _ h => List.mem_cons_of_mem _ (List.mem_append_right _ h)) tyX3 tyX3_ok nmX3 hown E.K hP hD hS 5 rfl rfl 0 (by decide) (hts (.fieldLink RX9 27 "LastMap$Papers" "siteCount" "I") (by decide +kernel)) (fun _ h9 => h9) rfl (by decide +kernel) rfl rfl (Nat.le_of_ble_eq_true rfl) dX9_sites_27 (fun H locs hP hD hS => ?_)
      have hP : va_P G.1 vwCl [(h0, .inr (5, [.ref pad, .ref pp, .ref im, .null, .null])), (im, .inl (gP G, 2, .inr (.inr (.inr (.inr (fun _ => none)))))), (pad, .inr (0, [.ref sg, .ref sl, .int 0])), (sg, .inl (gI G, 40, .inl (fun _ => 0))), (sl, .inl (gI G, 10, .inl (fun _ => 0))), (pp, .inr (1, [.int p0, .int 0, .int 1, .int 0, .ref ac, .ref ak])), (ac, .inl (gI G, 6, .inl (fun _ => 0))), (ak, .inl (gI G, 4, .inl fk))] H := hP
      have hD : va_D A [(h0, .inr (5, [.ref pad, .ref pp, .ref im, .null, .null])), (im, .inl (gP G, 2, .inr (.inr (.inr (.inr (fun _ => none)))))), (pad, .inr (0, [.ref sg, .ref sl, .int 0])), (sg, .inl (gI G, 40, .inl (fun _ => 0))), (sl, .inl (gI G, 10, .inl (fun _ => 0))), (pp, .inr (1, [.int p0, .int 0, .int 1, .int 0, .ref ac, .ref ak])), (ac, .inl (gI G, 6, .inl (fun _ => 0))), (ak, .inl (gI G, 4, .inl fk))] := hD
      refine lv_aload_n hx hb dX9_sites_30 rfl (lv_at hl 1 rfl) ?_
      refine va_get (D := G.1) (ci := 5) (v := .ref pp) (C := RX9) (T := TX9) (N := 5) hx hb hts (fun _ h => List.mem_cons_of_mem _ (List.mem_append_left _ (List.mem_append_right _ h))) hown E.K hP 0 rfl rfl 1 (by decide) (hts (.fieldLink RX9 19 "LastMap" "papers" "LLastMap$Papers;") (by decide +kernel)) (fun _ h9 => h9) rfl dX9_sites_31 ?_
      refine lv_iconst (v := 0) hx hb dX9_sites_34 (by decide) ?_
      refine va_put (D := G.1) (ci := 1) (v := .int 0) (ty := .int) (C := RX3) (T := TX3) (N := 6) hx hb hts (fun _ h => List.mem_cons_of_mem _ (List.mem_append_right _ h)) tyX3 tyX3_ok nmX3 hown E.K hP hD hS 5 rfl rfl 1 (by decide) (hts (.fieldLink RX9 31 "LastMap$Papers" "toldMaps" "I") (by decide +kernel)) (fun _ h9 => h9) rfl (by decide +kernel) rfl rfl (Nat.le_of_ble_eq_true rfl) dX9_sites_35 (fun H locs hP hD hS => ?_)
      have hP : va_P G.1 vwCl [(h0, .inr (5, [.ref pad, .ref pp, .ref im, .null, .null])), (im, .inl (gP G, 2, .inr (.inr (.inr (.inr (fun _ => none)))))), (pad, .inr (0, [.ref sg, .ref sl, .int 0])), (sg, .inl (gI G, 40, .inl (fun _ => 0))), (sl, .inl (gI G, 10, .inl (fun _ => 0))), (pp, .inr (1, [.int p0, .int 0, .int 1, .int 0, .ref ac, .ref ak])), (ac, .inl (gI G, 6, .inl (fun _ => 0))), (ak, .inl (gI G, 4, .inl fk))] H := hP
      have hD : va_D A [(h0, .inr (5, [.ref pad, .ref pp, .ref im, .null, .null])), (im, .inl (gP G, 2, .inr (.inr (.inr (.inr (fun _ => none)))))), (pad, .inr (0, [.ref sg, .ref sl, .int 0])), (sg, .inl (gI G, 40, .inl (fun _ => 0))), (sl, .inl (gI G, 10, .inl (fun _ => 0))), (pp, .inr (1, [.int p0, .int 0, .int 1, .int 0, .ref ac, .ref ak])), (ac, .inl (gI G, 6, .inl (fun _ => 0))), (ak, .inl (gI G, 4, .inl fk))] := hD
      refine lv_aload_n hx hb dX9_sites_38 rfl (lv_at hl 1 rfl) ?_
      refine va_get (D := G.1) (ci := 5) (v := .ref pp) (C := RX9) (T := TX9) (N := 5) hx hb hts (fun _ h => List.mem_cons_of_mem _ (List.mem_append_left _ (List.mem_append_right _ h))) hown E.K hP 0 rfl rfl 1 (by decide) (hts (.fieldLink RX9 19 "LastMap" "papers" "LLastMap$Papers;") (by decide +kernel)) (fun _ h9 => h9) rfl dX9_sites_39 ?_
      refine lv_iconst (v := 0) hx hb dX9_sites_42 (by decide) ?_
      refine va_put (D := G.1) (ci := 1) (v := .int 0) (ty := .int) (C := RX3) (T := TX3) (N := 6) hx hb hts (fun _ h => List.mem_cons_of_mem _ (List.mem_append_right _ h)) tyX3 tyX3_ok nmX3 hown E.K hP hD hS 5 rfl rfl 3 (by decide) (hts (.fieldLink RX9 34 "LastMap$Papers" "ground" "I") (by decide +kernel)) (fun _ h9 => h9) rfl (by decide +kernel) rfl rfl (Nat.le_of_ble_eq_true rfl) dX9_sites_43 (fun H locs hP hD hS => ?_)
      have hP : va_P G.1 vwCl [(h0, .inr (5, [.ref pad, .ref pp, .ref im, .null, .null])), (im, .inl (gP G, 2, .inr (.inr (.inr (.inr (fun _ => none)))))), (pad, .inr (0, [.ref sg, .ref sl, .int 0])), (sg, .inl (gI G, 40, .inl (fun _ => 0))), (sl, .inl (gI G, 10, .inl (fun _ => 0))), (pp, .inr (1, [.int p0, .int 0, .int 1, .int 0, .ref ac, .ref ak])), (ac, .inl (gI G, 6, .inl (fun _ => 0))), (ak, .inl (gI G, 4, .inl fk))] H := hP
      have hD : va_D A [(h0, .inr (5, [.ref pad, .ref pp, .ref im, .null, .null])), (im, .inl (gP G, 2, .inr (.inr (.inr (.inr (fun _ => none)))))), (pad, .inr (0, [.ref sg, .ref sl, .int 0])), (sg, .inl (gI G, 40, .inl (fun _ => 0))), (sl, .inl (gI G, 10, .inl (fun _ => 0))), (pp, .inr (1, [.int p0, .int 0, .int 1, .int 0, .ref ac, .ref ak])), (ac, .inl (gI G, 6, .inl (fun _ => 0))), (ak, .inl (gI G, 4, .inl fk))] := hD
      refine lv_iload_n hx hb dX9_sites_46 rfl (lv_at hl 0 rfl) ?_
      have hP9 := hP.sub (ws' := []) [] rfl
      have hD9 := hD.sub (ws' := []) [] (by decide) rfl
      exact W.iret (v := 6) hx hb hr (fun t ht hW => ⟨⟨6, (), rfl, by dsimp only; symm; unfold sp_sites; (repeat (first | (refine Eq.trans (cIf_t ?_) ?_; · first | assumption | ((try simp only [inR, inS, i3_lt, i3_le, i3_eq, i6_lt, i6_le, Int32.toInt_toInt64, lg_cmp_lt, lg_cmp_gt, lg_cmp_ge, lg_cmp_le, Int32.reduceToInt, Int64.reduceToInt] at c1 c2 ⊢); omega)) | (refine Eq.trans (cIf_f ?_) ?_; · first | assumption | ((try simp only [inR, inS, i3_lt, i3_le, i3_eq, i6_lt, i6_le, Int32.toInt_toInt64, lg_cmp_lt, lg_cmp_gt, lg_cmp_ge, lg_cmp_le, Int32.reduceToInt, Int64.reduceToInt] at c1 c2 ⊢); omega)))); first | rfl | (exfalso; ((try simp only [inR, inS, i3_lt, i3_le, i3_eq, i6_lt, i6_le, Int32.toInt_toInt64, lg_cmp_lt, lg_cmp_gt, lg_cmp_ge, lg_cmp_le, Int32.reduceToInt, Int64.reduceToInt] at c1 c2); omega)), by rw [ht]; exact hP9, hD9⟩, hS.F ht⟩) hS.2.2 dX9_sites_47
    · refine lv_bipush (v := (-2)) hx hb dX9_sites_11 (by decide) ?_
      have hP9 := hP.sub (ws' := []) [] rfl
      have hD9 := hD.sub (ws' := []) [] (by decide) rfl
      exact W.iret (v := (-2)) hx hb hr (fun t ht hW => ⟨⟨(-2), (), rfl, by dsimp only; symm; unfold sp_sites; (repeat (first | (refine Eq.trans (cIf_t ?_) ?_; · first | assumption | ((try simp only [inR, inS, i3_lt, i3_le, i3_eq, i6_lt, i6_le, Int32.toInt_toInt64, lg_cmp_lt, lg_cmp_gt, lg_cmp_ge, lg_cmp_le, Int32.reduceToInt, Int64.reduceToInt] at c1 c2 ⊢); omega)) | (refine Eq.trans (cIf_f ?_) ?_; · first | assumption | ((try simp only [inR, inS, i3_lt, i3_le, i3_eq, i6_lt, i6_le, Int32.toInt_toInt64, lg_cmp_lt, lg_cmp_gt, lg_cmp_ge, lg_cmp_le, Int32.reduceToInt, Int64.reduceToInt] at c1 c2 ⊢); omega)))); first | rfl | (exfalso; ((try simp only [inR, inS, i3_lt, i3_le, i3_eq, i6_lt, i6_le, Int32.toInt_toInt64, lg_cmp_lt, lg_cmp_gt, lg_cmp_ge, lg_cmp_le, Int32.reduceToInt, Int64.reduceToInt] at c1 c2); omega)), by rw [ht]; exact hP9, hD9⟩, hS.F ht⟩) hS.2.2 dX9_sites_13

set_option maxHeartbeats 1000000 in
set_option maxRecDepth 100000 in
theorem f_say (l : Launch) (G : Gy) (sz : Nat) (h0 : Nat) (pad : Nat) (pp : Nat) (im : Nat) (sg : Nat) (sl : Nat) (ac : Nat) (ak : Nat) (fk : Nat → Int32) (p0 : Int32) (hk : ∀ j : Nat, j < 4 → fk j = 15) : Ci l G yX9_say wsX9_say ({ frames := 1, cells := 0, slots := 0, locals := 21 }) [.ref h0, .int p0] [(h0, .inr (5, [.ref pad, .ref pp, .ref im, .null, .null])), (im, .inl (gP G, 2, .inr (.inr (.inr (.inr (fun _ => none)))))), (pad, .inr (0, [.ref sg, .ref sl, .int 0])), (sg, .inl (gI G, 40, .inl (fun _ => 0))), (sl, .inl (gI G, 10, .inl (fun _ => 0))), (pp, .inr (1, [.int 6, .int 0, .int 1, .int 0, .ref ac, .ref ak])), (ac, .inl (gI G, 6, .inl (fun _ => 0))), (ak, .inl (gI G, 4, .inl fk))] sz (fun (r : Int32) (_ : Unit) => r = sp_say p0) (fun (_ : Unit) => []) 0 0 := by
  refine Met.ofW (cc := cX9_say) (maxL := 2) (ret := (some .int)) (by decide) rfl ?_
  intro p e s m args below meth c s₁ B hml hv
  obtain ⟨rfl, hsz, hP, hD0, E0⟩ := hv
  have hx := B.exec
  have hb := B.bytes
  have hr := B.returns
  have hts := atoms_spec (ws := wsX9_say) B.pre
  have hown : s.vm.findClass RX9 = some m.cls := findClass_of_methodNamed B.named
  have hlocks := B.notSynchronized
  subst hsz
  have hD := hD0.self (sz := s.heap.size)
  generalize hAe : va_A [(h0, .inr (5, [.ref pad, .ref pp, .ref im, .null, .null])), (im, .inl (gP G, 2, .inr (.inr (.inr (.inr (fun _ => none)))))), (pad, .inr (0, [.ref sg, .ref sl, .int 0])), (sg, .inl (gI G, 40, .inl (fun _ => 0))), (sl, .inl (gI G, 10, .inl (fun _ => 0))), (pp, .inr (1, [.int 6, .int 0, .int 1, .int 0, .ref ac, .ref ak])), (ac, .inl (gI G, 6, .inl (fun _ => 0))), (ak, .inl (gI G, 4, .inl fk))] s.heap.size = A at hD E0 ⊢
  have E : EV G A s s.heap := E0
  have hA : ∀ q : Nat, s.heap.size ≤ q → A q := fun q h => by rw [← hAe]; exact Or.inr h
  have hS : va_S A s.heap s.heap [] := va_S.rf
  have hl := lv_entry ([.ref h0, .int p0]) (n := 2) (Nat.le_of_ble_eq_true rfl)
  rw [lg_entry_eq]
  generalize (lg_sl ([.ref h0, .int p0]) ++ List.replicate (2 - (lg_sl ([.ref h0, .int p0])).length) Slot.unset).toArray = ls at hl ⊢
  have hl : lv_has ls 2 [(0, .ref h0), (1, .int p0)] := hl
  have hP : va_P G.1 vwCl [(h0, .inr (5, [.ref pad, .ref pp, .ref im, .null, .null])), (im, .inl (gP G, 2, .inr (.inr (.inr (.inr (fun _ => none)))))), (pad, .inr (0, [.ref sg, .ref sl, .int 0])), (sg, .inl (gI G, 40, .inl (fun _ => 0))), (sl, .inl (gI G, 10, .inl (fun _ => 0))), (pp, .inr (1, [.int 6, .int 0, .int 1, .int 0, .ref ac, .ref ak])), (ac, .inl (gI G, 6, .inl (fun _ => 0))), (ak, .inl (gI G, 4, .inl fk))] s.heap := hP
  refine lv_iload_n hx hb dX9_say_0 rfl (lv_at hl 1 rfl) ?_
  refine lv_bipush (v := 33) hx hb dX9_say_1 (by decide) ?_
  refine lv_icmp_lt (tgt := 12) hx hb dX9_say_3 (by decide) (fun c1 => ?_) (fun c1 => ?_)
  · refine lv_bipush (v := (-2)) hx hb dX9_say_12 (by decide) ?_
    have hP9 := hP.sub (ws' := []) [] rfl
    have hD9 := hD.sub (ws' := []) [] (by decide) rfl
    exact W.iret (v := (-2)) hx hb hr (fun t ht hW => ⟨⟨(-2), (), rfl, by dsimp only; symm; unfold sp_say; (repeat (first | (refine Eq.trans (cIf_t ?_) ?_; · first | assumption | ((try simp only [inR, inS, i3_lt, i3_le, i3_eq, i6_lt, i6_le, Int32.toInt_toInt64, lg_cmp_lt, lg_cmp_gt, lg_cmp_ge, lg_cmp_le, Int32.reduceToInt, Int64.reduceToInt] at c1 ⊢); omega)) | (refine Eq.trans (cIf_f ?_) ?_; · first | assumption | ((try simp only [inR, inS, i3_lt, i3_le, i3_eq, i6_lt, i6_le, Int32.toInt_toInt64, lg_cmp_lt, lg_cmp_gt, lg_cmp_ge, lg_cmp_le, Int32.reduceToInt, Int64.reduceToInt] at c1 ⊢); omega)))); first | rfl | (exfalso; ((try simp only [inR, inS, i3_lt, i3_le, i3_eq, i6_lt, i6_le, Int32.toInt_toInt64, lg_cmp_lt, lg_cmp_gt, lg_cmp_ge, lg_cmp_le, Int32.reduceToInt, Int64.reduceToInt] at c1); omega)), by rw [ht]; exact hP9, hD9⟩, hS.F ht⟩) hS.2.2 dX9_say_14
  · refine lv_iload_n hx hb dX9_say_6 rfl (lv_at hl 1 rfl) ?_
    refine lv_bipush (v := 126) hx hb dX9_say_7 (by decide) ?_
    refine lv_icmp_le (tgt := 15) hx hb dX9_say_9 (by decide) (fun c2 => ?_) (fun c2 => ?_)
    · refine lv_aload_n hx hb dX9_say_15 rfl (lv_at hl 0 rfl) ?_
      refine va_get (D := G.1) (ci := 5) (v := .ref pad) (C := RX9) (T := TX9) (N := 5) hx hb hts (fun _ h => List.mem_cons_of_mem _ (List.mem_append_left _ (List.mem_append_right _ h))) hown E.K hP 0 rfl rfl 0 (by decide) (hts (.fieldLink RX9 10 "LastMap" "pad" "LLastMap$Pad;") (by decide +kernel)) (fun _ h9 => h9) rfl dX9_say_16 ?_
      refine lv_iload_n hx hb dX9_say_19 rfl (lv_at hl 1 rfl) ?_
      refine ca_i (wr := [(h0, .inr (5, [.ref pad, .ref pp, .ref im, .null, .null])), (im, .inl (gP G, 2, .inr (.inr (.inr (.inr (fun _ => none)))))), (pp, .inr (1, [.int 6, .int 0, .int 1, .int 0, .ref ac, .ref ak])), (ac, .inl (gI G, 6, .inl (fun _ => 0))), (ak, .inl (gI G, 4, .inl fk))]) (va_runV (As := [.int p0]) (rest := []) ⟨hx, hb, hml, hown, hts⟩ (c_put l G s.heap.size pad sg sl 0 (fun _ => 0) (fun _ => 0) p0) (cwV 1 hts gX9_say_X2_put rfl rfl rfl (by decide +kernel) ⟨by decide +kernel, by decide +kernel⟩) (pre_V E hP hD hS hA [2, 3, 4] (by decide) rfl 2 0 rfl rfl) rfl rfl hl.1 rfl (lv_room (Nat.le_of_ble_eq_true rfl)) dX9_say_20 ⟨by decide +kernel, by decide +kernel⟩) hS hP hD hA [2, 3, 4] [0, 1, 5, 6, 7] rfl rfl (by decide) (by decide) (fun r4 u5 H locs w3 hP hD hS => ?_)
      obtain ⟨len1_6, fsg1_7⟩ := u5
      try dsimp only at w3 hP hD
      have hP := hP.sub (ws' := [(h0, .inr (5, [.ref pad, .ref pp, .ref im, .null, .null])), (im, .inl (gP G, 2, .inr (.inr (.inr (.inr (fun _ => none)))))), (pad, .inr (0, [.ref sg, .ref sl, .int len1_6])), (sg, .inl (gI G, 40, .inl fsg1_7)), (sl, .inl (gI G, 10, .inl (fun _ => 0))), (pp, .inr (1, [.int 6, .int 0, .int 1, .int 0, .ref ac, .ref ak])), (ac, .inl (gI G, 6, .inl (fun _ => 0))), (ak, .inl (gI G, 4, .inl fk))]) [0, 1, 5, 6, 7, 2, 3, 4] rfl
      have hD := hD.sub (ws' := [(h0, .inr (5, [.ref pad, .ref pp, .ref im, .null, .null])), (im, .inl (gP G, 2, .inr (.inr (.inr (.inr (fun _ => none)))))), (pad, .inr (0, [.ref sg, .ref sl, .int len1_6])), (sg, .inl (gI G, 40, .inl fsg1_7)), (sl, .inl (gI G, 10, .inl (fun _ => 0))), (pp, .inr (1, [.int 6, .int 0, .int 1, .int 0, .ref ac, .ref ak])), (ac, .inl (gI G, 6, .inl (fun _ => 0))), (ak, .inl (gI G, 4, .inl fk))]) [0, 1, 5, 6, 7, 2, 3, 4] (by decide) rfl
      rcases w3 with ⟨rfl, cb, rfl, rfl⟩ | ⟨rfl, cb, rfl, rfl⟩
      · have hP : va_P G.1 vwCl [(h0, .inr (5, [.ref pad, .ref pp, .ref im, .null, .null])), (im, .inl (gP G, 2, .inr (.inr (.inr (.inr (fun _ => none)))))), (pad, .inr (0, [.ref sg, .ref sl, .int (0 + 1)])), (sg, .inl (gI G, 40, .inl (upd (fun _ => 0) (0 : Int32).toNatClampNeg p0))), (sl, .inl (gI G, 10, .inl (fun _ => 0))), (pp, .inr (1, [.int 6, .int 0, .int 1, .int 0, .ref ac, .ref ak])), (ac, .inl (gI G, 6, .inl (fun _ => 0))), (ak, .inl (gI G, 4, .inl fk))] H := hP
        have hD : va_D A [(h0, .inr (5, [.ref pad, .ref pp, .ref im, .null, .null])), (im, .inl (gP G, 2, .inr (.inr (.inr (.inr (fun _ => none)))))), (pad, .inr (0, [.ref sg, .ref sl, .int (0 + 1)])), (sg, .inl (gI G, 40, .inl (upd (fun _ => 0) (0 : Int32).toNatClampNeg p0))), (sl, .inl (gI G, 10, .inl (fun _ => 0))), (pp, .inr (1, [.int 6, .int 0, .int 1, .int 0, .ref ac, .ref ak])), (ac, .inl (gI G, 6, .inl (fun _ => 0))), (ak, .inl (gI G, 4, .inl fk))] := hD
        refine lv_if_eq (tgt := 36) hx hb dX9_say_23 (by decide) (fun c8 => False.elim (by revert c8; decide)) (fun _ => ?_)
        refine lv_aload_n hx hb dX9_say_26 rfl (lv_at hl 0 rfl) ?_
        refine va_get (D := G.1) (ci := 5) (v := .ref pad) (C := RX9) (T := TX9) (N := 5) hx hb hts (fun _ h => List.mem_cons_of_mem _ (List.mem_append_left _ (List.mem_append_right _ h))) hown E.K hP 0 rfl rfl 0 (by decide) (hts (.fieldLink RX9 10 "LastMap" "pad" "LLastMap$Pad;") (by decide +kernel)) (fun _ h9 => h9) rfl dX9_say_27 ?_
        refine va_get (D := G.1) (ci := 0) (v := .int (0 + 1)) (C := RX2) (T := TX2) (N := 3) hx hb hts (fun _ h => List.mem_cons_of_mem _ (List.mem_append_right _ h)) hown E.K hP 2 rfl rfl 2 (by decide) (hts (.fieldLink RX9 41 "LastMap$Pad" "length" "I") (by decide +kernel)) (fun _ h9 => h9) rfl dX9_say_30 ?_
        refine lv_goto (tgt := 38) hx hb dX9_say_33 (by decide) ?_
        have hP9 := hP.sub (ws' := []) [] rfl
        have hD9 := hD.sub (ws' := []) [] (by decide) rfl
        exact W.iret (v := (0 + 1)) hx hb hr (fun t ht hW => ⟨⟨0 + 1, (), rfl, by dsimp only; symm; unfold sp_say; (repeat (first | (refine Eq.trans (cIf_t ?_) ?_; · first | assumption | ((try simp only [inR, inS, i3_lt, i3_le, i3_eq, i6_lt, i6_le, Int32.toInt_toInt64, lg_cmp_lt, lg_cmp_gt, lg_cmp_ge, lg_cmp_le, Int32.reduceToInt, Int64.reduceToInt] at c1 c2 ⊢); omega)) | (refine Eq.trans (cIf_f ?_) ?_; · first | assumption | ((try simp only [inR, inS, i3_lt, i3_le, i3_eq, i6_lt, i6_le, Int32.toInt_toInt64, lg_cmp_lt, lg_cmp_gt, lg_cmp_ge, lg_cmp_le, Int32.reduceToInt, Int64.reduceToInt] at c1 c2 ⊢); omega)))); first | rfl | (exfalso; ((try simp only [inR, inS, i3_lt, i3_le, i3_eq, i6_lt, i6_le, Int32.toInt_toInt64, lg_cmp_lt, lg_cmp_gt, lg_cmp_ge, lg_cmp_le, Int32.reduceToInt, Int64.reduceToInt] at c1 c2); omega)), by rw [ht]; exact hP9, hD9⟩, hS.F ht⟩) hS.2.2 dX9_say_38
      · exact absurd (show inR 0 0 39 by unfold inR; decide) cb
    · refine lv_bipush (v := (-2)) hx hb dX9_say_12 (by decide) ?_
      have hP9 := hP.sub (ws' := []) [] rfl
      have hD9 := hD.sub (ws' := []) [] (by decide) rfl
      exact W.iret (v := (-2)) hx hb hr (fun t ht hW => ⟨⟨(-2), (), rfl, by dsimp only; symm; unfold sp_say; (repeat (first | (refine Eq.trans (cIf_t ?_) ?_; · first | assumption | ((try simp only [inR, inS, i3_lt, i3_le, i3_eq, i6_lt, i6_le, Int32.toInt_toInt64, lg_cmp_lt, lg_cmp_gt, lg_cmp_ge, lg_cmp_le, Int32.reduceToInt, Int64.reduceToInt] at c1 c2 ⊢); omega)) | (refine Eq.trans (cIf_f ?_) ?_; · first | assumption | ((try simp only [inR, inS, i3_lt, i3_le, i3_eq, i6_lt, i6_le, Int32.toInt_toInt64, lg_cmp_lt, lg_cmp_gt, lg_cmp_ge, lg_cmp_le, Int32.reduceToInt, Int64.reduceToInt] at c1 c2 ⊢); omega)))); first | rfl | (exfalso; ((try simp only [inR, inS, i3_lt, i3_le, i3_eq, i6_lt, i6_le, Int32.toInt_toInt64, lg_cmp_lt, lg_cmp_gt, lg_cmp_ge, lg_cmp_le, Int32.reduceToInt, Int64.reduceToInt] at c1 c2); omega)), by rw [ht]; exact hP9, hD9⟩, hS.F ht⟩) hS.2.2 dX9_say_14

set_option maxHeartbeats 1000000 in
set_option maxRecDepth 100000 in
theorem f_wipe (l : Launch) (G : Gy) (sz : Nat) (h0 : Nat) (pad : Nat) (pp : Nat) (im : Nat) (sg : Nat) (sl : Nat) (ac : Nat) (ak : Nat) (fk : Nat → Int32)  (hk : ∀ j : Nat, j < 4 → fk j = 15) : Ci l G yX9_wipe wsX9_wipe ({ frames := 0, cells := 0, slots := 0, locals := 0 }) [.ref h0] [(h0, .inr (5, [.ref pad, .ref pp, .ref im, .null, .null])), (im, .inl (gP G, 2, .inr (.inr (.inr (.inr (fun _ => none)))))), (pad, .inr (0, [.ref sg, .ref sl, .int 0])), (sg, .inl (gI G, 40, .inl (fun _ => 0))), (sl, .inl (gI G, 10, .inl (fun _ => 0))), (pp, .inr (1, [.int 6, .int 0, .int 1, .int 0, .ref ac, .ref ak])), (ac, .inl (gI G, 6, .inl (fun _ => 0))), (ak, .inl (gI G, 4, .inl fk))] sz (fun (r : Int32) (_ : Unit) => r = sp_wipe ) (fun (_ : Unit) => []) 0 0 := by
  refine Met.ofW (cc := cX9_wipe) (maxL := 2) (ret := (some .int)) (by decide) rfl ?_
  intro p e s m args below meth c s₁ B hml hv
  obtain ⟨rfl, hsz, hP, hD0, E0⟩ := hv
  have hx := B.exec
  have hb := B.bytes
  have hr := B.returns
  have hts := atoms_spec (ws := wsX9_wipe) B.pre
  have hown : s.vm.findClass RX9 = some m.cls := findClass_of_methodNamed B.named
  have hlocks := B.notSynchronized
  subst hsz
  have hD := hD0.self (sz := s.heap.size)
  generalize hAe : va_A [(h0, .inr (5, [.ref pad, .ref pp, .ref im, .null, .null])), (im, .inl (gP G, 2, .inr (.inr (.inr (.inr (fun _ => none)))))), (pad, .inr (0, [.ref sg, .ref sl, .int 0])), (sg, .inl (gI G, 40, .inl (fun _ => 0))), (sl, .inl (gI G, 10, .inl (fun _ => 0))), (pp, .inr (1, [.int 6, .int 0, .int 1, .int 0, .ref ac, .ref ak])), (ac, .inl (gI G, 6, .inl (fun _ => 0))), (ak, .inl (gI G, 4, .inl fk))] s.heap.size = A at hD E0 ⊢
  have E : EV G A s s.heap := E0
  have hA : ∀ q : Nat, s.heap.size ≤ q → A q := fun q h => by rw [← hAe]; exact Or.inr h
  have hS : va_S A s.heap s.heap [] := va_S.rf
  have hl := lv_entry ([.ref h0]) (n := 2) (Nat.le_of_ble_eq_true rfl)
  rw [lg_entry_eq]
  generalize (lg_sl ([.ref h0]) ++ List.replicate (2 - (lg_sl ([.ref h0])).length) Slot.unset).toArray = ls at hl ⊢
  have hl : lv_has ls 2 [(0, .ref h0)] := hl
  have hP : va_P G.1 vwCl [(h0, .inr (5, [.ref pad, .ref pp, .ref im, .null, .null])), (im, .inl (gP G, 2, .inr (.inr (.inr (.inr (fun _ => none)))))), (pad, .inr (0, [.ref sg, .ref sl, .int 0])), (sg, .inl (gI G, 40, .inl (fun _ => 0))), (sl, .inl (gI G, 10, .inl (fun _ => 0))), (pp, .inr (1, [.int 6, .int 0, .int 1, .int 0, .ref ac, .ref ak])), (ac, .inl (gI G, 6, .inl (fun _ => 0))), (ak, .inl (gI G, 4, .inl fk))] s.heap := hP
  refine lv_aload_n hx hb dX9_wipe_0 rfl (lv_at hl 0 rfl) ?_
  refine va_get (D := G.1) (ci := 5) (v := .ref pad) (C := RX9) (T := TX9) (N := 5) hx hb hts (fun _ h => List.mem_cons_of_mem _ (List.mem_append_left _ (List.mem_append_right _ h))) hown E.K hP 0 rfl rfl 0 (by decide) (hts (.fieldLink RX9 10 "LastMap" "pad" "LLastMap$Pad;") (by decide +kernel)) (fun _ h9 => h9) rfl dX9_wipe_1 ?_
  refine va_get (D := G.1) (ci := 0) (v := .int 0) (C := RX2) (T := TX2) (N := 3) hx hb hts (fun _ h => List.mem_cons_of_mem _ (List.mem_append_right _ h)) hown E.K hP 2 rfl rfl 2 (by decide) (hts (.fieldLink RX9 41 "LastMap$Pad" "length" "I") (by decide +kernel)) (fun _ h9 => h9) rfl dX9_wipe_4 ?_
  refine lv_istore_n (lv' := [(1, .int 0), (0, .ref h0)]) hx hb dX9_wipe_7 rfl hl (by decide) rfl (fun ls hl => ?_)
  refine lv_aload_n hx hb dX9_wipe_8 rfl (lv_at hl 1 rfl) ?_
  refine va_get (D := G.1) (ci := 5) (v := .ref pad) (C := RX9) (T := TX9) (N := 5) hx hb hts (fun _ h => List.mem_cons_of_mem _ (List.mem_append_left _ (List.mem_append_right _ h))) hown E.K hP 0 rfl rfl 0 (by decide) (hts (.fieldLink RX9 10 "LastMap" "pad" "LLastMap$Pad;") (by decide +kernel)) (fun _ h9 => h9) rfl dX9_wipe_9 ?_
  refine lv_iconst (v := 0) hx hb dX9_wipe_12 (by decide) ?_
  refine va_put (D := G.1) (ci := 0) (v := .int 0) (ty := .int) (C := RX2) (T := TX2) (N := 3) hx hb hts (fun _ h => List.mem_cons_of_mem _ (List.mem_append_right _ h)) tyX2 tyX2_ok nmX2 hown E.K hP hD hS 2 rfl rfl 2 (by decide) (hts (.fieldLink RX9 41 "LastMap$Pad" "length" "I") (by decide +kernel)) (fun _ h9 => h9) rfl (by decide +kernel) rfl rfl (Nat.le_of_ble_eq_true rfl) dX9_wipe_13 (fun H locs hP hD hS => ?_)
  have hP : va_P G.1 vwCl [(h0, .inr (5, [.ref pad, .ref pp, .ref im, .null, .null])), (im, .inl (gP G, 2, .inr (.inr (.inr (.inr (fun _ => none)))))), (pad, .inr (0, [.ref sg, .ref sl, .int 0])), (sg, .inl (gI G, 40, .inl (fun _ => 0))), (sl, .inl (gI G, 10, .inl (fun _ => 0))), (pp, .inr (1, [.int 6, .int 0, .int 1, .int 0, .ref ac, .ref ak])), (ac, .inl (gI G, 6, .inl (fun _ => 0))), (ak, .inl (gI G, 4, .inl fk))] H := hP
  have hD : va_D A [(h0, .inr (5, [.ref pad, .ref pp, .ref im, .null, .null])), (im, .inl (gP G, 2, .inr (.inr (.inr (.inr (fun _ => none)))))), (pad, .inr (0, [.ref sg, .ref sl, .int 0])), (sg, .inl (gI G, 40, .inl (fun _ => 0))), (sl, .inl (gI G, 10, .inl (fun _ => 0))), (pp, .inr (1, [.int 6, .int 0, .int 1, .int 0, .ref ac, .ref ak])), (ac, .inl (gI G, 6, .inl (fun _ => 0))), (ak, .inl (gI G, 4, .inl fk))] := hD
  refine lv_iload_n hx hb dX9_wipe_16 rfl (lv_at hl 0 rfl) ?_
  have hP9 := hP.sub (ws' := []) [] rfl
  have hD9 := hD.sub (ws' := []) [] (by decide) rfl
  exact W.iret (v := 0) hx hb hr (fun t ht hW => ⟨⟨0, (), rfl, by dsimp only; symm; unfold sp_wipe; (repeat (first | (refine Eq.trans (cIf_t ?_) ?_; · first | assumption | ((try simp only [inR, inS, i3_lt, i3_le, i3_eq, i6_lt, i6_le, Int32.toInt_toInt64, lg_cmp_lt, lg_cmp_gt, lg_cmp_ge, lg_cmp_le, Int32.reduceToInt, Int64.reduceToInt]); omega)) | (refine Eq.trans (cIf_f ?_) ?_; · first | assumption | ((try simp only [inR, inS, i3_lt, i3_le, i3_eq, i6_lt, i6_le, Int32.toInt_toInt64, lg_cmp_lt, lg_cmp_gt, lg_cmp_ge, lg_cmp_le, Int32.reduceToInt, Int64.reduceToInt]); omega)))); first | rfl | (exfalso; ((try simp only [inR, inS, i3_lt, i3_le, i3_eq, i6_lt, i6_le, Int32.toInt_toInt64, lg_cmp_lt, lg_cmp_gt, lg_cmp_ge, lg_cmp_le, Int32.reduceToInt, Int64.reduceToInt]); omega)), by rw [ht]; exact hP9, hD9⟩, hS.F ht⟩) hS.2.2 dX9_wipe_17

set_option maxHeartbeats 1000000 in
set_option maxRecDepth 100000 in
theorem f_fault (l : Launch) (G : Gy) (sz : Nat) (h0 : Nat) (pad : Nat) (pp : Nat) (im : Nat) (sg : Nat) (sl : Nat) (ac : Nat) (ak : Nat) (fk : Nat → Int32) (p0 : Int32) (hk : ∀ j : Nat, j < 4 → fk j = 15) : Ci l G yX9_fault wsX9_fault ({ frames := 2, cells := 0, slots := 0, locals := 49 }) [.ref h0, .int p0] [(h0, .inr (5, [.ref pad, .ref pp, .ref im, .null, .null])), (im, .inl (gP G, 2, .inr (.inr (.inr (.inr (fun _ => none)))))), (pad, .inr (0, [.ref sg, .ref sl, .int 0])), (sg, .inl (gI G, 40, .inl (fun _ => 0))), (sl, .inl (gI G, 10, .inl (fun _ => 0))), (pp, .inr (1, [.int 6, .int 0, .int 1, .int 0, .ref ac, .ref ak])), (ac, .inl (gI G, 6, .inl (fun _ => 0))), (ak, .inl (gI G, 4, .inl fk))] sz (fun (r : Int32) (_ : Unit) => r = sp_fault p0) (fun (_ : Unit) => []) 0 0 := by
  refine Met.ofW (cc := cX9_fault) (maxL := 2) (ret := (some .int)) (by decide) rfl ?_
  intro p e s m args below meth c s₁ B hml hv
  obtain ⟨rfl, hsz, hP, hD0, E0⟩ := hv
  have hx := B.exec
  have hb := B.bytes
  have hr := B.returns
  have hts := atoms_spec (ws := wsX9_fault) B.pre
  have hown : s.vm.findClass RX9 = some m.cls := findClass_of_methodNamed B.named
  have hlocks := B.notSynchronized
  subst hsz
  have hD := hD0.self (sz := s.heap.size)
  generalize hAe : va_A [(h0, .inr (5, [.ref pad, .ref pp, .ref im, .null, .null])), (im, .inl (gP G, 2, .inr (.inr (.inr (.inr (fun _ => none)))))), (pad, .inr (0, [.ref sg, .ref sl, .int 0])), (sg, .inl (gI G, 40, .inl (fun _ => 0))), (sl, .inl (gI G, 10, .inl (fun _ => 0))), (pp, .inr (1, [.int 6, .int 0, .int 1, .int 0, .ref ac, .ref ak])), (ac, .inl (gI G, 6, .inl (fun _ => 0))), (ak, .inl (gI G, 4, .inl fk))] s.heap.size = A at hD E0 ⊢
  have E : EV G A s s.heap := E0
  have hA : ∀ q : Nat, s.heap.size ≤ q → A q := fun q h => by rw [← hAe]; exact Or.inr h
  have hS : va_S A s.heap s.heap [] := va_S.rf
  have hl := lv_entry ([.ref h0, .int p0]) (n := 2) (Nat.le_of_ble_eq_true rfl)
  rw [lg_entry_eq]
  generalize (lg_sl ([.ref h0, .int p0]) ++ List.replicate (2 - (lg_sl ([.ref h0, .int p0])).length) Slot.unset).toArray = ls at hl ⊢
  have hl : lv_has ls 2 [(0, .ref h0), (1, .int p0)] := hl
  have hP : va_P G.1 vwCl [(h0, .inr (5, [.ref pad, .ref pp, .ref im, .null, .null])), (im, .inl (gP G, 2, .inr (.inr (.inr (.inr (fun _ => none)))))), (pad, .inr (0, [.ref sg, .ref sl, .int 0])), (sg, .inl (gI G, 40, .inl (fun _ => 0))), (sl, .inl (gI G, 10, .inl (fun _ => 0))), (pp, .inr (1, [.int 6, .int 0, .int 1, .int 0, .ref ac, .ref ak])), (ac, .inl (gI G, 6, .inl (fun _ => 0))), (ak, .inl (gI G, 4, .inl fk))] s.heap := hP
  refine lv_iload_n hx hb dX9_fault_0 rfl (lv_at hl 1 rfl) ?_
  refine lv_if_lt (tgt := 9) hx hb dX9_fault_1 (by decide) (fun c1 => ?_) (fun c1 => ?_)
  · refine lv_bipush (v := (-2)) hx hb dX9_fault_9 (by decide) ?_
    refine lv_goto (tgt := 29) hx hb dX9_fault_11 (by decide) ?_
    have hP9 := hP.sub (ws' := []) [] rfl
    have hD9 := hD.sub (ws' := []) [] (by decide) rfl
    exact W.iret (v := (-2)) hx hb hr (fun t ht hW => ⟨⟨(-2), (), rfl, by dsimp only; symm; unfold sp_fault; (repeat (first | (refine Eq.trans (cIf_t ?_) ?_; · first | assumption | ((try simp only [inR, inS, i3_lt, i3_le, i3_eq, i6_lt, i6_le, Int32.toInt_toInt64, lg_cmp_lt, lg_cmp_gt, lg_cmp_ge, lg_cmp_le, Int32.reduceToInt, Int64.reduceToInt] at c1 ⊢); omega)) | (refine Eq.trans (cIf_f ?_) ?_; · first | assumption | ((try simp only [inR, inS, i3_lt, i3_le, i3_eq, i6_lt, i6_le, Int32.toInt_toInt64, lg_cmp_lt, lg_cmp_gt, lg_cmp_ge, lg_cmp_le, Int32.reduceToInt, Int64.reduceToInt] at c1 ⊢); omega)))); first | rfl | (exfalso; ((try simp only [inR, inS, i3_lt, i3_le, i3_eq, i6_lt, i6_le, Int32.toInt_toInt64, lg_cmp_lt, lg_cmp_gt, lg_cmp_ge, lg_cmp_le, Int32.reduceToInt, Int64.reduceToInt] at c1); omega)), by rw [ht]; exact hP9, hD9⟩, hS.F ht⟩) hS.2.2 dX9_fault_29
  · refine lv_iload_n hx hb dX9_fault_4 rfl (lv_at hl 1 rfl) ?_
    refine lv_iconst (v := 2) hx hb dX9_fault_5 (by decide) ?_
    refine lv_icmp_le (tgt := 14) hx hb dX9_fault_6 (by decide) (fun c2 => ?_) (fun c2 => ?_)
    · refine lv_aload_n hx hb dX9_fault_14 rfl (lv_at hl 0 rfl) ?_
      refine va_get (D := G.1) (ci := 5) (v := .ref pad) (C := RX9) (T := TX9) (N := 5) hx hb hts (fun _ h => List.mem_cons_of_mem _ (List.mem_append_left _ (List.mem_append_left _ (List.mem_append_right _ h)))) hown E.K hP 0 rfl rfl 0 (by decide) (hts (.fieldLink RX9 10 "LastMap" "pad" "LLastMap$Pad;") (by decide +kernel)) (fun _ h9 => h9) rfl dX9_fault_15 ?_
      refine lv_iload_n hx hb dX9_fault_18 rfl (lv_at hl 1 rfl) ?_
      refine lv_aload_n hx hb dX9_fault_19 rfl (lv_at hl 0 rfl) ?_
      refine va_get (D := G.1) (ci := 5) (v := .ref pp) (C := RX9) (T := TX9) (N := 5) hx hb hts (fun _ h => List.mem_cons_of_mem _ (List.mem_append_left _ (List.mem_append_left _ (List.mem_append_right _ h)))) hown E.K hP 0 rfl rfl 1 (by decide) (hts (.fieldLink RX9 19 "LastMap" "papers" "LLastMap$Papers;") (by decide +kernel)) (fun _ h9 => h9) rfl dX9_fault_20 ?_
      refine va_get (D := G.1) (ci := 1) (v := .int 6) (C := RX3) (T := TX3) (N := 6) hx hb hts (fun _ h => List.mem_cons_of_mem _ (List.mem_append_left _ (List.mem_append_right _ h))) hown E.K hP 5 rfl rfl 0 (by decide) (hts (.fieldLink RX9 27 "LastMap$Papers" "siteCount" "I") (by decide +kernel)) (fun _ h9 => h9) rfl dX9_fault_23 ?_
      refine ca_iR (va_runV (As := [.int p0, .int 6]) (rest := []) ⟨hx, hb, hml, hown, hts⟩ (c_fw_f l G s.heap.size pad sg sl (fun _ => 0) (fun _ => 0) p0) (cwV 2 hts gX9_fault_X2_firstWrong rfl rfl rfl (by decide +kernel) ⟨by decide +kernel, by decide +kernel⟩) (pre_V E hP hD hS hA [2, 3, 4] (by decide) rfl 2 0 rfl rfl) rfl rfl hl.1 rfl (lv_room (Nat.le_of_ble_eq_true rfl)) dX9_fault_26 ⟨by decide +kernel, by decide +kernel⟩) hS hP hD hA [2, 3, 4] rfl (fun r4 _ H locs w3 hP hS => ?_)
      have hP9 := hP.sub (ws' := []) [] rfl
      have hD9 := hD.sub (ws' := []) [] (by decide) rfl
      exact W.iret (v := r4) hx hb hr (fun t ht hW => ⟨⟨r4, (), rfl, by dsimp only; rw [w3]; symm; unfold sp_fault; (repeat (first | (refine Eq.trans (cIf_t ?_) ?_; · first | assumption | ((try simp only [inR, inS, i3_lt, i3_le, i3_eq, i6_lt, i6_le, Int32.toInt_toInt64, lg_cmp_lt, lg_cmp_gt, lg_cmp_ge, lg_cmp_le, Int32.reduceToInt, Int64.reduceToInt] at c1 c2 ⊢); omega)) | (refine Eq.trans (cIf_f ?_) ?_; · first | assumption | ((try simp only [inR, inS, i3_lt, i3_le, i3_eq, i6_lt, i6_le, Int32.toInt_toInt64, lg_cmp_lt, lg_cmp_gt, lg_cmp_ge, lg_cmp_le, Int32.reduceToInt, Int64.reduceToInt] at c1 c2 ⊢); omega)))); first | rfl | (exfalso; ((try simp only [inR, inS, i3_lt, i3_le, i3_eq, i6_lt, i6_le, Int32.toInt_toInt64, lg_cmp_lt, lg_cmp_gt, lg_cmp_ge, lg_cmp_le, Int32.reduceToInt, Int64.reduceToInt] at c1 c2); omega)), by rw [ht]; exact hP9, hD9⟩, hS.F ht⟩) hS.2.2 dX9_fault_29
    · refine lv_bipush (v := (-2)) hx hb dX9_fault_9 (by decide) ?_
      refine lv_goto (tgt := 29) hx hb dX9_fault_11 (by decide) ?_
      have hP9 := hP.sub (ws' := []) [] rfl
      have hD9 := hD.sub (ws' := []) [] (by decide) rfl
      exact W.iret (v := (-2)) hx hb hr (fun t ht hW => ⟨⟨(-2), (), rfl, by dsimp only; symm; unfold sp_fault; (repeat (first | (refine Eq.trans (cIf_t ?_) ?_; · first | assumption | ((try simp only [inR, inS, i3_lt, i3_le, i3_eq, i6_lt, i6_le, Int32.toInt_toInt64, lg_cmp_lt, lg_cmp_gt, lg_cmp_ge, lg_cmp_le, Int32.reduceToInt, Int64.reduceToInt] at c1 c2 ⊢); omega)) | (refine Eq.trans (cIf_f ?_) ?_; · first | assumption | ((try simp only [inR, inS, i3_lt, i3_le, i3_eq, i6_lt, i6_le, Int32.toInt_toInt64, lg_cmp_lt, lg_cmp_gt, lg_cmp_ge, lg_cmp_le, Int32.reduceToInt, Int64.reduceToInt] at c1 c2 ⊢); omega)))); first | rfl | (exfalso; ((try simp only [inR, inS, i3_lt, i3_le, i3_eq, i6_lt, i6_le, Int32.toInt_toInt64, lg_cmp_lt, lg_cmp_gt, lg_cmp_ge, lg_cmp_le, Int32.reduceToInt, Int64.reduceToInt] at c1 c2); omega)), by rw [ht]; exact hP9, hD9⟩, hS.F ht⟩) hS.2.2 dX9_fault_29

set_option maxHeartbeats 1000000 in
set_option maxRecDepth 100000 in
theorem f_map (l : Launch) (G : Gy) (sz : Nat) (h0 : Nat) (pad : Nat) (pp : Nat) (im : Nat) (sg : Nat) (sl : Nat) (ac : Nat) (ak : Nat) (fk : Nat → Int32) (p0 : Int32) (hk : ∀ j : Nat, j < 4 → fk j = 15) : Ci l G yX9_map wsX9_map ({ frames := 2, cells := 0, slots := 0, locals := 49 }) [.ref h0, .int p0] [(h0, .inr (5, [.ref pad, .ref pp, .ref im, .null, .null])), (im, .inl (gP G, 2, .inr (.inr (.inr (.inr (fun _ => none)))))), (pad, .inr (0, [.ref sg, .ref sl, .int 0])), (sg, .inl (gI G, 40, .inl (fun _ => 0))), (sl, .inl (gI G, 10, .inl (fun _ => 0))), (pp, .inr (1, [.int 6, .int 0, .int 1, .int 0, .ref ac, .ref ak])), (ac, .inl (gI G, 6, .inl (fun _ => 0))), (ak, .inl (gI G, 4, .inl fk))] sz (fun (r : Int32) (_ : Unit) => r = sp_map p0) (fun (_ : Unit) => []) 0 0 := by
  refine Met.ofW (cc := cX9_map) (maxL := 2) (ret := (some .int)) (by decide) rfl ?_
  intro p e s m args below meth c s₁ B hml hv
  obtain ⟨rfl, hsz, hP, hD0, E0⟩ := hv
  have hx := B.exec
  have hb := B.bytes
  have hr := B.returns
  have hts := atoms_spec (ws := wsX9_map) B.pre
  have hown : s.vm.findClass RX9 = some m.cls := findClass_of_methodNamed B.named
  have hlocks := B.notSynchronized
  subst hsz
  have hD := hD0.self (sz := s.heap.size)
  generalize hAe : va_A [(h0, .inr (5, [.ref pad, .ref pp, .ref im, .null, .null])), (im, .inl (gP G, 2, .inr (.inr (.inr (.inr (fun _ => none)))))), (pad, .inr (0, [.ref sg, .ref sl, .int 0])), (sg, .inl (gI G, 40, .inl (fun _ => 0))), (sl, .inl (gI G, 10, .inl (fun _ => 0))), (pp, .inr (1, [.int 6, .int 0, .int 1, .int 0, .ref ac, .ref ak])), (ac, .inl (gI G, 6, .inl (fun _ => 0))), (ak, .inl (gI G, 4, .inl fk))] s.heap.size = A at hD E0 ⊢
  have E : EV G A s s.heap := E0
  have hA : ∀ q : Nat, s.heap.size ≤ q → A q := fun q h => by rw [← hAe]; exact Or.inr h
  have hS : va_S A s.heap s.heap [] := va_S.rf
  have hl := lv_entry ([.ref h0, .int p0]) (n := 2) (Nat.le_of_ble_eq_true rfl)
  rw [lg_entry_eq]
  generalize (lg_sl ([.ref h0, .int p0]) ++ List.replicate (2 - (lg_sl ([.ref h0, .int p0])).length) Slot.unset).toArray = ls at hl ⊢
  have hl : lv_has ls 2 [(0, .ref h0), (1, .int p0)] := hl
  have hP : va_P G.1 vwCl [(h0, .inr (5, [.ref pad, .ref pp, .ref im, .null, .null])), (im, .inl (gP G, 2, .inr (.inr (.inr (.inr (fun _ => none)))))), (pad, .inr (0, [.ref sg, .ref sl, .int 0])), (sg, .inl (gI G, 40, .inl (fun _ => 0))), (sl, .inl (gI G, 10, .inl (fun _ => 0))), (pp, .inr (1, [.int 6, .int 0, .int 1, .int 0, .ref ac, .ref ak])), (ac, .inl (gI G, 6, .inl (fun _ => 0))), (ak, .inl (gI G, 4, .inl fk))] s.heap := hP
  refine lv_iload_n hx hb dX9_map_0 rfl (lv_at hl 1 rfl) ?_
  refine ca_iR (va_runS (As := [.int p0]) (rest := []) ⟨hx, hb, hml, hown, hts⟩ (c_isMap l G s.heap.size p0) (va_cwS 1 hts gX9_map_X9_isMap rfl rfl rfl (by decide +kernel) ⟨by decide +kernel, by decide +kernel⟩) (pre_S E hP hD hS hA [] (by decide) rfl) rfl rfl hl.1 rfl (lv_room (Nat.le_of_ble_eq_true rfl)) dX9_map_1 ⟨by decide +kernel, by decide +kernel⟩) hS hP hD hA [] rfl (fun r2 _ H locs w1 hP hS => ?_)
  rcases w1 with ⟨rfl, b3⟩ | ⟨rfl, b3⟩
  · refine lv_if_ne (tgt := 9) hx hb dX9_map_4 (by decide) (fun _ => ?_) (fun c4 => False.elim (by revert c4; decide))
    refine lv_aload_n hx hb dX9_map_9 rfl (lv_at hl 0 rfl) ?_
    refine va_get (D := G.1) (ci := 5) (v := .ref pad) (C := RX9) (T := TX9) (N := 5) hx hb hts (fun _ h => List.mem_cons_of_mem _ (List.mem_append_left _ (List.mem_append_left _ (List.mem_append_right _ h)))) hown E.K hP 0 rfl rfl 0 (by decide) (hts (.fieldLink RX9 10 "LastMap" "pad" "LLastMap$Pad;") (by decide +kernel)) (fun _ h9 => h9) rfl dX9_map_10 ?_
    refine lv_iconst (v := 0) hx hb dX9_map_13 (by decide) ?_
    refine lv_aload_n hx hb dX9_map_14 rfl (lv_at hl 0 rfl) ?_
    refine va_get (D := G.1) (ci := 5) (v := .ref pp) (C := RX9) (T := TX9) (N := 5) hx hb hts (fun _ h => List.mem_cons_of_mem _ (List.mem_append_left _ (List.mem_append_left _ (List.mem_append_right _ h)))) hown E.K hP 0 rfl rfl 1 (by decide) (hts (.fieldLink RX9 19 "LastMap" "papers" "LLastMap$Papers;") (by decide +kernel)) (fun _ h9 => h9) rfl dX9_map_15 ?_
    refine va_get (D := G.1) (ci := 1) (v := .int 6) (C := RX3) (T := TX3) (N := 6) hx hb hts (fun _ h => List.mem_cons_of_mem _ (List.mem_append_left _ (List.mem_append_right _ h))) hown E.K hP 5 rfl rfl 0 (by decide) (hts (.fieldLink RX9 27 "LastMap$Papers" "siteCount" "I") (by decide +kernel)) (fun _ h9 => h9) rfl dX9_map_18 ?_
    refine ca_iR (va_runV (As := [.int 0, .int 6]) (rest := []) ⟨hx, hb, hml, hown, hts⟩ (c_fw_f l G H.size pad sg sl (fun _ => 0) (fun _ => 0) 0) (cwV 2 hts gX9_map_X2_firstWrong rfl rfl rfl (by decide +kernel) ⟨by decide +kernel, by decide +kernel⟩) (pre_V E hP hD hS hA [2, 3, 4] (by decide) rfl 2 0 rfl rfl) rfl rfl hl.1 rfl (lv_room (Nat.le_of_ble_eq_true rfl)) dX9_map_21 ⟨by decide +kernel, by decide +kernel⟩) hS hP hD hA [2, 3, 4] rfl (fun r6 _ H locs w5 hP hS => ?_)
    obtain rfl : r6 = 0 := by rw [w5]; exact cIf_f (by decide)
    refine lv_bipush (v := (-6)) hx hb dX9_map_24 (by decide) ?_
    refine lv_icmp_eq (tgt := 32) hx hb dX9_map_26 (by decide) (fun c7 => False.elim (by revert c7; decide)) (fun _ => ?_)
    refine lv_bipush (v := (-5)) hx hb dX9_map_29 (by decide) ?_
    have hP9 := hP.sub (ws' := []) [] rfl
    have hD9 := hD.sub (ws' := []) [] (by decide) rfl
    exact W.iret (v := (-5)) hx hb hr (fun t ht hW => ⟨⟨(-5), (), rfl, by dsimp only; symm; unfold sp_map; (repeat (first | (refine Eq.trans (cIf_t ?_) ?_; · first | assumption | ((try simp only [inR, inS, i3_lt, i3_le, i3_eq, i6_lt, i6_le, Int32.toInt_toInt64, lg_cmp_lt, lg_cmp_gt, lg_cmp_ge, lg_cmp_le, Int32.reduceToInt, Int64.reduceToInt] at b3 ⊢); omega)) | (refine Eq.trans (cIf_f ?_) ?_; · first | assumption | ((try simp only [inR, inS, i3_lt, i3_le, i3_eq, i6_lt, i6_le, Int32.toInt_toInt64, lg_cmp_lt, lg_cmp_gt, lg_cmp_ge, lg_cmp_le, Int32.reduceToInt, Int64.reduceToInt] at b3 ⊢); omega)))); first | rfl | (exfalso; ((try simp only [inR, inS, i3_lt, i3_le, i3_eq, i6_lt, i6_le, Int32.toInt_toInt64, lg_cmp_lt, lg_cmp_gt, lg_cmp_ge, lg_cmp_le, Int32.reduceToInt, Int64.reduceToInt] at b3); omega)), by rw [ht]; exact hP9, hD9⟩, hS.F ht⟩) hS.2.2 dX9_map_31
  · refine lv_if_ne (tgt := 9) hx hb dX9_map_4 (by decide) (fun c8 => False.elim (by revert c8; decide)) (fun _ => ?_)
    refine lv_iconst (v := (-1)) hx hb dX9_map_7 (by decide) ?_
    have hP9 := hP.sub (ws' := []) [] rfl
    have hD9 := hD.sub (ws' := []) [] (by decide) rfl
    exact W.iret (v := (-1)) hx hb hr (fun t ht hW => ⟨⟨(-1), (), rfl, by dsimp only; symm; unfold sp_map; (repeat (first | (refine Eq.trans (cIf_t ?_) ?_; · first | assumption | ((try simp only [inR, inS, i3_lt, i3_le, i3_eq, i6_lt, i6_le, Int32.toInt_toInt64, lg_cmp_lt, lg_cmp_gt, lg_cmp_ge, lg_cmp_le, Int32.reduceToInt, Int64.reduceToInt] at b3 ⊢); omega)) | (refine Eq.trans (cIf_f ?_) ?_; · first | assumption | ((try simp only [inR, inS, i3_lt, i3_le, i3_eq, i6_lt, i6_le, Int32.toInt_toInt64, lg_cmp_lt, lg_cmp_gt, lg_cmp_ge, lg_cmp_le, Int32.reduceToInt, Int64.reduceToInt] at b3 ⊢); omega)))); first | rfl | (exfalso; ((try simp only [inR, inS, i3_lt, i3_le, i3_eq, i6_lt, i6_le, Int32.toInt_toInt64, lg_cmp_lt, lg_cmp_gt, lg_cmp_ge, lg_cmp_le, Int32.reduceToInt, Int64.reduceToInt] at b3); omega)), by rw [ht]; exact hP9, hD9⟩, hS.F ht⟩) hS.2.2 dX9_map_8

set_option maxHeartbeats 1000000 in
set_option maxRecDepth 100000 in
theorem f_at (l : Launch) (G : Gy) (sz : Nat) (h0 : Nat) (pad : Nat) (pp : Nat) (im : Nat) (sg : Nat) (sl : Nat) (ac : Nat) (ak : Nat) (fk : Nat → Int32) (p0 : Int32) (p1 : Int32) (hk : ∀ j : Nat, j < 4 → fk j = 15) : Ci l G yX9_at wsX9_at ({ frames := 3, cells := 0, slots := 0, locals := 62 }) [.ref h0, .int p0, .int p1] [(h0, .inr (5, [.ref pad, .ref pp, .ref im, .null, .null])), (im, .inl (gP G, 2, .inr (.inr (.inr (.inr (fun _ => none)))))), (pad, .inr (0, [.ref sg, .ref sl, .int 0])), (sg, .inl (gI G, 40, .inl (fun _ => 0))), (sl, .inl (gI G, 10, .inl (fun _ => 0))), (pp, .inr (1, [.int 6, .int 0, .int 1, .int 0, .ref ac, .ref ak])), (ac, .inl (gI G, 6, .inl (fun _ => 0))), (ak, .inl (gI G, 4, .inl fk))] sz (fun (r : Int32) (_ : Unit) => r = sp_at p0 p1) (fun (_ : Unit) => []) 0 0 := by
  refine Met.ofW (cc := cX9_at) (maxL := 3) (ret := (some .int)) (by decide) rfl ?_
  intro p e s m args below meth c s₁ B hml hv
  obtain ⟨rfl, hsz, hP, hD0, E0⟩ := hv
  have hx := B.exec
  have hb := B.bytes
  have hr := B.returns
  have hts := atoms_spec (ws := wsX9_at) B.pre
  have hown : s.vm.findClass RX9 = some m.cls := findClass_of_methodNamed B.named
  have hlocks := B.notSynchronized
  subst hsz
  have hD := hD0.self (sz := s.heap.size)
  generalize hAe : va_A [(h0, .inr (5, [.ref pad, .ref pp, .ref im, .null, .null])), (im, .inl (gP G, 2, .inr (.inr (.inr (.inr (fun _ => none)))))), (pad, .inr (0, [.ref sg, .ref sl, .int 0])), (sg, .inl (gI G, 40, .inl (fun _ => 0))), (sl, .inl (gI G, 10, .inl (fun _ => 0))), (pp, .inr (1, [.int 6, .int 0, .int 1, .int 0, .ref ac, .ref ak])), (ac, .inl (gI G, 6, .inl (fun _ => 0))), (ak, .inl (gI G, 4, .inl fk))] s.heap.size = A at hD E0 ⊢
  have E : EV G A s s.heap := E0
  have hA : ∀ q : Nat, s.heap.size ≤ q → A q := fun q h => by rw [← hAe]; exact Or.inr h
  have hS : va_S A s.heap s.heap [] := va_S.rf
  have hl := lv_entry ([.ref h0, .int p0, .int p1]) (n := 3) (Nat.le_of_ble_eq_true rfl)
  rw [lg_entry_eq]
  generalize (lg_sl ([.ref h0, .int p0, .int p1]) ++ List.replicate (3 - (lg_sl ([.ref h0, .int p0, .int p1])).length) Slot.unset).toArray = ls at hl ⊢
  have hl : lv_has ls 3 [(0, .ref h0), (1, .int p0), (2, .int p1)] := hl
  have hP : va_P G.1 vwCl [(h0, .inr (5, [.ref pad, .ref pp, .ref im, .null, .null])), (im, .inl (gP G, 2, .inr (.inr (.inr (.inr (fun _ => none)))))), (pad, .inr (0, [.ref sg, .ref sl, .int 0])), (sg, .inl (gI G, 40, .inl (fun _ => 0))), (sl, .inl (gI G, 10, .inl (fun _ => 0))), (pp, .inr (1, [.int 6, .int 0, .int 1, .int 0, .ref ac, .ref ak])), (ac, .inl (gI G, 6, .inl (fun _ => 0))), (ak, .inl (gI G, 4, .inl fk))] s.heap := hP
  refine lv_iload_n hx hb dX9_at_0 rfl (lv_at hl 1 rfl) ?_
  refine ca_iR (va_runS (As := [.int p0]) (rest := []) ⟨hx, hb, hml, hown, hts⟩ (c_isMap l G s.heap.size p0) (va_cwS 1 hts gX9_at_X9_isMap rfl rfl rfl (by decide +kernel) ⟨by decide +kernel, by decide +kernel⟩) (pre_S E hP hD hS hA [] (by decide) rfl) rfl rfl hl.1 rfl (lv_room (Nat.le_of_ble_eq_true rfl)) dX9_at_1 ⟨by decide +kernel, by decide +kernel⟩) hS hP hD hA [] rfl (fun r2 _ H locs w1 hP hS => ?_)
  rcases w1 with ⟨rfl, b3⟩ | ⟨rfl, b3⟩
  · refine lv_if_eq (tgt := 15) hx hb dX9_at_4 (by decide) (fun c4 => False.elim (by revert c4; decide)) (fun _ => ?_)
    refine lv_aload_n hx hb dX9_at_7 rfl (lv_at hl 0 rfl) ?_
    refine lv_iload_n hx hb dX9_at_8 rfl (lv_at hl 2 rfl) ?_
    refine ca_iR (va_runV (As := [.int p1]) (rest := []) ⟨hx, hb, hml, hown, hts⟩ (c_isSite l G H.size h0 pad pp im .null .null ac ak 6 0 1 0 p1) (cwV 1 hts gX9_at_X9_isSite rfl rfl rfl (by decide +kernel) ⟨by decide +kernel, by decide +kernel⟩) (pre_V E hP hD hS hA [0, 5] (by decide) rfl 0 5 rfl rfl) rfl rfl hl.1 rfl (lv_room (Nat.le_of_ble_eq_true rfl)) dX9_at_9 ⟨by decide +kernel, by decide +kernel⟩) hS hP hD hA [0, 5] rfl (fun r6 _ H locs w5 hP hS => ?_)
    rcases w5 with ⟨rfl, b7⟩ | ⟨rfl, b7⟩
    · refine lv_if_ne (tgt := 17) hx hb dX9_at_12 (by decide) (fun _ => ?_) (fun c8 => False.elim (by revert c8; decide))
      refine lv_aload_n hx hb dX9_at_17 rfl (lv_at hl 0 rfl) ?_
      refine lv_iload_n hx hb dX9_at_18 rfl (lv_at hl 1 rfl) ?_
      refine ca_iR (va_runV (As := [.int p0]) (rest := []) ⟨hx, hb, hml, hown, hts⟩ (c_isTold l G H.size h0 pad pp im .null .null ac ak 6 0 1 0 p0) (cwV 1 hts gX9_at_X9_isTold rfl rfl rfl (by decide +kernel) ⟨by decide +kernel, by decide +kernel⟩) (pre_V E hP hD hS hA [0, 5] (by decide) rfl 0 5 rfl rfl) rfl rfl hl.1 rfl (lv_room (Nat.le_of_ble_eq_true rfl)) dX9_at_19 ⟨by decide +kernel, by decide +kernel⟩) hS hP hD hA [0, 5] rfl (fun r10 _ H locs w9 hP hS => ?_)
      rcases w9 with ⟨rfl, b11⟩ | ⟨rfl, b11⟩
      · exact absurd b11 (not_told0 _)
      · refine lv_if_ne (tgt := 28) hx hb dX9_at_22 (by decide) (fun c12 => False.elim (by revert c12; decide)) (fun _ => ?_)
        refine lv_bipush (v := (-3)) hx hb dX9_at_25 (by decide) ?_
        have hP9 := hP.sub (ws' := []) [] rfl
        have hD9 := hD.sub (ws' := []) [] (by decide) rfl
        exact W.iret (v := (-3)) hx hb hr (fun t ht hW => ⟨⟨(-3), (), rfl, by dsimp only; symm; unfold sp_at; (repeat (first | (refine Eq.trans (cIf_t ?_) ?_; · first | assumption | ((try simp only [inR, inS, i3_lt, i3_le, i3_eq, i6_lt, i6_le, Int32.toInt_toInt64, lg_cmp_lt, lg_cmp_gt, lg_cmp_ge, lg_cmp_le, Int32.reduceToInt, Int64.reduceToInt] at b3 b7 b11 ⊢); omega)) | (refine Eq.trans (cIf_f ?_) ?_; · first | assumption | ((try simp only [inR, inS, i3_lt, i3_le, i3_eq, i6_lt, i6_le, Int32.toInt_toInt64, lg_cmp_lt, lg_cmp_gt, lg_cmp_ge, lg_cmp_le, Int32.reduceToInt, Int64.reduceToInt] at b3 b7 b11 ⊢); omega)))); first | rfl | (exfalso; ((try simp only [inR, inS, i3_lt, i3_le, i3_eq, i6_lt, i6_le, Int32.toInt_toInt64, lg_cmp_lt, lg_cmp_gt, lg_cmp_ge, lg_cmp_le, Int32.reduceToInt, Int64.reduceToInt] at b3 b7 b11); omega)), by rw [ht]; exact hP9, hD9⟩, hS.F ht⟩) hS.2.2 dX9_at_27
    · refine lv_if_ne (tgt := 17) hx hb dX9_at_12 (by decide) (fun c13 => False.elim (by revert c13; decide)) (fun _ => ?_)
      refine lv_iconst (v := (-1)) hx hb dX9_at_15 (by decide) ?_
      have hP9 := hP.sub (ws' := []) [] rfl
      have hD9 := hD.sub (ws' := []) [] (by decide) rfl
      exact W.iret (v := (-1)) hx hb hr (fun t ht hW => ⟨⟨(-1), (), rfl, by dsimp only; symm; unfold sp_at; (repeat (first | (refine Eq.trans (cIf_t ?_) ?_; · first | assumption | ((try simp only [inR, inS, i3_lt, i3_le, i3_eq, i6_lt, i6_le, Int32.toInt_toInt64, lg_cmp_lt, lg_cmp_gt, lg_cmp_ge, lg_cmp_le, Int32.reduceToInt, Int64.reduceToInt] at b3 b7 ⊢); omega)) | (refine Eq.trans (cIf_f ?_) ?_; · first | assumption | ((try simp only [inR, inS, i3_lt, i3_le, i3_eq, i6_lt, i6_le, Int32.toInt_toInt64, lg_cmp_lt, lg_cmp_gt, lg_cmp_ge, lg_cmp_le, Int32.reduceToInt, Int64.reduceToInt] at b3 b7 ⊢); omega)))); first | rfl | (exfalso; ((try simp only [inR, inS, i3_lt, i3_le, i3_eq, i6_lt, i6_le, Int32.toInt_toInt64, lg_cmp_lt, lg_cmp_gt, lg_cmp_ge, lg_cmp_le, Int32.reduceToInt, Int64.reduceToInt] at b3 b7); omega)), by rw [ht]; exact hP9, hD9⟩, hS.F ht⟩) hS.2.2 dX9_at_16
  · refine lv_if_eq (tgt := 15) hx hb dX9_at_4 (by decide) (fun _ => ?_) (fun c14 => False.elim (by revert c14; decide))
    refine lv_iconst (v := (-1)) hx hb dX9_at_15 (by decide) ?_
    have hP9 := hP.sub (ws' := []) [] rfl
    have hD9 := hD.sub (ws' := []) [] (by decide) rfl
    exact W.iret (v := (-1)) hx hb hr (fun t ht hW => ⟨⟨(-1), (), rfl, by dsimp only; symm; unfold sp_at; (repeat (first | (refine Eq.trans (cIf_t ?_) ?_; · first | assumption | ((try simp only [inR, inS, i3_lt, i3_le, i3_eq, i6_lt, i6_le, Int32.toInt_toInt64, lg_cmp_lt, lg_cmp_gt, lg_cmp_ge, lg_cmp_le, Int32.reduceToInt, Int64.reduceToInt] at b3 ⊢); omega)) | (refine Eq.trans (cIf_f ?_) ?_; · first | assumption | ((try simp only [inR, inS, i3_lt, i3_le, i3_eq, i6_lt, i6_le, Int32.toInt_toInt64, lg_cmp_lt, lg_cmp_gt, lg_cmp_ge, lg_cmp_le, Int32.reduceToInt, Int64.reduceToInt] at b3 ⊢); omega)))); first | rfl | (exfalso; ((try simp only [inR, inS, i3_lt, i3_le, i3_eq, i6_lt, i6_le, Int32.toInt_toInt64, lg_cmp_lt, lg_cmp_gt, lg_cmp_ge, lg_cmp_le, Int32.reduceToInt, Int64.reduceToInt] at b3); omega)), by rw [ht]; exact hP9, hD9⟩, hS.F ht⟩) hS.2.2 dX9_at_16

set_option maxHeartbeats 1000000 in
set_option maxRecDepth 100000 in
theorem f_hand (l : Launch) (G : Gy) (sz : Nat) (h0 : Nat) (pad : Nat) (pp : Nat) (im : Nat) (sg : Nat) (sl : Nat) (ac : Nat) (ak : Nat) (fk : Nat → Int32) (p0 : Int32) (p1 : Int32) (hk : ∀ j : Nat, j < 4 → fk j = 15) : Ci l G yX9_hand wsX9_hand ({ frames := 1, cells := 0, slots := 0, locals := 22 }) [.ref h0, .int p0, .int p1] [(h0, .inr (5, [.ref pad, .ref pp, .ref im, .null, .null])), (im, .inl (gP G, 2, .inr (.inr (.inr (.inr (fun _ => none)))))), (pad, .inr (0, [.ref sg, .ref sl, .int 0])), (sg, .inl (gI G, 40, .inl (fun _ => 0))), (sl, .inl (gI G, 10, .inl (fun _ => 0))), (pp, .inr (1, [.int 6, .int 0, .int 1, .int 0, .ref ac, .ref ak])), (ac, .inl (gI G, 6, .inl (fun _ => 0))), (ak, .inl (gI G, 4, .inl fk))] sz (fun (r : Int32) (_ : Unit) => r = sp_hand p0 p1) (fun (_ : Unit) => []) 0 0 := by
  refine Met.ofW (cc := cX9_hand) (maxL := 4) (ret := (some .int)) (by decide) rfl ?_
  intro p e s m args below meth c s₁ B hml hv
  obtain ⟨rfl, hsz, hP, hD0, E0⟩ := hv
  have hx := B.exec
  have hb := B.bytes
  have hr := B.returns
  have hts := atoms_spec (ws := wsX9_hand) B.pre
  have hown : s.vm.findClass RX9 = some m.cls := findClass_of_methodNamed B.named
  have hlocks := B.notSynchronized
  subst hsz
  have hD := hD0.self (sz := s.heap.size)
  generalize hAe : va_A [(h0, .inr (5, [.ref pad, .ref pp, .ref im, .null, .null])), (im, .inl (gP G, 2, .inr (.inr (.inr (.inr (fun _ => none)))))), (pad, .inr (0, [.ref sg, .ref sl, .int 0])), (sg, .inl (gI G, 40, .inl (fun _ => 0))), (sl, .inl (gI G, 10, .inl (fun _ => 0))), (pp, .inr (1, [.int 6, .int 0, .int 1, .int 0, .ref ac, .ref ak])), (ac, .inl (gI G, 6, .inl (fun _ => 0))), (ak, .inl (gI G, 4, .inl fk))] s.heap.size = A at hD E0 ⊢
  have E : EV G A s s.heap := E0
  have hA : ∀ q : Nat, s.heap.size ≤ q → A q := fun q h => by rw [← hAe]; exact Or.inr h
  have hS : va_S A s.heap s.heap [] := va_S.rf
  have hl := lv_entry ([.ref h0, .int p0, .int p1]) (n := 4) (Nat.le_of_ble_eq_true rfl)
  rw [lg_entry_eq]
  generalize (lg_sl ([.ref h0, .int p0, .int p1]) ++ List.replicate (4 - (lg_sl ([.ref h0, .int p0, .int p1])).length) Slot.unset).toArray = ls at hl ⊢
  have hl : lv_has ls 4 [(0, .ref h0), (1, .int p0), (2, .int p1)] := hl
  have hP : va_P G.1 vwCl [(h0, .inr (5, [.ref pad, .ref pp, .ref im, .null, .null])), (im, .inl (gP G, 2, .inr (.inr (.inr (.inr (fun _ => none)))))), (pad, .inr (0, [.ref sg, .ref sl, .int 0])), (sg, .inl (gI G, 40, .inl (fun _ => 0))), (sl, .inl (gI G, 10, .inl (fun _ => 0))), (pp, .inr (1, [.int 6, .int 0, .int 1, .int 0, .ref ac, .ref ak])), (ac, .inl (gI G, 6, .inl (fun _ => 0))), (ak, .inl (gI G, 4, .inl fk))] s.heap := hP
  refine lv_iload_n hx hb dX9_hand_0 rfl (lv_at hl 1 rfl) ?_
  refine ca_iR (va_runS (As := [.int p0]) (rest := []) ⟨hx, hb, hml, hown, hts⟩ (c_isHand l G s.heap.size p0) (va_cwS 1 hts gX9_hand_X9_isHand rfl rfl rfl (by decide +kernel) ⟨by decide +kernel, by decide +kernel⟩) (pre_S E hP hD hS hA [] (by decide) rfl) rfl rfl hl.1 rfl (lv_room (Nat.le_of_ble_eq_true rfl)) dX9_hand_1 ⟨by decide +kernel, by decide +kernel⟩) hS hP hD hA [] rfl (fun r2 _ H locs w1 hP hS => ?_)
  rcases w1 with ⟨rfl, b3⟩ | ⟨rfl, b3⟩
  · refine lv_if_ne (tgt := 9) hx hb dX9_hand_4 (by decide) (fun _ => ?_) (fun c4 => False.elim (by revert c4; decide))
    refine lv_iload_n hx hb dX9_hand_9 rfl (lv_at hl 2 rfl) ?_
    refine lv_if_lt (tgt := 19) hx hb dX9_hand_10 (by decide) (fun c5 => ?_) (fun c5 => ?_)
    · refine lv_bipush (v := (-2)) hx hb dX9_hand_19 (by decide) ?_
      have hP9 := hP.sub (ws' := []) [] rfl
      have hD9 := hD.sub (ws' := []) [] (by decide) rfl
      exact W.iret (v := (-2)) hx hb hr (fun t ht hW => ⟨⟨(-2), (), rfl, by dsimp only; symm; unfold sp_hand; (repeat (first | (refine Eq.trans (cIf_t ?_) ?_; · first | assumption | ((try simp only [inR, inS, i3_lt, i3_le, i3_eq, i6_lt, i6_le, Int32.toInt_toInt64, lg_cmp_lt, lg_cmp_gt, lg_cmp_ge, lg_cmp_le, Int32.reduceToInt, Int64.reduceToInt] at b3 c5 ⊢); omega)) | (refine Eq.trans (cIf_f ?_) ?_; · first | assumption | ((try simp only [inR, inS, i3_lt, i3_le, i3_eq, i6_lt, i6_le, Int32.toInt_toInt64, lg_cmp_lt, lg_cmp_gt, lg_cmp_ge, lg_cmp_le, Int32.reduceToInt, Int64.reduceToInt] at b3 c5 ⊢); omega)))); first | rfl | (exfalso; ((try simp only [inR, inS, i3_lt, i3_le, i3_eq, i6_lt, i6_le, Int32.toInt_toInt64, lg_cmp_lt, lg_cmp_gt, lg_cmp_ge, lg_cmp_le, Int32.reduceToInt, Int64.reduceToInt] at b3 c5); omega)), by rw [ht]; exact hP9, hD9⟩, hS.F ht⟩) hS.2.2 dX9_hand_21
    · refine lv_iload_n hx hb dX9_hand_13 rfl (lv_at hl 2 rfl) ?_
      refine lv_bipush (v := 15) hx hb dX9_hand_14 (by decide) ?_
      refine lv_icmp_le (tgt := 22) hx hb dX9_hand_16 (by decide) (fun c6 => ?_) (fun c6 => ?_)
      · refine lv_aload_n hx hb dX9_hand_22 rfl (lv_at hl 0 rfl) ?_
        refine va_get (D := G.1) (ci := 5) (v := .ref pp) (C := RX9) (T := TX9) (N := 5) hx hb hts (fun _ h => List.mem_cons_of_mem _ (List.mem_append_left _ (List.mem_append_right _ h))) hown E.K hP 0 rfl rfl 1 (by decide) (hts (.fieldLink RX9 19 "LastMap" "papers" "LLastMap$Papers;") (by decide +kernel)) (fun _ h9 => h9) rfl dX9_hand_23 ?_
        refine lv_iload_n hx hb dX9_hand_26 rfl (lv_at hl 1 rfl) ?_
        refine ca_iR (va_runV (As := [.int p0]) (rest := []) ⟨hx, hb, hml, hown, hts⟩ (c_kindsOf l G H.size pp ac ak 6 0 1 0 (fun _ => 0) fk p0) (cwV 1 hts gX9_hand_X3_kindsOf rfl rfl rfl (by decide +kernel) ⟨by decide +kernel, by decide +kernel⟩) (pre_V E hP hD hS hA [5, 6, 7] (by decide) rfl 5 1 rfl rfl) rfl rfl hl.1 rfl (lv_room (Nat.le_of_ble_eq_true rfl)) dX9_hand_27 ⟨by decide +kernel, by decide +kernel⟩) hS hP hD hA [5, 6, 7] rfl (fun r8 _ H locs w7 hP hS => ?_)
        refine lv_istore_n (lv' := [(3, .int r8), (0, .ref h0), (1, .int p0), (2, .int p1)]) hx hb dX9_hand_30 rfl hl (by decide) rfl (fun ls hl => ?_)
        refine lv_aload_n hx hb dX9_hand_31 rfl (lv_at hl 1 rfl) ?_
        refine va_get (D := G.1) (ci := 5) (v := .ref pp) (C := RX9) (T := TX9) (N := 5) hx hb hts (fun _ h => List.mem_cons_of_mem _ (List.mem_append_left _ (List.mem_append_right _ h))) hown E.K hP 0 rfl rfl 1 (by decide) (hts (.fieldLink RX9 19 "LastMap" "papers" "LLastMap$Papers;") (by decide +kernel)) (fun _ h9 => h9) rfl dX9_hand_32 ?_
        refine lv_iload_n hx hb dX9_hand_35 rfl (lv_at hl 2 rfl) ?_
        refine lv_iload_n hx hb dX9_hand_36 rfl (lv_at hl 3 rfl) ?_
        refine ca_v (wr := [(h0, .inr (5, [.ref pad, .ref pp, .ref im, .null, .null])), (im, .inl (gP G, 2, .inr (.inr (.inr (.inr (fun _ => none)))))), (pad, .inr (0, [.ref sg, .ref sl, .int 0])), (sg, .inl (gI G, 40, .inl (fun _ => 0))), (sl, .inl (gI G, 10, .inl (fun _ => 0)))]) (va_runV (As := [.int p0, .int p1]) (rest := []) ⟨hx, hb, hml, hown, hts⟩ (c_teach l G H.size pp ac ak 6 0 1 0 (fun _ => 0) fk p0 p1) (cwV 2 hts gX9_hand_X3_teach rfl rfl rfl (by decide +kernel) ⟨by decide +kernel, by decide +kernel⟩) (pre_V E hP hD hS hA [5, 6, 7] (by decide) rfl 5 1 rfl rfl) rfl rfl hl.1 rfl (lv_room (Nat.le_of_ble_eq_true rfl)) dX9_hand_37 ⟨by decide +kernel, by decide +kernel⟩) hS hP hD hA [5, 6, 7] [0, 1, 2, 3, 4] rfl rfl (by decide) (by decide) (fun u11 H locs w9 hP hD hS => ?_)
        obtain ⟨gk_12, rfl⟩ : ∃ z, z = u11 := ⟨_, rfl⟩
        try dsimp only at w9 hP hD
        have hP := hP.sub (ws' := [(h0, .inr (5, [.ref pad, .ref pp, .ref im, .null, .null])), (im, .inl (gP G, 2, .inr (.inr (.inr (.inr (fun _ => none)))))), (pad, .inr (0, [.ref sg, .ref sl, .int 0])), (sg, .inl (gI G, 40, .inl (fun _ => 0))), (sl, .inl (gI G, 10, .inl (fun _ => 0))), (pp, .inr (1, [.int 6, .int 0, .int 1, .int 0, .ref ac, .ref ak])), (ac, .inl (gI G, 6, .inl (fun _ => 0))), (ak, .inl (gI G, 4, .inl gk_12))]) [0, 1, 2, 3, 4, 5, 6, 7] rfl
        have hD := hD.sub (ws' := [(h0, .inr (5, [.ref pad, .ref pp, .ref im, .null, .null])), (im, .inl (gP G, 2, .inr (.inr (.inr (.inr (fun _ => none)))))), (pad, .inr (0, [.ref sg, .ref sl, .int 0])), (sg, .inl (gI G, 40, .inl (fun _ => 0))), (sl, .inl (gI G, 10, .inl (fun _ => 0))), (pp, .inr (1, [.int 6, .int 0, .int 1, .int 0, .ref ac, .ref ak])), (ac, .inl (gI G, 6, .inl (fun _ => 0))), (ak, .inl (gI G, 4, .inl gk_12))]) [0, 1, 2, 3, 4, 5, 6, 7] (by decide) rfl
        refine lv_iload_n hx hb dX9_hand_40 rfl (lv_at hl 0 rfl) ?_
        have hP9 := hP.sub (ws' := []) [] rfl
        have hD9 := hD.sub (ws' := []) [] (by decide) rfl
        exact W.iret (v := r8) hx hb hr (fun t ht hW => ⟨⟨r8, (), rfl, by dsimp only; have hq : inR p0 0 3 := (by first | assumption | ((try simp only [inR, inS, i3_lt, i3_le, i3_eq, i6_lt, i6_le, Int32.toInt_toInt64, lg_cmp_lt, lg_cmp_gt, lg_cmp_ge, lg_cmp_le, Int32.reduceToInt, Int64.reduceToInt] at b3 c5 c6 ⊢); omega)); rw [w7.trans (cIf_t hq)]; rw [hk _ (clampR hq (by decide))]; symm; unfold sp_hand; (repeat (first | (refine Eq.trans (cIf_t ?_) ?_; · first | assumption | ((try simp only [inR, inS, i3_lt, i3_le, i3_eq, i6_lt, i6_le, Int32.toInt_toInt64, lg_cmp_lt, lg_cmp_gt, lg_cmp_ge, lg_cmp_le, Int32.reduceToInt, Int64.reduceToInt] at b3 c5 c6 ⊢); omega)) | (refine Eq.trans (cIf_f ?_) ?_; · first | assumption | ((try simp only [inR, inS, i3_lt, i3_le, i3_eq, i6_lt, i6_le, Int32.toInt_toInt64, lg_cmp_lt, lg_cmp_gt, lg_cmp_ge, lg_cmp_le, Int32.reduceToInt, Int64.reduceToInt] at b3 c5 c6 ⊢); omega)))); first | rfl | (exfalso; ((try simp only [inR, inS, i3_lt, i3_le, i3_eq, i6_lt, i6_le, Int32.toInt_toInt64, lg_cmp_lt, lg_cmp_gt, lg_cmp_ge, lg_cmp_le, Int32.reduceToInt, Int64.reduceToInt] at b3 c5 c6); omega)), by rw [ht]; exact hP9, hD9⟩, hS.F ht⟩) hS.2.2 dX9_hand_41
      · refine lv_bipush (v := (-2)) hx hb dX9_hand_19 (by decide) ?_
        have hP9 := hP.sub (ws' := []) [] rfl
        have hD9 := hD.sub (ws' := []) [] (by decide) rfl
        exact W.iret (v := (-2)) hx hb hr (fun t ht hW => ⟨⟨(-2), (), rfl, by dsimp only; symm; unfold sp_hand; (repeat (first | (refine Eq.trans (cIf_t ?_) ?_; · first | assumption | ((try simp only [inR, inS, i3_lt, i3_le, i3_eq, i6_lt, i6_le, Int32.toInt_toInt64, lg_cmp_lt, lg_cmp_gt, lg_cmp_ge, lg_cmp_le, Int32.reduceToInt, Int64.reduceToInt] at b3 c5 c6 ⊢); omega)) | (refine Eq.trans (cIf_f ?_) ?_; · first | assumption | ((try simp only [inR, inS, i3_lt, i3_le, i3_eq, i6_lt, i6_le, Int32.toInt_toInt64, lg_cmp_lt, lg_cmp_gt, lg_cmp_ge, lg_cmp_le, Int32.reduceToInt, Int64.reduceToInt] at b3 c5 c6 ⊢); omega)))); first | rfl | (exfalso; ((try simp only [inR, inS, i3_lt, i3_le, i3_eq, i6_lt, i6_le, Int32.toInt_toInt64, lg_cmp_lt, lg_cmp_gt, lg_cmp_ge, lg_cmp_le, Int32.reduceToInt, Int64.reduceToInt] at b3 c5 c6); omega)), by rw [ht]; exact hP9, hD9⟩, hS.F ht⟩) hS.2.2 dX9_hand_21
  · refine lv_if_ne (tgt := 9) hx hb dX9_hand_4 (by decide) (fun c13 => False.elim (by revert c13; decide)) (fun _ => ?_)
    refine lv_iconst (v := (-1)) hx hb dX9_hand_7 (by decide) ?_
    have hP9 := hP.sub (ws' := []) [] rfl
    have hD9 := hD.sub (ws' := []) [] (by decide) rfl
    exact W.iret (v := (-1)) hx hb hr (fun t ht hW => ⟨⟨(-1), (), rfl, by dsimp only; symm; unfold sp_hand; (repeat (first | (refine Eq.trans (cIf_t ?_) ?_; · first | assumption | ((try simp only [inR, inS, i3_lt, i3_le, i3_eq, i6_lt, i6_le, Int32.toInt_toInt64, lg_cmp_lt, lg_cmp_gt, lg_cmp_ge, lg_cmp_le, Int32.reduceToInt, Int64.reduceToInt] at b3 ⊢); omega)) | (refine Eq.trans (cIf_f ?_) ?_; · first | assumption | ((try simp only [inR, inS, i3_lt, i3_le, i3_eq, i6_lt, i6_le, Int32.toInt_toInt64, lg_cmp_lt, lg_cmp_gt, lg_cmp_ge, lg_cmp_le, Int32.reduceToInt, Int64.reduceToInt] at b3 ⊢); omega)))); first | rfl | (exfalso; ((try simp only [inR, inS, i3_lt, i3_le, i3_eq, i6_lt, i6_le, Int32.toInt_toInt64, lg_cmp_lt, lg_cmp_gt, lg_cmp_ge, lg_cmp_le, Int32.reduceToInt, Int64.reduceToInt] at b3); omega)), by rw [ht]; exact hP9, hD9⟩, hS.F ht⟩) hS.2.2 dX9_hand_8

set_option maxHeartbeats 1000000 in
set_option maxRecDepth 100000 in
theorem f_judge (l : Launch) (G : Gy) (sz : Nat) (h0 : Nat) (pad : Nat) (pp : Nat) (im : Nat) (sg : Nat) (sl : Nat) (ac : Nat) (ak : Nat) (fk : Nat → Int32) (p0 : Int32) (hk : ∀ j : Nat, j < 4 → fk j = 15) : Ci l G yX9_judge wsX9_judge ({ frames := 3, cells := 0, slots := 0, locals := 62 }) [.ref h0, .int p0] [(h0, .inr (5, [.ref pad, .ref pp, .ref im, .null, .null])), (im, .inl (gP G, 2, .inr (.inr (.inr (.inr (fun _ => none)))))), (pad, .inr (0, [.ref sg, .ref sl, .int 0])), (sg, .inl (gI G, 40, .inl (fun _ => 0))), (sl, .inl (gI G, 10, .inl (fun _ => 0))), (pp, .inr (1, [.int 6, .int 0, .int 1, .int 0, .ref ac, .ref ak])), (ac, .inl (gI G, 6, .inl (fun _ => 0))), (ak, .inl (gI G, 4, .inl fk))] sz (fun (r : Int32) (_ : Unit) => r = sp_judge p0) (fun (_ : Unit) => []) 0 0 := by
  refine Met.ofW (cc := cX9_judge) (maxL := 2) (ret := (some .int)) (by decide) rfl ?_
  intro p e s m args below meth c s₁ B hml hv
  obtain ⟨rfl, hsz, hP, hD0, E0⟩ := hv
  have hx := B.exec
  have hb := B.bytes
  have hr := B.returns
  have hts := atoms_spec (ws := wsX9_judge) B.pre
  have hown : s.vm.findClass RX9 = some m.cls := findClass_of_methodNamed B.named
  have hlocks := B.notSynchronized
  subst hsz
  have hD := hD0.self (sz := s.heap.size)
  generalize hAe : va_A [(h0, .inr (5, [.ref pad, .ref pp, .ref im, .null, .null])), (im, .inl (gP G, 2, .inr (.inr (.inr (.inr (fun _ => none)))))), (pad, .inr (0, [.ref sg, .ref sl, .int 0])), (sg, .inl (gI G, 40, .inl (fun _ => 0))), (sl, .inl (gI G, 10, .inl (fun _ => 0))), (pp, .inr (1, [.int 6, .int 0, .int 1, .int 0, .ref ac, .ref ak])), (ac, .inl (gI G, 6, .inl (fun _ => 0))), (ak, .inl (gI G, 4, .inl fk))] s.heap.size = A at hD E0 ⊢
  have E : EV G A s s.heap := E0
  have hA : ∀ q : Nat, s.heap.size ≤ q → A q := fun q h => by rw [← hAe]; exact Or.inr h
  have hS : va_S A s.heap s.heap [] := va_S.rf
  have hl := lv_entry ([.ref h0, .int p0]) (n := 2) (Nat.le_of_ble_eq_true rfl)
  rw [lg_entry_eq]
  generalize (lg_sl ([.ref h0, .int p0]) ++ List.replicate (2 - (lg_sl ([.ref h0, .int p0])).length) Slot.unset).toArray = ls at hl ⊢
  have hl : lv_has ls 2 [(0, .ref h0), (1, .int p0)] := hl
  have hP : va_P G.1 vwCl [(h0, .inr (5, [.ref pad, .ref pp, .ref im, .null, .null])), (im, .inl (gP G, 2, .inr (.inr (.inr (.inr (fun _ => none)))))), (pad, .inr (0, [.ref sg, .ref sl, .int 0])), (sg, .inl (gI G, 40, .inl (fun _ => 0))), (sl, .inl (gI G, 10, .inl (fun _ => 0))), (pp, .inr (1, [.int 6, .int 0, .int 1, .int 0, .ref ac, .ref ak])), (ac, .inl (gI G, 6, .inl (fun _ => 0))), (ak, .inl (gI G, 4, .inl fk))] s.heap := hP
  refine lv_iload_n hx hb dX9_judge_0 rfl (lv_at hl 1 rfl) ?_
  refine ca_iR (va_runS (As := [.int p0]) (rest := []) ⟨hx, hb, hml, hown, hts⟩ (c_isMap l G s.heap.size p0) (va_cwS 1 hts gX9_judge_X9_isMap rfl rfl rfl (by decide +kernel) ⟨by decide +kernel, by decide +kernel⟩) (pre_S E hP hD hS hA [] (by decide) rfl) rfl rfl hl.1 rfl (lv_room (Nat.le_of_ble_eq_true rfl)) dX9_judge_1 ⟨by decide +kernel, by decide +kernel⟩) hS hP hD hA [] rfl (fun r2 _ H locs w1 hP hS => ?_)
  rcases w1 with ⟨rfl, b3⟩ | ⟨rfl, b3⟩
  · refine lv_if_ne (tgt := 9) hx hb dX9_judge_4 (by decide) (fun _ => ?_) (fun c4 => False.elim (by revert c4; decide))
    refine lv_aload_n hx hb dX9_judge_9 rfl (lv_at hl 0 rfl) ?_
    refine lv_iload_n hx hb dX9_judge_10 rfl (lv_at hl 1 rfl) ?_
    refine ca_iR (va_runV (As := [.int p0]) (rest := []) ⟨hx, hb, hml, hown, hts⟩ (c_isTold l G H.size h0 pad pp im .null .null ac ak 6 0 1 0 p0) (cwV 1 hts gX9_judge_X9_isTold rfl rfl rfl (by decide +kernel) ⟨by decide +kernel, by decide +kernel⟩) (pre_V E hP hD hS hA [0, 5] (by decide) rfl 0 5 rfl rfl) rfl rfl hl.1 rfl (lv_room (Nat.le_of_ble_eq_true rfl)) dX9_judge_11 ⟨by decide +kernel, by decide +kernel⟩) hS hP hD hA [0, 5] rfl (fun r6 _ H locs w5 hP hS => ?_)
    rcases w5 with ⟨rfl, b7⟩ | ⟨rfl, b7⟩
    · exact absurd b7 (not_told0 _)
    · refine lv_if_ne (tgt := 20) hx hb dX9_judge_14 (by decide) (fun c8 => False.elim (by revert c8; decide)) (fun _ => ?_)
      refine lv_bipush (v := (-3)) hx hb dX9_judge_17 (by decide) ?_
      have hP9 := hP.sub (ws' := []) [] rfl
      have hD9 := hD.sub (ws' := []) [] (by decide) rfl
      exact W.iret (v := (-3)) hx hb hr (fun t ht hW => ⟨⟨(-3), (), rfl, by dsimp only; symm; unfold sp_judge; (repeat (first | (refine Eq.trans (cIf_t ?_) ?_; · first | assumption | ((try simp only [inR, inS, i3_lt, i3_le, i3_eq, i6_lt, i6_le, Int32.toInt_toInt64, lg_cmp_lt, lg_cmp_gt, lg_cmp_ge, lg_cmp_le, Int32.reduceToInt, Int64.reduceToInt] at b3 b7 ⊢); omega)) | (refine Eq.trans (cIf_f ?_) ?_; · first | assumption | ((try simp only [inR, inS, i3_lt, i3_le, i3_eq, i6_lt, i6_le, Int32.toInt_toInt64, lg_cmp_lt, lg_cmp_gt, lg_cmp_ge, lg_cmp_le, Int32.reduceToInt, Int64.reduceToInt] at b3 b7 ⊢); omega)))); first | rfl | (exfalso; ((try simp only [inR, inS, i3_lt, i3_le, i3_eq, i6_lt, i6_le, Int32.toInt_toInt64, lg_cmp_lt, lg_cmp_gt, lg_cmp_ge, lg_cmp_le, Int32.reduceToInt, Int64.reduceToInt] at b3 b7); omega)), by rw [ht]; exact hP9, hD9⟩, hS.F ht⟩) hS.2.2 dX9_judge_19
  · refine lv_if_ne (tgt := 9) hx hb dX9_judge_4 (by decide) (fun c9 => False.elim (by revert c9; decide)) (fun _ => ?_)
    refine lv_iconst (v := (-1)) hx hb dX9_judge_7 (by decide) ?_
    have hP9 := hP.sub (ws' := []) [] rfl
    have hD9 := hD.sub (ws' := []) [] (by decide) rfl
    exact W.iret (v := (-1)) hx hb hr (fun t ht hW => ⟨⟨(-1), (), rfl, by dsimp only; symm; unfold sp_judge; (repeat (first | (refine Eq.trans (cIf_t ?_) ?_; · first | assumption | ((try simp only [inR, inS, i3_lt, i3_le, i3_eq, i6_lt, i6_le, Int32.toInt_toInt64, lg_cmp_lt, lg_cmp_gt, lg_cmp_ge, lg_cmp_le, Int32.reduceToInt, Int64.reduceToInt] at b3 ⊢); omega)) | (refine Eq.trans (cIf_f ?_) ?_; · first | assumption | ((try simp only [inR, inS, i3_lt, i3_le, i3_eq, i6_lt, i6_le, Int32.toInt_toInt64, lg_cmp_lt, lg_cmp_gt, lg_cmp_ge, lg_cmp_le, Int32.reduceToInt, Int64.reduceToInt] at b3 ⊢); omega)))); first | rfl | (exfalso; ((try simp only [inR, inS, i3_lt, i3_le, i3_eq, i6_lt, i6_le, Int32.toInt_toInt64, lg_cmp_lt, lg_cmp_gt, lg_cmp_ge, lg_cmp_le, Int32.reduceToInt, Int64.reduceToInt] at b3); omega)), by rw [ht]; exact hP9, hD9⟩, hS.F ht⟩) hS.2.2 dX9_judge_8

set_option maxHeartbeats 1000000 in
set_option maxRecDepth 100000 in
theorem f_copy (l : Launch) (G : Gy) (sz : Nat) (h0 : Nat) (pad : Nat) (pp : Nat) (im : Nat) (sg : Nat) (sl : Nat) (ac : Nat) (ak : Nat) (fk : Nat → Int32) (p0 : Int32) (p1 : Int32) (hk : ∀ j : Nat, j < 4 → fk j = 15) : Ci l G yX9_copy wsX9_copy ({ frames := 3, cells := 0, slots := 0, locals := 62 }) [.ref h0, .int p0, .int p1] [(h0, .inr (5, [.ref pad, .ref pp, .ref im, .null, .null])), (im, .inl (gP G, 2, .inr (.inr (.inr (.inr (fun _ => none)))))), (pad, .inr (0, [.ref sg, .ref sl, .int 0])), (sg, .inl (gI G, 40, .inl (fun _ => 0))), (sl, .inl (gI G, 10, .inl (fun _ => 0))), (pp, .inr (1, [.int 6, .int 0, .int 1, .int 0, .ref ac, .ref ak])), (ac, .inl (gI G, 6, .inl (fun _ => 0))), (ak, .inl (gI G, 4, .inl fk))] sz (fun (r : Int32) (_ : Unit) => r = sp_copy p0 p1) (fun (_ : Unit) => []) 0 0 := by
  refine Met.ofW (cc := cX9_copy) (maxL := 6) (ret := (some .int)) (by decide) rfl ?_
  intro p e s m args below meth c s₁ B hml hv
  obtain ⟨rfl, hsz, hP, hD0, E0⟩ := hv
  have hx := B.exec
  have hb := B.bytes
  have hr := B.returns
  have hts := atoms_spec (ws := wsX9_copy) B.pre
  have hown : s.vm.findClass RX9 = some m.cls := findClass_of_methodNamed B.named
  have hlocks := B.notSynchronized
  subst hsz
  have hD := hD0.self (sz := s.heap.size)
  generalize hAe : va_A [(h0, .inr (5, [.ref pad, .ref pp, .ref im, .null, .null])), (im, .inl (gP G, 2, .inr (.inr (.inr (.inr (fun _ => none)))))), (pad, .inr (0, [.ref sg, .ref sl, .int 0])), (sg, .inl (gI G, 40, .inl (fun _ => 0))), (sl, .inl (gI G, 10, .inl (fun _ => 0))), (pp, .inr (1, [.int 6, .int 0, .int 1, .int 0, .ref ac, .ref ak])), (ac, .inl (gI G, 6, .inl (fun _ => 0))), (ak, .inl (gI G, 4, .inl fk))] s.heap.size = A at hD E0 ⊢
  have E : EV G A s s.heap := E0
  have hA : ∀ q : Nat, s.heap.size ≤ q → A q := fun q h => by rw [← hAe]; exact Or.inr h
  have hS : va_S A s.heap s.heap [] := va_S.rf
  have hl := lv_entry ([.ref h0, .int p0, .int p1]) (n := 6) (Nat.le_of_ble_eq_true rfl)
  rw [lg_entry_eq]
  generalize (lg_sl ([.ref h0, .int p0, .int p1]) ++ List.replicate (6 - (lg_sl ([.ref h0, .int p0, .int p1])).length) Slot.unset).toArray = ls at hl ⊢
  have hl : lv_has ls 6 [(0, .ref h0), (1, .int p0), (2, .int p1)] := hl
  have hP : va_P G.1 vwCl [(h0, .inr (5, [.ref pad, .ref pp, .ref im, .null, .null])), (im, .inl (gP G, 2, .inr (.inr (.inr (.inr (fun _ => none)))))), (pad, .inr (0, [.ref sg, .ref sl, .int 0])), (sg, .inl (gI G, 40, .inl (fun _ => 0))), (sl, .inl (gI G, 10, .inl (fun _ => 0))), (pp, .inr (1, [.int 6, .int 0, .int 1, .int 0, .ref ac, .ref ak])), (ac, .inl (gI G, 6, .inl (fun _ => 0))), (ak, .inl (gI G, 4, .inl fk))] s.heap := hP
  refine lv_iload_n hx hb dX9_copy_0 rfl (lv_at hl 1 rfl) ?_
  refine ca_iR (va_runS (As := [.int p0]) (rest := []) ⟨hx, hb, hml, hown, hts⟩ (c_isMap l G s.heap.size p0) (va_cwS 1 hts gX9_copy_X9_isMap rfl rfl rfl (by decide +kernel) ⟨by decide +kernel, by decide +kernel⟩) (pre_S E hP hD hS hA [] (by decide) rfl) rfl rfl hl.1 rfl (lv_room (Nat.le_of_ble_eq_true rfl)) dX9_copy_1 ⟨by decide +kernel, by decide +kernel⟩) hS hP hD hA [] rfl (fun r2 _ H locs w1 hP hS => ?_)
  rcases w1 with ⟨rfl, b3⟩ | ⟨rfl, b3⟩
  · refine lv_if_eq (tgt := 14) hx hb dX9_copy_4 (by decide) (fun c4 => False.elim (by revert c4; decide)) (fun _ => ?_)
    refine lv_iload_n hx hb dX9_copy_7 rfl (lv_at hl 2 rfl) ?_
    refine ca_iR (va_runS (As := [.int p1]) (rest := []) ⟨hx, hb, hml, hown, hts⟩ (c_isMap l G H.size p1) (va_cwS 1 hts gX9_copy_X9_isMap rfl rfl rfl (by decide +kernel) ⟨by decide +kernel, by decide +kernel⟩) (pre_S E hP hD hS hA [] (by decide) rfl) rfl rfl hl.1 rfl (lv_room (Nat.le_of_ble_eq_true rfl)) dX9_copy_8 ⟨by decide +kernel, by decide +kernel⟩) hS hP hD hA [] rfl (fun r6 _ H locs w5 hP hS => ?_)
    rcases w5 with ⟨rfl, b7⟩ | ⟨rfl, b7⟩
    · refine lv_if_ne (tgt := 16) hx hb dX9_copy_11 (by decide) (fun _ => ?_) (fun c8 => False.elim (by revert c8; decide))
      refine lv_aload_n hx hb dX9_copy_16 rfl (lv_at hl 0 rfl) ?_
      refine lv_iload_n hx hb dX9_copy_17 rfl (lv_at hl 2 rfl) ?_
      refine ca_iR (va_runV (As := [.int p1]) (rest := []) ⟨hx, hb, hml, hown, hts⟩ (c_isTold l G H.size h0 pad pp im .null .null ac ak 6 0 1 0 p1) (cwV 1 hts gX9_copy_X9_isTold rfl rfl rfl (by decide +kernel) ⟨by decide +kernel, by decide +kernel⟩) (pre_V E hP hD hS hA [0, 5] (by decide) rfl 0 5 rfl rfl) rfl rfl hl.1 rfl (lv_room (Nat.le_of_ble_eq_true rfl)) dX9_copy_18 ⟨by decide +kernel, by decide +kernel⟩) hS hP hD hA [0, 5] rfl (fun r10 _ H locs w9 hP hS => ?_)
      rcases w9 with ⟨rfl, b11⟩ | ⟨rfl, b11⟩
      · exact absurd b11 (not_told0 _)
      · refine lv_if_ne (tgt := 27) hx hb dX9_copy_21 (by decide) (fun c12 => False.elim (by revert c12; decide)) (fun _ => ?_)
        refine lv_bipush (v := (-3)) hx hb dX9_copy_24 (by decide) ?_
        have hP9 := hP.sub (ws' := []) [] rfl
        have hD9 := hD.sub (ws' := []) [] (by decide) rfl
        exact W.iret (v := (-3)) hx hb hr (fun t ht hW => ⟨⟨(-3), (), rfl, by dsimp only; symm; unfold sp_copy; (repeat (first | (refine Eq.trans (cIf_t ?_) ?_; · first | assumption | ((try simp only [inR, inS, i3_lt, i3_le, i3_eq, i6_lt, i6_le, Int32.toInt_toInt64, lg_cmp_lt, lg_cmp_gt, lg_cmp_ge, lg_cmp_le, Int32.reduceToInt, Int64.reduceToInt] at b3 b7 b11 ⊢); omega)) | (refine Eq.trans (cIf_f ?_) ?_; · first | assumption | ((try simp only [inR, inS, i3_lt, i3_le, i3_eq, i6_lt, i6_le, Int32.toInt_toInt64, lg_cmp_lt, lg_cmp_gt, lg_cmp_ge, lg_cmp_le, Int32.reduceToInt, Int64.reduceToInt] at b3 b7 b11 ⊢); omega)))); first | rfl | (exfalso; ((try simp only [inR, inS, i3_lt, i3_le, i3_eq, i6_lt, i6_le, Int32.toInt_toInt64, lg_cmp_lt, lg_cmp_gt, lg_cmp_ge, lg_cmp_le, Int32.reduceToInt, Int64.reduceToInt] at b3 b7 b11); omega)), by rw [ht]; exact hP9, hD9⟩, hS.F ht⟩) hS.2.2 dX9_copy_26
    · refine lv_if_ne (tgt := 16) hx hb dX9_copy_11 (by decide) (fun c13 => False.elim (by revert c13; decide)) (fun _ => ?_)
      refine lv_iconst (v := (-1)) hx hb dX9_copy_14 (by decide) ?_
      have hP9 := hP.sub (ws' := []) [] rfl
      have hD9 := hD.sub (ws' := []) [] (by decide) rfl
      exact W.iret (v := (-1)) hx hb hr (fun t ht hW => ⟨⟨(-1), (), rfl, by dsimp only; symm; unfold sp_copy; (repeat (first | (refine Eq.trans (cIf_t ?_) ?_; · first | assumption | ((try simp only [inR, inS, i3_lt, i3_le, i3_eq, i6_lt, i6_le, Int32.toInt_toInt64, lg_cmp_lt, lg_cmp_gt, lg_cmp_ge, lg_cmp_le, Int32.reduceToInt, Int64.reduceToInt] at b3 b7 ⊢); omega)) | (refine Eq.trans (cIf_f ?_) ?_; · first | assumption | ((try simp only [inR, inS, i3_lt, i3_le, i3_eq, i6_lt, i6_le, Int32.toInt_toInt64, lg_cmp_lt, lg_cmp_gt, lg_cmp_ge, lg_cmp_le, Int32.reduceToInt, Int64.reduceToInt] at b3 b7 ⊢); omega)))); first | rfl | (exfalso; ((try simp only [inR, inS, i3_lt, i3_le, i3_eq, i6_lt, i6_le, Int32.toInt_toInt64, lg_cmp_lt, lg_cmp_gt, lg_cmp_ge, lg_cmp_le, Int32.reduceToInt, Int64.reduceToInt] at b3 b7); omega)), by rw [ht]; exact hP9, hD9⟩, hS.F ht⟩) hS.2.2 dX9_copy_15
  · refine lv_if_eq (tgt := 14) hx hb dX9_copy_4 (by decide) (fun _ => ?_) (fun c14 => False.elim (by revert c14; decide))
    refine lv_iconst (v := (-1)) hx hb dX9_copy_14 (by decide) ?_
    have hP9 := hP.sub (ws' := []) [] rfl
    have hD9 := hD.sub (ws' := []) [] (by decide) rfl
    exact W.iret (v := (-1)) hx hb hr (fun t ht hW => ⟨⟨(-1), (), rfl, by dsimp only; symm; unfold sp_copy; (repeat (first | (refine Eq.trans (cIf_t ?_) ?_; · first | assumption | ((try simp only [inR, inS, i3_lt, i3_le, i3_eq, i6_lt, i6_le, Int32.toInt_toInt64, lg_cmp_lt, lg_cmp_gt, lg_cmp_ge, lg_cmp_le, Int32.reduceToInt, Int64.reduceToInt] at b3 ⊢); omega)) | (refine Eq.trans (cIf_f ?_) ?_; · first | assumption | ((try simp only [inR, inS, i3_lt, i3_le, i3_eq, i6_lt, i6_le, Int32.toInt_toInt64, lg_cmp_lt, lg_cmp_gt, lg_cmp_ge, lg_cmp_le, Int32.reduceToInt, Int64.reduceToInt] at b3 ⊢); omega)))); first | rfl | (exfalso; ((try simp only [inR, inS, i3_lt, i3_le, i3_eq, i6_lt, i6_le, Int32.toInt_toInt64, lg_cmp_lt, lg_cmp_gt, lg_cmp_ge, lg_cmp_le, Int32.reduceToInt, Int64.reduceToInt] at b3); omega)), by rw [ht]; exact hP9, hD9⟩, hS.F ht⟩) hS.2.2 dX9_copy_15

set_option maxHeartbeats 1000000 in
set_option maxRecDepth 100000 in
theorem f_far (l : Launch) (G : Gy) (sz : Nat) (h0 : Nat) (pad : Nat) (pp : Nat) (im : Nat) (sg : Nat) (sl : Nat) (ac : Nat) (ak : Nat) (fk : Nat → Int32) (p0 : Int32) (p1 : Int32) (p2 : Int32) (p3 : Int32) (hk : ∀ j : Nat, j < 4 → fk j = 15) : Ci l G yX9_far wsX9_far ({ frames := 3, cells := 0, slots := 0, locals := 62 }) [.ref h0, .int p0, .int p1, .int p2, .int p3] [(h0, .inr (5, [.ref pad, .ref pp, .ref im, .null, .null])), (im, .inl (gP G, 2, .inr (.inr (.inr (.inr (fun _ => none)))))), (pad, .inr (0, [.ref sg, .ref sl, .int 0])), (sg, .inl (gI G, 40, .inl (fun _ => 0))), (sl, .inl (gI G, 10, .inl (fun _ => 0))), (pp, .inr (1, [.int 6, .int 0, .int 1, .int 0, .ref ac, .ref ak])), (ac, .inl (gI G, 6, .inl (fun _ => 0))), (ak, .inl (gI G, 4, .inl fk))] sz (fun (r : Int32) (_ : Unit) => r = sp_far p0 p1 p2 p3) (fun (_ : Unit) => []) 0 0 := by
  refine Met.ofW (cc := cX9_far) (maxL := 5) (ret := (some .int)) (by decide) rfl ?_
  intro p e s m args below meth c s₁ B hml hv
  obtain ⟨rfl, hsz, hP, hD0, E0⟩ := hv
  have hx := B.exec
  have hb := B.bytes
  have hr := B.returns
  have hts := atoms_spec (ws := wsX9_far) B.pre
  have hown : s.vm.findClass RX9 = some m.cls := findClass_of_methodNamed B.named
  have hlocks := B.notSynchronized
  subst hsz
  have hD := hD0.self (sz := s.heap.size)
  generalize hAe : va_A [(h0, .inr (5, [.ref pad, .ref pp, .ref im, .null, .null])), (im, .inl (gP G, 2, .inr (.inr (.inr (.inr (fun _ => none)))))), (pad, .inr (0, [.ref sg, .ref sl, .int 0])), (sg, .inl (gI G, 40, .inl (fun _ => 0))), (sl, .inl (gI G, 10, .inl (fun _ => 0))), (pp, .inr (1, [.int 6, .int 0, .int 1, .int 0, .ref ac, .ref ak])), (ac, .inl (gI G, 6, .inl (fun _ => 0))), (ak, .inl (gI G, 4, .inl fk))] s.heap.size = A at hD E0 ⊢
  have E : EV G A s s.heap := E0
  have hA : ∀ q : Nat, s.heap.size ≤ q → A q := fun q h => by rw [← hAe]; exact Or.inr h
  have hS : va_S A s.heap s.heap [] := va_S.rf
  have hl := lv_entry ([.ref h0, .int p0, .int p1, .int p2, .int p3]) (n := 5) (Nat.le_of_ble_eq_true rfl)
  rw [lg_entry_eq]
  generalize (lg_sl ([.ref h0, .int p0, .int p1, .int p2, .int p3]) ++ List.replicate (5 - (lg_sl ([.ref h0, .int p0, .int p1, .int p2, .int p3])).length) Slot.unset).toArray = ls at hl ⊢
  have hl : lv_has ls 5 [(0, .ref h0), (1, .int p0), (2, .int p1), (3, .int p2), (4, .int p3)] := hl
  have hP : va_P G.1 vwCl [(h0, .inr (5, [.ref pad, .ref pp, .ref im, .null, .null])), (im, .inl (gP G, 2, .inr (.inr (.inr (.inr (fun _ => none)))))), (pad, .inr (0, [.ref sg, .ref sl, .int 0])), (sg, .inl (gI G, 40, .inl (fun _ => 0))), (sl, .inl (gI G, 10, .inl (fun _ => 0))), (pp, .inr (1, [.int 6, .int 0, .int 1, .int 0, .ref ac, .ref ak])), (ac, .inl (gI G, 6, .inl (fun _ => 0))), (ak, .inl (gI G, 4, .inl fk))] s.heap := hP
  refine lv_iload_n hx hb dX9_far_0 rfl (lv_at hl 1 rfl) ?_
  refine ca_iR (va_runS (As := [.int p0]) (rest := []) ⟨hx, hb, hml, hown, hts⟩ (c_isMap l G s.heap.size p0) (va_cwS 1 hts gX9_far_X9_isMap rfl rfl rfl (by decide +kernel) ⟨by decide +kernel, by decide +kernel⟩) (pre_S E hP hD hS hA [] (by decide) rfl) rfl rfl hl.1 rfl (lv_room (Nat.le_of_ble_eq_true rfl)) dX9_far_1 ⟨by decide +kernel, by decide +kernel⟩) hS hP hD hA [] rfl (fun r2 _ H locs w1 hP hS => ?_)
  rcases w1 with ⟨rfl, b3⟩ | ⟨rfl, b3⟩
  · refine lv_if_eq (tgt := 21) hx hb dX9_far_4 (by decide) (fun c4 => False.elim (by revert c4; decide)) (fun _ => ?_)
    refine lv_iload_n hx hb dX9_far_7 rfl (lv_at hl 2 rfl) ?_
    refine ca_iR (va_runS (As := [.int p1]) (rest := []) ⟨hx, hb, hml, hown, hts⟩ (c_isMap l G H.size p1) (va_cwS 1 hts gX9_far_X9_isMap rfl rfl rfl (by decide +kernel) ⟨by decide +kernel, by decide +kernel⟩) (pre_S E hP hD hS hA [] (by decide) rfl) rfl rfl hl.1 rfl (lv_room (Nat.le_of_ble_eq_true rfl)) dX9_far_8 ⟨by decide +kernel, by decide +kernel⟩) hS hP hD hA [] rfl (fun r6 _ H locs w5 hP hS => ?_)
    rcases w5 with ⟨rfl, b7⟩ | ⟨rfl, b7⟩
    · refine lv_if_eq (tgt := 21) hx hb dX9_far_11 (by decide) (fun c8 => False.elim (by revert c8; decide)) (fun _ => ?_)
      refine lv_iload_n hx hb dX9_far_14 rfl (lv_at hl 3 rfl) ?_
      refine ca_iR (va_runS (As := [.int p2]) (rest := []) ⟨hx, hb, hml, hown, hts⟩ (c_isHand l G H.size p2) (va_cwS 1 hts gX9_far_X9_isHand rfl rfl rfl (by decide +kernel) ⟨by decide +kernel, by decide +kernel⟩) (pre_S E hP hD hS hA [] (by decide) rfl) rfl rfl hl.1 rfl (lv_room (Nat.le_of_ble_eq_true rfl)) dX9_far_15 ⟨by decide +kernel, by decide +kernel⟩) hS hP hD hA [] rfl (fun r10 _ H locs w9 hP hS => ?_)
      rcases w9 with ⟨rfl, b11⟩ | ⟨rfl, b11⟩
      · refine lv_if_ne (tgt := 23) hx hb dX9_far_18 (by decide) (fun _ => ?_) (fun c12 => False.elim (by revert c12; decide))
        refine lv_aload_n hx hb dX9_far_23 rfl (lv_at hl 0 rfl) ?_
        refine lv_iload_n hx hb dX9_far_24 rfl (lv_at hl 1 rfl) ?_
        refine ca_iR (va_runV (As := [.int p0]) (rest := []) ⟨hx, hb, hml, hown, hts⟩ (c_isTold l G H.size h0 pad pp im .null .null ac ak 6 0 1 0 p0) (cwV 1 hts gX9_far_X9_isTold rfl rfl rfl (by decide +kernel) ⟨by decide +kernel, by decide +kernel⟩) (pre_V E hP hD hS hA [0, 5] (by decide) rfl 0 5 rfl rfl) rfl rfl hl.1 rfl (lv_room (Nat.le_of_ble_eq_true rfl)) dX9_far_25 ⟨by decide +kernel, by decide +kernel⟩) hS hP hD hA [0, 5] rfl (fun r14 _ H locs w13 hP hS => ?_)
        rcases w13 with ⟨rfl, b15⟩ | ⟨rfl, b15⟩
        · exact absurd b15 (not_told0 _)
        · refine lv_if_eq (tgt := 39) hx hb dX9_far_28 (by decide) (fun _ => ?_) (fun c16 => False.elim (by revert c16; decide))
          refine lv_bipush (v := (-3)) hx hb dX9_far_39 (by decide) ?_
          have hP9 := hP.sub (ws' := []) [] rfl
          have hD9 := hD.sub (ws' := []) [] (by decide) rfl
          exact W.iret (v := (-3)) hx hb hr (fun t ht hW => ⟨⟨(-3), (), rfl, by dsimp only; symm; unfold sp_far; (repeat (first | (refine Eq.trans (cIf_t ?_) ?_; · first | assumption | ((try simp only [inR, inS, i3_lt, i3_le, i3_eq, i6_lt, i6_le, Int32.toInt_toInt64, lg_cmp_lt, lg_cmp_gt, lg_cmp_ge, lg_cmp_le, Int32.reduceToInt, Int64.reduceToInt] at b3 b7 b11 b15 ⊢); omega)) | (refine Eq.trans (cIf_f ?_) ?_; · first | assumption | ((try simp only [inR, inS, i3_lt, i3_le, i3_eq, i6_lt, i6_le, Int32.toInt_toInt64, lg_cmp_lt, lg_cmp_gt, lg_cmp_ge, lg_cmp_le, Int32.reduceToInt, Int64.reduceToInt] at b3 b7 b11 b15 ⊢); omega)))); first | rfl | (exfalso; ((try simp only [inR, inS, i3_lt, i3_le, i3_eq, i6_lt, i6_le, Int32.toInt_toInt64, lg_cmp_lt, lg_cmp_gt, lg_cmp_ge, lg_cmp_le, Int32.reduceToInt, Int64.reduceToInt] at b3 b7 b11 b15); omega)), by rw [ht]; exact hP9, hD9⟩, hS.F ht⟩) hS.2.2 dX9_far_41
      · refine lv_if_ne (tgt := 23) hx hb dX9_far_18 (by decide) (fun c17 => False.elim (by revert c17; decide)) (fun _ => ?_)
        refine lv_iconst (v := (-1)) hx hb dX9_far_21 (by decide) ?_
        have hP9 := hP.sub (ws' := []) [] rfl
        have hD9 := hD.sub (ws' := []) [] (by decide) rfl
        exact W.iret (v := (-1)) hx hb hr (fun t ht hW => ⟨⟨(-1), (), rfl, by dsimp only; symm; unfold sp_far; (repeat (first | (refine Eq.trans (cIf_t ?_) ?_; · first | assumption | ((try simp only [inR, inS, i3_lt, i3_le, i3_eq, i6_lt, i6_le, Int32.toInt_toInt64, lg_cmp_lt, lg_cmp_gt, lg_cmp_ge, lg_cmp_le, Int32.reduceToInt, Int64.reduceToInt] at b3 b7 b11 ⊢); omega)) | (refine Eq.trans (cIf_f ?_) ?_; · first | assumption | ((try simp only [inR, inS, i3_lt, i3_le, i3_eq, i6_lt, i6_le, Int32.toInt_toInt64, lg_cmp_lt, lg_cmp_gt, lg_cmp_ge, lg_cmp_le, Int32.reduceToInt, Int64.reduceToInt] at b3 b7 b11 ⊢); omega)))); first | rfl | (exfalso; ((try simp only [inR, inS, i3_lt, i3_le, i3_eq, i6_lt, i6_le, Int32.toInt_toInt64, lg_cmp_lt, lg_cmp_gt, lg_cmp_ge, lg_cmp_le, Int32.reduceToInt, Int64.reduceToInt] at b3 b7 b11); omega)), by rw [ht]; exact hP9, hD9⟩, hS.F ht⟩) hS.2.2 dX9_far_22
    · refine lv_if_eq (tgt := 21) hx hb dX9_far_11 (by decide) (fun _ => ?_) (fun c18 => False.elim (by revert c18; decide))
      refine lv_iconst (v := (-1)) hx hb dX9_far_21 (by decide) ?_
      have hP9 := hP.sub (ws' := []) [] rfl
      have hD9 := hD.sub (ws' := []) [] (by decide) rfl
      exact W.iret (v := (-1)) hx hb hr (fun t ht hW => ⟨⟨(-1), (), rfl, by dsimp only; symm; unfold sp_far; (repeat (first | (refine Eq.trans (cIf_t ?_) ?_; · first | assumption | ((try simp only [inR, inS, i3_lt, i3_le, i3_eq, i6_lt, i6_le, Int32.toInt_toInt64, lg_cmp_lt, lg_cmp_gt, lg_cmp_ge, lg_cmp_le, Int32.reduceToInt, Int64.reduceToInt] at b3 b7 ⊢); omega)) | (refine Eq.trans (cIf_f ?_) ?_; · first | assumption | ((try simp only [inR, inS, i3_lt, i3_le, i3_eq, i6_lt, i6_le, Int32.toInt_toInt64, lg_cmp_lt, lg_cmp_gt, lg_cmp_ge, lg_cmp_le, Int32.reduceToInt, Int64.reduceToInt] at b3 b7 ⊢); omega)))); first | rfl | (exfalso; ((try simp only [inR, inS, i3_lt, i3_le, i3_eq, i6_lt, i6_le, Int32.toInt_toInt64, lg_cmp_lt, lg_cmp_gt, lg_cmp_ge, lg_cmp_le, Int32.reduceToInt, Int64.reduceToInt] at b3 b7); omega)), by rw [ht]; exact hP9, hD9⟩, hS.F ht⟩) hS.2.2 dX9_far_22
  · refine lv_if_eq (tgt := 21) hx hb dX9_far_4 (by decide) (fun _ => ?_) (fun c19 => False.elim (by revert c19; decide))
    refine lv_iconst (v := (-1)) hx hb dX9_far_21 (by decide) ?_
    have hP9 := hP.sub (ws' := []) [] rfl
    have hD9 := hD.sub (ws' := []) [] (by decide) rfl
    exact W.iret (v := (-1)) hx hb hr (fun t ht hW => ⟨⟨(-1), (), rfl, by dsimp only; symm; unfold sp_far; (repeat (first | (refine Eq.trans (cIf_t ?_) ?_; · first | assumption | ((try simp only [inR, inS, i3_lt, i3_le, i3_eq, i6_lt, i6_le, Int32.toInt_toInt64, lg_cmp_lt, lg_cmp_gt, lg_cmp_ge, lg_cmp_le, Int32.reduceToInt, Int64.reduceToInt] at b3 ⊢); omega)) | (refine Eq.trans (cIf_f ?_) ?_; · first | assumption | ((try simp only [inR, inS, i3_lt, i3_le, i3_eq, i6_lt, i6_le, Int32.toInt_toInt64, lg_cmp_lt, lg_cmp_gt, lg_cmp_ge, lg_cmp_le, Int32.reduceToInt, Int64.reduceToInt] at b3 ⊢); omega)))); first | rfl | (exfalso; ((try simp only [inR, inS, i3_lt, i3_le, i3_eq, i6_lt, i6_le, Int32.toInt_toInt64, lg_cmp_lt, lg_cmp_gt, lg_cmp_ge, lg_cmp_le, Int32.reduceToInt, Int64.reduceToInt] at b3); omega)), by rw [ht]; exact hP9, hD9⟩, hS.F ht⟩) hS.2.2 dX9_far_22

set_option maxHeartbeats 1000000 in
set_option maxRecDepth 100000 in
theorem f_who (l : Launch) (G : Gy) (sz : Nat) (h0 : Nat) (pad : Nat) (pp : Nat) (im : Nat) (sg : Nat) (sl : Nat) (ac : Nat) (ak : Nat) (fk : Nat → Int32) (p0 : Int32) (p1 : Int32) (p2 : Int32) (hk : ∀ j : Nat, j < 4 → fk j = 15) : Ci l G yX9_who wsX9_who ({ frames := 3, cells := 0, slots := 0, locals := 62 }) [.ref h0, .int p0, .int p1, .int p2] [(h0, .inr (5, [.ref pad, .ref pp, .ref im, .null, .null])), (im, .inl (gP G, 2, .inr (.inr (.inr (.inr (fun _ => none)))))), (pad, .inr (0, [.ref sg, .ref sl, .int 0])), (sg, .inl (gI G, 40, .inl (fun _ => 0))), (sl, .inl (gI G, 10, .inl (fun _ => 0))), (pp, .inr (1, [.int 6, .int 0, .int 1, .int 0, .ref ac, .ref ak])), (ac, .inl (gI G, 6, .inl (fun _ => 0))), (ak, .inl (gI G, 4, .inl fk))] sz (fun (r : Int32) (_ : Unit) => r = sp_who p0 p1 p2) (fun (_ : Unit) => []) 0 0 := by
  refine Met.ofW (cc := cX9_who) (maxL := 7) (ret := (some .int)) (by decide) rfl ?_
  intro p e s m args below meth c s₁ B hml hv
  obtain ⟨rfl, hsz, hP, hD0, E0⟩ := hv
  have hx := B.exec
  have hb := B.bytes
  have hr := B.returns
  have hts := atoms_spec (ws := wsX9_who) B.pre
  have hown : s.vm.findClass RX9 = some m.cls := findClass_of_methodNamed B.named
  have hlocks := B.notSynchronized
  subst hsz
  have hD := hD0.self (sz := s.heap.size)
  generalize hAe : va_A [(h0, .inr (5, [.ref pad, .ref pp, .ref im, .null, .null])), (im, .inl (gP G, 2, .inr (.inr (.inr (.inr (fun _ => none)))))), (pad, .inr (0, [.ref sg, .ref sl, .int 0])), (sg, .inl (gI G, 40, .inl (fun _ => 0))), (sl, .inl (gI G, 10, .inl (fun _ => 0))), (pp, .inr (1, [.int 6, .int 0, .int 1, .int 0, .ref ac, .ref ak])), (ac, .inl (gI G, 6, .inl (fun _ => 0))), (ak, .inl (gI G, 4, .inl fk))] s.heap.size = A at hD E0 ⊢
  have E : EV G A s s.heap := E0
  have hA : ∀ q : Nat, s.heap.size ≤ q → A q := fun q h => by rw [← hAe]; exact Or.inr h
  have hS : va_S A s.heap s.heap [] := va_S.rf
  have hl := lv_entry ([.ref h0, .int p0, .int p1, .int p2]) (n := 7) (Nat.le_of_ble_eq_true rfl)
  rw [lg_entry_eq]
  generalize (lg_sl ([.ref h0, .int p0, .int p1, .int p2]) ++ List.replicate (7 - (lg_sl ([.ref h0, .int p0, .int p1, .int p2])).length) Slot.unset).toArray = ls at hl ⊢
  have hl : lv_has ls 7 [(0, .ref h0), (1, .int p0), (2, .int p1), (3, .int p2)] := hl
  have hP : va_P G.1 vwCl [(h0, .inr (5, [.ref pad, .ref pp, .ref im, .null, .null])), (im, .inl (gP G, 2, .inr (.inr (.inr (.inr (fun _ => none)))))), (pad, .inr (0, [.ref sg, .ref sl, .int 0])), (sg, .inl (gI G, 40, .inl (fun _ => 0))), (sl, .inl (gI G, 10, .inl (fun _ => 0))), (pp, .inr (1, [.int 6, .int 0, .int 1, .int 0, .ref ac, .ref ak])), (ac, .inl (gI G, 6, .inl (fun _ => 0))), (ak, .inl (gI G, 4, .inl fk))] s.heap := hP
  refine lv_iload_n hx hb dX9_who_0 rfl (lv_at hl 1 rfl) ?_
  refine ca_iR (va_runS (As := [.int p0]) (rest := []) ⟨hx, hb, hml, hown, hts⟩ (c_isMap l G s.heap.size p0) (va_cwS 1 hts gX9_who_X9_isMap rfl rfl rfl (by decide +kernel) ⟨by decide +kernel, by decide +kernel⟩) (pre_S E hP hD hS hA [] (by decide) rfl) rfl rfl hl.1 rfl (lv_room (Nat.le_of_ble_eq_true rfl)) dX9_who_1 ⟨by decide +kernel, by decide +kernel⟩) hS hP hD hA [] rfl (fun r2 _ H locs w1 hP hS => ?_)
  rcases w1 with ⟨rfl, b3⟩ | ⟨rfl, b3⟩
  · refine lv_if_eq (tgt := 14) hx hb dX9_who_4 (by decide) (fun c4 => False.elim (by revert c4; decide)) (fun _ => ?_)
    refine lv_iload_n hx hb dX9_who_7 rfl (lv_at hl 2 rfl) ?_
    refine ca_iR (va_runS (As := [.int p1]) (rest := []) ⟨hx, hb, hml, hown, hts⟩ (c_isMap l G H.size p1) (va_cwS 1 hts gX9_who_X9_isMap rfl rfl rfl (by decide +kernel) ⟨by decide +kernel, by decide +kernel⟩) (pre_S E hP hD hS hA [] (by decide) rfl) rfl rfl hl.1 rfl (lv_room (Nat.le_of_ble_eq_true rfl)) dX9_who_8 ⟨by decide +kernel, by decide +kernel⟩) hS hP hD hA [] rfl (fun r6 _ H locs w5 hP hS => ?_)
    rcases w5 with ⟨rfl, b7⟩ | ⟨rfl, b7⟩
    · refine lv_if_ne (tgt := 16) hx hb dX9_who_11 (by decide) (fun _ => ?_) (fun c8 => False.elim (by revert c8; decide))
      refine lv_iload_n hx hb dX9_who_16 rfl (lv_at hl 3 rfl) ?_
      refine lv_if_lt (tgt := 26) hx hb dX9_who_17 (by decide) (fun c9 => ?_) (fun c9 => ?_)
      · refine lv_bipush (v := (-2)) hx hb dX9_who_26 (by decide) ?_
        have hP9 := hP.sub (ws' := []) [] rfl
        have hD9 := hD.sub (ws' := []) [] (by decide) rfl
        exact W.iret (v := (-2)) hx hb hr (fun t ht hW => ⟨⟨(-2), (), rfl, by dsimp only; symm; unfold sp_who; (repeat (first | (refine Eq.trans (cIf_t ?_) ?_; · first | assumption | ((try simp only [inR, inS, i3_lt, i3_le, i3_eq, i6_lt, i6_le, Int32.toInt_toInt64, lg_cmp_lt, lg_cmp_gt, lg_cmp_ge, lg_cmp_le, Int32.reduceToInt, Int64.reduceToInt] at b3 b7 c9 ⊢); omega)) | (refine Eq.trans (cIf_f ?_) ?_; · first | assumption | ((try simp only [inR, inS, i3_lt, i3_le, i3_eq, i6_lt, i6_le, Int32.toInt_toInt64, lg_cmp_lt, lg_cmp_gt, lg_cmp_ge, lg_cmp_le, Int32.reduceToInt, Int64.reduceToInt] at b3 b7 c9 ⊢); omega)))); first | rfl | (exfalso; ((try simp only [inR, inS, i3_lt, i3_le, i3_eq, i6_lt, i6_le, Int32.toInt_toInt64, lg_cmp_lt, lg_cmp_gt, lg_cmp_ge, lg_cmp_le, Int32.reduceToInt, Int64.reduceToInt] at b3 b7 c9); omega)), by rw [ht]; exact hP9, hD9⟩, hS.F ht⟩) hS.2.2 dX9_who_28
      · refine lv_iload_n hx hb dX9_who_20 rfl (lv_at hl 3 rfl) ?_
        refine lv_bipush (v := 30) hx hb dX9_who_21 (by decide) ?_
        refine lv_icmp_le (tgt := 29) hx hb dX9_who_23 (by decide) (fun c10 => ?_) (fun c10 => ?_)
        · refine lv_aload_n hx hb dX9_who_29 rfl (lv_at hl 0 rfl) ?_
          refine lv_iload_n hx hb dX9_who_30 rfl (lv_at hl 1 rfl) ?_
          refine ca_iR (va_runV (As := [.int p0]) (rest := []) ⟨hx, hb, hml, hown, hts⟩ (c_isTold l G H.size h0 pad pp im .null .null ac ak 6 0 1 0 p0) (cwV 1 hts gX9_who_X9_isTold rfl rfl rfl (by decide +kernel) ⟨by decide +kernel, by decide +kernel⟩) (pre_V E hP hD hS hA [0, 5] (by decide) rfl 0 5 rfl rfl) rfl rfl hl.1 rfl (lv_room (Nat.le_of_ble_eq_true rfl)) dX9_who_31 ⟨by decide +kernel, by decide +kernel⟩) hS hP hD hA [0, 5] rfl (fun r12 _ H locs w11 hP hS => ?_)
          rcases w11 with ⟨rfl, b13⟩ | ⟨rfl, b13⟩
          · exact absurd b13 (not_told0 _)
          · refine lv_if_eq (tgt := 45) hx hb dX9_who_34 (by decide) (fun _ => ?_) (fun c14 => False.elim (by revert c14; decide))
            refine lv_bipush (v := (-3)) hx hb dX9_who_45 (by decide) ?_
            have hP9 := hP.sub (ws' := []) [] rfl
            have hD9 := hD.sub (ws' := []) [] (by decide) rfl
            exact W.iret (v := (-3)) hx hb hr (fun t ht hW => ⟨⟨(-3), (), rfl, by dsimp only; symm; unfold sp_who; (repeat (first | (refine Eq.trans (cIf_t ?_) ?_; · first | assumption | ((try simp only [inR, inS, i3_lt, i3_le, i3_eq, i6_lt, i6_le, Int32.toInt_toInt64, lg_cmp_lt, lg_cmp_gt, lg_cmp_ge, lg_cmp_le, Int32.reduceToInt, Int64.reduceToInt] at b3 b7 c9 c10 b13 ⊢); omega)) | (refine Eq.trans (cIf_f ?_) ?_; · first | assumption | ((try simp only [inR, inS, i3_lt, i3_le, i3_eq, i6_lt, i6_le, Int32.toInt_toInt64, lg_cmp_lt, lg_cmp_gt, lg_cmp_ge, lg_cmp_le, Int32.reduceToInt, Int64.reduceToInt] at b3 b7 c9 c10 b13 ⊢); omega)))); first | rfl | (exfalso; ((try simp only [inR, inS, i3_lt, i3_le, i3_eq, i6_lt, i6_le, Int32.toInt_toInt64, lg_cmp_lt, lg_cmp_gt, lg_cmp_ge, lg_cmp_le, Int32.reduceToInt, Int64.reduceToInt] at b3 b7 c9 c10 b13); omega)), by rw [ht]; exact hP9, hD9⟩, hS.F ht⟩) hS.2.2 dX9_who_47
        · refine lv_bipush (v := (-2)) hx hb dX9_who_26 (by decide) ?_
          have hP9 := hP.sub (ws' := []) [] rfl
          have hD9 := hD.sub (ws' := []) [] (by decide) rfl
          exact W.iret (v := (-2)) hx hb hr (fun t ht hW => ⟨⟨(-2), (), rfl, by dsimp only; symm; unfold sp_who; (repeat (first | (refine Eq.trans (cIf_t ?_) ?_; · first | assumption | ((try simp only [inR, inS, i3_lt, i3_le, i3_eq, i6_lt, i6_le, Int32.toInt_toInt64, lg_cmp_lt, lg_cmp_gt, lg_cmp_ge, lg_cmp_le, Int32.reduceToInt, Int64.reduceToInt] at b3 b7 c9 c10 ⊢); omega)) | (refine Eq.trans (cIf_f ?_) ?_; · first | assumption | ((try simp only [inR, inS, i3_lt, i3_le, i3_eq, i6_lt, i6_le, Int32.toInt_toInt64, lg_cmp_lt, lg_cmp_gt, lg_cmp_ge, lg_cmp_le, Int32.reduceToInt, Int64.reduceToInt] at b3 b7 c9 c10 ⊢); omega)))); first | rfl | (exfalso; ((try simp only [inR, inS, i3_lt, i3_le, i3_eq, i6_lt, i6_le, Int32.toInt_toInt64, lg_cmp_lt, lg_cmp_gt, lg_cmp_ge, lg_cmp_le, Int32.reduceToInt, Int64.reduceToInt] at b3 b7 c9 c10); omega)), by rw [ht]; exact hP9, hD9⟩, hS.F ht⟩) hS.2.2 dX9_who_28
    · refine lv_if_ne (tgt := 16) hx hb dX9_who_11 (by decide) (fun c15 => False.elim (by revert c15; decide)) (fun _ => ?_)
      refine lv_iconst (v := (-1)) hx hb dX9_who_14 (by decide) ?_
      have hP9 := hP.sub (ws' := []) [] rfl
      have hD9 := hD.sub (ws' := []) [] (by decide) rfl
      exact W.iret (v := (-1)) hx hb hr (fun t ht hW => ⟨⟨(-1), (), rfl, by dsimp only; symm; unfold sp_who; (repeat (first | (refine Eq.trans (cIf_t ?_) ?_; · first | assumption | ((try simp only [inR, inS, i3_lt, i3_le, i3_eq, i6_lt, i6_le, Int32.toInt_toInt64, lg_cmp_lt, lg_cmp_gt, lg_cmp_ge, lg_cmp_le, Int32.reduceToInt, Int64.reduceToInt] at b3 b7 ⊢); omega)) | (refine Eq.trans (cIf_f ?_) ?_; · first | assumption | ((try simp only [inR, inS, i3_lt, i3_le, i3_eq, i6_lt, i6_le, Int32.toInt_toInt64, lg_cmp_lt, lg_cmp_gt, lg_cmp_ge, lg_cmp_le, Int32.reduceToInt, Int64.reduceToInt] at b3 b7 ⊢); omega)))); first | rfl | (exfalso; ((try simp only [inR, inS, i3_lt, i3_le, i3_eq, i6_lt, i6_le, Int32.toInt_toInt64, lg_cmp_lt, lg_cmp_gt, lg_cmp_ge, lg_cmp_le, Int32.reduceToInt, Int64.reduceToInt] at b3 b7); omega)), by rw [ht]; exact hP9, hD9⟩, hS.F ht⟩) hS.2.2 dX9_who_15
  · refine lv_if_eq (tgt := 14) hx hb dX9_who_4 (by decide) (fun _ => ?_) (fun c16 => False.elim (by revert c16; decide))
    refine lv_iconst (v := (-1)) hx hb dX9_who_14 (by decide) ?_
    have hP9 := hP.sub (ws' := []) [] rfl
    have hD9 := hD.sub (ws' := []) [] (by decide) rfl
    exact W.iret (v := (-1)) hx hb hr (fun t ht hW => ⟨⟨(-1), (), rfl, by dsimp only; symm; unfold sp_who; (repeat (first | (refine Eq.trans (cIf_t ?_) ?_; · first | assumption | ((try simp only [inR, inS, i3_lt, i3_le, i3_eq, i6_lt, i6_le, Int32.toInt_toInt64, lg_cmp_lt, lg_cmp_gt, lg_cmp_ge, lg_cmp_le, Int32.reduceToInt, Int64.reduceToInt] at b3 ⊢); omega)) | (refine Eq.trans (cIf_f ?_) ?_; · first | assumption | ((try simp only [inR, inS, i3_lt, i3_le, i3_eq, i6_lt, i6_le, Int32.toInt_toInt64, lg_cmp_lt, lg_cmp_gt, lg_cmp_ge, lg_cmp_le, Int32.reduceToInt, Int64.reduceToInt] at b3 ⊢); omega)))); first | rfl | (exfalso; ((try simp only [inR, inS, i3_lt, i3_le, i3_eq, i6_lt, i6_le, Int32.toInt_toInt64, lg_cmp_lt, lg_cmp_gt, lg_cmp_ge, lg_cmp_le, Int32.reduceToInt, Int64.reduceToInt] at b3); omega)), by rw [ht]; exact hP9, hD9⟩, hS.F ht⟩) hS.2.2 dX9_who_15

set_option maxHeartbeats 1000000 in
set_option maxRecDepth 100000 in
theorem f_between (l : Launch) (G : Gy) (sz : Nat) (h0 : Nat) (pad : Nat) (pp : Nat) (im : Nat) (sg : Nat) (sl : Nat) (ac : Nat) (ak : Nat) (fk : Nat → Int32) (p0 : Int32) (p1 : Int32) (p2 : Int32) (p3 : Int32) (hk : ∀ j : Nat, j < 4 → fk j = 15) : Ci l G yX9_between wsX9_between ({ frames := 3, cells := 0, slots := 0, locals := 62 }) [.ref h0, .int p0, .int p1, .int p2, .int p3] [(h0, .inr (5, [.ref pad, .ref pp, .ref im, .null, .null])), (im, .inl (gP G, 2, .inr (.inr (.inr (.inr (fun _ => none)))))), (pad, .inr (0, [.ref sg, .ref sl, .int 0])), (sg, .inl (gI G, 40, .inl (fun _ => 0))), (sl, .inl (gI G, 10, .inl (fun _ => 0))), (pp, .inr (1, [.int 6, .int 0, .int 1, .int 0, .ref ac, .ref ak])), (ac, .inl (gI G, 6, .inl (fun _ => 0))), (ak, .inl (gI G, 4, .inl fk))] sz (fun (r : Int32) (_ : Unit) => r = sp_between p0 p1 p2 p3) (fun (_ : Unit) => []) 0 0 := by
  refine Met.ofW (cc := cX9_between) (maxL := 6) (ret := (some .int)) (by decide) rfl ?_
  intro p e s m args below meth c s₁ B hml hv
  obtain ⟨rfl, hsz, hP, hD0, E0⟩ := hv
  have hx := B.exec
  have hb := B.bytes
  have hr := B.returns
  have hts := atoms_spec (ws := wsX9_between) B.pre
  have hown : s.vm.findClass RX9 = some m.cls := findClass_of_methodNamed B.named
  have hlocks := B.notSynchronized
  subst hsz
  have hD := hD0.self (sz := s.heap.size)
  generalize hAe : va_A [(h0, .inr (5, [.ref pad, .ref pp, .ref im, .null, .null])), (im, .inl (gP G, 2, .inr (.inr (.inr (.inr (fun _ => none)))))), (pad, .inr (0, [.ref sg, .ref sl, .int 0])), (sg, .inl (gI G, 40, .inl (fun _ => 0))), (sl, .inl (gI G, 10, .inl (fun _ => 0))), (pp, .inr (1, [.int 6, .int 0, .int 1, .int 0, .ref ac, .ref ak])), (ac, .inl (gI G, 6, .inl (fun _ => 0))), (ak, .inl (gI G, 4, .inl fk))] s.heap.size = A at hD E0 ⊢
  have E : EV G A s s.heap := E0
  have hA : ∀ q : Nat, s.heap.size ≤ q → A q := fun q h => by rw [← hAe]; exact Or.inr h
  have hS : va_S A s.heap s.heap [] := va_S.rf
  have hl := lv_entry ([.ref h0, .int p0, .int p1, .int p2, .int p3]) (n := 6) (Nat.le_of_ble_eq_true rfl)
  rw [lg_entry_eq]
  generalize (lg_sl ([.ref h0, .int p0, .int p1, .int p2, .int p3]) ++ List.replicate (6 - (lg_sl ([.ref h0, .int p0, .int p1, .int p2, .int p3])).length) Slot.unset).toArray = ls at hl ⊢
  have hl : lv_has ls 6 [(0, .ref h0), (1, .int p0), (2, .int p1), (3, .int p2), (4, .int p3)] := hl
  have hP : va_P G.1 vwCl [(h0, .inr (5, [.ref pad, .ref pp, .ref im, .null, .null])), (im, .inl (gP G, 2, .inr (.inr (.inr (.inr (fun _ => none)))))), (pad, .inr (0, [.ref sg, .ref sl, .int 0])), (sg, .inl (gI G, 40, .inl (fun _ => 0))), (sl, .inl (gI G, 10, .inl (fun _ => 0))), (pp, .inr (1, [.int 6, .int 0, .int 1, .int 0, .ref ac, .ref ak])), (ac, .inl (gI G, 6, .inl (fun _ => 0))), (ak, .inl (gI G, 4, .inl fk))] s.heap := hP
  refine lv_iload_n hx hb dX9_between_0 rfl (lv_at hl 1 rfl) ?_
  refine ca_iR (va_runS (As := [.int p0]) (rest := []) ⟨hx, hb, hml, hown, hts⟩ (c_isMap l G s.heap.size p0) (va_cwS 1 hts gX9_between_X9_isMap rfl rfl rfl (by decide +kernel) ⟨by decide +kernel, by decide +kernel⟩) (pre_S E hP hD hS hA [] (by decide) rfl) rfl rfl hl.1 rfl (lv_room (Nat.le_of_ble_eq_true rfl)) dX9_between_1 ⟨by decide +kernel, by decide +kernel⟩) hS hP hD hA [] rfl (fun r2 _ H locs w1 hP hS => ?_)
  rcases w1 with ⟨rfl, b3⟩ | ⟨rfl, b3⟩
  · refine lv_if_eq (tgt := 21) hx hb dX9_between_4 (by decide) (fun c4 => False.elim (by revert c4; decide)) (fun _ => ?_)
    refine lv_iload_n hx hb dX9_between_7 rfl (lv_at hl 2 rfl) ?_
    refine ca_iR (va_runS (As := [.int p1]) (rest := []) ⟨hx, hb, hml, hown, hts⟩ (c_isMap l G H.size p1) (va_cwS 1 hts gX9_between_X9_isMap rfl rfl rfl (by decide +kernel) ⟨by decide +kernel, by decide +kernel⟩) (pre_S E hP hD hS hA [] (by decide) rfl) rfl rfl hl.1 rfl (lv_room (Nat.le_of_ble_eq_true rfl)) dX9_between_8 ⟨by decide +kernel, by decide +kernel⟩) hS hP hD hA [] rfl (fun r6 _ H locs w5 hP hS => ?_)
    rcases w5 with ⟨rfl, b7⟩ | ⟨rfl, b7⟩
    · refine lv_if_eq (tgt := 21) hx hb dX9_between_11 (by decide) (fun c8 => False.elim (by revert c8; decide)) (fun _ => ?_)
      refine lv_iload_n hx hb dX9_between_14 rfl (lv_at hl 3 rfl) ?_
      refine ca_iR (va_runS (As := [.int p2]) (rest := []) ⟨hx, hb, hml, hown, hts⟩ (c_isHand l G H.size p2) (va_cwS 1 hts gX9_between_X9_isHand rfl rfl rfl (by decide +kernel) ⟨by decide +kernel, by decide +kernel⟩) (pre_S E hP hD hS hA [] (by decide) rfl) rfl rfl hl.1 rfl (lv_room (Nat.le_of_ble_eq_true rfl)) dX9_between_15 ⟨by decide +kernel, by decide +kernel⟩) hS hP hD hA [] rfl (fun r10 _ H locs w9 hP hS => ?_)
      rcases w9 with ⟨rfl, b11⟩ | ⟨rfl, b11⟩
      · refine lv_if_ne (tgt := 23) hx hb dX9_between_18 (by decide) (fun _ => ?_) (fun c12 => False.elim (by revert c12; decide))
        refine lv_iload hx hb dX9_between_23 (lv_at hl 4 rfl) ?_
        refine lv_iconst (v := 1) hx hb dX9_between_25 (by decide) ?_
        refine lv_icmp_lt (tgt := 36) hx hb dX9_between_26 (by decide) (fun c13 => ?_) (fun c13 => ?_)
        · refine lv_bipush (v := (-2)) hx hb dX9_between_36 (by decide) ?_
          have hP9 := hP.sub (ws' := []) [] rfl
          have hD9 := hD.sub (ws' := []) [] (by decide) rfl
          exact W.iret (v := (-2)) hx hb hr (fun t ht hW => ⟨⟨(-2), (), rfl, by dsimp only; symm; unfold sp_between; (repeat (first | (refine Eq.trans (cIf_t ?_) ?_; · first | assumption | ((try simp only [inR, inS, i3_lt, i3_le, i3_eq, i6_lt, i6_le, Int32.toInt_toInt64, lg_cmp_lt, lg_cmp_gt, lg_cmp_ge, lg_cmp_le, Int32.reduceToInt, Int64.reduceToInt] at b3 b7 b11 c13 ⊢); omega)) | (refine Eq.trans (cIf_f ?_) ?_; · first | assumption | ((try simp only [inR, inS, i3_lt, i3_le, i3_eq, i6_lt, i6_le, Int32.toInt_toInt64, lg_cmp_lt, lg_cmp_gt, lg_cmp_ge, lg_cmp_le, Int32.reduceToInt, Int64.reduceToInt] at b3 b7 b11 c13 ⊢); omega)))); first | rfl | (exfalso; ((try simp only [inR, inS, i3_lt, i3_le, i3_eq, i6_lt, i6_le, Int32.toInt_toInt64, lg_cmp_lt, lg_cmp_gt, lg_cmp_ge, lg_cmp_le, Int32.reduceToInt, Int64.reduceToInt] at b3 b7 b11 c13); omega)), by rw [ht]; exact hP9, hD9⟩, hS.F ht⟩) hS.2.2 dX9_between_38
        · refine lv_iload hx hb dX9_between_29 (lv_at hl 4 rfl) ?_
          refine lv_bipush (v := 9) hx hb dX9_between_31 (by decide) ?_
          refine lv_icmp_le (tgt := 39) hx hb dX9_between_33 (by decide) (fun c14 => ?_) (fun c14 => ?_)
          · refine lv_aload_n hx hb dX9_between_39 rfl (lv_at hl 0 rfl) ?_
            refine lv_iload_n hx hb dX9_between_40 rfl (lv_at hl 1 rfl) ?_
            refine ca_iR (va_runV (As := [.int p0]) (rest := []) ⟨hx, hb, hml, hown, hts⟩ (c_isTold l G H.size h0 pad pp im .null .null ac ak 6 0 1 0 p0) (cwV 1 hts gX9_between_X9_isTold rfl rfl rfl (by decide +kernel) ⟨by decide +kernel, by decide +kernel⟩) (pre_V E hP hD hS hA [0, 5] (by decide) rfl 0 5 rfl rfl) rfl rfl hl.1 rfl (lv_room (Nat.le_of_ble_eq_true rfl)) dX9_between_41 ⟨by decide +kernel, by decide +kernel⟩) hS hP hD hA [0, 5] rfl (fun r16 _ H locs w15 hP hS => ?_)
            rcases w15 with ⟨rfl, b17⟩ | ⟨rfl, b17⟩
            · exact absurd b17 (not_told0 _)
            · refine lv_if_eq (tgt := 55) hx hb dX9_between_44 (by decide) (fun _ => ?_) (fun c18 => False.elim (by revert c18; decide))
              refine lv_bipush (v := (-3)) hx hb dX9_between_55 (by decide) ?_
              have hP9 := hP.sub (ws' := []) [] rfl
              have hD9 := hD.sub (ws' := []) [] (by decide) rfl
              exact W.iret (v := (-3)) hx hb hr (fun t ht hW => ⟨⟨(-3), (), rfl, by dsimp only; symm; unfold sp_between; (repeat (first | (refine Eq.trans (cIf_t ?_) ?_; · first | assumption | ((try simp only [inR, inS, i3_lt, i3_le, i3_eq, i6_lt, i6_le, Int32.toInt_toInt64, lg_cmp_lt, lg_cmp_gt, lg_cmp_ge, lg_cmp_le, Int32.reduceToInt, Int64.reduceToInt] at b3 b7 b11 c13 c14 b17 ⊢); omega)) | (refine Eq.trans (cIf_f ?_) ?_; · first | assumption | ((try simp only [inR, inS, i3_lt, i3_le, i3_eq, i6_lt, i6_le, Int32.toInt_toInt64, lg_cmp_lt, lg_cmp_gt, lg_cmp_ge, lg_cmp_le, Int32.reduceToInt, Int64.reduceToInt] at b3 b7 b11 c13 c14 b17 ⊢); omega)))); first | rfl | (exfalso; ((try simp only [inR, inS, i3_lt, i3_le, i3_eq, i6_lt, i6_le, Int32.toInt_toInt64, lg_cmp_lt, lg_cmp_gt, lg_cmp_ge, lg_cmp_le, Int32.reduceToInt, Int64.reduceToInt] at b3 b7 b11 c13 c14 b17); omega)), by rw [ht]; exact hP9, hD9⟩, hS.F ht⟩) hS.2.2 dX9_between_57
          · refine lv_bipush (v := (-2)) hx hb dX9_between_36 (by decide) ?_
            have hP9 := hP.sub (ws' := []) [] rfl
            have hD9 := hD.sub (ws' := []) [] (by decide) rfl
            exact W.iret (v := (-2)) hx hb hr (fun t ht hW => ⟨⟨(-2), (), rfl, by dsimp only; symm; unfold sp_between; (repeat (first | (refine Eq.trans (cIf_t ?_) ?_; · first | assumption | ((try simp only [inR, inS, i3_lt, i3_le, i3_eq, i6_lt, i6_le, Int32.toInt_toInt64, lg_cmp_lt, lg_cmp_gt, lg_cmp_ge, lg_cmp_le, Int32.reduceToInt, Int64.reduceToInt] at b3 b7 b11 c13 c14 ⊢); omega)) | (refine Eq.trans (cIf_f ?_) ?_; · first | assumption | ((try simp only [inR, inS, i3_lt, i3_le, i3_eq, i6_lt, i6_le, Int32.toInt_toInt64, lg_cmp_lt, lg_cmp_gt, lg_cmp_ge, lg_cmp_le, Int32.reduceToInt, Int64.reduceToInt] at b3 b7 b11 c13 c14 ⊢); omega)))); first | rfl | (exfalso; ((try simp only [inR, inS, i3_lt, i3_le, i3_eq, i6_lt, i6_le, Int32.toInt_toInt64, lg_cmp_lt, lg_cmp_gt, lg_cmp_ge, lg_cmp_le, Int32.reduceToInt, Int64.reduceToInt] at b3 b7 b11 c13 c14); omega)), by rw [ht]; exact hP9, hD9⟩, hS.F ht⟩) hS.2.2 dX9_between_38
      · refine lv_if_ne (tgt := 23) hx hb dX9_between_18 (by decide) (fun c19 => False.elim (by revert c19; decide)) (fun _ => ?_)
        refine lv_iconst (v := (-1)) hx hb dX9_between_21 (by decide) ?_
        have hP9 := hP.sub (ws' := []) [] rfl
        have hD9 := hD.sub (ws' := []) [] (by decide) rfl
        exact W.iret (v := (-1)) hx hb hr (fun t ht hW => ⟨⟨(-1), (), rfl, by dsimp only; symm; unfold sp_between; (repeat (first | (refine Eq.trans (cIf_t ?_) ?_; · first | assumption | ((try simp only [inR, inS, i3_lt, i3_le, i3_eq, i6_lt, i6_le, Int32.toInt_toInt64, lg_cmp_lt, lg_cmp_gt, lg_cmp_ge, lg_cmp_le, Int32.reduceToInt, Int64.reduceToInt] at b3 b7 b11 ⊢); omega)) | (refine Eq.trans (cIf_f ?_) ?_; · first | assumption | ((try simp only [inR, inS, i3_lt, i3_le, i3_eq, i6_lt, i6_le, Int32.toInt_toInt64, lg_cmp_lt, lg_cmp_gt, lg_cmp_ge, lg_cmp_le, Int32.reduceToInt, Int64.reduceToInt] at b3 b7 b11 ⊢); omega)))); first | rfl | (exfalso; ((try simp only [inR, inS, i3_lt, i3_le, i3_eq, i6_lt, i6_le, Int32.toInt_toInt64, lg_cmp_lt, lg_cmp_gt, lg_cmp_ge, lg_cmp_le, Int32.reduceToInt, Int64.reduceToInt] at b3 b7 b11); omega)), by rw [ht]; exact hP9, hD9⟩, hS.F ht⟩) hS.2.2 dX9_between_22
    · refine lv_if_eq (tgt := 21) hx hb dX9_between_11 (by decide) (fun _ => ?_) (fun c20 => False.elim (by revert c20; decide))
      refine lv_iconst (v := (-1)) hx hb dX9_between_21 (by decide) ?_
      have hP9 := hP.sub (ws' := []) [] rfl
      have hD9 := hD.sub (ws' := []) [] (by decide) rfl
      exact W.iret (v := (-1)) hx hb hr (fun t ht hW => ⟨⟨(-1), (), rfl, by dsimp only; symm; unfold sp_between; (repeat (first | (refine Eq.trans (cIf_t ?_) ?_; · first | assumption | ((try simp only [inR, inS, i3_lt, i3_le, i3_eq, i6_lt, i6_le, Int32.toInt_toInt64, lg_cmp_lt, lg_cmp_gt, lg_cmp_ge, lg_cmp_le, Int32.reduceToInt, Int64.reduceToInt] at b3 b7 ⊢); omega)) | (refine Eq.trans (cIf_f ?_) ?_; · first | assumption | ((try simp only [inR, inS, i3_lt, i3_le, i3_eq, i6_lt, i6_le, Int32.toInt_toInt64, lg_cmp_lt, lg_cmp_gt, lg_cmp_ge, lg_cmp_le, Int32.reduceToInt, Int64.reduceToInt] at b3 b7 ⊢); omega)))); first | rfl | (exfalso; ((try simp only [inR, inS, i3_lt, i3_le, i3_eq, i6_lt, i6_le, Int32.toInt_toInt64, lg_cmp_lt, lg_cmp_gt, lg_cmp_ge, lg_cmp_le, Int32.reduceToInt, Int64.reduceToInt] at b3 b7); omega)), by rw [ht]; exact hP9, hD9⟩, hS.F ht⟩) hS.2.2 dX9_between_22
  · refine lv_if_eq (tgt := 21) hx hb dX9_between_4 (by decide) (fun _ => ?_) (fun c21 => False.elim (by revert c21; decide))
    refine lv_iconst (v := (-1)) hx hb dX9_between_21 (by decide) ?_
    have hP9 := hP.sub (ws' := []) [] rfl
    have hD9 := hD.sub (ws' := []) [] (by decide) rfl
    exact W.iret (v := (-1)) hx hb hr (fun t ht hW => ⟨⟨(-1), (), rfl, by dsimp only; symm; unfold sp_between; (repeat (first | (refine Eq.trans (cIf_t ?_) ?_; · first | assumption | ((try simp only [inR, inS, i3_lt, i3_le, i3_eq, i6_lt, i6_le, Int32.toInt_toInt64, lg_cmp_lt, lg_cmp_gt, lg_cmp_ge, lg_cmp_le, Int32.reduceToInt, Int64.reduceToInt] at b3 ⊢); omega)) | (refine Eq.trans (cIf_f ?_) ?_; · first | assumption | ((try simp only [inR, inS, i3_lt, i3_le, i3_eq, i6_lt, i6_le, Int32.toInt_toInt64, lg_cmp_lt, lg_cmp_gt, lg_cmp_ge, lg_cmp_le, Int32.reduceToInt, Int64.reduceToInt] at b3 ⊢); omega)))); first | rfl | (exfalso; ((try simp only [inR, inS, i3_lt, i3_le, i3_eq, i6_lt, i6_le, Int32.toInt_toInt64, lg_cmp_lt, lg_cmp_gt, lg_cmp_ge, lg_cmp_le, Int32.reduceToInt, Int64.reduceToInt] at b3); omega)), by rw [ht]; exact hP9, hD9⟩, hS.F ht⟩) hS.2.2 dX9_between_22

set_option maxHeartbeats 1000000 in
set_option maxRecDepth 100000 in
theorem f_tree (l : Launch) (G : Gy) (sz : Nat) (h0 : Nat) (pad : Nat) (pp : Nat) (im : Nat) (sg : Nat) (sl : Nat) (ac : Nat) (ak : Nat) (fk : Nat → Int32) (p0 : Int32) (p1 : Int32) (p2 : Int32) (hk : ∀ j : Nat, j < 4 → fk j = 15) : Ci l G yX9_tree wsX9_tree ({ frames := 3, cells := 0, slots := 0, locals := 62 }) [.ref h0, .int p0, .int p1, .int p2] [(h0, .inr (5, [.ref pad, .ref pp, .ref im, .null, .null])), (im, .inl (gP G, 2, .inr (.inr (.inr (.inr (fun _ => none)))))), (pad, .inr (0, [.ref sg, .ref sl, .int 0])), (sg, .inl (gI G, 40, .inl (fun _ => 0))), (sl, .inl (gI G, 10, .inl (fun _ => 0))), (pp, .inr (1, [.int 6, .int 0, .int 1, .int 0, .ref ac, .ref ak])), (ac, .inl (gI G, 6, .inl (fun _ => 0))), (ak, .inl (gI G, 4, .inl fk))] sz (fun (r : Int32) (_ : Unit) => r = sp_tree p0 p1 p2) (fun (_ : Unit) => []) 0 0 := by
  refine Met.ofW (cc := cX9_tree) (maxL := 5) (ret := (some .int)) (by decide) rfl ?_
  intro p e s m args below meth c s₁ B hml hv
  obtain ⟨rfl, hsz, hP, hD0, E0⟩ := hv
  have hx := B.exec
  have hb := B.bytes
  have hr := B.returns
  have hts := atoms_spec (ws := wsX9_tree) B.pre
  have hown : s.vm.findClass RX9 = some m.cls := findClass_of_methodNamed B.named
  have hlocks := B.notSynchronized
  subst hsz
  have hD := hD0.self (sz := s.heap.size)
  generalize hAe : va_A [(h0, .inr (5, [.ref pad, .ref pp, .ref im, .null, .null])), (im, .inl (gP G, 2, .inr (.inr (.inr (.inr (fun _ => none)))))), (pad, .inr (0, [.ref sg, .ref sl, .int 0])), (sg, .inl (gI G, 40, .inl (fun _ => 0))), (sl, .inl (gI G, 10, .inl (fun _ => 0))), (pp, .inr (1, [.int 6, .int 0, .int 1, .int 0, .ref ac, .ref ak])), (ac, .inl (gI G, 6, .inl (fun _ => 0))), (ak, .inl (gI G, 4, .inl fk))] s.heap.size = A at hD E0 ⊢
  have E : EV G A s s.heap := E0
  have hA : ∀ q : Nat, s.heap.size ≤ q → A q := fun q h => by rw [← hAe]; exact Or.inr h
  have hS : va_S A s.heap s.heap [] := va_S.rf
  have hl := lv_entry ([.ref h0, .int p0, .int p1, .int p2]) (n := 5) (Nat.le_of_ble_eq_true rfl)
  rw [lg_entry_eq]
  generalize (lg_sl ([.ref h0, .int p0, .int p1, .int p2]) ++ List.replicate (5 - (lg_sl ([.ref h0, .int p0, .int p1, .int p2])).length) Slot.unset).toArray = ls at hl ⊢
  have hl : lv_has ls 5 [(0, .ref h0), (1, .int p0), (2, .int p1), (3, .int p2)] := hl
  have hP : va_P G.1 vwCl [(h0, .inr (5, [.ref pad, .ref pp, .ref im, .null, .null])), (im, .inl (gP G, 2, .inr (.inr (.inr (.inr (fun _ => none)))))), (pad, .inr (0, [.ref sg, .ref sl, .int 0])), (sg, .inl (gI G, 40, .inl (fun _ => 0))), (sl, .inl (gI G, 10, .inl (fun _ => 0))), (pp, .inr (1, [.int 6, .int 0, .int 1, .int 0, .ref ac, .ref ak])), (ac, .inl (gI G, 6, .inl (fun _ => 0))), (ak, .inl (gI G, 4, .inl fk))] s.heap := hP
  refine lv_iload_n hx hb dX9_tree_0 rfl (lv_at hl 2 rfl) ?_
  refine ca_iR (va_runS (As := [.int p1]) (rest := []) ⟨hx, hb, hml, hown, hts⟩ (c_isHand l G s.heap.size p1) (va_cwS 1 hts gX9_tree_X9_isHand rfl rfl rfl (by decide +kernel) ⟨by decide +kernel, by decide +kernel⟩) (pre_S E hP hD hS hA [] (by decide) rfl) rfl rfl hl.1 rfl (lv_room (Nat.le_of_ble_eq_true rfl)) dX9_tree_1 ⟨by decide +kernel, by decide +kernel⟩) hS hP hD hA [] rfl (fun r2 _ H locs w1 hP hS => ?_)
  rcases w1 with ⟨rfl, b3⟩ | ⟨rfl, b3⟩
  · refine lv_if_ne (tgt := 9) hx hb dX9_tree_4 (by decide) (fun _ => ?_) (fun c4 => False.elim (by revert c4; decide))
    refine lv_iload_n hx hb dX9_tree_9 rfl (lv_at hl 1 rfl) ?_
    refine ca_iR (va_runS (As := [.int p0]) (rest := []) ⟨hx, hb, hml, hown, hts⟩ (c_isSet l G H.size p0) (va_cwS 1 hts gX9_tree_X9_isSet rfl rfl rfl (by decide +kernel) ⟨by decide +kernel, by decide +kernel⟩) (pre_S E hP hD hS hA [] (by decide) rfl) rfl rfl hl.1 rfl (lv_room (Nat.le_of_ble_eq_true rfl)) dX9_tree_10 ⟨by decide +kernel, by decide +kernel⟩) hS hP hD hA [] rfl (fun r6 _ H locs w5 hP hS => ?_)
    rcases w5 with ⟨rfl, b7⟩ | ⟨rfl, b7⟩
    · refine lv_if_eq (tgt := 24) hx hb dX9_tree_13 (by decide) (fun c8 => False.elim (by revert c8; decide)) (fun _ => ?_)
      refine lv_iload_n hx hb dX9_tree_16 rfl (lv_at hl 1 rfl) ?_
      refine lv_iload_n hx hb dX9_tree_17 rfl (lv_at hl 3 rfl) ?_
      refine ca_iR (va_runS (As := [.int p0, .int p2]) (rest := []) ⟨hx, hb, hml, hown, hts⟩ (c_isTreeQuestion l G H.size p0 p2) (va_cwS 2 hts gX9_tree_X9_isTreeQuestion rfl rfl rfl (by decide +kernel) ⟨by decide +kernel, by decide +kernel⟩) (pre_S E hP hD hS hA [] (by decide) rfl) rfl rfl hl.1 rfl (lv_room (Nat.le_of_ble_eq_true rfl)) dX9_tree_18 ⟨by decide +kernel, by decide +kernel⟩) hS hP hD hA [] rfl (fun r10 _ H locs w9 hP hS => ?_)
      rcases w9 with ⟨rfl, b11⟩ | ⟨rfl, b11⟩
      · refine lv_if_ne (tgt := 27) hx hb dX9_tree_21 (by decide) (fun _ => ?_) (fun c12 => False.elim (by revert c12; decide))
        refine lv_aload_n hx hb dX9_tree_27 rfl (lv_at hl 0 rfl) ?_
        refine lv_iload_n hx hb dX9_tree_28 rfl (lv_at hl 1 rfl) ?_
        refine ca_iR (va_runV (As := [.int p0]) (rest := []) ⟨hx, hb, hml, hown, hts⟩ (c_areTold l G H.size h0 pad pp im .null .null ac ak 6 0 1 0 p0) (cwV 1 hts gX9_tree_X9_areTold rfl rfl rfl (by decide +kernel) ⟨by decide +kernel, by decide +kernel⟩) (pre_V E hP hD hS hA [0, 5] (by decide) rfl 0 5 rfl rfl) rfl rfl hl.1 rfl (lv_room (Nat.le_of_ble_eq_true rfl)) dX9_tree_29 ⟨by decide +kernel, by decide +kernel⟩) hS hP hD hA [0, 5] rfl (fun r14 _ H locs w13 hP hS => ?_)
        rcases w13 with ⟨rfl, b15⟩ | ⟨rfl, b15⟩
        · exact absurd b15 (not_all0 _ (by first | assumption | ((try simp only [inR, inS, i3_lt, i3_le, i3_eq, i6_lt, i6_le, Int32.toInt_toInt64, lg_cmp_lt, lg_cmp_gt, lg_cmp_ge, lg_cmp_le, Int32.reduceToInt, Int64.reduceToInt] at b3 b7 b11 ⊢); omega)))
        · refine lv_if_ne (tgt := 38) hx hb dX9_tree_32 (by decide) (fun c16 => False.elim (by revert c16; decide)) (fun _ => ?_)
          refine lv_bipush (v := (-3)) hx hb dX9_tree_35 (by decide) ?_
          have hP9 := hP.sub (ws' := []) [] rfl
          have hD9 := hD.sub (ws' := []) [] (by decide) rfl
          exact W.iret (v := (-3)) hx hb hr (fun t ht hW => ⟨⟨(-3), (), rfl, by dsimp only; symm; unfold sp_tree; (repeat (first | (refine Eq.trans (cIf_t ?_) ?_; · first | assumption | ((try simp only [inR, inS, i3_lt, i3_le, i3_eq, i6_lt, i6_le, Int32.toInt_toInt64, lg_cmp_lt, lg_cmp_gt, lg_cmp_ge, lg_cmp_le, Int32.reduceToInt, Int64.reduceToInt] at b3 b7 b11 b15 ⊢); omega)) | (refine Eq.trans (cIf_f ?_) ?_; · first | assumption | ((try simp only [inR, inS, i3_lt, i3_le, i3_eq, i6_lt, i6_le, Int32.toInt_toInt64, lg_cmp_lt, lg_cmp_gt, lg_cmp_ge, lg_cmp_le, Int32.reduceToInt, Int64.reduceToInt] at b3 b7 b11 b15 ⊢); omega)))); first | rfl | (exfalso; ((try simp only [inR, inS, i3_lt, i3_le, i3_eq, i6_lt, i6_le, Int32.toInt_toInt64, lg_cmp_lt, lg_cmp_gt, lg_cmp_ge, lg_cmp_le, Int32.reduceToInt, Int64.reduceToInt] at b3 b7 b11 b15); omega)), by rw [ht]; exact hP9, hD9⟩, hS.F ht⟩) hS.2.2 dX9_tree_37
      · refine lv_if_ne (tgt := 27) hx hb dX9_tree_21 (by decide) (fun c17 => False.elim (by revert c17; decide)) (fun _ => ?_)
        refine lv_bipush (v := (-2)) hx hb dX9_tree_24 (by decide) ?_
        have hP9 := hP.sub (ws' := []) [] rfl
        have hD9 := hD.sub (ws' := []) [] (by decide) rfl
        exact W.iret (v := (-2)) hx hb hr (fun t ht hW => ⟨⟨(-2), (), rfl, by dsimp only; symm; unfold sp_tree; (repeat (first | (refine Eq.trans (cIf_t ?_) ?_; · first | assumption | ((try simp only [inR, inS, i3_lt, i3_le, i3_eq, i6_lt, i6_le, Int32.toInt_toInt64, lg_cmp_lt, lg_cmp_gt, lg_cmp_ge, lg_cmp_le, Int32.reduceToInt, Int64.reduceToInt] at b3 b7 b11 ⊢); omega)) | (refine Eq.trans (cIf_f ?_) ?_; · first | assumption | ((try simp only [inR, inS, i3_lt, i3_le, i3_eq, i6_lt, i6_le, Int32.toInt_toInt64, lg_cmp_lt, lg_cmp_gt, lg_cmp_ge, lg_cmp_le, Int32.reduceToInt, Int64.reduceToInt] at b3 b7 b11 ⊢); omega)))); first | rfl | (exfalso; ((try simp only [inR, inS, i3_lt, i3_le, i3_eq, i6_lt, i6_le, Int32.toInt_toInt64, lg_cmp_lt, lg_cmp_gt, lg_cmp_ge, lg_cmp_le, Int32.reduceToInt, Int64.reduceToInt] at b3 b7 b11); omega)), by rw [ht]; exact hP9, hD9⟩, hS.F ht⟩) hS.2.2 dX9_tree_26
    · refine lv_if_eq (tgt := 24) hx hb dX9_tree_13 (by decide) (fun _ => ?_) (fun c18 => False.elim (by revert c18; decide))
      refine lv_bipush (v := (-2)) hx hb dX9_tree_24 (by decide) ?_
      have hP9 := hP.sub (ws' := []) [] rfl
      have hD9 := hD.sub (ws' := []) [] (by decide) rfl
      exact W.iret (v := (-2)) hx hb hr (fun t ht hW => ⟨⟨(-2), (), rfl, by dsimp only; symm; unfold sp_tree; (repeat (first | (refine Eq.trans (cIf_t ?_) ?_; · first | assumption | ((try simp only [inR, inS, i3_lt, i3_le, i3_eq, i6_lt, i6_le, Int32.toInt_toInt64, lg_cmp_lt, lg_cmp_gt, lg_cmp_ge, lg_cmp_le, Int32.reduceToInt, Int64.reduceToInt] at b3 b7 ⊢); omega)) | (refine Eq.trans (cIf_f ?_) ?_; · first | assumption | ((try simp only [inR, inS, i3_lt, i3_le, i3_eq, i6_lt, i6_le, Int32.toInt_toInt64, lg_cmp_lt, lg_cmp_gt, lg_cmp_ge, lg_cmp_le, Int32.reduceToInt, Int64.reduceToInt] at b3 b7 ⊢); omega)))); first | rfl | (exfalso; ((try simp only [inR, inS, i3_lt, i3_le, i3_eq, i6_lt, i6_le, Int32.toInt_toInt64, lg_cmp_lt, lg_cmp_gt, lg_cmp_ge, lg_cmp_le, Int32.reduceToInt, Int64.reduceToInt] at b3 b7); omega)), by rw [ht]; exact hP9, hD9⟩, hS.F ht⟩) hS.2.2 dX9_tree_26
  · refine lv_if_ne (tgt := 9) hx hb dX9_tree_4 (by decide) (fun c19 => False.elim (by revert c19; decide)) (fun _ => ?_)
    refine lv_iconst (v := (-1)) hx hb dX9_tree_7 (by decide) ?_
    have hP9 := hP.sub (ws' := []) [] rfl
    have hD9 := hD.sub (ws' := []) [] (by decide) rfl
    exact W.iret (v := (-1)) hx hb hr (fun t ht hW => ⟨⟨(-1), (), rfl, by dsimp only; symm; unfold sp_tree; (repeat (first | (refine Eq.trans (cIf_t ?_) ?_; · first | assumption | ((try simp only [inR, inS, i3_lt, i3_le, i3_eq, i6_lt, i6_le, Int32.toInt_toInt64, lg_cmp_lt, lg_cmp_gt, lg_cmp_ge, lg_cmp_le, Int32.reduceToInt, Int64.reduceToInt] at b3 ⊢); omega)) | (refine Eq.trans (cIf_f ?_) ?_; · first | assumption | ((try simp only [inR, inS, i3_lt, i3_le, i3_eq, i6_lt, i6_le, Int32.toInt_toInt64, lg_cmp_lt, lg_cmp_gt, lg_cmp_ge, lg_cmp_le, Int32.reduceToInt, Int64.reduceToInt] at b3 ⊢); omega)))); first | rfl | (exfalso; ((try simp only [inR, inS, i3_lt, i3_le, i3_eq, i6_lt, i6_le, Int32.toInt_toInt64, lg_cmp_lt, lg_cmp_gt, lg_cmp_ge, lg_cmp_le, Int32.reduceToInt, Int64.reduceToInt] at b3); omega)), by rw [ht]; exact hP9, hD9⟩, hS.F ht⟩) hS.2.2 dX9_tree_8

set_option maxHeartbeats 1000000 in
set_option maxRecDepth 100000 in
theorem f_lost (l : Launch) (G : Gy) (sz : Nat) (h0 : Nat) (pad : Nat) (pp : Nat) (im : Nat) (sg : Nat) (sl : Nat) (ac : Nat) (ak : Nat) (fk : Nat → Int32) (p0 : Int32) (p1 : Int32) (p2 : Int32) (hk : ∀ j : Nat, j < 4 → fk j = 15) : Ci l G yX9_lost wsX9_lost ({ frames := 1, cells := 0, slots := 0, locals := 21 }) [.ref h0, .int p0, .int p1, .int p2] [(h0, .inr (5, [.ref pad, .ref pp, .ref im, .null, .null])), (im, .inl (gP G, 2, .inr (.inr (.inr (.inr (fun _ => none)))))), (pad, .inr (0, [.ref sg, .ref sl, .int 0])), (sg, .inl (gI G, 40, .inl (fun _ => 0))), (sl, .inl (gI G, 10, .inl (fun _ => 0))), (pp, .inr (1, [.int 6, .int 0, .int 1, .int 0, .ref ac, .ref ak])), (ac, .inl (gI G, 6, .inl (fun _ => 0))), (ak, .inl (gI G, 4, .inl fk))] sz (fun (r : Int32) (_ : Unit) => r = sp_lost p0 p1 p2) (fun (_ : Unit) => []) 0 0 := by
  refine Met.ofW (cc := cX9_lost) (maxL := 6) (ret := (some .int)) (by decide) rfl ?_
  intro p e s m args below meth c s₁ B hml hv
  obtain ⟨rfl, hsz, hP, hD0, E0⟩ := hv
  have hx := B.exec
  have hb := B.bytes
  have hr := B.returns
  have hts := atoms_spec (ws := wsX9_lost) B.pre
  have hown : s.vm.findClass RX9 = some m.cls := findClass_of_methodNamed B.named
  have hlocks := B.notSynchronized
  subst hsz
  have hD := hD0.self (sz := s.heap.size)
  generalize hAe : va_A [(h0, .inr (5, [.ref pad, .ref pp, .ref im, .null, .null])), (im, .inl (gP G, 2, .inr (.inr (.inr (.inr (fun _ => none)))))), (pad, .inr (0, [.ref sg, .ref sl, .int 0])), (sg, .inl (gI G, 40, .inl (fun _ => 0))), (sl, .inl (gI G, 10, .inl (fun _ => 0))), (pp, .inr (1, [.int 6, .int 0, .int 1, .int 0, .ref ac, .ref ak])), (ac, .inl (gI G, 6, .inl (fun _ => 0))), (ak, .inl (gI G, 4, .inl fk))] s.heap.size = A at hD E0 ⊢
  have E : EV G A s s.heap := E0
  have hA : ∀ q : Nat, s.heap.size ≤ q → A q := fun q h => by rw [← hAe]; exact Or.inr h
  have hS : va_S A s.heap s.heap [] := va_S.rf
  have hl := lv_entry ([.ref h0, .int p0, .int p1, .int p2]) (n := 6) (Nat.le_of_ble_eq_true rfl)
  rw [lg_entry_eq]
  generalize (lg_sl ([.ref h0, .int p0, .int p1, .int p2]) ++ List.replicate (6 - (lg_sl ([.ref h0, .int p0, .int p1, .int p2])).length) Slot.unset).toArray = ls at hl ⊢
  have hl : lv_has ls 6 [(0, .ref h0), (1, .int p0), (2, .int p1), (3, .int p2)] := hl
  have hP : va_P G.1 vwCl [(h0, .inr (5, [.ref pad, .ref pp, .ref im, .null, .null])), (im, .inl (gP G, 2, .inr (.inr (.inr (.inr (fun _ => none)))))), (pad, .inr (0, [.ref sg, .ref sl, .int 0])), (sg, .inl (gI G, 40, .inl (fun _ => 0))), (sl, .inl (gI G, 10, .inl (fun _ => 0))), (pp, .inr (1, [.int 6, .int 0, .int 1, .int 0, .ref ac, .ref ak])), (ac, .inl (gI G, 6, .inl (fun _ => 0))), (ak, .inl (gI G, 4, .inl fk))] s.heap := hP
  refine lv_iload_n hx hb dX9_lost_0 rfl (lv_at hl 2 rfl) ?_
  refine ca_iR (va_runS (As := [.int p1]) (rest := []) ⟨hx, hb, hml, hown, hts⟩ (c_isHand l G s.heap.size p1) (va_cwS 1 hts gX9_lost_X9_isHand rfl rfl rfl (by decide +kernel) ⟨by decide +kernel, by decide +kernel⟩) (pre_S E hP hD hS hA [] (by decide) rfl) rfl rfl hl.1 rfl (lv_room (Nat.le_of_ble_eq_true rfl)) dX9_lost_1 ⟨by decide +kernel, by decide +kernel⟩) hS hP hD hA [] rfl (fun r2 _ H locs w1 hP hS => ?_)
  rcases w1 with ⟨rfl, b3⟩ | ⟨rfl, b3⟩
  · refine lv_if_ne (tgt := 9) hx hb dX9_lost_4 (by decide) (fun _ => ?_) (fun c4 => False.elim (by revert c4; decide))
    refine lv_iload_n hx hb dX9_lost_9 rfl (lv_at hl 1 rfl) ?_
    refine ca_iR (va_runS (As := [.int p0]) (rest := []) ⟨hx, hb, hml, hown, hts⟩ (c_isSet l G H.size p0) (va_cwS 1 hts gX9_lost_X9_isSet rfl rfl rfl (by decide +kernel) ⟨by decide +kernel, by decide +kernel⟩) (pre_S E hP hD hS hA [] (by decide) rfl) rfl rfl hl.1 rfl (lv_room (Nat.le_of_ble_eq_true rfl)) dX9_lost_10 ⟨by decide +kernel, by decide +kernel⟩) hS hP hD hA [] rfl (fun r6 _ H locs w5 hP hS => ?_)
    rcases w5 with ⟨rfl, b7⟩ | ⟨rfl, b7⟩
    · refine lv_if_ne (tgt := 19) hx hb dX9_lost_13 (by decide) (fun _ => ?_) (fun c8 => False.elim (by revert c8; decide))
      refine lv_aload_n hx hb dX9_lost_19 rfl (lv_at hl 0 rfl) ?_
      refine lv_iload_n hx hb dX9_lost_20 rfl (lv_at hl 1 rfl) ?_
      refine ca_iR (va_runV (As := [.int p0]) (rest := []) ⟨hx, hb, hml, hown, hts⟩ (c_areTold l G H.size h0 pad pp im .null .null ac ak 6 0 1 0 p0) (cwV 1 hts gX9_lost_X9_areTold rfl rfl rfl (by decide +kernel) ⟨by decide +kernel, by decide +kernel⟩) (pre_V E hP hD hS hA [0, 5] (by decide) rfl 0 5 rfl rfl) rfl rfl hl.1 rfl (lv_room (Nat.le_of_ble_eq_true rfl)) dX9_lost_21 ⟨by decide +kernel, by decide +kernel⟩) hS hP hD hA [0, 5] rfl (fun r10 _ H locs w9 hP hS => ?_)
      rcases w9 with ⟨rfl, b11⟩ | ⟨rfl, b11⟩
      · exact absurd b11 (not_all0 _ (by first | assumption | ((try simp only [inR, inS, i3_lt, i3_le, i3_eq, i6_lt, i6_le, Int32.toInt_toInt64, lg_cmp_lt, lg_cmp_gt, lg_cmp_ge, lg_cmp_le, Int32.reduceToInt, Int64.reduceToInt] at b3 b7 ⊢); omega)))
      · refine lv_if_ne (tgt := 30) hx hb dX9_lost_24 (by decide) (fun c12 => False.elim (by revert c12; decide)) (fun _ => ?_)
        refine lv_bipush (v := (-3)) hx hb dX9_lost_27 (by decide) ?_
        have hP9 := hP.sub (ws' := []) [] rfl
        have hD9 := hD.sub (ws' := []) [] (by decide) rfl
        exact W.iret (v := (-3)) hx hb hr (fun t ht hW => ⟨⟨(-3), (), rfl, by dsimp only; symm; unfold sp_lost; (repeat (first | (refine Eq.trans (cIf_t ?_) ?_; · first | assumption | ((try simp only [inR, inS, i3_lt, i3_le, i3_eq, i6_lt, i6_le, Int32.toInt_toInt64, lg_cmp_lt, lg_cmp_gt, lg_cmp_ge, lg_cmp_le, Int32.reduceToInt, Int64.reduceToInt] at b3 b7 b11 ⊢); omega)) | (refine Eq.trans (cIf_f ?_) ?_; · first | assumption | ((try simp only [inR, inS, i3_lt, i3_le, i3_eq, i6_lt, i6_le, Int32.toInt_toInt64, lg_cmp_lt, lg_cmp_gt, lg_cmp_ge, lg_cmp_le, Int32.reduceToInt, Int64.reduceToInt] at b3 b7 b11 ⊢); omega)))); first | rfl | (exfalso; ((try simp only [inR, inS, i3_lt, i3_le, i3_eq, i6_lt, i6_le, Int32.toInt_toInt64, lg_cmp_lt, lg_cmp_gt, lg_cmp_ge, lg_cmp_le, Int32.reduceToInt, Int64.reduceToInt] at b3 b7 b11); omega)), by rw [ht]; exact hP9, hD9⟩, hS.F ht⟩) hS.2.2 dX9_lost_29
    · refine lv_if_ne (tgt := 19) hx hb dX9_lost_13 (by decide) (fun c13 => False.elim (by revert c13; decide)) (fun _ => ?_)
      refine lv_bipush (v := (-2)) hx hb dX9_lost_16 (by decide) ?_
      have hP9 := hP.sub (ws' := []) [] rfl
      have hD9 := hD.sub (ws' := []) [] (by decide) rfl
      exact W.iret (v := (-2)) hx hb hr (fun t ht hW => ⟨⟨(-2), (), rfl, by dsimp only; symm; unfold sp_lost; (repeat (first | (refine Eq.trans (cIf_t ?_) ?_; · first | assumption | ((try simp only [inR, inS, i3_lt, i3_le, i3_eq, i6_lt, i6_le, Int32.toInt_toInt64, lg_cmp_lt, lg_cmp_gt, lg_cmp_ge, lg_cmp_le, Int32.reduceToInt, Int64.reduceToInt] at b3 b7 ⊢); omega)) | (refine Eq.trans (cIf_f ?_) ?_; · first | assumption | ((try simp only [inR, inS, i3_lt, i3_le, i3_eq, i6_lt, i6_le, Int32.toInt_toInt64, lg_cmp_lt, lg_cmp_gt, lg_cmp_ge, lg_cmp_le, Int32.reduceToInt, Int64.reduceToInt] at b3 b7 ⊢); omega)))); first | rfl | (exfalso; ((try simp only [inR, inS, i3_lt, i3_le, i3_eq, i6_lt, i6_le, Int32.toInt_toInt64, lg_cmp_lt, lg_cmp_gt, lg_cmp_ge, lg_cmp_le, Int32.reduceToInt, Int64.reduceToInt] at b3 b7); omega)), by rw [ht]; exact hP9, hD9⟩, hS.F ht⟩) hS.2.2 dX9_lost_18
  · refine lv_if_ne (tgt := 9) hx hb dX9_lost_4 (by decide) (fun c14 => False.elim (by revert c14; decide)) (fun _ => ?_)
    refine lv_iconst (v := (-1)) hx hb dX9_lost_7 (by decide) ?_
    have hP9 := hP.sub (ws' := []) [] rfl
    have hD9 := hD.sub (ws' := []) [] (by decide) rfl
    exact W.iret (v := (-1)) hx hb hr (fun t ht hW => ⟨⟨(-1), (), rfl, by dsimp only; symm; unfold sp_lost; (repeat (first | (refine Eq.trans (cIf_t ?_) ?_; · first | assumption | ((try simp only [inR, inS, i3_lt, i3_le, i3_eq, i6_lt, i6_le, Int32.toInt_toInt64, lg_cmp_lt, lg_cmp_gt, lg_cmp_ge, lg_cmp_le, Int32.reduceToInt, Int64.reduceToInt] at b3 ⊢); omega)) | (refine Eq.trans (cIf_f ?_) ?_; · first | assumption | ((try simp only [inR, inS, i3_lt, i3_le, i3_eq, i6_lt, i6_le, Int32.toInt_toInt64, lg_cmp_lt, lg_cmp_gt, lg_cmp_ge, lg_cmp_le, Int32.reduceToInt, Int64.reduceToInt] at b3 ⊢); omega)))); first | rfl | (exfalso; ((try simp only [inR, inS, i3_lt, i3_le, i3_eq, i6_lt, i6_le, Int32.toInt_toInt64, lg_cmp_lt, lg_cmp_gt, lg_cmp_ge, lg_cmp_le, Int32.reduceToInt, Int64.reduceToInt] at b3); omega)), by rw [ht]; exact hP9, hD9⟩, hS.F ht⟩) hS.2.2 dX9_lost_8

set_option maxHeartbeats 1000000 in
set_option maxRecDepth 100000 in
theorem f_wished (l : Launch) (G : Gy) (sz : Nat) (h0 : Nat) (pad : Nat) (pp : Nat) (im : Nat) (sg : Nat) (sl : Nat) (ac : Nat) (ak : Nat) (fk : Nat → Int32) (p0 : Int32) (p1 : Int32) (p2 : Int32) (p3 : Int32) (hk : ∀ j : Nat, j < 4 → fk j = 15) : Ci l G yX9_wished wsX9_wished ({ frames := 3, cells := 0, slots := 0, locals := 62 }) [.ref h0, .int p0, .int p1, .int p2, .int p3] [(h0, .inr (5, [.ref pad, .ref pp, .ref im, .null, .null])), (im, .inl (gP G, 2, .inr (.inr (.inr (.inr (fun _ => none)))))), (pad, .inr (0, [.ref sg, .ref sl, .int 0])), (sg, .inl (gI G, 40, .inl (fun _ => 0))), (sl, .inl (gI G, 10, .inl (fun _ => 0))), (pp, .inr (1, [.int 6, .int 0, .int 1, .int 0, .ref ac, .ref ak])), (ac, .inl (gI G, 6, .inl (fun _ => 0))), (ak, .inl (gI G, 4, .inl fk))] sz (fun (r : Int32) (_ : Unit) => r = sp_wished p0 p1 p2 p3) (fun (_ : Unit) => []) 0 0 := by
  refine Met.ofW (cc := cX9_wished) (maxL := 8) (ret := (some .int)) (by decide) rfl ?_
  intro p e s m args below meth c s₁ B hml hv
  obtain ⟨rfl, hsz, hP, hD0, E0⟩ := hv
  have hx := B.exec
  have hb := B.bytes
  have hr := B.returns
  have hts := atoms_spec (ws := wsX9_wished) B.pre
  have hown : s.vm.findClass RX9 = some m.cls := findClass_of_methodNamed B.named
  have hlocks := B.notSynchronized
  subst hsz
  have hD := hD0.self (sz := s.heap.size)
  generalize hAe : va_A [(h0, .inr (5, [.ref pad, .ref pp, .ref im, .null, .null])), (im, .inl (gP G, 2, .inr (.inr (.inr (.inr (fun _ => none)))))), (pad, .inr (0, [.ref sg, .ref sl, .int 0])), (sg, .inl (gI G, 40, .inl (fun _ => 0))), (sl, .inl (gI G, 10, .inl (fun _ => 0))), (pp, .inr (1, [.int 6, .int 0, .int 1, .int 0, .ref ac, .ref ak])), (ac, .inl (gI G, 6, .inl (fun _ => 0))), (ak, .inl (gI G, 4, .inl fk))] s.heap.size = A at hD E0 ⊢
  have E : EV G A s s.heap := E0
  have hA : ∀ q : Nat, s.heap.size ≤ q → A q := fun q h => by rw [← hAe]; exact Or.inr h
  have hS : va_S A s.heap s.heap [] := va_S.rf
  have hl := lv_entry ([.ref h0, .int p0, .int p1, .int p2, .int p3]) (n := 8) (Nat.le_of_ble_eq_true rfl)
  rw [lg_entry_eq]
  generalize (lg_sl ([.ref h0, .int p0, .int p1, .int p2, .int p3]) ++ List.replicate (8 - (lg_sl ([.ref h0, .int p0, .int p1, .int p2, .int p3])).length) Slot.unset).toArray = ls at hl ⊢
  have hl : lv_has ls 8 [(0, .ref h0), (1, .int p0), (2, .int p1), (3, .int p2), (4, .int p3)] := hl
  have hP : va_P G.1 vwCl [(h0, .inr (5, [.ref pad, .ref pp, .ref im, .null, .null])), (im, .inl (gP G, 2, .inr (.inr (.inr (.inr (fun _ => none)))))), (pad, .inr (0, [.ref sg, .ref sl, .int 0])), (sg, .inl (gI G, 40, .inl (fun _ => 0))), (sl, .inl (gI G, 10, .inl (fun _ => 0))), (pp, .inr (1, [.int 6, .int 0, .int 1, .int 0, .ref ac, .ref ak])), (ac, .inl (gI G, 6, .inl (fun _ => 0))), (ak, .inl (gI G, 4, .inl fk))] s.heap := hP
  refine lv_iload_n hx hb dX9_wished_0 rfl (lv_at hl 1 rfl) ?_
  refine ca_iR (va_runS (As := [.int p0]) (rest := []) ⟨hx, hb, hml, hown, hts⟩ (c_isMap l G s.heap.size p0) (va_cwS 1 hts gX9_wished_X9_isMap rfl rfl rfl (by decide +kernel) ⟨by decide +kernel, by decide +kernel⟩) (pre_S E hP hD hS hA [] (by decide) rfl) rfl rfl hl.1 rfl (lv_room (Nat.le_of_ble_eq_true rfl)) dX9_wished_1 ⟨by decide +kernel, by decide +kernel⟩) hS hP hD hA [] rfl (fun r2 _ H locs w1 hP hS => ?_)
  rcases w1 with ⟨rfl, b3⟩ | ⟨rfl, b3⟩
  · refine lv_if_eq (tgt := 14) hx hb dX9_wished_4 (by decide) (fun c4 => False.elim (by revert c4; decide)) (fun _ => ?_)
    refine lv_iload_n hx hb dX9_wished_7 rfl (lv_at hl 2 rfl) ?_
    refine ca_iR (va_runS (As := [.int p1]) (rest := []) ⟨hx, hb, hml, hown, hts⟩ (c_isHand l G H.size p1) (va_cwS 1 hts gX9_wished_X9_isHand rfl rfl rfl (by decide +kernel) ⟨by decide +kernel, by decide +kernel⟩) (pre_S E hP hD hS hA [] (by decide) rfl) rfl rfl hl.1 rfl (lv_room (Nat.le_of_ble_eq_true rfl)) dX9_wished_8 ⟨by decide +kernel, by decide +kernel⟩) hS hP hD hA [] rfl (fun r6 _ H locs w5 hP hS => ?_)
    rcases w5 with ⟨rfl, b7⟩ | ⟨rfl, b7⟩
    · refine lv_if_ne (tgt := 16) hx hb dX9_wished_11 (by decide) (fun _ => ?_) (fun c8 => False.elim (by revert c8; decide))
      refine lv_iload_n hx hb dX9_wished_16 rfl (lv_at hl 3 rfl) ?_
      refine lv_if_lt (tgt := 33) hx hb dX9_wished_17 (by decide) (fun c9 => ?_) (fun c9 => ?_)
      · refine lv_bipush (v := (-2)) hx hb dX9_wished_33 (by decide) ?_
        have hP9 := hP.sub (ws' := []) [] rfl
        have hD9 := hD.sub (ws' := []) [] (by decide) rfl
        exact W.iret (v := (-2)) hx hb hr (fun t ht hW => ⟨⟨(-2), (), rfl, by dsimp only; symm; unfold sp_wished; (repeat (first | (refine Eq.trans (cIf_t ?_) ?_; · first | assumption | ((try simp only [inR, inS, i3_lt, i3_le, i3_eq, i6_lt, i6_le, Int32.toInt_toInt64, lg_cmp_lt, lg_cmp_gt, lg_cmp_ge, lg_cmp_le, Int32.reduceToInt, Int64.reduceToInt] at b3 b7 c9 ⊢); omega)) | (refine Eq.trans (cIf_f ?_) ?_; · first | assumption | ((try simp only [inR, inS, i3_lt, i3_le, i3_eq, i6_lt, i6_le, Int32.toInt_toInt64, lg_cmp_lt, lg_cmp_gt, lg_cmp_ge, lg_cmp_le, Int32.reduceToInt, Int64.reduceToInt] at b3 b7 c9 ⊢); omega)))); first | rfl | (exfalso; ((try simp only [inR, inS, i3_lt, i3_le, i3_eq, i6_lt, i6_le, Int32.toInt_toInt64, lg_cmp_lt, lg_cmp_gt, lg_cmp_ge, lg_cmp_le, Int32.reduceToInt, Int64.reduceToInt] at b3 b7 c9); omega)), by rw [ht]; exact hP9, hD9⟩, hS.F ht⟩) hS.2.2 dX9_wished_35
      · refine lv_iload_n hx hb dX9_wished_20 rfl (lv_at hl 3 rfl) ?_
        refine lv_iconst (v := 1) hx hb dX9_wished_21 (by decide) ?_
        refine lv_aload_n hx hb dX9_wished_22 rfl (lv_at hl 0 rfl) ?_
        refine va_get (D := G.1) (ci := 5) (v := .ref pp) (C := RX9) (T := TX9) (N := 5) hx hb hts (fun _ h => List.mem_cons_of_mem _ (List.mem_append_left _ (List.mem_append_left _ (List.mem_append_left _ (List.mem_append_left _ (List.mem_append_right _ h)))))) hown E.K hP 0 rfl rfl 1 (by decide) (hts (.fieldLink RX9 19 "LastMap" "papers" "LLastMap$Papers;") (by decide +kernel)) (fun _ h9 => h9) rfl dX9_wished_23 ?_
        refine va_get (D := G.1) (ci := 1) (v := .int 6) (C := RX3) (T := TX3) (N := 6) hx hb hts (fun _ h => List.mem_cons_of_mem _ (List.mem_append_left _ (List.mem_append_left _ (List.mem_append_left _ (List.mem_append_right _ h))))) hown E.K hP 5 rfl rfl 0 (by decide) (hts (.fieldLink RX9 27 "LastMap$Papers" "siteCount" "I") (by decide +kernel)) (fun _ h9 => h9) rfl dX9_wished_26 ?_
        refine lv_ishl hx hb dX9_wished_29 ?_
        refine lv_topi (fun x10 ex10 => ?_)
        obtain rfl : x10 = 64 := by rw [ex10]; decide
        refine lv_icmp_lt (tgt := 36) hx hb dX9_wished_30 (by decide) (fun c11 => ?_) (fun c11 => ?_)
        · refine lv_aload_n hx hb dX9_wished_36 rfl (lv_at hl 0 rfl) ?_
          refine lv_iload_n hx hb dX9_wished_37 rfl (lv_at hl 1 rfl) ?_
          refine ca_iR (va_runV (As := [.int p0]) (rest := []) ⟨hx, hb, hml, hown, hts⟩ (c_isTold l G H.size h0 pad pp im .null .null ac ak 6 0 1 0 p0) (cwV 1 hts gX9_wished_X9_isTold rfl rfl rfl (by decide +kernel) ⟨by decide +kernel, by decide +kernel⟩) (pre_V E hP hD hS hA [0, 5] (by decide) rfl 0 5 rfl rfl) rfl rfl hl.1 rfl (lv_room (Nat.le_of_ble_eq_true rfl)) dX9_wished_38 ⟨by decide +kernel, by decide +kernel⟩) hS hP hD hA [0, 5] rfl (fun r13 _ H locs w12 hP hS => ?_)
          rcases w12 with ⟨rfl, b14⟩ | ⟨rfl, b14⟩
          · exact absurd b14 (not_told0 _)
          · refine lv_if_ne (tgt := 47) hx hb dX9_wished_41 (by decide) (fun c15 => False.elim (by revert c15; decide)) (fun _ => ?_)
            refine lv_bipush (v := (-3)) hx hb dX9_wished_44 (by decide) ?_
            have hP9 := hP.sub (ws' := []) [] rfl
            have hD9 := hD.sub (ws' := []) [] (by decide) rfl
            exact W.iret (v := (-3)) hx hb hr (fun t ht hW => ⟨⟨(-3), (), rfl, by dsimp only; symm; unfold sp_wished; (repeat (first | (refine Eq.trans (cIf_t ?_) ?_; · first | assumption | ((try simp only [inR, inS, i3_lt, i3_le, i3_eq, i6_lt, i6_le, Int32.toInt_toInt64, lg_cmp_lt, lg_cmp_gt, lg_cmp_ge, lg_cmp_le, Int32.reduceToInt, Int64.reduceToInt] at b3 b7 c9 c11 b14 ⊢); omega)) | (refine Eq.trans (cIf_f ?_) ?_; · first | assumption | ((try simp only [inR, inS, i3_lt, i3_le, i3_eq, i6_lt, i6_le, Int32.toInt_toInt64, lg_cmp_lt, lg_cmp_gt, lg_cmp_ge, lg_cmp_le, Int32.reduceToInt, Int64.reduceToInt] at b3 b7 c9 c11 b14 ⊢); omega)))); first | rfl | (exfalso; ((try simp only [inR, inS, i3_lt, i3_le, i3_eq, i6_lt, i6_le, Int32.toInt_toInt64, lg_cmp_lt, lg_cmp_gt, lg_cmp_ge, lg_cmp_le, Int32.reduceToInt, Int64.reduceToInt] at b3 b7 c9 c11 b14); omega)), by rw [ht]; exact hP9, hD9⟩, hS.F ht⟩) hS.2.2 dX9_wished_46
        · refine lv_bipush (v := (-2)) hx hb dX9_wished_33 (by decide) ?_
          have hP9 := hP.sub (ws' := []) [] rfl
          have hD9 := hD.sub (ws' := []) [] (by decide) rfl
          exact W.iret (v := (-2)) hx hb hr (fun t ht hW => ⟨⟨(-2), (), rfl, by dsimp only; symm; unfold sp_wished; (repeat (first | (refine Eq.trans (cIf_t ?_) ?_; · first | assumption | ((try simp only [inR, inS, i3_lt, i3_le, i3_eq, i6_lt, i6_le, Int32.toInt_toInt64, lg_cmp_lt, lg_cmp_gt, lg_cmp_ge, lg_cmp_le, Int32.reduceToInt, Int64.reduceToInt] at b3 b7 c9 c11 ⊢); omega)) | (refine Eq.trans (cIf_f ?_) ?_; · first | assumption | ((try simp only [inR, inS, i3_lt, i3_le, i3_eq, i6_lt, i6_le, Int32.toInt_toInt64, lg_cmp_lt, lg_cmp_gt, lg_cmp_ge, lg_cmp_le, Int32.reduceToInt, Int64.reduceToInt] at b3 b7 c9 c11 ⊢); omega)))); first | rfl | (exfalso; ((try simp only [inR, inS, i3_lt, i3_le, i3_eq, i6_lt, i6_le, Int32.toInt_toInt64, lg_cmp_lt, lg_cmp_gt, lg_cmp_ge, lg_cmp_le, Int32.reduceToInt, Int64.reduceToInt] at b3 b7 c9 c11); omega)), by rw [ht]; exact hP9, hD9⟩, hS.F ht⟩) hS.2.2 dX9_wished_35
    · refine lv_if_ne (tgt := 16) hx hb dX9_wished_11 (by decide) (fun c16 => False.elim (by revert c16; decide)) (fun _ => ?_)
      refine lv_iconst (v := (-1)) hx hb dX9_wished_14 (by decide) ?_
      have hP9 := hP.sub (ws' := []) [] rfl
      have hD9 := hD.sub (ws' := []) [] (by decide) rfl
      exact W.iret (v := (-1)) hx hb hr (fun t ht hW => ⟨⟨(-1), (), rfl, by dsimp only; symm; unfold sp_wished; (repeat (first | (refine Eq.trans (cIf_t ?_) ?_; · first | assumption | ((try simp only [inR, inS, i3_lt, i3_le, i3_eq, i6_lt, i6_le, Int32.toInt_toInt64, lg_cmp_lt, lg_cmp_gt, lg_cmp_ge, lg_cmp_le, Int32.reduceToInt, Int64.reduceToInt] at b3 b7 ⊢); omega)) | (refine Eq.trans (cIf_f ?_) ?_; · first | assumption | ((try simp only [inR, inS, i3_lt, i3_le, i3_eq, i6_lt, i6_le, Int32.toInt_toInt64, lg_cmp_lt, lg_cmp_gt, lg_cmp_ge, lg_cmp_le, Int32.reduceToInt, Int64.reduceToInt] at b3 b7 ⊢); omega)))); first | rfl | (exfalso; ((try simp only [inR, inS, i3_lt, i3_le, i3_eq, i6_lt, i6_le, Int32.toInt_toInt64, lg_cmp_lt, lg_cmp_gt, lg_cmp_ge, lg_cmp_le, Int32.reduceToInt, Int64.reduceToInt] at b3 b7); omega)), by rw [ht]; exact hP9, hD9⟩, hS.F ht⟩) hS.2.2 dX9_wished_15
  · refine lv_if_eq (tgt := 14) hx hb dX9_wished_4 (by decide) (fun _ => ?_) (fun c17 => False.elim (by revert c17; decide))
    refine lv_iconst (v := (-1)) hx hb dX9_wished_14 (by decide) ?_
    have hP9 := hP.sub (ws' := []) [] rfl
    have hD9 := hD.sub (ws' := []) [] (by decide) rfl
    exact W.iret (v := (-1)) hx hb hr (fun t ht hW => ⟨⟨(-1), (), rfl, by dsimp only; symm; unfold sp_wished; (repeat (first | (refine Eq.trans (cIf_t ?_) ?_; · first | assumption | ((try simp only [inR, inS, i3_lt, i3_le, i3_eq, i6_lt, i6_le, Int32.toInt_toInt64, lg_cmp_lt, lg_cmp_gt, lg_cmp_ge, lg_cmp_le, Int32.reduceToInt, Int64.reduceToInt] at b3 ⊢); omega)) | (refine Eq.trans (cIf_f ?_) ?_; · first | assumption | ((try simp only [inR, inS, i3_lt, i3_le, i3_eq, i6_lt, i6_le, Int32.toInt_toInt64, lg_cmp_lt, lg_cmp_gt, lg_cmp_ge, lg_cmp_le, Int32.reduceToInt, Int64.reduceToInt] at b3 ⊢); omega)))); first | rfl | (exfalso; ((try simp only [inR, inS, i3_lt, i3_le, i3_eq, i6_lt, i6_le, Int32.toInt_toInt64, lg_cmp_lt, lg_cmp_gt, lg_cmp_ge, lg_cmp_le, Int32.reduceToInt, Int64.reduceToInt] at b3); omega)), by rw [ht]; exact hP9, hD9⟩, hS.F ht⟩) hS.2.2 dX9_wished_15

set_option maxHeartbeats 1000000 in
set_option maxRecDepth 100000 in
theorem f_holds (l : Launch) (G : Gy) (sz : Nat) (h0 : Nat) (pad : Nat) (pp : Nat) (im : Nat) (sg : Nat) (sl : Nat) (ac : Nat) (ak : Nat) (fk : Nat → Int32) (p0 : Int32) (p1 : Int32) (hk : ∀ j : Nat, j < 4 → fk j = 15) : Ci l G yX9_holds wsX9_holds ({ frames := 1, cells := 0, slots := 0, locals := 21 }) [.ref h0, .int p0, .int p1] [(h0, .inr (5, [.ref pad, .ref pp, .ref im, .null, .null])), (im, .inl (gP G, 2, .inr (.inr (.inr (.inr (fun _ => none)))))), (pad, .inr (0, [.ref sg, .ref sl, .int 0])), (sg, .inl (gI G, 40, .inl (fun _ => 0))), (sl, .inl (gI G, 10, .inl (fun _ => 0))), (pp, .inr (1, [.int 6, .int 0, .int 1, .int 0, .ref ac, .ref ak])), (ac, .inl (gI G, 6, .inl (fun _ => 0))), (ak, .inl (gI G, 4, .inl fk))] sz (fun (r : Int32) (_ : Unit) => r = sp_holds p0 p1) (fun (_ : Unit) => []) 0 0 := by
  refine Met.ofW (cc := cX9_holds) (maxL := 6) (ret := (some .int)) (by decide) rfl ?_
  intro p e s m args below meth c s₁ B hml hv
  obtain ⟨rfl, hsz, hP, hD0, E0⟩ := hv
  have hx := B.exec
  have hb := B.bytes
  have hr := B.returns
  have hts := atoms_spec (ws := wsX9_holds) B.pre
  have hown : s.vm.findClass RX9 = some m.cls := findClass_of_methodNamed B.named
  have hlocks := B.notSynchronized
  subst hsz
  have hD := hD0.self (sz := s.heap.size)
  generalize hAe : va_A [(h0, .inr (5, [.ref pad, .ref pp, .ref im, .null, .null])), (im, .inl (gP G, 2, .inr (.inr (.inr (.inr (fun _ => none)))))), (pad, .inr (0, [.ref sg, .ref sl, .int 0])), (sg, .inl (gI G, 40, .inl (fun _ => 0))), (sl, .inl (gI G, 10, .inl (fun _ => 0))), (pp, .inr (1, [.int 6, .int 0, .int 1, .int 0, .ref ac, .ref ak])), (ac, .inl (gI G, 6, .inl (fun _ => 0))), (ak, .inl (gI G, 4, .inl fk))] s.heap.size = A at hD E0 ⊢
  have E : EV G A s s.heap := E0
  have hA : ∀ q : Nat, s.heap.size ≤ q → A q := fun q h => by rw [← hAe]; exact Or.inr h
  have hS : va_S A s.heap s.heap [] := va_S.rf
  have hl := lv_entry ([.ref h0, .int p0, .int p1]) (n := 6) (Nat.le_of_ble_eq_true rfl)
  rw [lg_entry_eq]
  generalize (lg_sl ([.ref h0, .int p0, .int p1]) ++ List.replicate (6 - (lg_sl ([.ref h0, .int p0, .int p1])).length) Slot.unset).toArray = ls at hl ⊢
  have hl : lv_has ls 6 [(0, .ref h0), (1, .int p0), (2, .int p1)] := hl
  have hP : va_P G.1 vwCl [(h0, .inr (5, [.ref pad, .ref pp, .ref im, .null, .null])), (im, .inl (gP G, 2, .inr (.inr (.inr (.inr (fun _ => none)))))), (pad, .inr (0, [.ref sg, .ref sl, .int 0])), (sg, .inl (gI G, 40, .inl (fun _ => 0))), (sl, .inl (gI G, 10, .inl (fun _ => 0))), (pp, .inr (1, [.int 6, .int 0, .int 1, .int 0, .ref ac, .ref ak])), (ac, .inl (gI G, 6, .inl (fun _ => 0))), (ak, .inl (gI G, 4, .inl fk))] s.heap := hP
  refine lv_iload_n hx hb dX9_holds_0 rfl (lv_at hl 2 rfl) ?_
  refine lv_iconst (v := (-1)) hx hb dX9_holds_1 (by decide) ?_
  refine lv_icmp_eq (tgt := 15) hx hb dX9_holds_2 (by decide) (fun c1 => ?_) (fun c1 => ?_)
  · refine lv_iload_n hx hb dX9_holds_15 rfl (lv_at hl 1 rfl) ?_
    refine ca_iR (va_runS (As := [.int p0]) (rest := []) ⟨hx, hb, hml, hown, hts⟩ (c_isSet l G s.heap.size p0) (va_cwS 1 hts gX9_holds_X9_isSet rfl rfl rfl (by decide +kernel) ⟨by decide +kernel, by decide +kernel⟩) (pre_S E hP hD hS hA [] (by decide) rfl) rfl rfl hl.1 rfl (lv_room (Nat.le_of_ble_eq_true rfl)) dX9_holds_16 ⟨by decide +kernel, by decide +kernel⟩) hS hP hD hA [] rfl (fun r3 _ H locs w2 hP hS => ?_)
    rcases w2 with ⟨rfl, b4⟩ | ⟨rfl, b4⟩
    · refine lv_if_ne (tgt := 25) hx hb dX9_holds_19 (by decide) (fun _ => ?_) (fun c5 => False.elim (by revert c5; decide))
      refine lv_aload_n hx hb dX9_holds_25 rfl (lv_at hl 0 rfl) ?_
      refine lv_iload_n hx hb dX9_holds_26 rfl (lv_at hl 1 rfl) ?_
      refine ca_iR (va_runV (As := [.int p0]) (rest := []) ⟨hx, hb, hml, hown, hts⟩ (c_areTold l G H.size h0 pad pp im .null .null ac ak 6 0 1 0 p0) (cwV 1 hts gX9_holds_X9_areTold rfl rfl rfl (by decide +kernel) ⟨by decide +kernel, by decide +kernel⟩) (pre_V E hP hD hS hA [0, 5] (by decide) rfl 0 5 rfl rfl) rfl rfl hl.1 rfl (lv_room (Nat.le_of_ble_eq_true rfl)) dX9_holds_27 ⟨by decide +kernel, by decide +kernel⟩) hS hP hD hA [0, 5] rfl (fun r7 _ H locs w6 hP hS => ?_)
      rcases w6 with ⟨rfl, b8⟩ | ⟨rfl, b8⟩
      · exact absurd b8 (not_all0 _ (by first | assumption | ((try simp only [inR, inS, i3_lt, i3_le, i3_eq, i6_lt, i6_le, Int32.toInt_toInt64, lg_cmp_lt, lg_cmp_gt, lg_cmp_ge, lg_cmp_le, Int32.reduceToInt, Int64.reduceToInt] at c1 b4 ⊢); omega)))
      · refine lv_if_ne (tgt := 36) hx hb dX9_holds_30 (by decide) (fun c9 => False.elim (by revert c9; decide)) (fun _ => ?_)
        refine lv_bipush (v := (-3)) hx hb dX9_holds_33 (by decide) ?_
        have hP9 := hP.sub (ws' := []) [] rfl
        have hD9 := hD.sub (ws' := []) [] (by decide) rfl
        exact W.iret (v := (-3)) hx hb hr (fun t ht hW => ⟨⟨(-3), (), rfl, by dsimp only; symm; unfold sp_holds; (repeat (first | (refine Eq.trans (cIf_t ?_) ?_; · first | assumption | ((try simp only [inR, inS, i3_lt, i3_le, i3_eq, i6_lt, i6_le, Int32.toInt_toInt64, lg_cmp_lt, lg_cmp_gt, lg_cmp_ge, lg_cmp_le, Int32.reduceToInt, Int64.reduceToInt] at c1 b4 b8 ⊢); omega)) | (refine Eq.trans (cIf_f ?_) ?_; · first | assumption | ((try simp only [inR, inS, i3_lt, i3_le, i3_eq, i6_lt, i6_le, Int32.toInt_toInt64, lg_cmp_lt, lg_cmp_gt, lg_cmp_ge, lg_cmp_le, Int32.reduceToInt, Int64.reduceToInt] at c1 b4 b8 ⊢); omega)))); first | rfl | (exfalso; ((try simp only [inR, inS, i3_lt, i3_le, i3_eq, i6_lt, i6_le, Int32.toInt_toInt64, lg_cmp_lt, lg_cmp_gt, lg_cmp_ge, lg_cmp_le, Int32.reduceToInt, Int64.reduceToInt] at c1 b4 b8); omega)), by rw [ht]; exact hP9, hD9⟩, hS.F ht⟩) hS.2.2 dX9_holds_35
    · refine lv_if_ne (tgt := 25) hx hb dX9_holds_19 (by decide) (fun c10 => False.elim (by revert c10; decide)) (fun _ => ?_)
      refine lv_bipush (v := (-2)) hx hb dX9_holds_22 (by decide) ?_
      have hP9 := hP.sub (ws' := []) [] rfl
      have hD9 := hD.sub (ws' := []) [] (by decide) rfl
      exact W.iret (v := (-2)) hx hb hr (fun t ht hW => ⟨⟨(-2), (), rfl, by dsimp only; symm; unfold sp_holds; (repeat (first | (refine Eq.trans (cIf_t ?_) ?_; · first | assumption | ((try simp only [inR, inS, i3_lt, i3_le, i3_eq, i6_lt, i6_le, Int32.toInt_toInt64, lg_cmp_lt, lg_cmp_gt, lg_cmp_ge, lg_cmp_le, Int32.reduceToInt, Int64.reduceToInt] at c1 b4 ⊢); omega)) | (refine Eq.trans (cIf_f ?_) ?_; · first | assumption | ((try simp only [inR, inS, i3_lt, i3_le, i3_eq, i6_lt, i6_le, Int32.toInt_toInt64, lg_cmp_lt, lg_cmp_gt, lg_cmp_ge, lg_cmp_le, Int32.reduceToInt, Int64.reduceToInt] at c1 b4 ⊢); omega)))); first | rfl | (exfalso; ((try simp only [inR, inS, i3_lt, i3_le, i3_eq, i6_lt, i6_le, Int32.toInt_toInt64, lg_cmp_lt, lg_cmp_gt, lg_cmp_ge, lg_cmp_le, Int32.reduceToInt, Int64.reduceToInt] at c1 b4); omega)), by rw [ht]; exact hP9, hD9⟩, hS.F ht⟩) hS.2.2 dX9_holds_24
  · refine lv_aload_n hx hb dX9_holds_5 rfl (lv_at hl 0 rfl) ?_
    refine lv_iload_n hx hb dX9_holds_6 rfl (lv_at hl 2 rfl) ?_
    refine ca_iR (va_runV (As := [.int p1]) (rest := []) ⟨hx, hb, hml, hown, hts⟩ (c_isSite l G s.heap.size h0 pad pp im .null .null ac ak 6 0 1 0 p1) (cwV 1 hts gX9_holds_X9_isSite rfl rfl rfl (by decide +kernel) ⟨by decide +kernel, by decide +kernel⟩) (pre_V E hP hD hS hA [0, 5] (by decide) rfl 0 5 rfl rfl) rfl rfl hl.1 rfl (lv_room (Nat.le_of_ble_eq_true rfl)) dX9_holds_7 ⟨by decide +kernel, by decide +kernel⟩) hS hP hD hA [0, 5] rfl (fun r12 _ H locs w11 hP hS => ?_)
    rcases w11 with ⟨rfl, b13⟩ | ⟨rfl, b13⟩
    · refine lv_if_ne (tgt := 15) hx hb dX9_holds_10 (by decide) (fun _ => ?_) (fun c14 => False.elim (by revert c14; decide))
      refine lv_iload_n hx hb dX9_holds_15 rfl (lv_at hl 1 rfl) ?_
      refine ca_iR (va_runS (As := [.int p0]) (rest := []) ⟨hx, hb, hml, hown, hts⟩ (c_isSet l G H.size p0) (va_cwS 1 hts gX9_holds_X9_isSet rfl rfl rfl (by decide +kernel) ⟨by decide +kernel, by decide +kernel⟩) (pre_S E hP hD hS hA [] (by decide) rfl) rfl rfl hl.1 rfl (lv_room (Nat.le_of_ble_eq_true rfl)) dX9_holds_16 ⟨by decide +kernel, by decide +kernel⟩) hS hP hD hA [] rfl (fun r16 _ H locs w15 hP hS => ?_)
      rcases w15 with ⟨rfl, b17⟩ | ⟨rfl, b17⟩
      · refine lv_if_ne (tgt := 25) hx hb dX9_holds_19 (by decide) (fun _ => ?_) (fun c18 => False.elim (by revert c18; decide))
        refine lv_aload_n hx hb dX9_holds_25 rfl (lv_at hl 0 rfl) ?_
        refine lv_iload_n hx hb dX9_holds_26 rfl (lv_at hl 1 rfl) ?_
        refine ca_iR (va_runV (As := [.int p0]) (rest := []) ⟨hx, hb, hml, hown, hts⟩ (c_areTold l G H.size h0 pad pp im .null .null ac ak 6 0 1 0 p0) (cwV 1 hts gX9_holds_X9_areTold rfl rfl rfl (by decide +kernel) ⟨by decide +kernel, by decide +kernel⟩) (pre_V E hP hD hS hA [0, 5] (by decide) rfl 0 5 rfl rfl) rfl rfl hl.1 rfl (lv_room (Nat.le_of_ble_eq_true rfl)) dX9_holds_27 ⟨by decide +kernel, by decide +kernel⟩) hS hP hD hA [0, 5] rfl (fun r20 _ H locs w19 hP hS => ?_)
        rcases w19 with ⟨rfl, b21⟩ | ⟨rfl, b21⟩
        · exact absurd b21 (not_all0 _ (by first | assumption | ((try simp only [inR, inS, i3_lt, i3_le, i3_eq, i6_lt, i6_le, Int32.toInt_toInt64, lg_cmp_lt, lg_cmp_gt, lg_cmp_ge, lg_cmp_le, Int32.reduceToInt, Int64.reduceToInt] at c1 b13 b17 ⊢); omega)))
        · refine lv_if_ne (tgt := 36) hx hb dX9_holds_30 (by decide) (fun c22 => False.elim (by revert c22; decide)) (fun _ => ?_)
          refine lv_bipush (v := (-3)) hx hb dX9_holds_33 (by decide) ?_
          have hP9 := hP.sub (ws' := []) [] rfl
          have hD9 := hD.sub (ws' := []) [] (by decide) rfl
          exact W.iret (v := (-3)) hx hb hr (fun t ht hW => ⟨⟨(-3), (), rfl, by dsimp only; symm; unfold sp_holds; (repeat (first | (refine Eq.trans (cIf_t ?_) ?_; · first | assumption | ((try simp only [inR, inS, i3_lt, i3_le, i3_eq, i6_lt, i6_le, Int32.toInt_toInt64, lg_cmp_lt, lg_cmp_gt, lg_cmp_ge, lg_cmp_le, Int32.reduceToInt, Int64.reduceToInt] at c1 b13 b17 b21 ⊢); omega)) | (refine Eq.trans (cIf_f ?_) ?_; · first | assumption | ((try simp only [inR, inS, i3_lt, i3_le, i3_eq, i6_lt, i6_le, Int32.toInt_toInt64, lg_cmp_lt, lg_cmp_gt, lg_cmp_ge, lg_cmp_le, Int32.reduceToInt, Int64.reduceToInt] at c1 b13 b17 b21 ⊢); omega)))); first | rfl | (exfalso; ((try simp only [inR, inS, i3_lt, i3_le, i3_eq, i6_lt, i6_le, Int32.toInt_toInt64, lg_cmp_lt, lg_cmp_gt, lg_cmp_ge, lg_cmp_le, Int32.reduceToInt, Int64.reduceToInt] at c1 b13 b17 b21); omega)), by rw [ht]; exact hP9, hD9⟩, hS.F ht⟩) hS.2.2 dX9_holds_35
      · refine lv_if_ne (tgt := 25) hx hb dX9_holds_19 (by decide) (fun c23 => False.elim (by revert c23; decide)) (fun _ => ?_)
        refine lv_bipush (v := (-2)) hx hb dX9_holds_22 (by decide) ?_
        have hP9 := hP.sub (ws' := []) [] rfl
        have hD9 := hD.sub (ws' := []) [] (by decide) rfl
        exact W.iret (v := (-2)) hx hb hr (fun t ht hW => ⟨⟨(-2), (), rfl, by dsimp only; symm; unfold sp_holds; (repeat (first | (refine Eq.trans (cIf_t ?_) ?_; · first | assumption | ((try simp only [inR, inS, i3_lt, i3_le, i3_eq, i6_lt, i6_le, Int32.toInt_toInt64, lg_cmp_lt, lg_cmp_gt, lg_cmp_ge, lg_cmp_le, Int32.reduceToInt, Int64.reduceToInt] at c1 b13 b17 ⊢); omega)) | (refine Eq.trans (cIf_f ?_) ?_; · first | assumption | ((try simp only [inR, inS, i3_lt, i3_le, i3_eq, i6_lt, i6_le, Int32.toInt_toInt64, lg_cmp_lt, lg_cmp_gt, lg_cmp_ge, lg_cmp_le, Int32.reduceToInt, Int64.reduceToInt] at c1 b13 b17 ⊢); omega)))); first | rfl | (exfalso; ((try simp only [inR, inS, i3_lt, i3_le, i3_eq, i6_lt, i6_le, Int32.toInt_toInt64, lg_cmp_lt, lg_cmp_gt, lg_cmp_ge, lg_cmp_le, Int32.reduceToInt, Int64.reduceToInt] at c1 b13 b17); omega)), by rw [ht]; exact hP9, hD9⟩, hS.F ht⟩) hS.2.2 dX9_holds_24
    · refine lv_if_ne (tgt := 15) hx hb dX9_holds_10 (by decide) (fun c24 => False.elim (by revert c24; decide)) (fun _ => ?_)
      refine lv_iconst (v := (-1)) hx hb dX9_holds_13 (by decide) ?_
      have hP9 := hP.sub (ws' := []) [] rfl
      have hD9 := hD.sub (ws' := []) [] (by decide) rfl
      exact W.iret (v := (-1)) hx hb hr (fun t ht hW => ⟨⟨(-1), (), rfl, by dsimp only; symm; unfold sp_holds; (repeat (first | (refine Eq.trans (cIf_t ?_) ?_; · first | assumption | ((try simp only [inR, inS, i3_lt, i3_le, i3_eq, i6_lt, i6_le, Int32.toInt_toInt64, lg_cmp_lt, lg_cmp_gt, lg_cmp_ge, lg_cmp_le, Int32.reduceToInt, Int64.reduceToInt] at c1 b13 ⊢); omega)) | (refine Eq.trans (cIf_f ?_) ?_; · first | assumption | ((try simp only [inR, inS, i3_lt, i3_le, i3_eq, i6_lt, i6_le, Int32.toInt_toInt64, lg_cmp_lt, lg_cmp_gt, lg_cmp_ge, lg_cmp_le, Int32.reduceToInt, Int64.reduceToInt] at c1 b13 ⊢); omega)))); first | rfl | (exfalso; ((try simp only [inR, inS, i3_lt, i3_le, i3_eq, i6_lt, i6_le, Int32.toInt_toInt64, lg_cmp_lt, lg_cmp_gt, lg_cmp_ge, lg_cmp_le, Int32.reduceToInt, Int64.reduceToInt] at c1 b13); omega)), by rw [ht]; exact hP9, hD9⟩, hS.F ht⟩) hS.2.2 dX9_holds_14

set_option maxHeartbeats 1000000 in
set_option maxRecDepth 100000 in
theorem f_spades (l : Launch) (G : Gy) (sz : Nat) (h0 : Nat) (pad : Nat) (pp : Nat) (im : Nat) (sg : Nat) (sl : Nat) (ac : Nat) (ak : Nat) (fk : Nat → Int32) (p0 : Int32) (hk : ∀ j : Nat, j < 4 → fk j = 15) : Ci l G yX9_spades wsX9_spades ({ frames := 0, cells := 0, slots := 0, locals := 0 }) [.ref h0, .int p0] [(h0, .inr (5, [.ref pad, .ref pp, .ref im, .null, .null])), (im, .inl (gP G, 2, .inr (.inr (.inr (.inr (fun _ => none)))))), (pad, .inr (0, [.ref sg, .ref sl, .int 0])), (sg, .inl (gI G, 40, .inl (fun _ => 0))), (sl, .inl (gI G, 10, .inl (fun _ => 0))), (pp, .inr (1, [.int 6, .int 0, .int 1, .int 0, .ref ac, .ref ak])), (ac, .inl (gI G, 6, .inl (fun _ => 0))), (ak, .inl (gI G, 4, .inl fk))] sz (fun (r : Int32) (_ : Unit) => r = sp_spades p0) (fun (_ : Unit) => []) 0 0 := by
  refine Met.ofW (cc := cX9_spades) (maxL := 3) (ret := (some .int)) (by decide) rfl ?_
  intro p e s m args below meth c s₁ B hml hv
  obtain ⟨rfl, hsz, hP, hD0, E0⟩ := hv
  have hx := B.exec
  have hb := B.bytes
  have hr := B.returns
  have hts := atoms_spec (ws := wsX9_spades) B.pre
  have hown : s.vm.findClass RX9 = some m.cls := findClass_of_methodNamed B.named
  have hlocks := B.notSynchronized
  subst hsz
  have hD := hD0.self (sz := s.heap.size)
  generalize hAe : va_A [(h0, .inr (5, [.ref pad, .ref pp, .ref im, .null, .null])), (im, .inl (gP G, 2, .inr (.inr (.inr (.inr (fun _ => none)))))), (pad, .inr (0, [.ref sg, .ref sl, .int 0])), (sg, .inl (gI G, 40, .inl (fun _ => 0))), (sl, .inl (gI G, 10, .inl (fun _ => 0))), (pp, .inr (1, [.int 6, .int 0, .int 1, .int 0, .ref ac, .ref ak])), (ac, .inl (gI G, 6, .inl (fun _ => 0))), (ak, .inl (gI G, 4, .inl fk))] s.heap.size = A at hD E0 ⊢
  have E : EV G A s s.heap := E0
  have hA : ∀ q : Nat, s.heap.size ≤ q → A q := fun q h => by rw [← hAe]; exact Or.inr h
  have hS : va_S A s.heap s.heap [] := va_S.rf
  have hl := lv_entry ([.ref h0, .int p0]) (n := 3) (Nat.le_of_ble_eq_true rfl)
  rw [lg_entry_eq]
  generalize (lg_sl ([.ref h0, .int p0]) ++ List.replicate (3 - (lg_sl ([.ref h0, .int p0])).length) Slot.unset).toArray = ls at hl ⊢
  have hl : lv_has ls 3 [(0, .ref h0), (1, .int p0)] := hl
  have hP : va_P G.1 vwCl [(h0, .inr (5, [.ref pad, .ref pp, .ref im, .null, .null])), (im, .inl (gP G, 2, .inr (.inr (.inr (.inr (fun _ => none)))))), (pad, .inr (0, [.ref sg, .ref sl, .int 0])), (sg, .inl (gI G, 40, .inl (fun _ => 0))), (sl, .inl (gI G, 10, .inl (fun _ => 0))), (pp, .inr (1, [.int 6, .int 0, .int 1, .int 0, .ref ac, .ref ak])), (ac, .inl (gI G, 6, .inl (fun _ => 0))), (ak, .inl (gI G, 4, .inl fk))] s.heap := hP
  refine lv_iload_n hx hb dX9_spades_0 rfl (lv_at hl 1 rfl) ?_
  refine lv_iconst (v := 1) hx hb dX9_spades_1 (by decide) ?_
  refine lv_icmp_lt (tgt := 11) hx hb dX9_spades_2 (by decide) (fun c1 => ?_) (fun c1 => ?_)
  · refine lv_bipush (v := (-2)) hx hb dX9_spades_11 (by decide) ?_
    have hP9 := hP.sub (ws' := []) [] rfl
    have hD9 := hD.sub (ws' := []) [] (by decide) rfl
    exact W.iret (v := (-2)) hx hb hr (fun t ht hW => ⟨⟨(-2), (), rfl, by dsimp only; symm; unfold sp_spades; (repeat (first | (refine Eq.trans (cIf_t ?_) ?_; · first | assumption | ((try simp only [inR, inS, i3_lt, i3_le, i3_eq, i6_lt, i6_le, Int32.toInt_toInt64, lg_cmp_lt, lg_cmp_gt, lg_cmp_ge, lg_cmp_le, Int32.reduceToInt, Int64.reduceToInt] at c1 ⊢); omega)) | (refine Eq.trans (cIf_f ?_) ?_; · first | assumption | ((try simp only [inR, inS, i3_lt, i3_le, i3_eq, i6_lt, i6_le, Int32.toInt_toInt64, lg_cmp_lt, lg_cmp_gt, lg_cmp_ge, lg_cmp_le, Int32.reduceToInt, Int64.reduceToInt] at c1 ⊢); omega)))); first | rfl | (exfalso; ((try simp only [inR, inS, i3_lt, i3_le, i3_eq, i6_lt, i6_le, Int32.toInt_toInt64, lg_cmp_lt, lg_cmp_gt, lg_cmp_ge, lg_cmp_le, Int32.reduceToInt, Int64.reduceToInt] at c1); omega)), by rw [ht]; exact hP9, hD9⟩, hS.F ht⟩) hS.2.2 dX9_spades_13
  · refine lv_iload_n hx hb dX9_spades_5 rfl (lv_at hl 1 rfl) ?_
    refine lv_bipush (v := 6) hx hb dX9_spades_6 (by decide) ?_
    refine lv_icmp_le (tgt := 14) hx hb dX9_spades_8 (by decide) (fun c2 => ?_) (fun c2 => ?_)
    · refine lv_aload_n hx hb dX9_spades_14 rfl (lv_at hl 0 rfl) ?_
      refine va_get (D := G.1) (ci := 5) (v := .ref pp) (C := RX9) (T := TX9) (N := 5) hx hb hts (fun _ h => List.mem_cons_of_mem _ (List.mem_append_left _ (List.mem_append_right _ h))) hown E.K hP 0 rfl rfl 1 (by decide) (hts (.fieldLink RX9 19 "LastMap" "papers" "LLastMap$Papers;") (by decide +kernel)) (fun _ h9 => h9) rfl dX9_spades_15 ?_
      refine va_get (D := G.1) (ci := 1) (v := .int 1) (C := RX3) (T := TX3) (N := 6) hx hb hts (fun _ h => List.mem_cons_of_mem _ (List.mem_append_right _ h)) hown E.K hP 5 rfl rfl 2 (by decide) (hts (.fieldLink RX9 184 "LastMap$Papers" "spadeCount" "I") (by decide +kernel)) (fun _ h9 => h9) rfl dX9_spades_18 ?_
      refine lv_istore_n (lv' := [(2, .int 1), (0, .ref h0), (1, .int p0)]) hx hb dX9_spades_21 rfl hl (by decide) rfl (fun ls hl => ?_)
      refine lv_aload_n hx hb dX9_spades_22 rfl (lv_at hl 1 rfl) ?_
      refine va_get (D := G.1) (ci := 5) (v := .ref pp) (C := RX9) (T := TX9) (N := 5) hx hb hts (fun _ h => List.mem_cons_of_mem _ (List.mem_append_left _ (List.mem_append_right _ h))) hown E.K hP 0 rfl rfl 1 (by decide) (hts (.fieldLink RX9 19 "LastMap" "papers" "LLastMap$Papers;") (by decide +kernel)) (fun _ h9 => h9) rfl dX9_spades_23 ?_
      refine lv_iload_n hx hb dX9_spades_26 rfl (lv_at hl 2 rfl) ?_
      refine va_put (D := G.1) (ci := 1) (v := .int p0) (ty := .int) (C := RX3) (T := TX3) (N := 6) hx hb hts (fun _ h => List.mem_cons_of_mem _ (List.mem_append_right _ h)) tyX3 tyX3_ok nmX3 hown E.K hP hD hS 5 rfl rfl 2 (by decide) (hts (.fieldLink RX9 184 "LastMap$Papers" "spadeCount" "I") (by decide +kernel)) (fun _ h9 => h9) rfl (by decide +kernel) rfl rfl (Nat.le_of_ble_eq_true rfl) dX9_spades_27 (fun H locs hP hD hS => ?_)
      have hP : va_P G.1 vwCl [(h0, .inr (5, [.ref pad, .ref pp, .ref im, .null, .null])), (im, .inl (gP G, 2, .inr (.inr (.inr (.inr (fun _ => none)))))), (pad, .inr (0, [.ref sg, .ref sl, .int 0])), (sg, .inl (gI G, 40, .inl (fun _ => 0))), (sl, .inl (gI G, 10, .inl (fun _ => 0))), (pp, .inr (1, [.int 6, .int 0, .int p0, .int 0, .ref ac, .ref ak])), (ac, .inl (gI G, 6, .inl (fun _ => 0))), (ak, .inl (gI G, 4, .inl fk))] H := hP
      have hD : va_D A [(h0, .inr (5, [.ref pad, .ref pp, .ref im, .null, .null])), (im, .inl (gP G, 2, .inr (.inr (.inr (.inr (fun _ => none)))))), (pad, .inr (0, [.ref sg, .ref sl, .int 0])), (sg, .inl (gI G, 40, .inl (fun _ => 0))), (sl, .inl (gI G, 10, .inl (fun _ => 0))), (pp, .inr (1, [.int 6, .int 0, .int p0, .int 0, .ref ac, .ref ak])), (ac, .inl (gI G, 6, .inl (fun _ => 0))), (ak, .inl (gI G, 4, .inl fk))] := hD
      refine lv_iload_n hx hb dX9_spades_30 rfl (lv_at hl 0 rfl) ?_
      have hP9 := hP.sub (ws' := []) [] rfl
      have hD9 := hD.sub (ws' := []) [] (by decide) rfl
      exact W.iret (v := 1) hx hb hr (fun t ht hW => ⟨⟨1, (), rfl, by dsimp only; symm; unfold sp_spades; (repeat (first | (refine Eq.trans (cIf_t ?_) ?_; · first | assumption | ((try simp only [inR, inS, i3_lt, i3_le, i3_eq, i6_lt, i6_le, Int32.toInt_toInt64, lg_cmp_lt, lg_cmp_gt, lg_cmp_ge, lg_cmp_le, Int32.reduceToInt, Int64.reduceToInt] at c1 c2 ⊢); omega)) | (refine Eq.trans (cIf_f ?_) ?_; · first | assumption | ((try simp only [inR, inS, i3_lt, i3_le, i3_eq, i6_lt, i6_le, Int32.toInt_toInt64, lg_cmp_lt, lg_cmp_gt, lg_cmp_ge, lg_cmp_le, Int32.reduceToInt, Int64.reduceToInt] at c1 c2 ⊢); omega)))); first | rfl | (exfalso; ((try simp only [inR, inS, i3_lt, i3_le, i3_eq, i6_lt, i6_le, Int32.toInt_toInt64, lg_cmp_lt, lg_cmp_gt, lg_cmp_ge, lg_cmp_le, Int32.reduceToInt, Int64.reduceToInt] at c1 c2); omega)), by rw [ht]; exact hP9, hD9⟩, hS.F ht⟩) hS.2.2 dX9_spades_31
    · refine lv_bipush (v := (-2)) hx hb dX9_spades_11 (by decide) ?_
      have hP9 := hP.sub (ws' := []) [] rfl
      have hD9 := hD.sub (ws' := []) [] (by decide) rfl
      exact W.iret (v := (-2)) hx hb hr (fun t ht hW => ⟨⟨(-2), (), rfl, by dsimp only; symm; unfold sp_spades; (repeat (first | (refine Eq.trans (cIf_t ?_) ?_; · first | assumption | ((try simp only [inR, inS, i3_lt, i3_le, i3_eq, i6_lt, i6_le, Int32.toInt_toInt64, lg_cmp_lt, lg_cmp_gt, lg_cmp_ge, lg_cmp_le, Int32.reduceToInt, Int64.reduceToInt] at c1 c2 ⊢); omega)) | (refine Eq.trans (cIf_f ?_) ?_; · first | assumption | ((try simp only [inR, inS, i3_lt, i3_le, i3_eq, i6_lt, i6_le, Int32.toInt_toInt64, lg_cmp_lt, lg_cmp_gt, lg_cmp_ge, lg_cmp_le, Int32.reduceToInt, Int64.reduceToInt] at c1 c2 ⊢); omega)))); first | rfl | (exfalso; ((try simp only [inR, inS, i3_lt, i3_le, i3_eq, i6_lt, i6_le, Int32.toInt_toInt64, lg_cmp_lt, lg_cmp_gt, lg_cmp_ge, lg_cmp_le, Int32.reduceToInt, Int64.reduceToInt] at c1 c2); omega)), by rw [ht]; exact hP9, hD9⟩, hS.F ht⟩) hS.2.2 dX9_spades_13

set_option maxHeartbeats 1000000 in
set_option maxRecDepth 100000 in
theorem f_land (l : Launch) (G : Gy) (sz : Nat) (h0 : Nat) (pad : Nat) (pp : Nat) (im : Nat) (sg : Nat) (sl : Nat) (ac : Nat) (ak : Nat) (fk : Nat → Int32) (p0 : Int32) (hk : ∀ j : Nat, j < 4 → fk j = 15) : Ci l G yX9_land wsX9_land ({ frames := 2, cells := 0, slots := 0, locals := 42 }) [.ref h0, .int p0] [(h0, .inr (5, [.ref pad, .ref pp, .ref im, .null, .null])), (im, .inl (gP G, 2, .inr (.inr (.inr (.inr (fun _ => none)))))), (pad, .inr (0, [.ref sg, .ref sl, .int 0])), (sg, .inl (gI G, 40, .inl (fun _ => 0))), (sl, .inl (gI G, 10, .inl (fun _ => 0))), (pp, .inr (1, [.int 6, .int 0, .int 1, .int 0, .ref ac, .ref ak])), (ac, .inl (gI G, 6, .inl (fun _ => 0))), (ak, .inl (gI G, 4, .inl fk))] sz (fun (r : Int32) (_ : Unit) => r = sp_land p0) (fun (_ : Unit) => []) 0 0 := by
  refine Met.ofW (cc := cX9_land) (maxL := 2) (ret := (some .int)) (by decide) rfl ?_
  intro p e s m args below meth c s₁ B hml hv
  obtain ⟨rfl, hsz, hP, hD0, E0⟩ := hv
  have hx := B.exec
  have hb := B.bytes
  have hr := B.returns
  have hts := atoms_spec (ws := wsX9_land) B.pre
  have hown : s.vm.findClass RX9 = some m.cls := findClass_of_methodNamed B.named
  have hlocks := B.notSynchronized
  subst hsz
  have hD := hD0.self (sz := s.heap.size)
  generalize hAe : va_A [(h0, .inr (5, [.ref pad, .ref pp, .ref im, .null, .null])), (im, .inl (gP G, 2, .inr (.inr (.inr (.inr (fun _ => none)))))), (pad, .inr (0, [.ref sg, .ref sl, .int 0])), (sg, .inl (gI G, 40, .inl (fun _ => 0))), (sl, .inl (gI G, 10, .inl (fun _ => 0))), (pp, .inr (1, [.int 6, .int 0, .int 1, .int 0, .ref ac, .ref ak])), (ac, .inl (gI G, 6, .inl (fun _ => 0))), (ak, .inl (gI G, 4, .inl fk))] s.heap.size = A at hD E0 ⊢
  have E : EV G A s s.heap := E0
  have hA : ∀ q : Nat, s.heap.size ≤ q → A q := fun q h => by rw [← hAe]; exact Or.inr h
  have hS : va_S A s.heap s.heap [] := va_S.rf
  have hl := lv_entry ([.ref h0, .int p0]) (n := 2) (Nat.le_of_ble_eq_true rfl)
  rw [lg_entry_eq]
  generalize (lg_sl ([.ref h0, .int p0]) ++ List.replicate (2 - (lg_sl ([.ref h0, .int p0])).length) Slot.unset).toArray = ls at hl ⊢
  have hl : lv_has ls 2 [(0, .ref h0), (1, .int p0)] := hl
  have hP : va_P G.1 vwCl [(h0, .inr (5, [.ref pad, .ref pp, .ref im, .null, .null])), (im, .inl (gP G, 2, .inr (.inr (.inr (.inr (fun _ => none)))))), (pad, .inr (0, [.ref sg, .ref sl, .int 0])), (sg, .inl (gI G, 40, .inl (fun _ => 0))), (sl, .inl (gI G, 10, .inl (fun _ => 0))), (pp, .inr (1, [.int 6, .int 0, .int 1, .int 0, .ref ac, .ref ak])), (ac, .inl (gI G, 6, .inl (fun _ => 0))), (ak, .inl (gI G, 4, .inl fk))] s.heap := hP
  refine lv_aload_n hx hb dX9_land_0 rfl (lv_at hl 0 rfl) ?_
  refine lv_iload_n hx hb dX9_land_1 rfl (lv_at hl 1 rfl) ?_
  refine ca_iR (va_runV (As := [.int p0]) (rest := []) ⟨hx, hb, hml, hown, hts⟩ (c_isSite l G s.heap.size h0 pad pp im .null .null ac ak 6 0 1 0 p0) (cwV 1 hts gX9_land_X9_isSite rfl rfl rfl (by decide +kernel) ⟨by decide +kernel, by decide +kernel⟩) (pre_V E hP hD hS hA [0, 5] (by decide) rfl 0 5 rfl rfl) rfl rfl hl.1 rfl (lv_room (Nat.le_of_ble_eq_true rfl)) dX9_land_2 ⟨by decide +kernel, by decide +kernel⟩) hS hP hD hA [0, 5] rfl (fun r2 _ H locs w1 hP hS => ?_)
  rcases w1 with ⟨rfl, b3⟩ | ⟨rfl, b3⟩
  · refine lv_if_eq (tgt := 25) hx hb dX9_land_5 (by decide) (fun c4 => False.elim (by revert c4; decide)) (fun _ => ?_)
    refine lv_aload_n hx hb dX9_land_8 rfl (lv_at hl 0 rfl) ?_
    refine va_get (D := G.1) (ci := 5) (v := .ref pp) (C := RX9) (T := TX9) (N := 5) hx hb hts (fun _ h => List.mem_cons_of_mem _ (List.mem_append_left _ (List.mem_append_right _ h))) hown E.K hP 0 rfl rfl 1 (by decide) (hts (.fieldLink RX9 19 "LastMap" "papers" "LLastMap$Papers;") (by decide +kernel)) (fun _ h9 => h9) rfl dX9_land_9 ?_
    refine va_get (D := G.1) (ci := 1) (v := .int 0) (C := RX3) (T := TX3) (N := 6) hx hb hts (fun _ h => List.mem_cons_of_mem _ (List.mem_append_right _ h)) hown E.K hP 5 rfl rfl 3 (by decide) (hts (.fieldLink RX9 34 "LastMap$Papers" "ground" "I") (by decide +kernel)) (fun _ h9 => h9) rfl dX9_land_12 ?_
    refine lv_iload_n hx hb dX9_land_15 rfl (lv_at hl 1 rfl) ?_
    refine ca_iR (va_runS (As := [.int 0, .int p0]) (rest := []) ⟨hx, hb, hml, hown, hts⟩ (c_signAt l G H.size 0 p0) (va_cwS 2 hts gX9_land_X1_signAt rfl rfl rfl (by decide +kernel) ⟨by decide +kernel, by decide +kernel⟩) (pre_S E hP hD hS hA [] (by decide) rfl) rfl rfl hl.1 rfl (lv_room (Nat.le_of_ble_eq_true rfl)) dX9_land_16 ⟨by decide +kernel, by decide +kernel⟩) hS hP hD hA [] rfl (fun r6 _ H locs w5 hP hS => ?_)
    refine ca_iR (va_runS (As := [.int r6]) (rest := []) ⟨hx, hb, hml, hown, hts⟩ (c_written l G H.size r6) (va_cwS 1 hts gX9_land_X5_written rfl rfl rfl (by decide +kernel) ⟨by decide +kernel, by decide +kernel⟩) (pre_S E hP hD hS hA [] (by decide) rfl) rfl rfl hl.1 rfl (lv_room (Nat.le_of_ble_eq_true rfl)) dX9_land_19 ⟨by decide +kernel, by decide +kernel⟩) hS hP hD hA [] rfl (fun r8 _ H locs w7 hP hS => ?_)
    refine lv_goto (tgt := 26) hx hb dX9_land_22 (by decide) ?_
    have hP9 := hP.sub (ws' := []) [] rfl
    have hD9 := hD.sub (ws' := []) [] (by decide) rfl
    exact W.iret (v := r8) hx hb hr (fun t ht hW => ⟨⟨r8, (), rfl, by dsimp only; rw [w7, w5, sgn0]; rw [show wri 0 = 97 from cIf_t (by unfold inR; decide)]; symm; unfold sp_land; (repeat (first | (refine Eq.trans (cIf_t ?_) ?_; · first | assumption | ((try simp only [inR, inS, i3_lt, i3_le, i3_eq, i6_lt, i6_le, Int32.toInt_toInt64, lg_cmp_lt, lg_cmp_gt, lg_cmp_ge, lg_cmp_le, Int32.reduceToInt, Int64.reduceToInt] at b3 ⊢); omega)) | (refine Eq.trans (cIf_f ?_) ?_; · first | assumption | ((try simp only [inR, inS, i3_lt, i3_le, i3_eq, i6_lt, i6_le, Int32.toInt_toInt64, lg_cmp_lt, lg_cmp_gt, lg_cmp_ge, lg_cmp_le, Int32.reduceToInt, Int64.reduceToInt] at b3 ⊢); omega)))); first | rfl | (exfalso; ((try simp only [inR, inS, i3_lt, i3_le, i3_eq, i6_lt, i6_le, Int32.toInt_toInt64, lg_cmp_lt, lg_cmp_gt, lg_cmp_ge, lg_cmp_le, Int32.reduceToInt, Int64.reduceToInt] at b3); omega)), by rw [ht]; exact hP9, hD9⟩, hS.F ht⟩) hS.2.2 dX9_land_26
  · refine lv_if_eq (tgt := 25) hx hb dX9_land_5 (by decide) (fun _ => ?_) (fun c9 => False.elim (by revert c9; decide))
    refine lv_iconst (v := (-1)) hx hb dX9_land_25 (by decide) ?_
    have hP9 := hP.sub (ws' := []) [] rfl
    have hD9 := hD.sub (ws' := []) [] (by decide) rfl
    exact W.iret (v := (-1)) hx hb hr (fun t ht hW => ⟨⟨(-1), (), rfl, by dsimp only; symm; unfold sp_land; (repeat (first | (refine Eq.trans (cIf_t ?_) ?_; · first | assumption | ((try simp only [inR, inS, i3_lt, i3_le, i3_eq, i6_lt, i6_le, Int32.toInt_toInt64, lg_cmp_lt, lg_cmp_gt, lg_cmp_ge, lg_cmp_le, Int32.reduceToInt, Int64.reduceToInt] at b3 ⊢); omega)) | (refine Eq.trans (cIf_f ?_) ?_; · first | assumption | ((try simp only [inR, inS, i3_lt, i3_le, i3_eq, i6_lt, i6_le, Int32.toInt_toInt64, lg_cmp_lt, lg_cmp_gt, lg_cmp_ge, lg_cmp_le, Int32.reduceToInt, Int64.reduceToInt] at b3 ⊢); omega)))); first | rfl | (exfalso; ((try simp only [inR, inS, i3_lt, i3_le, i3_eq, i6_lt, i6_le, Int32.toInt_toInt64, lg_cmp_lt, lg_cmp_gt, lg_cmp_ge, lg_cmp_le, Int32.reduceToInt, Int64.reduceToInt] at b3); omega)), by rw [ht]; exact hP9, hD9⟩, hS.F ht⟩) hS.2.2 dX9_land_26

set_option maxHeartbeats 1000000 in
set_option maxRecDepth 100000 in
theorem f_years (l : Launch) (G : Gy) (sz : Nat) (h0 : Nat) (pad : Nat) (pp : Nat) (im : Nat) (sg : Nat) (sl : Nat) (ac : Nat) (ak : Nat) (fk : Nat → Int32) (p0 : Int32) (hk : ∀ j : Nat, j < 4 → fk j = 15) : Ci l G yX9_years wsX9_years ({ frames := 3, cells := 0, slots := 0, locals := 62 }) [.ref h0, .int p0] [(h0, .inr (5, [.ref pad, .ref pp, .ref im, .null, .null])), (im, .inl (gP G, 2, .inr (.inr (.inr (.inr (fun _ => none)))))), (pad, .inr (0, [.ref sg, .ref sl, .int 0])), (sg, .inl (gI G, 40, .inl (fun _ => 0))), (sl, .inl (gI G, 10, .inl (fun _ => 0))), (pp, .inr (1, [.int 6, .int 0, .int 1, .int 0, .ref ac, .ref ak])), (ac, .inl (gI G, 6, .inl (fun _ => 0))), (ak, .inl (gI G, 4, .inl fk))] sz (fun (r : Int32) (_ : Unit) => r = sp_years p0) (fun (_ : Unit) => []) 0 0 := by
  refine Met.ofW (cc := cX9_years) (maxL := 4) (ret := (some .int)) (by decide) rfl ?_
  intro p e s m args below meth c s₁ B hml hv
  obtain ⟨rfl, hsz, hP, hD0, E0⟩ := hv
  have hx := B.exec
  have hb := B.bytes
  have hr := B.returns
  have hts := atoms_spec (ws := wsX9_years) B.pre
  have hown : s.vm.findClass RX9 = some m.cls := findClass_of_methodNamed B.named
  have hlocks := B.notSynchronized
  subst hsz
  have hD := hD0.self (sz := s.heap.size)
  generalize hAe : va_A [(h0, .inr (5, [.ref pad, .ref pp, .ref im, .null, .null])), (im, .inl (gP G, 2, .inr (.inr (.inr (.inr (fun _ => none)))))), (pad, .inr (0, [.ref sg, .ref sl, .int 0])), (sg, .inl (gI G, 40, .inl (fun _ => 0))), (sl, .inl (gI G, 10, .inl (fun _ => 0))), (pp, .inr (1, [.int 6, .int 0, .int 1, .int 0, .ref ac, .ref ak])), (ac, .inl (gI G, 6, .inl (fun _ => 0))), (ak, .inl (gI G, 4, .inl fk))] s.heap.size = A at hD E0 ⊢
  have E : EV G A s s.heap := E0
  have hA : ∀ q : Nat, s.heap.size ≤ q → A q := fun q h => by rw [← hAe]; exact Or.inr h
  have hS : va_S A s.heap s.heap [] := va_S.rf
  have hl := lv_entry ([.ref h0, .int p0]) (n := 4) (Nat.le_of_ble_eq_true rfl)
  rw [lg_entry_eq]
  generalize (lg_sl ([.ref h0, .int p0]) ++ List.replicate (4 - (lg_sl ([.ref h0, .int p0])).length) Slot.unset).toArray = ls at hl ⊢
  have hl : lv_has ls 4 [(0, .ref h0), (1, .int p0)] := hl
  have hP : va_P G.1 vwCl [(h0, .inr (5, [.ref pad, .ref pp, .ref im, .null, .null])), (im, .inl (gP G, 2, .inr (.inr (.inr (.inr (fun _ => none)))))), (pad, .inr (0, [.ref sg, .ref sl, .int 0])), (sg, .inl (gI G, 40, .inl (fun _ => 0))), (sl, .inl (gI G, 10, .inl (fun _ => 0))), (pp, .inr (1, [.int 6, .int 0, .int 1, .int 0, .ref ac, .ref ak])), (ac, .inl (gI G, 6, .inl (fun _ => 0))), (ak, .inl (gI G, 4, .inl fk))] s.heap := hP
  refine lv_iload_n hx hb dX9_years_0 rfl (lv_at hl 1 rfl) ?_
  refine ca_iR (va_runS (As := [.int p0]) (rest := []) ⟨hx, hb, hml, hown, hts⟩ (c_isMap l G s.heap.size p0) (va_cwS 1 hts gX9_years_X9_isMap rfl rfl rfl (by decide +kernel) ⟨by decide +kernel, by decide +kernel⟩) (pre_S E hP hD hS hA [] (by decide) rfl) rfl rfl hl.1 rfl (lv_room (Nat.le_of_ble_eq_true rfl)) dX9_years_1 ⟨by decide +kernel, by decide +kernel⟩) hS hP hD hA [] rfl (fun r2 _ H locs w1 hP hS => ?_)
  rcases w1 with ⟨rfl, b3⟩ | ⟨rfl, b3⟩
  · refine lv_if_ne (tgt := 9) hx hb dX9_years_4 (by decide) (fun _ => ?_) (fun c4 => False.elim (by revert c4; decide))
    refine lv_aload_n hx hb dX9_years_9 rfl (lv_at hl 0 rfl) ?_
    refine lv_iload_n hx hb dX9_years_10 rfl (lv_at hl 1 rfl) ?_
    refine ca_iR (va_runV (As := [.int p0]) (rest := []) ⟨hx, hb, hml, hown, hts⟩ (c_isTold l G H.size h0 pad pp im .null .null ac ak 6 0 1 0 p0) (cwV 1 hts gX9_years_X9_isTold rfl rfl rfl (by decide +kernel) ⟨by decide +kernel, by decide +kernel⟩) (pre_V E hP hD hS hA [0, 5] (by decide) rfl 0 5 rfl rfl) rfl rfl hl.1 rfl (lv_room (Nat.le_of_ble_eq_true rfl)) dX9_years_11 ⟨by decide +kernel, by decide +kernel⟩) hS hP hD hA [0, 5] rfl (fun r6 _ H locs w5 hP hS => ?_)
    rcases w5 with ⟨rfl, b7⟩ | ⟨rfl, b7⟩
    · exact absurd b7 (not_told0 _)
    · refine lv_if_ne (tgt := 20) hx hb dX9_years_14 (by decide) (fun c8 => False.elim (by revert c8; decide)) (fun _ => ?_)
      refine lv_bipush (v := (-3)) hx hb dX9_years_17 (by decide) ?_
      have hP9 := hP.sub (ws' := []) [] rfl
      have hD9 := hD.sub (ws' := []) [] (by decide) rfl
      exact W.iret (v := (-3)) hx hb hr (fun t ht hW => ⟨⟨(-3), (), rfl, by dsimp only; symm; unfold sp_years; (repeat (first | (refine Eq.trans (cIf_t ?_) ?_; · first | assumption | ((try simp only [inR, inS, i3_lt, i3_le, i3_eq, i6_lt, i6_le, Int32.toInt_toInt64, lg_cmp_lt, lg_cmp_gt, lg_cmp_ge, lg_cmp_le, Int32.reduceToInt, Int64.reduceToInt] at b3 b7 ⊢); omega)) | (refine Eq.trans (cIf_f ?_) ?_; · first | assumption | ((try simp only [inR, inS, i3_lt, i3_le, i3_eq, i6_lt, i6_le, Int32.toInt_toInt64, lg_cmp_lt, lg_cmp_gt, lg_cmp_ge, lg_cmp_le, Int32.reduceToInt, Int64.reduceToInt] at b3 b7 ⊢); omega)))); first | rfl | (exfalso; ((try simp only [inR, inS, i3_lt, i3_le, i3_eq, i6_lt, i6_le, Int32.toInt_toInt64, lg_cmp_lt, lg_cmp_gt, lg_cmp_ge, lg_cmp_le, Int32.reduceToInt, Int64.reduceToInt] at b3 b7); omega)), by rw [ht]; exact hP9, hD9⟩, hS.F ht⟩) hS.2.2 dX9_years_19
  · refine lv_if_ne (tgt := 9) hx hb dX9_years_4 (by decide) (fun c9 => False.elim (by revert c9; decide)) (fun _ => ?_)
    refine lv_iconst (v := (-1)) hx hb dX9_years_7 (by decide) ?_
    have hP9 := hP.sub (ws' := []) [] rfl
    have hD9 := hD.sub (ws' := []) [] (by decide) rfl
    exact W.iret (v := (-1)) hx hb hr (fun t ht hW => ⟨⟨(-1), (), rfl, by dsimp only; symm; unfold sp_years; (repeat (first | (refine Eq.trans (cIf_t ?_) ?_; · first | assumption | ((try simp only [inR, inS, i3_lt, i3_le, i3_eq, i6_lt, i6_le, Int32.toInt_toInt64, lg_cmp_lt, lg_cmp_gt, lg_cmp_ge, lg_cmp_le, Int32.reduceToInt, Int64.reduceToInt] at b3 ⊢); omega)) | (refine Eq.trans (cIf_f ?_) ?_; · first | assumption | ((try simp only [inR, inS, i3_lt, i3_le, i3_eq, i6_lt, i6_le, Int32.toInt_toInt64, lg_cmp_lt, lg_cmp_gt, lg_cmp_ge, lg_cmp_le, Int32.reduceToInt, Int64.reduceToInt] at b3 ⊢); omega)))); first | rfl | (exfalso; ((try simp only [inR, inS, i3_lt, i3_le, i3_eq, i6_lt, i6_le, Int32.toInt_toInt64, lg_cmp_lt, lg_cmp_gt, lg_cmp_ge, lg_cmp_le, Int32.reduceToInt, Int64.reduceToInt] at b3); omega)), by rw [ht]; exact hP9, hD9⟩, hS.F ht⟩) hS.2.2 dX9_years_8

set_option maxHeartbeats 1000000 in
set_option maxRecDepth 100000 in
theorem f_follow (l : Launch) (G : Gy) (sz : Nat) (h0 : Nat) (pad : Nat) (pp : Nat) (im : Nat) (sg : Nat) (sl : Nat) (ac : Nat) (ak : Nat) (fk : Nat → Int32) (p0 : Int32) (p1 : Int32) (hk : ∀ j : Nat, j < 4 → fk j = 15) : Ci l G yX9_follow wsX9_follow ({ frames := 3, cells := 0, slots := 0, locals := 62 }) [.ref h0, .int p0, .int p1] [(h0, .inr (5, [.ref pad, .ref pp, .ref im, .null, .null])), (im, .inl (gP G, 2, .inr (.inr (.inr (.inr (fun _ => none)))))), (pad, .inr (0, [.ref sg, .ref sl, .int 0])), (sg, .inl (gI G, 40, .inl (fun _ => 0))), (sl, .inl (gI G, 10, .inl (fun _ => 0))), (pp, .inr (1, [.int 6, .int 0, .int 1, .int 0, .ref ac, .ref ak])), (ac, .inl (gI G, 6, .inl (fun _ => 0))), (ak, .inl (gI G, 4, .inl fk))] sz (fun (r : Int32) (_ : Unit) => r = sp_follow p0 p1) (fun (_ : Unit) => []) 0 0 := by
  refine Met.ofW (cc := cX9_follow) (maxL := 7) (ret := (some .int)) (by decide) rfl ?_
  intro p e s m args below meth c s₁ B hml hv
  obtain ⟨rfl, hsz, hP, hD0, E0⟩ := hv
  have hx := B.exec
  have hb := B.bytes
  have hr := B.returns
  have hts := atoms_spec (ws := wsX9_follow) B.pre
  have hown : s.vm.findClass RX9 = some m.cls := findClass_of_methodNamed B.named
  have hlocks := B.notSynchronized
  subst hsz
  have hD := hD0.self (sz := s.heap.size)
  generalize hAe : va_A [(h0, .inr (5, [.ref pad, .ref pp, .ref im, .null, .null])), (im, .inl (gP G, 2, .inr (.inr (.inr (.inr (fun _ => none)))))), (pad, .inr (0, [.ref sg, .ref sl, .int 0])), (sg, .inl (gI G, 40, .inl (fun _ => 0))), (sl, .inl (gI G, 10, .inl (fun _ => 0))), (pp, .inr (1, [.int 6, .int 0, .int 1, .int 0, .ref ac, .ref ak])), (ac, .inl (gI G, 6, .inl (fun _ => 0))), (ak, .inl (gI G, 4, .inl fk))] s.heap.size = A at hD E0 ⊢
  have E : EV G A s s.heap := E0
  have hA : ∀ q : Nat, s.heap.size ≤ q → A q := fun q h => by rw [← hAe]; exact Or.inr h
  have hS : va_S A s.heap s.heap [] := va_S.rf
  have hl := lv_entry ([.ref h0, .int p0, .int p1]) (n := 7) (Nat.le_of_ble_eq_true rfl)
  rw [lg_entry_eq]
  generalize (lg_sl ([.ref h0, .int p0, .int p1]) ++ List.replicate (7 - (lg_sl ([.ref h0, .int p0, .int p1])).length) Slot.unset).toArray = ls at hl ⊢
  have hl : lv_has ls 7 [(0, .ref h0), (1, .int p0), (2, .int p1)] := hl
  have hP : va_P G.1 vwCl [(h0, .inr (5, [.ref pad, .ref pp, .ref im, .null, .null])), (im, .inl (gP G, 2, .inr (.inr (.inr (.inr (fun _ => none)))))), (pad, .inr (0, [.ref sg, .ref sl, .int 0])), (sg, .inl (gI G, 40, .inl (fun _ => 0))), (sl, .inl (gI G, 10, .inl (fun _ => 0))), (pp, .inr (1, [.int 6, .int 0, .int 1, .int 0, .ref ac, .ref ak])), (ac, .inl (gI G, 6, .inl (fun _ => 0))), (ak, .inl (gI G, 4, .inl fk))] s.heap := hP
  refine lv_iload_n hx hb dX9_follow_0 rfl (lv_at hl 1 rfl) ?_
  refine ca_iR (va_runS (As := [.int p0]) (rest := []) ⟨hx, hb, hml, hown, hts⟩ (c_isMap l G s.heap.size p0) (va_cwS 1 hts gX9_follow_X9_isMap rfl rfl rfl (by decide +kernel) ⟨by decide +kernel, by decide +kernel⟩) (pre_S E hP hD hS hA [] (by decide) rfl) rfl rfl hl.1 rfl (lv_room (Nat.le_of_ble_eq_true rfl)) dX9_follow_1 ⟨by decide +kernel, by decide +kernel⟩) hS hP hD hA [] rfl (fun r2 _ H locs w1 hP hS => ?_)
  rcases w1 with ⟨rfl, b3⟩ | ⟨rfl, b3⟩
  · refine lv_if_ne (tgt := 9) hx hb dX9_follow_4 (by decide) (fun _ => ?_) (fun c4 => False.elim (by revert c4; decide))
    refine lv_iload_n hx hb dX9_follow_9 rfl (lv_at hl 2 rfl) ?_
    refine lv_if_lt (tgt := 19) hx hb dX9_follow_10 (by decide) (fun c5 => ?_) (fun c5 => ?_)
    · refine lv_bipush (v := (-2)) hx hb dX9_follow_19 (by decide) ?_
      have hP9 := hP.sub (ws' := []) [] rfl
      have hD9 := hD.sub (ws' := []) [] (by decide) rfl
      exact W.iret (v := (-2)) hx hb hr (fun t ht hW => ⟨⟨(-2), (), rfl, by dsimp only; symm; unfold sp_follow; (repeat (first | (refine Eq.trans (cIf_t ?_) ?_; · first | assumption | ((try simp only [inR, inS, i3_lt, i3_le, i3_eq, i6_lt, i6_le, Int32.toInt_toInt64, lg_cmp_lt, lg_cmp_gt, lg_cmp_ge, lg_cmp_le, Int32.reduceToInt, Int64.reduceToInt] at b3 c5 ⊢); omega)) | (refine Eq.trans (cIf_f ?_) ?_; · first | assumption | ((try simp only [inR, inS, i3_lt, i3_le, i3_eq, i6_lt, i6_le, Int32.toInt_toInt64, lg_cmp_lt, lg_cmp_gt, lg_cmp_ge, lg_cmp_le, Int32.reduceToInt, Int64.reduceToInt] at b3 c5 ⊢); omega)))); first | rfl | (exfalso; ((try simp only [inR, inS, i3_lt, i3_le, i3_eq, i6_lt, i6_le, Int32.toInt_toInt64, lg_cmp_lt, lg_cmp_gt, lg_cmp_ge, lg_cmp_le, Int32.reduceToInt, Int64.reduceToInt] at b3 c5); omega)), by rw [ht]; exact hP9, hD9⟩, hS.F ht⟩) hS.2.2 dX9_follow_21
    · refine lv_iload_n hx hb dX9_follow_13 rfl (lv_at hl 2 rfl) ?_
      refine lv_bipush (v := 9) hx hb dX9_follow_14 (by decide) ?_
      refine lv_icmp_le (tgt := 22) hx hb dX9_follow_16 (by decide) (fun c6 => ?_) (fun c6 => ?_)
      · refine lv_aload_n hx hb dX9_follow_22 rfl (lv_at hl 0 rfl) ?_
        refine lv_iload_n hx hb dX9_follow_23 rfl (lv_at hl 1 rfl) ?_
        refine ca_iR (va_runV (As := [.int p0]) (rest := []) ⟨hx, hb, hml, hown, hts⟩ (c_isTold l G H.size h0 pad pp im .null .null ac ak 6 0 1 0 p0) (cwV 1 hts gX9_follow_X9_isTold rfl rfl rfl (by decide +kernel) ⟨by decide +kernel, by decide +kernel⟩) (pre_V E hP hD hS hA [0, 5] (by decide) rfl 0 5 rfl rfl) rfl rfl hl.1 rfl (lv_room (Nat.le_of_ble_eq_true rfl)) dX9_follow_24 ⟨by decide +kernel, by decide +kernel⟩) hS hP hD hA [0, 5] rfl (fun r8 _ H locs w7 hP hS => ?_)
        rcases w7 with ⟨rfl, b9⟩ | ⟨rfl, b9⟩
        · exact absurd b9 (not_told0 _)
        · refine lv_if_ne (tgt := 33) hx hb dX9_follow_27 (by decide) (fun c10 => False.elim (by revert c10; decide)) (fun _ => ?_)
          refine lv_bipush (v := (-3)) hx hb dX9_follow_30 (by decide) ?_
          have hP9 := hP.sub (ws' := []) [] rfl
          have hD9 := hD.sub (ws' := []) [] (by decide) rfl
          exact W.iret (v := (-3)) hx hb hr (fun t ht hW => ⟨⟨(-3), (), rfl, by dsimp only; symm; unfold sp_follow; (repeat (first | (refine Eq.trans (cIf_t ?_) ?_; · first | assumption | ((try simp only [inR, inS, i3_lt, i3_le, i3_eq, i6_lt, i6_le, Int32.toInt_toInt64, lg_cmp_lt, lg_cmp_gt, lg_cmp_ge, lg_cmp_le, Int32.reduceToInt, Int64.reduceToInt] at b3 c5 c6 b9 ⊢); omega)) | (refine Eq.trans (cIf_f ?_) ?_; · first | assumption | ((try simp only [inR, inS, i3_lt, i3_le, i3_eq, i6_lt, i6_le, Int32.toInt_toInt64, lg_cmp_lt, lg_cmp_gt, lg_cmp_ge, lg_cmp_le, Int32.reduceToInt, Int64.reduceToInt] at b3 c5 c6 b9 ⊢); omega)))); first | rfl | (exfalso; ((try simp only [inR, inS, i3_lt, i3_le, i3_eq, i6_lt, i6_le, Int32.toInt_toInt64, lg_cmp_lt, lg_cmp_gt, lg_cmp_ge, lg_cmp_le, Int32.reduceToInt, Int64.reduceToInt] at b3 c5 c6 b9); omega)), by rw [ht]; exact hP9, hD9⟩, hS.F ht⟩) hS.2.2 dX9_follow_32
      · refine lv_bipush (v := (-2)) hx hb dX9_follow_19 (by decide) ?_
        have hP9 := hP.sub (ws' := []) [] rfl
        have hD9 := hD.sub (ws' := []) [] (by decide) rfl
        exact W.iret (v := (-2)) hx hb hr (fun t ht hW => ⟨⟨(-2), (), rfl, by dsimp only; symm; unfold sp_follow; (repeat (first | (refine Eq.trans (cIf_t ?_) ?_; · first | assumption | ((try simp only [inR, inS, i3_lt, i3_le, i3_eq, i6_lt, i6_le, Int32.toInt_toInt64, lg_cmp_lt, lg_cmp_gt, lg_cmp_ge, lg_cmp_le, Int32.reduceToInt, Int64.reduceToInt] at b3 c5 c6 ⊢); omega)) | (refine Eq.trans (cIf_f ?_) ?_; · first | assumption | ((try simp only [inR, inS, i3_lt, i3_le, i3_eq, i6_lt, i6_le, Int32.toInt_toInt64, lg_cmp_lt, lg_cmp_gt, lg_cmp_ge, lg_cmp_le, Int32.reduceToInt, Int64.reduceToInt] at b3 c5 c6 ⊢); omega)))); first | rfl | (exfalso; ((try simp only [inR, inS, i3_lt, i3_le, i3_eq, i6_lt, i6_le, Int32.toInt_toInt64, lg_cmp_lt, lg_cmp_gt, lg_cmp_ge, lg_cmp_le, Int32.reduceToInt, Int64.reduceToInt] at b3 c5 c6); omega)), by rw [ht]; exact hP9, hD9⟩, hS.F ht⟩) hS.2.2 dX9_follow_21
  · refine lv_if_ne (tgt := 9) hx hb dX9_follow_4 (by decide) (fun c11 => False.elim (by revert c11; decide)) (fun _ => ?_)
    refine lv_iconst (v := (-1)) hx hb dX9_follow_7 (by decide) ?_
    have hP9 := hP.sub (ws' := []) [] rfl
    have hD9 := hD.sub (ws' := []) [] (by decide) rfl
    exact W.iret (v := (-1)) hx hb hr (fun t ht hW => ⟨⟨(-1), (), rfl, by dsimp only; symm; unfold sp_follow; (repeat (first | (refine Eq.trans (cIf_t ?_) ?_; · first | assumption | ((try simp only [inR, inS, i3_lt, i3_le, i3_eq, i6_lt, i6_le, Int32.toInt_toInt64, lg_cmp_lt, lg_cmp_gt, lg_cmp_ge, lg_cmp_le, Int32.reduceToInt, Int64.reduceToInt] at b3 ⊢); omega)) | (refine Eq.trans (cIf_f ?_) ?_; · first | assumption | ((try simp only [inR, inS, i3_lt, i3_le, i3_eq, i6_lt, i6_le, Int32.toInt_toInt64, lg_cmp_lt, lg_cmp_gt, lg_cmp_ge, lg_cmp_le, Int32.reduceToInt, Int64.reduceToInt] at b3 ⊢); omega)))); first | rfl | (exfalso; ((try simp only [inR, inS, i3_lt, i3_le, i3_eq, i6_lt, i6_le, Int32.toInt_toInt64, lg_cmp_lt, lg_cmp_gt, lg_cmp_ge, lg_cmp_le, Int32.reduceToInt, Int64.reduceToInt] at b3); omega)), by rw [ht]; exact hP9, hD9⟩, hS.F ht⟩) hS.2.2 dX9_follow_8

set_option maxHeartbeats 1000000 in
set_option maxRecDepth 100000 in
theorem f_drawn (l : Launch) (G : Gy) (sz : Nat) (h0 : Nat) (pad : Nat) (pp : Nat) (im : Nat) (sg : Nat) (sl : Nat) (ac : Nat) (ak : Nat) (fk : Nat → Int32) (p0 : Int32) (p1 : Int32) (p2 : Int32) (p3 : Int32) (p4 : Int32) (hk : ∀ j : Nat, j < 4 → fk j = 15) : Ci l G yX9_drawn wsX9_drawn ({ frames := 3, cells := 0, slots := 0, locals := 62 }) [.ref h0, .int p0, .int p1, .int p2, .int p3, .int p4] [(h0, .inr (5, [.ref pad, .ref pp, .ref im, .null, .null])), (im, .inl (gP G, 2, .inr (.inr (.inr (.inr (fun _ => none)))))), (pad, .inr (0, [.ref sg, .ref sl, .int 0])), (sg, .inl (gI G, 40, .inl (fun _ => 0))), (sl, .inl (gI G, 10, .inl (fun _ => 0))), (pp, .inr (1, [.int 6, .int 0, .int 1, .int 0, .ref ac, .ref ak])), (ac, .inl (gI G, 6, .inl (fun _ => 0))), (ak, .inl (gI G, 4, .inl fk))] sz (fun (r : Int32) (_ : Unit) => r = sp_drawn p0 p1 p2 p3 p4) (fun (_ : Unit) => []) 0 0 := by
  refine Met.ofW (cc := cX9_drawn) (maxL := 10) (ret := (some .int)) (by decide) rfl ?_
  intro p e s m args below meth c s₁ B hml hv
  obtain ⟨rfl, hsz, hP, hD0, E0⟩ := hv
  have hx := B.exec
  have hb := B.bytes
  have hr := B.returns
  have hts := atoms_spec (ws := wsX9_drawn) B.pre
  have hown : s.vm.findClass RX9 = some m.cls := findClass_of_methodNamed B.named
  have hlocks := B.notSynchronized
  subst hsz
  have hD := hD0.self (sz := s.heap.size)
  generalize hAe : va_A [(h0, .inr (5, [.ref pad, .ref pp, .ref im, .null, .null])), (im, .inl (gP G, 2, .inr (.inr (.inr (.inr (fun _ => none)))))), (pad, .inr (0, [.ref sg, .ref sl, .int 0])), (sg, .inl (gI G, 40, .inl (fun _ => 0))), (sl, .inl (gI G, 10, .inl (fun _ => 0))), (pp, .inr (1, [.int 6, .int 0, .int 1, .int 0, .ref ac, .ref ak])), (ac, .inl (gI G, 6, .inl (fun _ => 0))), (ak, .inl (gI G, 4, .inl fk))] s.heap.size = A at hD E0 ⊢
  have E : EV G A s s.heap := E0
  have hA : ∀ q : Nat, s.heap.size ≤ q → A q := fun q h => by rw [← hAe]; exact Or.inr h
  have hS : va_S A s.heap s.heap [] := va_S.rf
  have hl := lv_entry ([.ref h0, .int p0, .int p1, .int p2, .int p3, .int p4]) (n := 10) (Nat.le_of_ble_eq_true rfl)
  rw [lg_entry_eq]
  generalize (lg_sl ([.ref h0, .int p0, .int p1, .int p2, .int p3, .int p4]) ++ List.replicate (10 - (lg_sl ([.ref h0, .int p0, .int p1, .int p2, .int p3, .int p4])).length) Slot.unset).toArray = ls at hl ⊢
  have hl : lv_has ls 10 [(0, .ref h0), (1, .int p0), (2, .int p1), (3, .int p2), (4, .int p3), (5, .int p4)] := hl
  have hP : va_P G.1 vwCl [(h0, .inr (5, [.ref pad, .ref pp, .ref im, .null, .null])), (im, .inl (gP G, 2, .inr (.inr (.inr (.inr (fun _ => none)))))), (pad, .inr (0, [.ref sg, .ref sl, .int 0])), (sg, .inl (gI G, 40, .inl (fun _ => 0))), (sl, .inl (gI G, 10, .inl (fun _ => 0))), (pp, .inr (1, [.int 6, .int 0, .int 1, .int 0, .ref ac, .ref ak])), (ac, .inl (gI G, 6, .inl (fun _ => 0))), (ak, .inl (gI G, 4, .inl fk))] s.heap := hP
  refine lv_iload_n hx hb dX9_drawn_0 rfl (lv_at hl 2 rfl) ?_
  refine ca_iR (va_runS (As := [.int p1]) (rest := []) ⟨hx, hb, hml, hown, hts⟩ (c_isMap l G s.heap.size p1) (va_cwS 1 hts gX9_drawn_X9_isMap rfl rfl rfl (by decide +kernel) ⟨by decide +kernel, by decide +kernel⟩) (pre_S E hP hD hS hA [] (by decide) rfl) rfl rfl hl.1 rfl (lv_room (Nat.le_of_ble_eq_true rfl)) dX9_drawn_1 ⟨by decide +kernel, by decide +kernel⟩) hS hP hD hA [] rfl (fun r2 _ H locs w1 hP hS => ?_)
  rcases w1 with ⟨rfl, b3⟩ | ⟨rfl, b3⟩
  · refine lv_if_eq (tgt := 29) hx hb dX9_drawn_4 (by decide) (fun c4 => False.elim (by revert c4; decide)) (fun _ => ?_)
    refine lv_iload_n hx hb dX9_drawn_7 rfl (lv_at hl 3 rfl) ?_
    refine ca_iR (va_runS (As := [.int p2]) (rest := []) ⟨hx, hb, hml, hown, hts⟩ (c_isHand l G H.size p2) (va_cwS 1 hts gX9_drawn_X9_isHand rfl rfl rfl (by decide +kernel) ⟨by decide +kernel, by decide +kernel⟩) (pre_S E hP hD hS hA [] (by decide) rfl) rfl rfl hl.1 rfl (lv_room (Nat.le_of_ble_eq_true rfl)) dX9_drawn_8 ⟨by decide +kernel, by decide +kernel⟩) hS hP hD hA [] rfl (fun r6 _ H locs w5 hP hS => ?_)
    rcases w5 with ⟨rfl, b7⟩ | ⟨rfl, b7⟩
    · refine lv_if_eq (tgt := 29) hx hb dX9_drawn_11 (by decide) (fun c8 => False.elim (by revert c8; decide)) (fun _ => ?_)
      refine lv_iload hx hb dX9_drawn_14 (lv_at hl 5 rfl) ?_
      refine lv_iconst (v := (-1)) hx hb dX9_drawn_16 (by decide) ?_
      refine lv_icmp_eq (tgt := 31) hx hb dX9_drawn_17 (by decide) (fun c9 => ?_) (fun c9 => ?_)
      · refine lv_iload_n hx hb dX9_drawn_31 rfl (lv_at hl 1 rfl) ?_
        refine lv_if_lt (tgt := 54) hx hb dX9_drawn_32 (by decide) (fun c10 => ?_) (fun c10 => ?_)
        · refine lv_bipush (v := (-2)) hx hb dX9_drawn_54 (by decide) ?_
          have hP9 := hP.sub (ws' := []) [] rfl
          have hD9 := hD.sub (ws' := []) [] (by decide) rfl
          exact W.iret (v := (-2)) hx hb hr (fun t ht hW => ⟨⟨(-2), (), rfl, by dsimp only; symm; unfold sp_drawn; (repeat (first | (refine Eq.trans (cIf_t ?_) ?_; · first | assumption | ((try simp only [inR, inS, i3_lt, i3_le, i3_eq, i6_lt, i6_le, Int32.toInt_toInt64, lg_cmp_lt, lg_cmp_gt, lg_cmp_ge, lg_cmp_le, Int32.reduceToInt, Int64.reduceToInt] at b3 b7 c9 c10 ⊢); omega)) | (refine Eq.trans (cIf_f ?_) ?_; · first | assumption | ((try simp only [inR, inS, i3_lt, i3_le, i3_eq, i6_lt, i6_le, Int32.toInt_toInt64, lg_cmp_lt, lg_cmp_gt, lg_cmp_ge, lg_cmp_le, Int32.reduceToInt, Int64.reduceToInt] at b3 b7 c9 c10 ⊢); omega)))); first | rfl | (exfalso; ((try simp only [inR, inS, i3_lt, i3_le, i3_eq, i6_lt, i6_le, Int32.toInt_toInt64, lg_cmp_lt, lg_cmp_gt, lg_cmp_ge, lg_cmp_le, Int32.reduceToInt, Int64.reduceToInt] at b3 b7 c9 c10); omega)), by rw [ht]; exact hP9, hD9⟩, hS.F ht⟩) hS.2.2 dX9_drawn_56
        · refine lv_iload_n hx hb dX9_drawn_35 rfl (lv_at hl 1 rfl) ?_
          refine lv_sipush (v := 9999) hx hb dX9_drawn_36 (by decide) ?_
          refine lv_icmp_gt (tgt := 54) hx hb dX9_drawn_39 (by decide) (fun c11 => ?_) (fun c11 => ?_)
          · refine lv_bipush (v := (-2)) hx hb dX9_drawn_54 (by decide) ?_
            have hP9 := hP.sub (ws' := []) [] rfl
            have hD9 := hD.sub (ws' := []) [] (by decide) rfl
            exact W.iret (v := (-2)) hx hb hr (fun t ht hW => ⟨⟨(-2), (), rfl, by dsimp only; symm; unfold sp_drawn; (repeat (first | (refine Eq.trans (cIf_t ?_) ?_; · first | assumption | ((try simp only [inR, inS, i3_lt, i3_le, i3_eq, i6_lt, i6_le, Int32.toInt_toInt64, lg_cmp_lt, lg_cmp_gt, lg_cmp_ge, lg_cmp_le, Int32.reduceToInt, Int64.reduceToInt] at b3 b7 c9 c10 c11 ⊢); omega)) | (refine Eq.trans (cIf_f ?_) ?_; · first | assumption | ((try simp only [inR, inS, i3_lt, i3_le, i3_eq, i6_lt, i6_le, Int32.toInt_toInt64, lg_cmp_lt, lg_cmp_gt, lg_cmp_ge, lg_cmp_le, Int32.reduceToInt, Int64.reduceToInt] at b3 b7 c9 c10 c11 ⊢); omega)))); first | rfl | (exfalso; ((try simp only [inR, inS, i3_lt, i3_le, i3_eq, i6_lt, i6_le, Int32.toInt_toInt64, lg_cmp_lt, lg_cmp_gt, lg_cmp_ge, lg_cmp_le, Int32.reduceToInt, Int64.reduceToInt] at b3 b7 c9 c10 c11); omega)), by rw [ht]; exact hP9, hD9⟩, hS.F ht⟩) hS.2.2 dX9_drawn_56
          · refine lv_iload hx hb dX9_drawn_42 (lv_at hl 4 rfl) ?_
            refine lv_if_lt (tgt := 54) hx hb dX9_drawn_44 (by decide) (fun c12 => ?_) (fun c12 => ?_)
            · refine lv_bipush (v := (-2)) hx hb dX9_drawn_54 (by decide) ?_
              have hP9 := hP.sub (ws' := []) [] rfl
              have hD9 := hD.sub (ws' := []) [] (by decide) rfl
              exact W.iret (v := (-2)) hx hb hr (fun t ht hW => ⟨⟨(-2), (), rfl, by dsimp only; symm; unfold sp_drawn; (repeat (first | (refine Eq.trans (cIf_t ?_) ?_; · first | assumption | ((try simp only [inR, inS, i3_lt, i3_le, i3_eq, i6_lt, i6_le, Int32.toInt_toInt64, lg_cmp_lt, lg_cmp_gt, lg_cmp_ge, lg_cmp_le, Int32.reduceToInt, Int64.reduceToInt] at b3 b7 c9 c10 c11 c12 ⊢); omega)) | (refine Eq.trans (cIf_f ?_) ?_; · first | assumption | ((try simp only [inR, inS, i3_lt, i3_le, i3_eq, i6_lt, i6_le, Int32.toInt_toInt64, lg_cmp_lt, lg_cmp_gt, lg_cmp_ge, lg_cmp_le, Int32.reduceToInt, Int64.reduceToInt] at b3 b7 c9 c10 c11 c12 ⊢); omega)))); first | rfl | (exfalso; ((try simp only [inR, inS, i3_lt, i3_le, i3_eq, i6_lt, i6_le, Int32.toInt_toInt64, lg_cmp_lt, lg_cmp_gt, lg_cmp_ge, lg_cmp_le, Int32.reduceToInt, Int64.reduceToInt] at b3 b7 c9 c10 c11 c12); omega)), by rw [ht]; exact hP9, hD9⟩, hS.F ht⟩) hS.2.2 dX9_drawn_56
            · refine lv_iload hx hb dX9_drawn_47 (lv_at hl 4 rfl) ?_
              refine lv_bipush (v := 60) hx hb dX9_drawn_49 (by decide) ?_
              refine lv_icmp_le (tgt := 57) hx hb dX9_drawn_51 (by decide) (fun c13 => ?_) (fun c13 => ?_)
              · refine lv_aload_n hx hb dX9_drawn_57 rfl (lv_at hl 0 rfl) ?_
                refine lv_iload_n hx hb dX9_drawn_58 rfl (lv_at hl 2 rfl) ?_
                refine ca_iR (va_runV (As := [.int p1]) (rest := []) ⟨hx, hb, hml, hown, hts⟩ (c_isTold l G H.size h0 pad pp im .null .null ac ak 6 0 1 0 p1) (cwV 1 hts gX9_drawn_X9_isTold rfl rfl rfl (by decide +kernel) ⟨by decide +kernel, by decide +kernel⟩) (pre_V E hP hD hS hA [0, 5] (by decide) rfl 0 5 rfl rfl) rfl rfl hl.1 rfl (lv_room (Nat.le_of_ble_eq_true rfl)) dX9_drawn_59 ⟨by decide +kernel, by decide +kernel⟩) hS hP hD hA [0, 5] rfl (fun r15 _ H locs w14 hP hS => ?_)
                rcases w14 with ⟨rfl, b16⟩ | ⟨rfl, b16⟩
                · exact absurd b16 (not_told0 _)
                · refine lv_if_ne (tgt := 68) hx hb dX9_drawn_62 (by decide) (fun c17 => False.elim (by revert c17; decide)) (fun _ => ?_)
                  refine lv_bipush (v := (-3)) hx hb dX9_drawn_65 (by decide) ?_
                  have hP9 := hP.sub (ws' := []) [] rfl
                  have hD9 := hD.sub (ws' := []) [] (by decide) rfl
                  exact W.iret (v := (-3)) hx hb hr (fun t ht hW => ⟨⟨(-3), (), rfl, by dsimp only; symm; unfold sp_drawn; (repeat (first | (refine Eq.trans (cIf_t ?_) ?_; · first | assumption | ((try simp only [inR, inS, i3_lt, i3_le, i3_eq, i6_lt, i6_le, Int32.toInt_toInt64, lg_cmp_lt, lg_cmp_gt, lg_cmp_ge, lg_cmp_le, Int32.reduceToInt, Int64.reduceToInt] at b3 b7 c9 c10 c11 c12 c13 b16 ⊢); omega)) | (refine Eq.trans (cIf_f ?_) ?_; · first | assumption | ((try simp only [inR, inS, i3_lt, i3_le, i3_eq, i6_lt, i6_le, Int32.toInt_toInt64, lg_cmp_lt, lg_cmp_gt, lg_cmp_ge, lg_cmp_le, Int32.reduceToInt, Int64.reduceToInt] at b3 b7 c9 c10 c11 c12 c13 b16 ⊢); omega)))); first | rfl | (exfalso; ((try simp only [inR, inS, i3_lt, i3_le, i3_eq, i6_lt, i6_le, Int32.toInt_toInt64, lg_cmp_lt, lg_cmp_gt, lg_cmp_ge, lg_cmp_le, Int32.reduceToInt, Int64.reduceToInt] at b3 b7 c9 c10 c11 c12 c13 b16); omega)), by rw [ht]; exact hP9, hD9⟩, hS.F ht⟩) hS.2.2 dX9_drawn_67
              · refine lv_bipush (v := (-2)) hx hb dX9_drawn_54 (by decide) ?_
                have hP9 := hP.sub (ws' := []) [] rfl
                have hD9 := hD.sub (ws' := []) [] (by decide) rfl
                exact W.iret (v := (-2)) hx hb hr (fun t ht hW => ⟨⟨(-2), (), rfl, by dsimp only; symm; unfold sp_drawn; (repeat (first | (refine Eq.trans (cIf_t ?_) ?_; · first | assumption | ((try simp only [inR, inS, i3_lt, i3_le, i3_eq, i6_lt, i6_le, Int32.toInt_toInt64, lg_cmp_lt, lg_cmp_gt, lg_cmp_ge, lg_cmp_le, Int32.reduceToInt, Int64.reduceToInt] at b3 b7 c9 c10 c11 c12 c13 ⊢); omega)) | (refine Eq.trans (cIf_f ?_) ?_; · first | assumption | ((try simp only [inR, inS, i3_lt, i3_le, i3_eq, i6_lt, i6_le, Int32.toInt_toInt64, lg_cmp_lt, lg_cmp_gt, lg_cmp_ge, lg_cmp_le, Int32.reduceToInt, Int64.reduceToInt] at b3 b7 c9 c10 c11 c12 c13 ⊢); omega)))); first | rfl | (exfalso; ((try simp only [inR, inS, i3_lt, i3_le, i3_eq, i6_lt, i6_le, Int32.toInt_toInt64, lg_cmp_lt, lg_cmp_gt, lg_cmp_ge, lg_cmp_le, Int32.reduceToInt, Int64.reduceToInt] at b3 b7 c9 c10 c11 c12 c13); omega)), by rw [ht]; exact hP9, hD9⟩, hS.F ht⟩) hS.2.2 dX9_drawn_56
      · refine lv_aload_n hx hb dX9_drawn_20 rfl (lv_at hl 0 rfl) ?_
        refine lv_iload hx hb dX9_drawn_21 (lv_at hl 5 rfl) ?_
        refine ca_iR (va_runV (As := [.int p4]) (rest := []) ⟨hx, hb, hml, hown, hts⟩ (c_isSite l G H.size h0 pad pp im .null .null ac ak 6 0 1 0 p4) (cwV 1 hts gX9_drawn_X9_isSite rfl rfl rfl (by decide +kernel) ⟨by decide +kernel, by decide +kernel⟩) (pre_V E hP hD hS hA [0, 5] (by decide) rfl 0 5 rfl rfl) rfl rfl hl.1 rfl (lv_room (Nat.le_of_ble_eq_true rfl)) dX9_drawn_23 ⟨by decide +kernel, by decide +kernel⟩) hS hP hD hA [0, 5] rfl (fun r19 _ H locs w18 hP hS => ?_)
        rcases w18 with ⟨rfl, b20⟩ | ⟨rfl, b20⟩
        · refine lv_if_ne (tgt := 31) hx hb dX9_drawn_26 (by decide) (fun _ => ?_) (fun c21 => False.elim (by revert c21; decide))
          refine lv_iload_n hx hb dX9_drawn_31 rfl (lv_at hl 1 rfl) ?_
          refine lv_if_lt (tgt := 54) hx hb dX9_drawn_32 (by decide) (fun c22 => ?_) (fun c22 => ?_)
          · refine lv_bipush (v := (-2)) hx hb dX9_drawn_54 (by decide) ?_
            have hP9 := hP.sub (ws' := []) [] rfl
            have hD9 := hD.sub (ws' := []) [] (by decide) rfl
            exact W.iret (v := (-2)) hx hb hr (fun t ht hW => ⟨⟨(-2), (), rfl, by dsimp only; symm; unfold sp_drawn; (repeat (first | (refine Eq.trans (cIf_t ?_) ?_; · first | assumption | ((try simp only [inR, inS, i3_lt, i3_le, i3_eq, i6_lt, i6_le, Int32.toInt_toInt64, lg_cmp_lt, lg_cmp_gt, lg_cmp_ge, lg_cmp_le, Int32.reduceToInt, Int64.reduceToInt] at b3 b7 c9 b20 c22 ⊢); omega)) | (refine Eq.trans (cIf_f ?_) ?_; · first | assumption | ((try simp only [inR, inS, i3_lt, i3_le, i3_eq, i6_lt, i6_le, Int32.toInt_toInt64, lg_cmp_lt, lg_cmp_gt, lg_cmp_ge, lg_cmp_le, Int32.reduceToInt, Int64.reduceToInt] at b3 b7 c9 b20 c22 ⊢); omega)))); first | rfl | (exfalso; ((try simp only [inR, inS, i3_lt, i3_le, i3_eq, i6_lt, i6_le, Int32.toInt_toInt64, lg_cmp_lt, lg_cmp_gt, lg_cmp_ge, lg_cmp_le, Int32.reduceToInt, Int64.reduceToInt] at b3 b7 c9 b20 c22); omega)), by rw [ht]; exact hP9, hD9⟩, hS.F ht⟩) hS.2.2 dX9_drawn_56
          · refine lv_iload_n hx hb dX9_drawn_35 rfl (lv_at hl 1 rfl) ?_
            refine lv_sipush (v := 9999) hx hb dX9_drawn_36 (by decide) ?_
            refine lv_icmp_gt (tgt := 54) hx hb dX9_drawn_39 (by decide) (fun c23 => ?_) (fun c23 => ?_)
            · refine lv_bipush (v := (-2)) hx hb dX9_drawn_54 (by decide) ?_
              have hP9 := hP.sub (ws' := []) [] rfl
              have hD9 := hD.sub (ws' := []) [] (by decide) rfl
              exact W.iret (v := (-2)) hx hb hr (fun t ht hW => ⟨⟨(-2), (), rfl, by dsimp only; symm; unfold sp_drawn; (repeat (first | (refine Eq.trans (cIf_t ?_) ?_; · first | assumption | ((try simp only [inR, inS, i3_lt, i3_le, i3_eq, i6_lt, i6_le, Int32.toInt_toInt64, lg_cmp_lt, lg_cmp_gt, lg_cmp_ge, lg_cmp_le, Int32.reduceToInt, Int64.reduceToInt] at b3 b7 c9 b20 c22 c23 ⊢); omega)) | (refine Eq.trans (cIf_f ?_) ?_; · first | assumption | ((try simp only [inR, inS, i3_lt, i3_le, i3_eq, i6_lt, i6_le, Int32.toInt_toInt64, lg_cmp_lt, lg_cmp_gt, lg_cmp_ge, lg_cmp_le, Int32.reduceToInt, Int64.reduceToInt] at b3 b7 c9 b20 c22 c23 ⊢); omega)))); first | rfl | (exfalso; ((try simp only [inR, inS, i3_lt, i3_le, i3_eq, i6_lt, i6_le, Int32.toInt_toInt64, lg_cmp_lt, lg_cmp_gt, lg_cmp_ge, lg_cmp_le, Int32.reduceToInt, Int64.reduceToInt] at b3 b7 c9 b20 c22 c23); omega)), by rw [ht]; exact hP9, hD9⟩, hS.F ht⟩) hS.2.2 dX9_drawn_56
            · refine lv_iload hx hb dX9_drawn_42 (lv_at hl 4 rfl) ?_
              refine lv_if_lt (tgt := 54) hx hb dX9_drawn_44 (by decide) (fun c24 => ?_) (fun c24 => ?_)
              · refine lv_bipush (v := (-2)) hx hb dX9_drawn_54 (by decide) ?_
                have hP9 := hP.sub (ws' := []) [] rfl
                have hD9 := hD.sub (ws' := []) [] (by decide) rfl
                exact W.iret (v := (-2)) hx hb hr (fun t ht hW => ⟨⟨(-2), (), rfl, by dsimp only; symm; unfold sp_drawn; (repeat (first | (refine Eq.trans (cIf_t ?_) ?_; · first | assumption | ((try simp only [inR, inS, i3_lt, i3_le, i3_eq, i6_lt, i6_le, Int32.toInt_toInt64, lg_cmp_lt, lg_cmp_gt, lg_cmp_ge, lg_cmp_le, Int32.reduceToInt, Int64.reduceToInt] at b3 b7 c9 b20 c22 c23 c24 ⊢); omega)) | (refine Eq.trans (cIf_f ?_) ?_; · first | assumption | ((try simp only [inR, inS, i3_lt, i3_le, i3_eq, i6_lt, i6_le, Int32.toInt_toInt64, lg_cmp_lt, lg_cmp_gt, lg_cmp_ge, lg_cmp_le, Int32.reduceToInt, Int64.reduceToInt] at b3 b7 c9 b20 c22 c23 c24 ⊢); omega)))); first | rfl | (exfalso; ((try simp only [inR, inS, i3_lt, i3_le, i3_eq, i6_lt, i6_le, Int32.toInt_toInt64, lg_cmp_lt, lg_cmp_gt, lg_cmp_ge, lg_cmp_le, Int32.reduceToInt, Int64.reduceToInt] at b3 b7 c9 b20 c22 c23 c24); omega)), by rw [ht]; exact hP9, hD9⟩, hS.F ht⟩) hS.2.2 dX9_drawn_56
              · refine lv_iload hx hb dX9_drawn_47 (lv_at hl 4 rfl) ?_
                refine lv_bipush (v := 60) hx hb dX9_drawn_49 (by decide) ?_
                refine lv_icmp_le (tgt := 57) hx hb dX9_drawn_51 (by decide) (fun c25 => ?_) (fun c25 => ?_)
                · refine lv_aload_n hx hb dX9_drawn_57 rfl (lv_at hl 0 rfl) ?_
                  refine lv_iload_n hx hb dX9_drawn_58 rfl (lv_at hl 2 rfl) ?_
                  refine ca_iR (va_runV (As := [.int p1]) (rest := []) ⟨hx, hb, hml, hown, hts⟩ (c_isTold l G H.size h0 pad pp im .null .null ac ak 6 0 1 0 p1) (cwV 1 hts gX9_drawn_X9_isTold rfl rfl rfl (by decide +kernel) ⟨by decide +kernel, by decide +kernel⟩) (pre_V E hP hD hS hA [0, 5] (by decide) rfl 0 5 rfl rfl) rfl rfl hl.1 rfl (lv_room (Nat.le_of_ble_eq_true rfl)) dX9_drawn_59 ⟨by decide +kernel, by decide +kernel⟩) hS hP hD hA [0, 5] rfl (fun r27 _ H locs w26 hP hS => ?_)
                  rcases w26 with ⟨rfl, b28⟩ | ⟨rfl, b28⟩
                  · exact absurd b28 (not_told0 _)
                  · refine lv_if_ne (tgt := 68) hx hb dX9_drawn_62 (by decide) (fun c29 => False.elim (by revert c29; decide)) (fun _ => ?_)
                    refine lv_bipush (v := (-3)) hx hb dX9_drawn_65 (by decide) ?_
                    have hP9 := hP.sub (ws' := []) [] rfl
                    have hD9 := hD.sub (ws' := []) [] (by decide) rfl
                    exact W.iret (v := (-3)) hx hb hr (fun t ht hW => ⟨⟨(-3), (), rfl, by dsimp only; symm; unfold sp_drawn; (repeat (first | (refine Eq.trans (cIf_t ?_) ?_; · first | assumption | ((try simp only [inR, inS, i3_lt, i3_le, i3_eq, i6_lt, i6_le, Int32.toInt_toInt64, lg_cmp_lt, lg_cmp_gt, lg_cmp_ge, lg_cmp_le, Int32.reduceToInt, Int64.reduceToInt] at b3 b7 c9 b20 c22 c23 c24 c25 b28 ⊢); omega)) | (refine Eq.trans (cIf_f ?_) ?_; · first | assumption | ((try simp only [inR, inS, i3_lt, i3_le, i3_eq, i6_lt, i6_le, Int32.toInt_toInt64, lg_cmp_lt, lg_cmp_gt, lg_cmp_ge, lg_cmp_le, Int32.reduceToInt, Int64.reduceToInt] at b3 b7 c9 b20 c22 c23 c24 c25 b28 ⊢); omega)))); first | rfl | (exfalso; ((try simp only [inR, inS, i3_lt, i3_le, i3_eq, i6_lt, i6_le, Int32.toInt_toInt64, lg_cmp_lt, lg_cmp_gt, lg_cmp_ge, lg_cmp_le, Int32.reduceToInt, Int64.reduceToInt] at b3 b7 c9 b20 c22 c23 c24 c25 b28); omega)), by rw [ht]; exact hP9, hD9⟩, hS.F ht⟩) hS.2.2 dX9_drawn_67
                · refine lv_bipush (v := (-2)) hx hb dX9_drawn_54 (by decide) ?_
                  have hP9 := hP.sub (ws' := []) [] rfl
                  have hD9 := hD.sub (ws' := []) [] (by decide) rfl
                  exact W.iret (v := (-2)) hx hb hr (fun t ht hW => ⟨⟨(-2), (), rfl, by dsimp only; symm; unfold sp_drawn; (repeat (first | (refine Eq.trans (cIf_t ?_) ?_; · first | assumption | ((try simp only [inR, inS, i3_lt, i3_le, i3_eq, i6_lt, i6_le, Int32.toInt_toInt64, lg_cmp_lt, lg_cmp_gt, lg_cmp_ge, lg_cmp_le, Int32.reduceToInt, Int64.reduceToInt] at b3 b7 c9 b20 c22 c23 c24 c25 ⊢); omega)) | (refine Eq.trans (cIf_f ?_) ?_; · first | assumption | ((try simp only [inR, inS, i3_lt, i3_le, i3_eq, i6_lt, i6_le, Int32.toInt_toInt64, lg_cmp_lt, lg_cmp_gt, lg_cmp_ge, lg_cmp_le, Int32.reduceToInt, Int64.reduceToInt] at b3 b7 c9 b20 c22 c23 c24 c25 ⊢); omega)))); first | rfl | (exfalso; ((try simp only [inR, inS, i3_lt, i3_le, i3_eq, i6_lt, i6_le, Int32.toInt_toInt64, lg_cmp_lt, lg_cmp_gt, lg_cmp_ge, lg_cmp_le, Int32.reduceToInt, Int64.reduceToInt] at b3 b7 c9 b20 c22 c23 c24 c25); omega)), by rw [ht]; exact hP9, hD9⟩, hS.F ht⟩) hS.2.2 dX9_drawn_56
        · refine lv_if_ne (tgt := 31) hx hb dX9_drawn_26 (by decide) (fun c30 => False.elim (by revert c30; decide)) (fun _ => ?_)
          refine lv_iconst (v := (-1)) hx hb dX9_drawn_29 (by decide) ?_
          have hP9 := hP.sub (ws' := []) [] rfl
          have hD9 := hD.sub (ws' := []) [] (by decide) rfl
          exact W.iret (v := (-1)) hx hb hr (fun t ht hW => ⟨⟨(-1), (), rfl, by dsimp only; symm; unfold sp_drawn; (repeat (first | (refine Eq.trans (cIf_t ?_) ?_; · first | assumption | ((try simp only [inR, inS, i3_lt, i3_le, i3_eq, i6_lt, i6_le, Int32.toInt_toInt64, lg_cmp_lt, lg_cmp_gt, lg_cmp_ge, lg_cmp_le, Int32.reduceToInt, Int64.reduceToInt] at b3 b7 c9 b20 ⊢); omega)) | (refine Eq.trans (cIf_f ?_) ?_; · first | assumption | ((try simp only [inR, inS, i3_lt, i3_le, i3_eq, i6_lt, i6_le, Int32.toInt_toInt64, lg_cmp_lt, lg_cmp_gt, lg_cmp_ge, lg_cmp_le, Int32.reduceToInt, Int64.reduceToInt] at b3 b7 c9 b20 ⊢); omega)))); first | rfl | (exfalso; ((try simp only [inR, inS, i3_lt, i3_le, i3_eq, i6_lt, i6_le, Int32.toInt_toInt64, lg_cmp_lt, lg_cmp_gt, lg_cmp_ge, lg_cmp_le, Int32.reduceToInt, Int64.reduceToInt] at b3 b7 c9 b20); omega)), by rw [ht]; exact hP9, hD9⟩, hS.F ht⟩) hS.2.2 dX9_drawn_30
    · refine lv_if_eq (tgt := 29) hx hb dX9_drawn_11 (by decide) (fun _ => ?_) (fun c31 => False.elim (by revert c31; decide))
      refine lv_iconst (v := (-1)) hx hb dX9_drawn_29 (by decide) ?_
      have hP9 := hP.sub (ws' := []) [] rfl
      have hD9 := hD.sub (ws' := []) [] (by decide) rfl
      exact W.iret (v := (-1)) hx hb hr (fun t ht hW => ⟨⟨(-1), (), rfl, by dsimp only; symm; unfold sp_drawn; (repeat (first | (refine Eq.trans (cIf_t ?_) ?_; · first | assumption | ((try simp only [inR, inS, i3_lt, i3_le, i3_eq, i6_lt, i6_le, Int32.toInt_toInt64, lg_cmp_lt, lg_cmp_gt, lg_cmp_ge, lg_cmp_le, Int32.reduceToInt, Int64.reduceToInt] at b3 b7 ⊢); omega)) | (refine Eq.trans (cIf_f ?_) ?_; · first | assumption | ((try simp only [inR, inS, i3_lt, i3_le, i3_eq, i6_lt, i6_le, Int32.toInt_toInt64, lg_cmp_lt, lg_cmp_gt, lg_cmp_ge, lg_cmp_le, Int32.reduceToInt, Int64.reduceToInt] at b3 b7 ⊢); omega)))); first | rfl | (exfalso; ((try simp only [inR, inS, i3_lt, i3_le, i3_eq, i6_lt, i6_le, Int32.toInt_toInt64, lg_cmp_lt, lg_cmp_gt, lg_cmp_ge, lg_cmp_le, Int32.reduceToInt, Int64.reduceToInt] at b3 b7); omega)), by rw [ht]; exact hP9, hD9⟩, hS.F ht⟩) hS.2.2 dX9_drawn_30
  · refine lv_if_eq (tgt := 29) hx hb dX9_drawn_4 (by decide) (fun _ => ?_) (fun c32 => False.elim (by revert c32; decide))
    refine lv_iconst (v := (-1)) hx hb dX9_drawn_29 (by decide) ?_
    have hP9 := hP.sub (ws' := []) [] rfl
    have hD9 := hD.sub (ws' := []) [] (by decide) rfl
    exact W.iret (v := (-1)) hx hb hr (fun t ht hW => ⟨⟨(-1), (), rfl, by dsimp only; symm; unfold sp_drawn; (repeat (first | (refine Eq.trans (cIf_t ?_) ?_; · first | assumption | ((try simp only [inR, inS, i3_lt, i3_le, i3_eq, i6_lt, i6_le, Int32.toInt_toInt64, lg_cmp_lt, lg_cmp_gt, lg_cmp_ge, lg_cmp_le, Int32.reduceToInt, Int64.reduceToInt] at b3 ⊢); omega)) | (refine Eq.trans (cIf_f ?_) ?_; · first | assumption | ((try simp only [inR, inS, i3_lt, i3_le, i3_eq, i6_lt, i6_le, Int32.toInt_toInt64, lg_cmp_lt, lg_cmp_gt, lg_cmp_ge, lg_cmp_le, Int32.reduceToInt, Int64.reduceToInt] at b3 ⊢); omega)))); first | rfl | (exfalso; ((try simp only [inR, inS, i3_lt, i3_le, i3_eq, i6_lt, i6_le, Int32.toInt_toInt64, lg_cmp_lt, lg_cmp_gt, lg_cmp_ge, lg_cmp_le, Int32.reduceToInt, Int64.reduceToInt] at b3); omega)), by rw [ht]; exact hP9, hD9⟩, hS.F ht⟩) hS.2.2 dX9_drawn_30

set_option maxHeartbeats 1000000 in
set_option maxRecDepth 100000 in
theorem f_image (l : Launch) (G : Gy) (sz : Nat) (h0 : Nat) (pad : Nat) (pp : Nat) (im : Nat) (sg : Nat) (sl : Nat) (ac : Nat) (ak : Nat) (fk : Nat → Int32) (p0 : Int32) (hk : ∀ j : Nat, j < 4 → fk j = 15) : Ci l G yX9_image wsX9_image ({ frames := 2, cells := 3, slots := 16, locals := 43 }) [.ref h0, .int p0] [(h0, .inr (5, [.ref pad, .ref pp, .ref im, .null, .null])), (im, .inl (gP G, 2, .inr (.inr (.inr (.inr (fun _ => none)))))), (pad, .inr (0, [.ref sg, .ref sl, .int 0])), (sg, .inl (gI G, 40, .inl (fun _ => 0))), (sl, .inl (gI G, 10, .inl (fun _ => 0))), (pp, .inr (1, [.int 6, .int 0, .int 1, .int 0, .ref ac, .ref ak])), (ac, .inl (gI G, 6, .inl (fun _ => 0))), (ak, .inl (gI G, 4, .inl fk))] sz (fun (r : Int32) (_ : Unit) => r = sp_image p0) (fun (_ : Unit) => []) 3 16 := by
  refine Met.ofW (cc := cX9_image) (maxL := 2) (ret := (some .int)) (by decide) rfl ?_
  intro p e s m args below meth c s₁ B hml hv
  obtain ⟨rfl, hsz, hP, hD0, E0⟩ := hv
  have hx := B.exec
  have hb := B.bytes
  have hr := B.returns
  have hts := atoms_spec (ws := wsX9_image) B.pre
  have hown : s.vm.findClass RX9 = some m.cls := findClass_of_methodNamed B.named
  have hlocks := B.notSynchronized
  subst hsz
  have hD := hD0.self (sz := s.heap.size)
  generalize hAe : va_A [(h0, .inr (5, [.ref pad, .ref pp, .ref im, .null, .null])), (im, .inl (gP G, 2, .inr (.inr (.inr (.inr (fun _ => none)))))), (pad, .inr (0, [.ref sg, .ref sl, .int 0])), (sg, .inl (gI G, 40, .inl (fun _ => 0))), (sl, .inl (gI G, 10, .inl (fun _ => 0))), (pp, .inr (1, [.int 6, .int 0, .int 1, .int 0, .ref ac, .ref ak])), (ac, .inl (gI G, 6, .inl (fun _ => 0))), (ak, .inl (gI G, 4, .inl fk))] s.heap.size = A at hD E0 ⊢
  have E : EV G A s s.heap := E0
  have hA : ∀ q : Nat, s.heap.size ≤ q → A q := fun q h => by rw [← hAe]; exact Or.inr h
  have hS : va_S A s.heap s.heap [] := va_S.rf
  have hl := lv_entry ([.ref h0, .int p0]) (n := 2) (Nat.le_of_ble_eq_true rfl)
  rw [lg_entry_eq]
  generalize (lg_sl ([.ref h0, .int p0]) ++ List.replicate (2 - (lg_sl ([.ref h0, .int p0])).length) Slot.unset).toArray = ls at hl ⊢
  have hl : lv_has ls 2 [(0, .ref h0), (1, .int p0)] := hl
  have hP : va_P G.1 vwCl [(h0, .inr (5, [.ref pad, .ref pp, .ref im, .null, .null])), (im, .inl (gP G, 2, .inr (.inr (.inr (.inr (fun _ => none)))))), (pad, .inr (0, [.ref sg, .ref sl, .int 0])), (sg, .inl (gI G, 40, .inl (fun _ => 0))), (sl, .inl (gI G, 10, .inl (fun _ => 0))), (pp, .inr (1, [.int 6, .int 0, .int 1, .int 0, .ref ac, .ref ak])), (ac, .inl (gI G, 6, .inl (fun _ => 0))), (ak, .inl (gI G, 4, .inl fk))] s.heap := hP
  refine lv_iload_n hx hb dX9_image_0 rfl (lv_at hl 1 rfl) ?_
  refine lv_if_lt (tgt := 13) hx hb dX9_image_1 (by decide) (fun c1 => ?_) (fun c1 => ?_)
  · refine lv_bipush (v := (-2)) hx hb dX9_image_13 (by decide) ?_
    refine W.widen (k := 3) (n := 16) (by decide +kernel) (by decide +kernel) ?_
    have hP9 := hP.sub (ws' := []) [] rfl
    have hD9 := hD.sub (ws' := []) [] (by decide) rfl
    exact W.iret (v := (-2)) hx hb hr (fun t ht hW => ⟨⟨(-2), (), rfl, by dsimp only; symm; unfold sp_image; (repeat (first | (refine Eq.trans (cIf_t ?_) ?_; · first | assumption | ((try simp only [inR, inS, i3_lt, i3_le, i3_eq, i6_lt, i6_le, Int32.toInt_toInt64, lg_cmp_lt, lg_cmp_gt, lg_cmp_ge, lg_cmp_le, Int32.reduceToInt, Int64.reduceToInt] at c1 ⊢); omega)) | (refine Eq.trans (cIf_f ?_) ?_; · first | assumption | ((try simp only [inR, inS, i3_lt, i3_le, i3_eq, i6_lt, i6_le, Int32.toInt_toInt64, lg_cmp_lt, lg_cmp_gt, lg_cmp_ge, lg_cmp_le, Int32.reduceToInt, Int64.reduceToInt] at c1 ⊢); omega)))); first | rfl | (exfalso; ((try simp only [inR, inS, i3_lt, i3_le, i3_eq, i6_lt, i6_le, Int32.toInt_toInt64, lg_cmp_lt, lg_cmp_gt, lg_cmp_ge, lg_cmp_le, Int32.reduceToInt, Int64.reduceToInt] at c1); omega)), by rw [ht]; exact hP9, hD9⟩, hS.F ht⟩) hS.2.2 dX9_image_15
  · refine lv_iload_n hx hb dX9_image_4 rfl (lv_at hl 1 rfl) ?_
    refine lv_aload_n hx hb dX9_image_5 rfl (lv_at hl 0 rfl) ?_
    refine va_get (D := G.1) (ci := 5) (v := .ref im) (C := RX9) (T := TX9) (N := 5) hx hb hts (fun _ h => List.mem_cons_of_mem _ (List.mem_append_left _ (List.mem_append_right _ h))) hown E.K hP 0 rfl rfl 2 (by decide) (hts (.fieldLink RX9 23 "LastMap" "images" "[LLastMap$Papers;") (by decide +kernel)) (fun _ h9 => h9) rfl dX9_image_6 ?_
    refine va_alen (v := 2) hx hb E.K hP 1 3 rfl rfl rfl dX9_image_9 ?_
    refine lv_icmp_lt (tgt := 16) hx hb dX9_image_10 (by decide) (fun c2 => ?_) (fun c2 => ?_)
    · have h01 : p0 = 0 ∨ p0 = 1 := by ((try simp only [inR, inS, i3_lt, i3_le, i3_eq, i6_lt, i6_le, Int32.toInt_toInt64, lg_cmp_lt, lg_cmp_gt, lg_cmp_ge, lg_cmp_le, Int32.reduceToInt, Int64.reduceToInt] at c1 c2 ⊢); omega)
      rcases h01 with h01 | h01
      · have hl : lv_has ls 2 [(0, .ref h0), (1, .int 0)] := by have q := hl; rw [h01] at q; exact q
        refine lv_aload_n hx hb dX9_image_16 rfl (lv_at hl 0 rfl) ?_
        refine va_get (D := G.1) (ci := 5) (v := .ref im) (C := RX9) (T := TX9) (N := 5) hx hb hts (fun _ h => List.mem_cons_of_mem _ (List.mem_append_left _ (List.mem_append_right _ h))) hown E.K hP 0 rfl rfl 2 (by decide) (hts (.fieldLink RX9 23 "LastMap" "images" "[LLastMap$Papers;") (by decide +kernel)) (fun _ h9 => h9) rfl dX9_image_17 ?_
        refine lv_iload_n hx hb dX9_image_20 rfl (lv_at hl 1 rfl) ?_
        refine va_aldq hx hb E.K hP 1 3 rfl rfl (i := 0) (by unfold vp_in; decide) dX9_image_21 ?_
        refine lv_ifnonnullN hx hb dX9_image_22 ?_
        refine lv_aload_n hx hb dX9_image_25 rfl (lv_at hl 0 rfl) ?_
        refine va_get (D := G.1) (ci := 5) (v := .ref im) (C := RX9) (T := TX9) (N := 5) hx hb hts (fun _ h => List.mem_cons_of_mem _ (List.mem_append_left _ (List.mem_append_right _ h))) hown E.K hP 0 rfl rfl 2 (by decide) (hts (.fieldLink RX9 23 "LastMap" "images" "[LLastMap$Papers;") (by decide +kernel)) (fun _ h9 => h9) rfl dX9_image_26 ?_
        refine lv_iload_n hx hb dX9_image_29 rfl (lv_at hl 1 rfl) ?_
        refine va_new (ci := 1) (fs := [.int 0, .int 0, .int 0, .int 0, .null, .null]) (C := RX3) (T := TX3) (N := 6) hx hb hts (fun _ h => List.mem_cons_of_mem _ (List.mem_append_right _ h)) tyX3 tyX3_ok hown (hts (.classLink RX9 16 RX3) (by decide +kernel)) (hts (.instantiable RX3 6) (by decide +kernel)) (hts (.initialized RX3) (by decide +kernel)) E.K hP hD hS hA rfl (by decide +kernel) (by decide +kernel) (by decide +kernel) dX9_image_30 (fun q3 H hP hD hS => ?_)
        have hP : va_P G.1 vwCl [(h0, .inr (5, [.ref pad, .ref pp, .ref im, .null, .null])), (im, .inl (gP G, 2, .inr (.inr (.inr (.inr (fun _ => none)))))), (pad, .inr (0, [.ref sg, .ref sl, .int 0])), (sg, .inl (gI G, 40, .inl (fun _ => 0))), (sl, .inl (gI G, 10, .inl (fun _ => 0))), (pp, .inr (1, [.int 6, .int 0, .int 1, .int 0, .ref ac, .ref ak])), (ac, .inl (gI G, 6, .inl (fun _ => 0))), (ak, .inl (gI G, 4, .inl fk)), (q3, .inr (1, [.int 0, .int 0, .int 0, .int 0, .null, .null]))] H := hP
        have hD : va_D A [(h0, .inr (5, [.ref pad, .ref pp, .ref im, .null, .null])), (im, .inl (gP G, 2, .inr (.inr (.inr (.inr (fun _ => none)))))), (pad, .inr (0, [.ref sg, .ref sl, .int 0])), (sg, .inl (gI G, 40, .inl (fun _ => 0))), (sl, .inl (gI G, 10, .inl (fun _ => 0))), (pp, .inr (1, [.int 6, .int 0, .int 1, .int 0, .ref ac, .ref ak])), (ac, .inl (gI G, 6, .inl (fun _ => 0))), (ak, .inl (gI G, 4, .inl fk)), (q3, .inr (1, [.int 0, .int 0, .int 0, .int 0, .null, .null]))] := hD
        refine W.widen (k := 1) (n := 6) (by decide +kernel) (by decide +kernel) ?_
        refine lv_dup hx hb dX9_image_33 rfl ?_
        refine ca_v (wr := [(h0, .inr (5, [.ref pad, .ref pp, .ref im, .null, .null])), (im, .inl (gP G, 2, .inr (.inr (.inr (.inr (fun _ => none)))))), (pad, .inr (0, [.ref sg, .ref sl, .int 0])), (sg, .inl (gI G, 40, .inl (fun _ => 0))), (sl, .inl (gI G, 10, .inl (fun _ => 0))), (pp, .inr (1, [.int 6, .int 0, .int 1, .int 0, .ref ac, .ref ak])), (ac, .inl (gI G, 6, .inl (fun _ => 0))), (ak, .inl (gI G, 4, .inl fk))]) (va_runIN (As := []) (rest := [.ref q3, .int 0, .ref im]) ⟨hx, hb, hml, hown, hts⟩ (c_Papers l G H.size q3) ⟨va_cnB 0 hts gX9_image_X3_init_n18 rfl rfl rfl E.n18 (hts (.initialized RX3) (by decide +kernel)) (by decide +kernel) ⟨by decide +kernel, by decide +kernel⟩, rfl, hts (.instanceMethod yX3_init) (by decide +kernel)⟩ (pre_S E hP hD hS hA [8] (by decide) rfl) rfl rfl hl.1 rfl (lv_room (Nat.le_of_ble_eq_true rfl)) dX9_image_34 ⟨by decide +kernel, by decide +kernel⟩) hS hP hD hA [8] [0, 1, 2, 3, 4, 5, 6, 7] rfl rfl (by decide) (by decide) (fun u6 H locs w4 hP hD hS => ?_)
        obtain ⟨ac1_7, ak1_8, gk_9⟩ := u6
        try dsimp only at w4 hP hD
        have hP := hP.sub (ws' := [(h0, .inr (5, [.ref pad, .ref pp, .ref im, .null, .null])), (im, .inl (gP G, 2, .inr (.inr (.inr (.inr (fun _ => none)))))), (pad, .inr (0, [.ref sg, .ref sl, .int 0])), (sg, .inl (gI G, 40, .inl (fun _ => 0))), (sl, .inl (gI G, 10, .inl (fun _ => 0))), (pp, .inr (1, [.int 6, .int 0, .int 1, .int 0, .ref ac, .ref ak])), (ac, .inl (gI G, 6, .inl (fun _ => 0))), (ak, .inl (gI G, 4, .inl fk)), (q3, .inr (1, [.int 6, .int 0, .int 1, .int 0, .ref ac1_7, .ref ak1_8])), (ac1_7, .inl (gI G, 6, .inl (fun _ => 0))), (ak1_8, .inl (gI G, 4, .inl gk_9))]) [0, 1, 2, 3, 4, 5, 6, 7, 8, 9, 10] rfl
        have hD := hD.sub (ws' := [(h0, .inr (5, [.ref pad, .ref pp, .ref im, .null, .null])), (im, .inl (gP G, 2, .inr (.inr (.inr (.inr (fun _ => none)))))), (pad, .inr (0, [.ref sg, .ref sl, .int 0])), (sg, .inl (gI G, 40, .inl (fun _ => 0))), (sl, .inl (gI G, 10, .inl (fun _ => 0))), (pp, .inr (1, [.int 6, .int 0, .int 1, .int 0, .ref ac, .ref ak])), (ac, .inl (gI G, 6, .inl (fun _ => 0))), (ak, .inl (gI G, 4, .inl fk)), (q3, .inr (1, [.int 6, .int 0, .int 1, .int 0, .ref ac1_7, .ref ak1_8])), (ac1_7, .inl (gI G, 6, .inl (fun _ => 0))), (ak1_8, .inl (gI G, 4, .inl gk_9))]) [0, 1, 2, 3, 4, 5, 6, 7, 8, 9, 10] (by decide) rfl
        refine W.widen (k := 3) (n := 16) (by decide +kernel) (by decide +kernel) ?_
        refine va_astq hx hb E.K hP hD hS 1 3 8 1 rfl rfl rfl rfl (i := 0) (by unfold vp_in; decide) dX9_image_37 (fun H locs hP hD hS => ?_)
        have hP : va_P G.1 vwCl [(h0, .inr (5, [.ref pad, .ref pp, .ref im, .null, .null])), (im, .inl (gP G, 2, .inr (.inr (.inr (.inr (va_up (fun _ => none) (0 : Int32).toNatClampNeg (some q3))))))), (pad, .inr (0, [.ref sg, .ref sl, .int 0])), (sg, .inl (gI G, 40, .inl (fun _ => 0))), (sl, .inl (gI G, 10, .inl (fun _ => 0))), (pp, .inr (1, [.int 6, .int 0, .int 1, .int 0, .ref ac, .ref ak])), (ac, .inl (gI G, 6, .inl (fun _ => 0))), (ak, .inl (gI G, 4, .inl fk)), (q3, .inr (1, [.int 6, .int 0, .int 1, .int 0, .ref ac1_7, .ref ak1_8])), (ac1_7, .inl (gI G, 6, .inl (fun _ => 0))), (ak1_8, .inl (gI G, 4, .inl gk_9))] H := hP
        have hD : va_D A [(h0, .inr (5, [.ref pad, .ref pp, .ref im, .null, .null])), (im, .inl (gP G, 2, .inr (.inr (.inr (.inr (va_up (fun _ => none) (0 : Int32).toNatClampNeg (some q3))))))), (pad, .inr (0, [.ref sg, .ref sl, .int 0])), (sg, .inl (gI G, 40, .inl (fun _ => 0))), (sl, .inl (gI G, 10, .inl (fun _ => 0))), (pp, .inr (1, [.int 6, .int 0, .int 1, .int 0, .ref ac, .ref ak])), (ac, .inl (gI G, 6, .inl (fun _ => 0))), (ak, .inl (gI G, 4, .inl fk)), (q3, .inr (1, [.int 6, .int 0, .int 1, .int 0, .ref ac1_7, .ref ak1_8])), (ac1_7, .inl (gI G, 6, .inl (fun _ => 0))), (ak1_8, .inl (gI G, 4, .inl gk_9))] := hD
        refine lv_aload_n hx hb dX9_image_38 rfl (lv_at hl 0 rfl) ?_
        refine va_get (D := G.1) (ci := 5) (v := .ref im) (C := RX9) (T := TX9) (N := 5) hx hb hts (fun _ h => List.mem_cons_of_mem _ (List.mem_append_left _ (List.mem_append_right _ h))) hown E.K hP 0 rfl rfl 2 (by decide) (hts (.fieldLink RX9 23 "LastMap" "images" "[LLastMap$Papers;") (by decide +kernel)) (fun _ h9 => h9) rfl dX9_image_39 ?_
        refine lv_iload_n hx hb dX9_image_42 rfl (lv_at hl 1 rfl) ?_
        refine va_aldq hx hb E.K hP 1 3 rfl rfl (i := 0) (by unfold vp_in; decide) dX9_image_43 ?_
        refine W.eq (g2 := F0 m 44 ls [.ref q3]) (congrArg (fun v => F0 m 44 ls (v :: [])) (show va_rf (va_up (fun _ => none) (0 : Int32).toNatClampNeg (some q3) (0 : Int32).toNatClampNeg) = Value.ref q3 by simp [va_up, va_rf])) ?_
        refine lv_aload_n hx hb dX9_image_44 rfl (lv_at hl 0 rfl) ?_
        refine va_get (D := G.1) (ci := 5) (v := .ref pp) (C := RX9) (T := TX9) (N := 5) hx hb hts (fun _ h => List.mem_cons_of_mem _ (List.mem_append_left _ (List.mem_append_right _ h))) hown E.K hP 0 rfl rfl 1 (by decide) (hts (.fieldLink RX9 19 "LastMap" "papers" "LLastMap$Papers;") (by decide +kernel)) (fun _ h9 => h9) rfl dX9_image_45 ?_
        refine ca_v (wr := [(h0, .inr (5, [.ref pad, .ref pp, .ref im, .null, .null])), (im, .inl (gP G, 2, .inr (.inr (.inr (.inr (va_up (fun _ => none) (0 : Int32).toNatClampNeg (some q3))))))), (pad, .inr (0, [.ref sg, .ref sl, .int 0])), (sg, .inl (gI G, 40, .inl (fun _ => 0))), (sl, .inl (gI G, 10, .inl (fun _ => 0)))]) (va_runV (As := [.ref pp]) (rest := []) ⟨hx, hb, hml, hown, hts⟩ (c_take l G H.size q3 ac1_7 ak1_8 6 0 1 0 (fun _ => 0) gk_9 pp ac ak 6 0 1 0 (fun _ => 0) fk) (cwV 1 hts gX9_image_X3_take rfl rfl rfl (by decide +kernel) ⟨by decide +kernel, by decide +kernel⟩) (pre_V E hP hD hS hA [8, 9, 10, 5, 6, 7] (by decide) rfl 8 1 rfl rfl) rfl rfl hl.1 rfl (lv_room (Nat.le_of_ble_eq_true rfl)) dX9_image_48 ⟨by decide +kernel, by decide +kernel⟩) hS hP hD hA [8, 9, 10, 5, 6, 7] [0, 1, 2, 3, 4] rfl rfl (by decide) (by decide) (fun u12 H locs w10 hP hD hS => ?_)
        obtain ⟨fc2_13, fk2_14⟩ := u12
        try dsimp only at w10 hP hD
        have hP := hP.sub (ws' := [(h0, .inr (5, [.ref pad, .ref pp, .ref im, .null, .null])), (im, .inl (gP G, 2, .inr (.inr (.inr (.inr (va_up (fun _ => none) (0 : Int32).toNatClampNeg (some q3))))))), (pad, .inr (0, [.ref sg, .ref sl, .int 0])), (sg, .inl (gI G, 40, .inl (fun _ => 0))), (sl, .inl (gI G, 10, .inl (fun _ => 0))), (pp, .inr (1, [.int 6, .int 0, .int 1, .int 0, .ref ac, .ref ak])), (ac, .inl (gI G, 6, .inl (fun _ => 0))), (ak, .inl (gI G, 4, .inl fk)), (q3, .inr (1, [.int 6, .int 0, .int 1, .int 0, .ref ac1_7, .ref ak1_8])), (ac1_7, .inl (gI G, 6, .inl fc2_13)), (ak1_8, .inl (gI G, 4, .inl fk2_14))]) [0, 1, 2, 3, 4, 8, 9, 10, 5, 6, 7] rfl
        have hD := hD.sub (ws' := [(h0, .inr (5, [.ref pad, .ref pp, .ref im, .null, .null])), (im, .inl (gP G, 2, .inr (.inr (.inr (.inr (va_up (fun _ => none) (0 : Int32).toNatClampNeg (some q3))))))), (pad, .inr (0, [.ref sg, .ref sl, .int 0])), (sg, .inl (gI G, 40, .inl (fun _ => 0))), (sl, .inl (gI G, 10, .inl (fun _ => 0))), (pp, .inr (1, [.int 6, .int 0, .int 1, .int 0, .ref ac, .ref ak])), (ac, .inl (gI G, 6, .inl (fun _ => 0))), (ak, .inl (gI G, 4, .inl fk)), (q3, .inr (1, [.int 6, .int 0, .int 1, .int 0, .ref ac1_7, .ref ak1_8])), (ac1_7, .inl (gI G, 6, .inl fc2_13)), (ak1_8, .inl (gI G, 4, .inl fk2_14))]) [0, 1, 2, 3, 4, 8, 9, 10, 5, 6, 7] (by decide) rfl
        refine lv_iconst (v := 1) hx hb dX9_image_51 (by decide) ?_
        have hP9 := hP.sub (ws' := []) [] rfl
        have hD9 := hD.sub (ws' := []) [] (by decide) rfl
        exact W.iret (v := 1) hx hb hr (fun t ht hW => ⟨⟨1, (), rfl, by dsimp only; symm; unfold sp_image; (repeat (first | (refine Eq.trans (cIf_t ?_) ?_; · first | assumption | ((try simp only [inR, inS, i3_lt, i3_le, i3_eq, i6_lt, i6_le, Int32.toInt_toInt64, lg_cmp_lt, lg_cmp_gt, lg_cmp_ge, lg_cmp_le, Int32.reduceToInt, Int64.reduceToInt] at c1 c2 ⊢); omega)) | (refine Eq.trans (cIf_f ?_) ?_; · first | assumption | ((try simp only [inR, inS, i3_lt, i3_le, i3_eq, i6_lt, i6_le, Int32.toInt_toInt64, lg_cmp_lt, lg_cmp_gt, lg_cmp_ge, lg_cmp_le, Int32.reduceToInt, Int64.reduceToInt] at c1 c2 ⊢); omega)))); first | rfl | (exfalso; ((try simp only [inR, inS, i3_lt, i3_le, i3_eq, i6_lt, i6_le, Int32.toInt_toInt64, lg_cmp_lt, lg_cmp_gt, lg_cmp_ge, lg_cmp_le, Int32.reduceToInt, Int64.reduceToInt] at c1 c2); omega)), by rw [ht]; exact hP9, hD9⟩, hS.F ht⟩) hS.2.2 dX9_image_52
      · have hl : lv_has ls 2 [(0, .ref h0), (1, .int 1)] := by have q := hl; rw [h01] at q; exact q
        refine lv_aload_n hx hb dX9_image_16 rfl (lv_at hl 0 rfl) ?_
        refine va_get (D := G.1) (ci := 5) (v := .ref im) (C := RX9) (T := TX9) (N := 5) hx hb hts (fun _ h => List.mem_cons_of_mem _ (List.mem_append_left _ (List.mem_append_right _ h))) hown E.K hP 0 rfl rfl 2 (by decide) (hts (.fieldLink RX9 23 "LastMap" "images" "[LLastMap$Papers;") (by decide +kernel)) (fun _ h9 => h9) rfl dX9_image_17 ?_
        refine lv_iload_n hx hb dX9_image_20 rfl (lv_at hl 1 rfl) ?_
        refine va_aldq hx hb E.K hP 1 3 rfl rfl (i := 1) (by unfold vp_in; decide) dX9_image_21 ?_
        refine lv_ifnonnullN hx hb dX9_image_22 ?_
        refine lv_aload_n hx hb dX9_image_25 rfl (lv_at hl 0 rfl) ?_
        refine va_get (D := G.1) (ci := 5) (v := .ref im) (C := RX9) (T := TX9) (N := 5) hx hb hts (fun _ h => List.mem_cons_of_mem _ (List.mem_append_left _ (List.mem_append_right _ h))) hown E.K hP 0 rfl rfl 2 (by decide) (hts (.fieldLink RX9 23 "LastMap" "images" "[LLastMap$Papers;") (by decide +kernel)) (fun _ h9 => h9) rfl dX9_image_26 ?_
        refine lv_iload_n hx hb dX9_image_29 rfl (lv_at hl 1 rfl) ?_
        refine va_new (ci := 1) (fs := [.int 0, .int 0, .int 0, .int 0, .null, .null]) (C := RX3) (T := TX3) (N := 6) hx hb hts (fun _ h => List.mem_cons_of_mem _ (List.mem_append_right _ h)) tyX3 tyX3_ok hown (hts (.classLink RX9 16 RX3) (by decide +kernel)) (hts (.instantiable RX3 6) (by decide +kernel)) (hts (.initialized RX3) (by decide +kernel)) E.K hP hD hS hA rfl (by decide +kernel) (by decide +kernel) (by decide +kernel) dX9_image_30 (fun q15 H hP hD hS => ?_)
        have hP : va_P G.1 vwCl [(h0, .inr (5, [.ref pad, .ref pp, .ref im, .null, .null])), (im, .inl (gP G, 2, .inr (.inr (.inr (.inr (fun _ => none)))))), (pad, .inr (0, [.ref sg, .ref sl, .int 0])), (sg, .inl (gI G, 40, .inl (fun _ => 0))), (sl, .inl (gI G, 10, .inl (fun _ => 0))), (pp, .inr (1, [.int 6, .int 0, .int 1, .int 0, .ref ac, .ref ak])), (ac, .inl (gI G, 6, .inl (fun _ => 0))), (ak, .inl (gI G, 4, .inl fk)), (q15, .inr (1, [.int 0, .int 0, .int 0, .int 0, .null, .null]))] H := hP
        have hD : va_D A [(h0, .inr (5, [.ref pad, .ref pp, .ref im, .null, .null])), (im, .inl (gP G, 2, .inr (.inr (.inr (.inr (fun _ => none)))))), (pad, .inr (0, [.ref sg, .ref sl, .int 0])), (sg, .inl (gI G, 40, .inl (fun _ => 0))), (sl, .inl (gI G, 10, .inl (fun _ => 0))), (pp, .inr (1, [.int 6, .int 0, .int 1, .int 0, .ref ac, .ref ak])), (ac, .inl (gI G, 6, .inl (fun _ => 0))), (ak, .inl (gI G, 4, .inl fk)), (q15, .inr (1, [.int 0, .int 0, .int 0, .int 0, .null, .null]))] := hD
        refine W.widen (k := 1) (n := 6) (by decide +kernel) (by decide +kernel) ?_
        refine lv_dup hx hb dX9_image_33 rfl ?_
        refine ca_v (wr := [(h0, .inr (5, [.ref pad, .ref pp, .ref im, .null, .null])), (im, .inl (gP G, 2, .inr (.inr (.inr (.inr (fun _ => none)))))), (pad, .inr (0, [.ref sg, .ref sl, .int 0])), (sg, .inl (gI G, 40, .inl (fun _ => 0))), (sl, .inl (gI G, 10, .inl (fun _ => 0))), (pp, .inr (1, [.int 6, .int 0, .int 1, .int 0, .ref ac, .ref ak])), (ac, .inl (gI G, 6, .inl (fun _ => 0))), (ak, .inl (gI G, 4, .inl fk))]) (va_runIN (As := []) (rest := [.ref q15, .int 1, .ref im]) ⟨hx, hb, hml, hown, hts⟩ (c_Papers l G H.size q15) ⟨va_cnB 0 hts gX9_image_X3_init_n18 rfl rfl rfl E.n18 (hts (.initialized RX3) (by decide +kernel)) (by decide +kernel) ⟨by decide +kernel, by decide +kernel⟩, rfl, hts (.instanceMethod yX3_init) (by decide +kernel)⟩ (pre_S E hP hD hS hA [8] (by decide) rfl) rfl rfl hl.1 rfl (lv_room (Nat.le_of_ble_eq_true rfl)) dX9_image_34 ⟨by decide +kernel, by decide +kernel⟩) hS hP hD hA [8] [0, 1, 2, 3, 4, 5, 6, 7] rfl rfl (by decide) (by decide) (fun u18 H locs w16 hP hD hS => ?_)
        obtain ⟨ac1_19, ak1_20, gk_21⟩ := u18
        try dsimp only at w16 hP hD
        have hP := hP.sub (ws' := [(h0, .inr (5, [.ref pad, .ref pp, .ref im, .null, .null])), (im, .inl (gP G, 2, .inr (.inr (.inr (.inr (fun _ => none)))))), (pad, .inr (0, [.ref sg, .ref sl, .int 0])), (sg, .inl (gI G, 40, .inl (fun _ => 0))), (sl, .inl (gI G, 10, .inl (fun _ => 0))), (pp, .inr (1, [.int 6, .int 0, .int 1, .int 0, .ref ac, .ref ak])), (ac, .inl (gI G, 6, .inl (fun _ => 0))), (ak, .inl (gI G, 4, .inl fk)), (q15, .inr (1, [.int 6, .int 0, .int 1, .int 0, .ref ac1_19, .ref ak1_20])), (ac1_19, .inl (gI G, 6, .inl (fun _ => 0))), (ak1_20, .inl (gI G, 4, .inl gk_21))]) [0, 1, 2, 3, 4, 5, 6, 7, 8, 9, 10] rfl
        have hD := hD.sub (ws' := [(h0, .inr (5, [.ref pad, .ref pp, .ref im, .null, .null])), (im, .inl (gP G, 2, .inr (.inr (.inr (.inr (fun _ => none)))))), (pad, .inr (0, [.ref sg, .ref sl, .int 0])), (sg, .inl (gI G, 40, .inl (fun _ => 0))), (sl, .inl (gI G, 10, .inl (fun _ => 0))), (pp, .inr (1, [.int 6, .int 0, .int 1, .int 0, .ref ac, .ref ak])), (ac, .inl (gI G, 6, .inl (fun _ => 0))), (ak, .inl (gI G, 4, .inl fk)), (q15, .inr (1, [.int 6, .int 0, .int 1, .int 0, .ref ac1_19, .ref ak1_20])), (ac1_19, .inl (gI G, 6, .inl (fun _ => 0))), (ak1_20, .inl (gI G, 4, .inl gk_21))]) [0, 1, 2, 3, 4, 5, 6, 7, 8, 9, 10] (by decide) rfl
        refine W.widen (k := 3) (n := 16) (by decide +kernel) (by decide +kernel) ?_
        refine va_astq hx hb E.K hP hD hS 1 3 8 1 rfl rfl rfl rfl (i := 1) (by unfold vp_in; decide) dX9_image_37 (fun H locs hP hD hS => ?_)
        have hP : va_P G.1 vwCl [(h0, .inr (5, [.ref pad, .ref pp, .ref im, .null, .null])), (im, .inl (gP G, 2, .inr (.inr (.inr (.inr (va_up (fun _ => none) (1 : Int32).toNatClampNeg (some q15))))))), (pad, .inr (0, [.ref sg, .ref sl, .int 0])), (sg, .inl (gI G, 40, .inl (fun _ => 0))), (sl, .inl (gI G, 10, .inl (fun _ => 0))), (pp, .inr (1, [.int 6, .int 0, .int 1, .int 0, .ref ac, .ref ak])), (ac, .inl (gI G, 6, .inl (fun _ => 0))), (ak, .inl (gI G, 4, .inl fk)), (q15, .inr (1, [.int 6, .int 0, .int 1, .int 0, .ref ac1_19, .ref ak1_20])), (ac1_19, .inl (gI G, 6, .inl (fun _ => 0))), (ak1_20, .inl (gI G, 4, .inl gk_21))] H := hP
        have hD : va_D A [(h0, .inr (5, [.ref pad, .ref pp, .ref im, .null, .null])), (im, .inl (gP G, 2, .inr (.inr (.inr (.inr (va_up (fun _ => none) (1 : Int32).toNatClampNeg (some q15))))))), (pad, .inr (0, [.ref sg, .ref sl, .int 0])), (sg, .inl (gI G, 40, .inl (fun _ => 0))), (sl, .inl (gI G, 10, .inl (fun _ => 0))), (pp, .inr (1, [.int 6, .int 0, .int 1, .int 0, .ref ac, .ref ak])), (ac, .inl (gI G, 6, .inl (fun _ => 0))), (ak, .inl (gI G, 4, .inl fk)), (q15, .inr (1, [.int 6, .int 0, .int 1, .int 0, .ref ac1_19, .ref ak1_20])), (ac1_19, .inl (gI G, 6, .inl (fun _ => 0))), (ak1_20, .inl (gI G, 4, .inl gk_21))] := hD
        refine lv_aload_n hx hb dX9_image_38 rfl (lv_at hl 0 rfl) ?_
        refine va_get (D := G.1) (ci := 5) (v := .ref im) (C := RX9) (T := TX9) (N := 5) hx hb hts (fun _ h => List.mem_cons_of_mem _ (List.mem_append_left _ (List.mem_append_right _ h))) hown E.K hP 0 rfl rfl 2 (by decide) (hts (.fieldLink RX9 23 "LastMap" "images" "[LLastMap$Papers;") (by decide +kernel)) (fun _ h9 => h9) rfl dX9_image_39 ?_
        refine lv_iload_n hx hb dX9_image_42 rfl (lv_at hl 1 rfl) ?_
        refine va_aldq hx hb E.K hP 1 3 rfl rfl (i := 1) (by unfold vp_in; decide) dX9_image_43 ?_
        refine W.eq (g2 := F0 m 44 ls [.ref q15]) (congrArg (fun v => F0 m 44 ls (v :: [])) (show va_rf (va_up (fun _ => none) (1 : Int32).toNatClampNeg (some q15) (1 : Int32).toNatClampNeg) = Value.ref q15 by simp [va_up, va_rf])) ?_
        refine lv_aload_n hx hb dX9_image_44 rfl (lv_at hl 0 rfl) ?_
        refine va_get (D := G.1) (ci := 5) (v := .ref pp) (C := RX9) (T := TX9) (N := 5) hx hb hts (fun _ h => List.mem_cons_of_mem _ (List.mem_append_left _ (List.mem_append_right _ h))) hown E.K hP 0 rfl rfl 1 (by decide) (hts (.fieldLink RX9 19 "LastMap" "papers" "LLastMap$Papers;") (by decide +kernel)) (fun _ h9 => h9) rfl dX9_image_45 ?_
        refine ca_v (wr := [(h0, .inr (5, [.ref pad, .ref pp, .ref im, .null, .null])), (im, .inl (gP G, 2, .inr (.inr (.inr (.inr (va_up (fun _ => none) (1 : Int32).toNatClampNeg (some q15))))))), (pad, .inr (0, [.ref sg, .ref sl, .int 0])), (sg, .inl (gI G, 40, .inl (fun _ => 0))), (sl, .inl (gI G, 10, .inl (fun _ => 0)))]) (va_runV (As := [.ref pp]) (rest := []) ⟨hx, hb, hml, hown, hts⟩ (c_take l G H.size q15 ac1_19 ak1_20 6 0 1 0 (fun _ => 0) gk_21 pp ac ak 6 0 1 0 (fun _ => 0) fk) (cwV 1 hts gX9_image_X3_take rfl rfl rfl (by decide +kernel) ⟨by decide +kernel, by decide +kernel⟩) (pre_V E hP hD hS hA [8, 9, 10, 5, 6, 7] (by decide) rfl 8 1 rfl rfl) rfl rfl hl.1 rfl (lv_room (Nat.le_of_ble_eq_true rfl)) dX9_image_48 ⟨by decide +kernel, by decide +kernel⟩) hS hP hD hA [8, 9, 10, 5, 6, 7] [0, 1, 2, 3, 4] rfl rfl (by decide) (by decide) (fun u24 H locs w22 hP hD hS => ?_)
        obtain ⟨fc2_25, fk2_26⟩ := u24
        try dsimp only at w22 hP hD
        have hP := hP.sub (ws' := [(h0, .inr (5, [.ref pad, .ref pp, .ref im, .null, .null])), (im, .inl (gP G, 2, .inr (.inr (.inr (.inr (va_up (fun _ => none) (1 : Int32).toNatClampNeg (some q15))))))), (pad, .inr (0, [.ref sg, .ref sl, .int 0])), (sg, .inl (gI G, 40, .inl (fun _ => 0))), (sl, .inl (gI G, 10, .inl (fun _ => 0))), (pp, .inr (1, [.int 6, .int 0, .int 1, .int 0, .ref ac, .ref ak])), (ac, .inl (gI G, 6, .inl (fun _ => 0))), (ak, .inl (gI G, 4, .inl fk)), (q15, .inr (1, [.int 6, .int 0, .int 1, .int 0, .ref ac1_19, .ref ak1_20])), (ac1_19, .inl (gI G, 6, .inl fc2_25)), (ak1_20, .inl (gI G, 4, .inl fk2_26))]) [0, 1, 2, 3, 4, 8, 9, 10, 5, 6, 7] rfl
        have hD := hD.sub (ws' := [(h0, .inr (5, [.ref pad, .ref pp, .ref im, .null, .null])), (im, .inl (gP G, 2, .inr (.inr (.inr (.inr (va_up (fun _ => none) (1 : Int32).toNatClampNeg (some q15))))))), (pad, .inr (0, [.ref sg, .ref sl, .int 0])), (sg, .inl (gI G, 40, .inl (fun _ => 0))), (sl, .inl (gI G, 10, .inl (fun _ => 0))), (pp, .inr (1, [.int 6, .int 0, .int 1, .int 0, .ref ac, .ref ak])), (ac, .inl (gI G, 6, .inl (fun _ => 0))), (ak, .inl (gI G, 4, .inl fk)), (q15, .inr (1, [.int 6, .int 0, .int 1, .int 0, .ref ac1_19, .ref ak1_20])), (ac1_19, .inl (gI G, 6, .inl fc2_25)), (ak1_20, .inl (gI G, 4, .inl fk2_26))]) [0, 1, 2, 3, 4, 8, 9, 10, 5, 6, 7] (by decide) rfl
        refine lv_iconst (v := 1) hx hb dX9_image_51 (by decide) ?_
        have hP9 := hP.sub (ws' := []) [] rfl
        have hD9 := hD.sub (ws' := []) [] (by decide) rfl
        exact W.iret (v := 1) hx hb hr (fun t ht hW => ⟨⟨1, (), rfl, by dsimp only; symm; unfold sp_image; (repeat (first | (refine Eq.trans (cIf_t ?_) ?_; · first | assumption | ((try simp only [inR, inS, i3_lt, i3_le, i3_eq, i6_lt, i6_le, Int32.toInt_toInt64, lg_cmp_lt, lg_cmp_gt, lg_cmp_ge, lg_cmp_le, Int32.reduceToInt, Int64.reduceToInt] at c1 c2 ⊢); omega)) | (refine Eq.trans (cIf_f ?_) ?_; · first | assumption | ((try simp only [inR, inS, i3_lt, i3_le, i3_eq, i6_lt, i6_le, Int32.toInt_toInt64, lg_cmp_lt, lg_cmp_gt, lg_cmp_ge, lg_cmp_le, Int32.reduceToInt, Int64.reduceToInt] at c1 c2 ⊢); omega)))); first | rfl | (exfalso; ((try simp only [inR, inS, i3_lt, i3_le, i3_eq, i6_lt, i6_le, Int32.toInt_toInt64, lg_cmp_lt, lg_cmp_gt, lg_cmp_ge, lg_cmp_le, Int32.reduceToInt, Int64.reduceToInt] at c1 c2); omega)), by rw [ht]; exact hP9, hD9⟩, hS.F ht⟩) hS.2.2 dX9_image_52
    · refine lv_bipush (v := (-2)) hx hb dX9_image_13 (by decide) ?_
      refine W.widen (k := 3) (n := 16) (by decide +kernel) (by decide +kernel) ?_
      have hP9 := hP.sub (ws' := []) [] rfl
      have hD9 := hD.sub (ws' := []) [] (by decide) rfl
      exact W.iret (v := (-2)) hx hb hr (fun t ht hW => ⟨⟨(-2), (), rfl, by dsimp only; symm; unfold sp_image; (repeat (first | (refine Eq.trans (cIf_t ?_) ?_; · first | assumption | ((try simp only [inR, inS, i3_lt, i3_le, i3_eq, i6_lt, i6_le, Int32.toInt_toInt64, lg_cmp_lt, lg_cmp_gt, lg_cmp_ge, lg_cmp_le, Int32.reduceToInt, Int64.reduceToInt] at c1 c2 ⊢); omega)) | (refine Eq.trans (cIf_f ?_) ?_; · first | assumption | ((try simp only [inR, inS, i3_lt, i3_le, i3_eq, i6_lt, i6_le, Int32.toInt_toInt64, lg_cmp_lt, lg_cmp_gt, lg_cmp_ge, lg_cmp_le, Int32.reduceToInt, Int64.reduceToInt] at c1 c2 ⊢); omega)))); first | rfl | (exfalso; ((try simp only [inR, inS, i3_lt, i3_le, i3_eq, i6_lt, i6_le, Int32.toInt_toInt64, lg_cmp_lt, lg_cmp_gt, lg_cmp_ge, lg_cmp_le, Int32.reduceToInt, Int64.reduceToInt] at c1 c2); omega)), by rw [ht]; exact hP9, hD9⟩, hS.F ht⟩) hS.2.2 dX9_image_15

set_option maxHeartbeats 1000000 in
set_option maxRecDepth 100000 in
theorem f_restore (l : Launch) (G : Gy) (sz : Nat) (h0 : Nat) (pad : Nat) (pp : Nat) (im : Nat) (sg : Nat) (sl : Nat) (ac : Nat) (ak : Nat) (fk : Nat → Int32) (p0 : Int32) (hk : ∀ j : Nat, j < 4 → fk j = 15) : Ci l G yX9_restore wsX9_restore ({ frames := 0, cells := 0, slots := 0, locals := 0 }) [.ref h0, .int p0] [(h0, .inr (5, [.ref pad, .ref pp, .ref im, .null, .null])), (im, .inl (gP G, 2, .inr (.inr (.inr (.inr (fun _ => none)))))), (pad, .inr (0, [.ref sg, .ref sl, .int 0])), (sg, .inl (gI G, 40, .inl (fun _ => 0))), (sl, .inl (gI G, 10, .inl (fun _ => 0))), (pp, .inr (1, [.int 6, .int 0, .int 1, .int 0, .ref ac, .ref ak])), (ac, .inl (gI G, 6, .inl (fun _ => 0))), (ak, .inl (gI G, 4, .inl fk))] sz (fun (r : Int32) (_ : Unit) => r = sp_restore p0) (fun (_ : Unit) => []) 0 0 := by
  refine Met.ofW (cc := cX9_restore) (maxL := 3) (ret := (some .int)) (by decide) rfl ?_
  intro p e s m args below meth c s₁ B hml hv
  obtain ⟨rfl, hsz, hP, hD0, E0⟩ := hv
  have hx := B.exec
  have hb := B.bytes
  have hr := B.returns
  have hts := atoms_spec (ws := wsX9_restore) B.pre
  have hown : s.vm.findClass RX9 = some m.cls := findClass_of_methodNamed B.named
  have hlocks := B.notSynchronized
  subst hsz
  have hD := hD0.self (sz := s.heap.size)
  generalize hAe : va_A [(h0, .inr (5, [.ref pad, .ref pp, .ref im, .null, .null])), (im, .inl (gP G, 2, .inr (.inr (.inr (.inr (fun _ => none)))))), (pad, .inr (0, [.ref sg, .ref sl, .int 0])), (sg, .inl (gI G, 40, .inl (fun _ => 0))), (sl, .inl (gI G, 10, .inl (fun _ => 0))), (pp, .inr (1, [.int 6, .int 0, .int 1, .int 0, .ref ac, .ref ak])), (ac, .inl (gI G, 6, .inl (fun _ => 0))), (ak, .inl (gI G, 4, .inl fk))] s.heap.size = A at hD E0 ⊢
  have E : EV G A s s.heap := E0
  have hA : ∀ q : Nat, s.heap.size ≤ q → A q := fun q h => by rw [← hAe]; exact Or.inr h
  have hS : va_S A s.heap s.heap [] := va_S.rf
  have hl := lv_entry ([.ref h0, .int p0]) (n := 3) (Nat.le_of_ble_eq_true rfl)
  rw [lg_entry_eq]
  generalize (lg_sl ([.ref h0, .int p0]) ++ List.replicate (3 - (lg_sl ([.ref h0, .int p0])).length) Slot.unset).toArray = ls at hl ⊢
  have hl : lv_has ls 3 [(0, .ref h0), (1, .int p0)] := hl
  have hP : va_P G.1 vwCl [(h0, .inr (5, [.ref pad, .ref pp, .ref im, .null, .null])), (im, .inl (gP G, 2, .inr (.inr (.inr (.inr (fun _ => none)))))), (pad, .inr (0, [.ref sg, .ref sl, .int 0])), (sg, .inl (gI G, 40, .inl (fun _ => 0))), (sl, .inl (gI G, 10, .inl (fun _ => 0))), (pp, .inr (1, [.int 6, .int 0, .int 1, .int 0, .ref ac, .ref ak])), (ac, .inl (gI G, 6, .inl (fun _ => 0))), (ak, .inl (gI G, 4, .inl fk))] s.heap := hP
  refine lv_iload_n hx hb dX9_restore_0 rfl (lv_at hl 1 rfl) ?_
  refine lv_if_lt (tgt := 13) hx hb dX9_restore_1 (by decide) (fun c1 => ?_) (fun c1 => ?_)
  · refine lv_bipush (v := (-2)) hx hb dX9_restore_13 (by decide) ?_
    have hP9 := hP.sub (ws' := []) [] rfl
    have hD9 := hD.sub (ws' := []) [] (by decide) rfl
    exact W.iret (v := (-2)) hx hb hr (fun t ht hW => ⟨⟨(-2), (), rfl, by dsimp only; symm; unfold sp_restore; (repeat (first | (refine Eq.trans (cIf_t ?_) ?_; · first | assumption | ((try simp only [inR, inS, i3_lt, i3_le, i3_eq, i6_lt, i6_le, Int32.toInt_toInt64, lg_cmp_lt, lg_cmp_gt, lg_cmp_ge, lg_cmp_le, Int32.reduceToInt, Int64.reduceToInt] at c1 ⊢); omega)) | (refine Eq.trans (cIf_f ?_) ?_; · first | assumption | ((try simp only [inR, inS, i3_lt, i3_le, i3_eq, i6_lt, i6_le, Int32.toInt_toInt64, lg_cmp_lt, lg_cmp_gt, lg_cmp_ge, lg_cmp_le, Int32.reduceToInt, Int64.reduceToInt] at c1 ⊢); omega)))); first | rfl | (exfalso; ((try simp only [inR, inS, i3_lt, i3_le, i3_eq, i6_lt, i6_le, Int32.toInt_toInt64, lg_cmp_lt, lg_cmp_gt, lg_cmp_ge, lg_cmp_le, Int32.reduceToInt, Int64.reduceToInt] at c1); omega)), by rw [ht]; exact hP9, hD9⟩, hS.F ht⟩) hS.2.2 dX9_restore_15
  · refine lv_iload_n hx hb dX9_restore_4 rfl (lv_at hl 1 rfl) ?_
    refine lv_aload_n hx hb dX9_restore_5 rfl (lv_at hl 0 rfl) ?_
    refine va_get (D := G.1) (ci := 5) (v := .ref im) (C := RX9) (T := TX9) (N := 5) hx hb hts (fun _ h => List.mem_cons_of_mem _ (List.mem_append_left _ (List.mem_append_right _ h))) hown E.K hP 0 rfl rfl 2 (by decide) (hts (.fieldLink RX9 23 "LastMap" "images" "[LLastMap$Papers;") (by decide +kernel)) (fun _ h9 => h9) rfl dX9_restore_6 ?_
    refine va_alen (v := 2) hx hb E.K hP 1 3 rfl rfl rfl dX9_restore_9 ?_
    refine lv_icmp_lt (tgt := 16) hx hb dX9_restore_10 (by decide) (fun c2 => ?_) (fun c2 => ?_)
    · have h01 : p0 = 0 ∨ p0 = 1 := by ((try simp only [inR, inS, i3_lt, i3_le, i3_eq, i6_lt, i6_le, Int32.toInt_toInt64, lg_cmp_lt, lg_cmp_gt, lg_cmp_ge, lg_cmp_le, Int32.reduceToInt, Int64.reduceToInt] at c1 c2 ⊢); omega)
      rcases h01 with h01 | h01
      · have hl : lv_has ls 3 [(0, .ref h0), (1, .int 0)] := by have q := hl; rw [h01] at q; exact q
        refine lv_aload_n hx hb dX9_restore_16 rfl (lv_at hl 0 rfl) ?_
        refine va_get (D := G.1) (ci := 5) (v := .ref im) (C := RX9) (T := TX9) (N := 5) hx hb hts (fun _ h => List.mem_cons_of_mem _ (List.mem_append_left _ (List.mem_append_right _ h))) hown E.K hP 0 rfl rfl 2 (by decide) (hts (.fieldLink RX9 23 "LastMap" "images" "[LLastMap$Papers;") (by decide +kernel)) (fun _ h9 => h9) rfl dX9_restore_17 ?_
        refine lv_iload_n hx hb dX9_restore_20 rfl (lv_at hl 1 rfl) ?_
        refine va_aldq hx hb E.K hP 1 3 rfl rfl (i := 0) (by unfold vp_in; decide) dX9_restore_21 ?_
        refine lv_astore_nN (lv' := [(2, .null), (0, .ref h0), (1, .int 0)]) hx hb dX9_restore_22 rfl hl (by decide) rfl (fun ls hl => ?_)
        refine lv_aload_nN hx hb dX9_restore_23 rfl (lv_at hl 0 rfl) ?_
        refine lv_ifnonnullN hx hb dX9_restore_24 ?_
        refine lv_bipush (v := (-3)) hx hb dX9_restore_27 (by decide) ?_
        have hP9 := hP.sub (ws' := []) [] rfl
        have hD9 := hD.sub (ws' := []) [] (by decide) rfl
        exact W.iret (v := (-3)) hx hb hr (fun t ht hW => ⟨⟨(-3), (), rfl, by dsimp only; symm; unfold sp_restore; (repeat (first | (refine Eq.trans (cIf_t ?_) ?_; · first | assumption | ((try simp only [inR, inS, i3_lt, i3_le, i3_eq, i6_lt, i6_le, Int32.toInt_toInt64, lg_cmp_lt, lg_cmp_gt, lg_cmp_ge, lg_cmp_le, Int32.reduceToInt, Int64.reduceToInt] at c1 c2 ⊢); omega)) | (refine Eq.trans (cIf_f ?_) ?_; · first | assumption | ((try simp only [inR, inS, i3_lt, i3_le, i3_eq, i6_lt, i6_le, Int32.toInt_toInt64, lg_cmp_lt, lg_cmp_gt, lg_cmp_ge, lg_cmp_le, Int32.reduceToInt, Int64.reduceToInt] at c1 c2 ⊢); omega)))); first | rfl | (exfalso; ((try simp only [inR, inS, i3_lt, i3_le, i3_eq, i6_lt, i6_le, Int32.toInt_toInt64, lg_cmp_lt, lg_cmp_gt, lg_cmp_ge, lg_cmp_le, Int32.reduceToInt, Int64.reduceToInt] at c1 c2); omega)), by rw [ht]; exact hP9, hD9⟩, hS.F ht⟩) hS.2.2 dX9_restore_29
      · have hl : lv_has ls 3 [(0, .ref h0), (1, .int 1)] := by have q := hl; rw [h01] at q; exact q
        refine lv_aload_n hx hb dX9_restore_16 rfl (lv_at hl 0 rfl) ?_
        refine va_get (D := G.1) (ci := 5) (v := .ref im) (C := RX9) (T := TX9) (N := 5) hx hb hts (fun _ h => List.mem_cons_of_mem _ (List.mem_append_left _ (List.mem_append_right _ h))) hown E.K hP 0 rfl rfl 2 (by decide) (hts (.fieldLink RX9 23 "LastMap" "images" "[LLastMap$Papers;") (by decide +kernel)) (fun _ h9 => h9) rfl dX9_restore_17 ?_
        refine lv_iload_n hx hb dX9_restore_20 rfl (lv_at hl 1 rfl) ?_
        refine va_aldq hx hb E.K hP 1 3 rfl rfl (i := 1) (by unfold vp_in; decide) dX9_restore_21 ?_
        refine lv_astore_nN (lv' := [(2, .null), (0, .ref h0), (1, .int 1)]) hx hb dX9_restore_22 rfl hl (by decide) rfl (fun ls hl => ?_)
        refine lv_aload_nN hx hb dX9_restore_23 rfl (lv_at hl 0 rfl) ?_
        refine lv_ifnonnullN hx hb dX9_restore_24 ?_
        refine lv_bipush (v := (-3)) hx hb dX9_restore_27 (by decide) ?_
        have hP9 := hP.sub (ws' := []) [] rfl
        have hD9 := hD.sub (ws' := []) [] (by decide) rfl
        exact W.iret (v := (-3)) hx hb hr (fun t ht hW => ⟨⟨(-3), (), rfl, by dsimp only; symm; unfold sp_restore; (repeat (first | (refine Eq.trans (cIf_t ?_) ?_; · first | assumption | ((try simp only [inR, inS, i3_lt, i3_le, i3_eq, i6_lt, i6_le, Int32.toInt_toInt64, lg_cmp_lt, lg_cmp_gt, lg_cmp_ge, lg_cmp_le, Int32.reduceToInt, Int64.reduceToInt] at c1 c2 ⊢); omega)) | (refine Eq.trans (cIf_f ?_) ?_; · first | assumption | ((try simp only [inR, inS, i3_lt, i3_le, i3_eq, i6_lt, i6_le, Int32.toInt_toInt64, lg_cmp_lt, lg_cmp_gt, lg_cmp_ge, lg_cmp_le, Int32.reduceToInt, Int64.reduceToInt] at c1 c2 ⊢); omega)))); first | rfl | (exfalso; ((try simp only [inR, inS, i3_lt, i3_le, i3_eq, i6_lt, i6_le, Int32.toInt_toInt64, lg_cmp_lt, lg_cmp_gt, lg_cmp_ge, lg_cmp_le, Int32.reduceToInt, Int64.reduceToInt] at c1 c2); omega)), by rw [ht]; exact hP9, hD9⟩, hS.F ht⟩) hS.2.2 dX9_restore_29
    · refine lv_bipush (v := (-2)) hx hb dX9_restore_13 (by decide) ?_
      have hP9 := hP.sub (ws' := []) [] rfl
      have hD9 := hD.sub (ws' := []) [] (by decide) rfl
      exact W.iret (v := (-2)) hx hb hr (fun t ht hW => ⟨⟨(-2), (), rfl, by dsimp only; symm; unfold sp_restore; (repeat (first | (refine Eq.trans (cIf_t ?_) ?_; · first | assumption | ((try simp only [inR, inS, i3_lt, i3_le, i3_eq, i6_lt, i6_le, Int32.toInt_toInt64, lg_cmp_lt, lg_cmp_gt, lg_cmp_ge, lg_cmp_le, Int32.reduceToInt, Int64.reduceToInt] at c1 c2 ⊢); omega)) | (refine Eq.trans (cIf_f ?_) ?_; · first | assumption | ((try simp only [inR, inS, i3_lt, i3_le, i3_eq, i6_lt, i6_le, Int32.toInt_toInt64, lg_cmp_lt, lg_cmp_gt, lg_cmp_ge, lg_cmp_le, Int32.reduceToInt, Int64.reduceToInt] at c1 c2 ⊢); omega)))); first | rfl | (exfalso; ((try simp only [inR, inS, i3_lt, i3_le, i3_eq, i6_lt, i6_le, Int32.toInt_toInt64, lg_cmp_lt, lg_cmp_gt, lg_cmp_ge, lg_cmp_le, Int32.reduceToInt, Int64.reduceToInt] at c1 c2); omega)), by rw [ht]; exact hP9, hD9⟩, hS.F ht⟩) hS.2.2 dX9_restore_15

set_option maxHeartbeats 1000000 in
set_option maxRecDepth 100000 in
theorem f_told (l : Launch) (G : Gy) (sz : Nat) (h0 : Nat) (pad : Nat) (pp : Nat) (im : Nat) (sg : Nat) (sl : Nat) (ac : Nat) (ak : Nat) (fk : Nat → Int32) (p0 : Int32) (hk : ∀ j : Nat, j < 4 → fk j = 15) : Ci l G yX9_told wsX9_told ({ frames := 1, cells := 0, slots := 0, locals := 21 }) [.ref h0, .int p0] [(h0, .inr (5, [.ref pad, .ref pp, .ref im, .null, .null])), (im, .inl (gP G, 2, .inr (.inr (.inr (.inr (fun _ => none)))))), (pad, .inr (0, [.ref sg, .ref sl, .int 0])), (sg, .inl (gI G, 40, .inl (fun _ => 0))), (sl, .inl (gI G, 10, .inl (fun _ => 0))), (pp, .inr (1, [.int 6, .int 0, .int 1, .int 0, .ref ac, .ref ak])), (ac, .inl (gI G, 6, .inl (fun _ => 0))), (ak, .inl (gI G, 4, .inl fk))] sz (fun (r : Int32) (_ : Unit) => r = sp_told p0) (fun (_ : Unit) => []) 0 0 := by
  refine Met.ofW (cc := cX9_told) (maxL := 2) (ret := (some .int)) (by decide) rfl ?_
  intro p e s m args below meth c s₁ B hml hv
  obtain ⟨rfl, hsz, hP, hD0, E0⟩ := hv
  have hx := B.exec
  have hb := B.bytes
  have hr := B.returns
  have hts := atoms_spec (ws := wsX9_told) B.pre
  have hown : s.vm.findClass RX9 = some m.cls := findClass_of_methodNamed B.named
  have hlocks := B.notSynchronized
  subst hsz
  have hD := hD0.self (sz := s.heap.size)
  generalize hAe : va_A [(h0, .inr (5, [.ref pad, .ref pp, .ref im, .null, .null])), (im, .inl (gP G, 2, .inr (.inr (.inr (.inr (fun _ => none)))))), (pad, .inr (0, [.ref sg, .ref sl, .int 0])), (sg, .inl (gI G, 40, .inl (fun _ => 0))), (sl, .inl (gI G, 10, .inl (fun _ => 0))), (pp, .inr (1, [.int 6, .int 0, .int 1, .int 0, .ref ac, .ref ak])), (ac, .inl (gI G, 6, .inl (fun _ => 0))), (ak, .inl (gI G, 4, .inl fk))] s.heap.size = A at hD E0 ⊢
  have E : EV G A s s.heap := E0
  have hA : ∀ q : Nat, s.heap.size ≤ q → A q := fun q h => by rw [← hAe]; exact Or.inr h
  have hS : va_S A s.heap s.heap [] := va_S.rf
  have hl := lv_entry ([.ref h0, .int p0]) (n := 2) (Nat.le_of_ble_eq_true rfl)
  rw [lg_entry_eq]
  generalize (lg_sl ([.ref h0, .int p0]) ++ List.replicate (2 - (lg_sl ([.ref h0, .int p0])).length) Slot.unset).toArray = ls at hl ⊢
  have hl : lv_has ls 2 [(0, .ref h0), (1, .int p0)] := hl
  have hP : va_P G.1 vwCl [(h0, .inr (5, [.ref pad, .ref pp, .ref im, .null, .null])), (im, .inl (gP G, 2, .inr (.inr (.inr (.inr (fun _ => none)))))), (pad, .inr (0, [.ref sg, .ref sl, .int 0])), (sg, .inl (gI G, 40, .inl (fun _ => 0))), (sl, .inl (gI G, 10, .inl (fun _ => 0))), (pp, .inr (1, [.int 6, .int 0, .int 1, .int 0, .ref ac, .ref ak])), (ac, .inl (gI G, 6, .inl (fun _ => 0))), (ak, .inl (gI G, 4, .inl fk))] s.heap := hP
  refine lv_iload_n hx hb dX9_told_0 rfl (lv_at hl 1 rfl) ?_
  refine lv_bipush (v := 10) hx hb dX9_told_1 (by decide) ?_
  refine lv_icmp_lt (tgt := 28) hx hb dX9_told_3 (by decide) (fun c1 => ?_) (fun c1 => ?_)
  · refine lv_iload_n hx hb dX9_told_28 rfl (lv_at hl 1 rfl) ?_
    by_cases c90 : p0 = 0
    · refine lv_tableIn (off := 31) (tgt := 60) hx hb dX9_told_29 (by rw [c90]; decide) (by rw [c90]; decide) (by rw [c90]; decide) (by decide) ?_
      refine lv_aload_n hx hb dX9_told_60 rfl (lv_at hl 0 rfl) ?_
      refine va_get (D := G.1) (ci := 5) (v := .ref pad) (C := RX9) (T := TX9) (N := 5) hx hb hts (fun _ h => List.mem_cons_of_mem _ (List.mem_append_left _ (List.mem_append_left _ (List.mem_append_right _ h)))) hown E.K hP 0 rfl rfl 0 (by decide) (hts (.fieldLink RX9 10 "LastMap" "pad" "LLastMap$Pad;") (by decide +kernel)) (fun _ h9 => h9) rfl dX9_told_61 ?_
      refine va_get (D := G.1) (ci := 0) (v := .int 0) (C := RX2) (T := TX2) (N := 3) hx hb hts (fun _ h => List.mem_cons_of_mem _ (List.mem_append_left _ (List.mem_append_right _ h))) hown E.K hP 2 rfl rfl 2 (by decide) (hts (.fieldLink RX9 41 "LastMap$Pad" "length" "I") (by decide +kernel)) (fun _ h9 => h9) rfl dX9_told_64 ?_
      have hP9 := hP.sub (ws' := []) [] rfl
      have hD9 := hD.sub (ws' := []) [] (by decide) rfl
      exact W.iret (v := 0) hx hb hr (fun t ht hW => ⟨⟨0, (), rfl, by dsimp only; symm; unfold sp_told; (repeat (first | (refine Eq.trans (cIf_t ?_) ?_; · first | assumption | ((try simp only [inR, inS, i3_lt, i3_le, i3_eq, i6_lt, i6_le, Int32.toInt_toInt64, lg_cmp_lt, lg_cmp_gt, lg_cmp_ge, lg_cmp_le, Int32.reduceToInt, Int64.reduceToInt] at c1 c90 ⊢); omega)) | (refine Eq.trans (cIf_f ?_) ?_; · first | assumption | ((try simp only [inR, inS, i3_lt, i3_le, i3_eq, i6_lt, i6_le, Int32.toInt_toInt64, lg_cmp_lt, lg_cmp_gt, lg_cmp_ge, lg_cmp_le, Int32.reduceToInt, Int64.reduceToInt] at c1 c90 ⊢); omega)))); first | rfl | (exfalso; ((try simp only [inR, inS, i3_lt, i3_le, i3_eq, i6_lt, i6_le, Int32.toInt_toInt64, lg_cmp_lt, lg_cmp_gt, lg_cmp_ge, lg_cmp_le, Int32.reduceToInt, Int64.reduceToInt] at c1 c90); omega)), by rw [ht]; exact hP9, hD9⟩, hS.F ht⟩) hS.2.2 dX9_told_67
    by_cases c91 : p0 = 1
    · refine lv_tableIn (off := 39) (tgt := 68) hx hb dX9_told_29 (by rw [c91]; decide) (by rw [c91]; decide) (by rw [c91]; decide) (by decide) ?_
      refine lv_aload_n hx hb dX9_told_68 rfl (lv_at hl 0 rfl) ?_
      refine va_get (D := G.1) (ci := 5) (v := .ref pp) (C := RX9) (T := TX9) (N := 5) hx hb hts (fun _ h => List.mem_cons_of_mem _ (List.mem_append_left _ (List.mem_append_left _ (List.mem_append_right _ h)))) hown E.K hP 0 rfl rfl 1 (by decide) (hts (.fieldLink RX9 19 "LastMap" "papers" "LLastMap$Papers;") (by decide +kernel)) (fun _ h9 => h9) rfl dX9_told_69 ?_
      refine va_get (D := G.1) (ci := 1) (v := .int 6) (C := RX3) (T := TX3) (N := 6) hx hb hts (fun _ h => List.mem_cons_of_mem _ (List.mem_append_right _ h)) hown E.K hP 5 rfl rfl 0 (by decide) (hts (.fieldLink RX9 27 "LastMap$Papers" "siteCount" "I") (by decide +kernel)) (fun _ h9 => h9) rfl dX9_told_72 ?_
      have hP9 := hP.sub (ws' := []) [] rfl
      have hD9 := hD.sub (ws' := []) [] (by decide) rfl
      exact W.iret (v := 6) hx hb hr (fun t ht hW => ⟨⟨6, (), rfl, by dsimp only; symm; unfold sp_told; (repeat (first | (refine Eq.trans (cIf_t ?_) ?_; · first | assumption | ((try simp only [inR, inS, i3_lt, i3_le, i3_eq, i6_lt, i6_le, Int32.toInt_toInt64, lg_cmp_lt, lg_cmp_gt, lg_cmp_ge, lg_cmp_le, Int32.reduceToInt, Int64.reduceToInt] at c1 c90 c91 ⊢); omega)) | (refine Eq.trans (cIf_f ?_) ?_; · first | assumption | ((try simp only [inR, inS, i3_lt, i3_le, i3_eq, i6_lt, i6_le, Int32.toInt_toInt64, lg_cmp_lt, lg_cmp_gt, lg_cmp_ge, lg_cmp_le, Int32.reduceToInt, Int64.reduceToInt] at c1 c90 c91 ⊢); omega)))); first | rfl | (exfalso; ((try simp only [inR, inS, i3_lt, i3_le, i3_eq, i6_lt, i6_le, Int32.toInt_toInt64, lg_cmp_lt, lg_cmp_gt, lg_cmp_ge, lg_cmp_le, Int32.reduceToInt, Int64.reduceToInt] at c1 c90 c91); omega)), by rw [ht]; exact hP9, hD9⟩, hS.F ht⟩) hS.2.2 dX9_told_75
    by_cases c92 : p0 = 2
    · refine lv_tableIn (off := 47) (tgt := 76) hx hb dX9_told_29 (by rw [c92]; decide) (by rw [c92]; decide) (by rw [c92]; decide) (by decide) ?_
      refine lv_aload_n hx hb dX9_told_76 rfl (lv_at hl 0 rfl) ?_
      refine va_get (D := G.1) (ci := 5) (v := .ref pp) (C := RX9) (T := TX9) (N := 5) hx hb hts (fun _ h => List.mem_cons_of_mem _ (List.mem_append_left _ (List.mem_append_left _ (List.mem_append_right _ h)))) hown E.K hP 0 rfl rfl 1 (by decide) (hts (.fieldLink RX9 19 "LastMap" "papers" "LLastMap$Papers;") (by decide +kernel)) (fun _ h9 => h9) rfl dX9_told_77 ?_
      refine va_get (D := G.1) (ci := 1) (v := .int 0) (C := RX3) (T := TX3) (N := 6) hx hb hts (fun _ h => List.mem_cons_of_mem _ (List.mem_append_right _ h)) hown E.K hP 5 rfl rfl 1 (by decide) (hts (.fieldLink RX9 31 "LastMap$Papers" "toldMaps" "I") (by decide +kernel)) (fun _ h9 => h9) rfl dX9_told_80 ?_
      have hP9 := hP.sub (ws' := []) [] rfl
      have hD9 := hD.sub (ws' := []) [] (by decide) rfl
      exact W.iret (v := 0) hx hb hr (fun t ht hW => ⟨⟨0, (), rfl, by dsimp only; symm; unfold sp_told; (repeat (first | (refine Eq.trans (cIf_t ?_) ?_; · first | assumption | ((try simp only [inR, inS, i3_lt, i3_le, i3_eq, i6_lt, i6_le, Int32.toInt_toInt64, lg_cmp_lt, lg_cmp_gt, lg_cmp_ge, lg_cmp_le, Int32.reduceToInt, Int64.reduceToInt] at c1 c90 c91 c92 ⊢); omega)) | (refine Eq.trans (cIf_f ?_) ?_; · first | assumption | ((try simp only [inR, inS, i3_lt, i3_le, i3_eq, i6_lt, i6_le, Int32.toInt_toInt64, lg_cmp_lt, lg_cmp_gt, lg_cmp_ge, lg_cmp_le, Int32.reduceToInt, Int64.reduceToInt] at c1 c90 c91 c92 ⊢); omega)))); first | rfl | (exfalso; ((try simp only [inR, inS, i3_lt, i3_le, i3_eq, i6_lt, i6_le, Int32.toInt_toInt64, lg_cmp_lt, lg_cmp_gt, lg_cmp_ge, lg_cmp_le, Int32.reduceToInt, Int64.reduceToInt] at c1 c90 c91 c92); omega)), by rw [ht]; exact hP9, hD9⟩, hS.F ht⟩) hS.2.2 dX9_told_83
    by_cases c93 : p0 = 3
    · refine lv_tableIn (off := 55) (tgt := 84) hx hb dX9_told_29 (by rw [c93]; decide) (by rw [c93]; decide) (by rw [c93]; decide) (by decide) ?_
      refine lv_aload_n hx hb dX9_told_84 rfl (lv_at hl 0 rfl) ?_
      refine va_get (D := G.1) (ci := 5) (v := .ref pp) (C := RX9) (T := TX9) (N := 5) hx hb hts (fun _ h => List.mem_cons_of_mem _ (List.mem_append_left _ (List.mem_append_left _ (List.mem_append_right _ h)))) hown E.K hP 0 rfl rfl 1 (by decide) (hts (.fieldLink RX9 19 "LastMap" "papers" "LLastMap$Papers;") (by decide +kernel)) (fun _ h9 => h9) rfl dX9_told_85 ?_
      refine va_get (D := G.1) (ci := 1) (v := .int 1) (C := RX3) (T := TX3) (N := 6) hx hb hts (fun _ h => List.mem_cons_of_mem _ (List.mem_append_right _ h)) hown E.K hP 5 rfl rfl 2 (by decide) (hts (.fieldLink RX9 184 "LastMap$Papers" "spadeCount" "I") (by decide +kernel)) (fun _ h9 => h9) rfl dX9_told_88 ?_
      have hP9 := hP.sub (ws' := []) [] rfl
      have hD9 := hD.sub (ws' := []) [] (by decide) rfl
      exact W.iret (v := 1) hx hb hr (fun t ht hW => ⟨⟨1, (), rfl, by dsimp only; symm; unfold sp_told; (repeat (first | (refine Eq.trans (cIf_t ?_) ?_; · first | assumption | ((try simp only [inR, inS, i3_lt, i3_le, i3_eq, i6_lt, i6_le, Int32.toInt_toInt64, lg_cmp_lt, lg_cmp_gt, lg_cmp_ge, lg_cmp_le, Int32.reduceToInt, Int64.reduceToInt] at c1 c90 c91 c92 c93 ⊢); omega)) | (refine Eq.trans (cIf_f ?_) ?_; · first | assumption | ((try simp only [inR, inS, i3_lt, i3_le, i3_eq, i6_lt, i6_le, Int32.toInt_toInt64, lg_cmp_lt, lg_cmp_gt, lg_cmp_ge, lg_cmp_le, Int32.reduceToInt, Int64.reduceToInt] at c1 c90 c91 c92 c93 ⊢); omega)))); first | rfl | (exfalso; ((try simp only [inR, inS, i3_lt, i3_le, i3_eq, i6_lt, i6_le, Int32.toInt_toInt64, lg_cmp_lt, lg_cmp_gt, lg_cmp_ge, lg_cmp_le, Int32.reduceToInt, Int64.reduceToInt] at c1 c90 c91 c92 c93); omega)), by rw [ht]; exact hP9, hD9⟩, hS.F ht⟩) hS.2.2 dX9_told_91
    refine lv_tableOut (tgt := 92) hx hb dX9_told_29 (by ((try simp only [inR, inS, i3_lt, i3_le, i3_eq, i6_lt, i6_le, Int32.toInt_toInt64, lg_cmp_lt, lg_cmp_gt, lg_cmp_ge, lg_cmp_le, Int32.reduceToInt, Int64.reduceToInt] at c90 c91 c92 c93 ⊢); omega)) (by decide) ?_
    refine lv_bipush (v := (-2)) hx hb dX9_told_92 (by decide) ?_
    have hP9 := hP.sub (ws' := []) [] rfl
    have hD9 := hD.sub (ws' := []) [] (by decide) rfl
    exact W.iret (v := (-2)) hx hb hr (fun t ht hW => ⟨⟨(-2), (), rfl, by dsimp only; symm; unfold sp_told; (repeat (first | (refine Eq.trans (cIf_t ?_) ?_; · first | assumption | ((try simp only [inR, inS, i3_lt, i3_le, i3_eq, i6_lt, i6_le, Int32.toInt_toInt64, lg_cmp_lt, lg_cmp_gt, lg_cmp_ge, lg_cmp_le, Int32.reduceToInt, Int64.reduceToInt] at c1 c90 c91 c92 c93 ⊢); omega)) | (refine Eq.trans (cIf_f ?_) ?_; · first | assumption | ((try simp only [inR, inS, i3_lt, i3_le, i3_eq, i6_lt, i6_le, Int32.toInt_toInt64, lg_cmp_lt, lg_cmp_gt, lg_cmp_ge, lg_cmp_le, Int32.reduceToInt, Int64.reduceToInt] at c1 c90 c91 c92 c93 ⊢); omega)))); first | rfl | (exfalso; ((try simp only [inR, inS, i3_lt, i3_le, i3_eq, i6_lt, i6_le, Int32.toInt_toInt64, lg_cmp_lt, lg_cmp_gt, lg_cmp_ge, lg_cmp_le, Int32.reduceToInt, Int64.reduceToInt] at c1 c90 c91 c92 c93); omega)), by rw [ht]; exact hP9, hD9⟩, hS.F ht⟩) hS.2.2 dX9_told_94
  · refine lv_iload_n hx hb dX9_told_6 rfl (lv_at hl 1 rfl) ?_
    refine lv_bipush (v := 10) hx hb dX9_told_7 (by decide) ?_
    refine lv_isub hx hb dX9_told_9 ?_
    refine lv_topi (fun x2 ex2 => ?_)
    refine ca_iR (va_runS (As := [.int x2]) (rest := []) ⟨hx, hb, hml, hown, hts⟩ (c_isHand l G s.heap.size x2) (va_cwS 1 hts gX9_told_X9_isHand rfl rfl rfl (by decide +kernel) ⟨by decide +kernel, by decide +kernel⟩) (pre_S E hP hD hS hA [] (by decide) rfl) rfl rfl hl.1 rfl (lv_room (Nat.le_of_ble_eq_true rfl)) dX9_told_10 ⟨by decide +kernel, by decide +kernel⟩) hS hP hD hA [] rfl (fun r4 _ H locs w3 hP hS => ?_)
    rcases w3 with ⟨rfl, b5⟩ | ⟨rfl, b5⟩
    · have c800 : inR p0 10 13 := tld.mpr ⟨by ((try simp only [inR, inS, i3_lt, i3_le, i3_eq, i6_lt, i6_le, Int32.toInt_toInt64, lg_cmp_lt, lg_cmp_gt, lg_cmp_ge, lg_cmp_le, Int32.reduceToInt, Int64.reduceToInt] at c1 ⊢); omega), by rw [← ex2]; exact b5⟩
      refine lv_if_eq (tgt := 28) hx hb dX9_told_13 (by decide) (fun c6 => False.elim (by revert c6; decide)) (fun _ => ?_)
      refine lv_aload_n hx hb dX9_told_16 rfl (lv_at hl 0 rfl) ?_
      refine va_get (D := G.1) (ci := 5) (v := .ref pp) (C := RX9) (T := TX9) (N := 5) hx hb hts (fun _ h => List.mem_cons_of_mem _ (List.mem_append_left _ (List.mem_append_left _ (List.mem_append_right _ h)))) hown E.K hP 0 rfl rfl 1 (by decide) (hts (.fieldLink RX9 19 "LastMap" "papers" "LLastMap$Papers;") (by decide +kernel)) (fun _ h9 => h9) rfl dX9_told_17 ?_
      refine lv_iload_n hx hb dX9_told_20 rfl (lv_at hl 1 rfl) ?_
      refine lv_bipush (v := 10) hx hb dX9_told_21 (by decide) ?_
      refine lv_isub hx hb dX9_told_23 ?_
      refine lv_topi (fun x7 ex7 => ?_)
      refine ca_iR (va_runV (As := [.int x7]) (rest := []) ⟨hx, hb, hml, hown, hts⟩ (c_kindsOf l G H.size pp ac ak 6 0 1 0 (fun _ => 0) fk x7) (cwV 1 hts gX9_told_X3_kindsOf rfl rfl rfl (by decide +kernel) ⟨by decide +kernel, by decide +kernel⟩) (pre_V E hP hD hS hA [5, 6, 7] (by decide) rfl 5 1 rfl rfl) rfl rfl hl.1 rfl (lv_room (Nat.le_of_ble_eq_true rfl)) dX9_told_24 ⟨by decide +kernel, by decide +kernel⟩) hS hP hD hA [5, 6, 7] rfl (fun r9 _ H locs w8 hP hS => ?_)
      have hP9 := hP.sub (ws' := []) [] rfl
      have hD9 := hD.sub (ws' := []) [] (by decide) rfl
      exact W.iret (v := r9) hx hb hr (fun t ht hW => ⟨⟨r9, (), rfl, by dsimp only; rw [w8.trans (cIf_t (by rw [ex7, ← ex2]; exact b5))]; rw [hk _ (clampR (hi := 3) (by rw [ex7, ← ex2]; exact b5) (by decide))]; symm; unfold sp_told; (repeat (first | (refine Eq.trans (cIf_t ?_) ?_; · first | assumption | ((try simp only [inR, inS, i3_lt, i3_le, i3_eq, i6_lt, i6_le, Int32.toInt_toInt64, lg_cmp_lt, lg_cmp_gt, lg_cmp_ge, lg_cmp_le, Int32.reduceToInt, Int64.reduceToInt] at c1 b5 c800 ⊢); omega)) | (refine Eq.trans (cIf_f ?_) ?_; · first | assumption | ((try simp only [inR, inS, i3_lt, i3_le, i3_eq, i6_lt, i6_le, Int32.toInt_toInt64, lg_cmp_lt, lg_cmp_gt, lg_cmp_ge, lg_cmp_le, Int32.reduceToInt, Int64.reduceToInt] at c1 b5 c800 ⊢); omega)))); first | rfl | (exfalso; ((try simp only [inR, inS, i3_lt, i3_le, i3_eq, i6_lt, i6_le, Int32.toInt_toInt64, lg_cmp_lt, lg_cmp_gt, lg_cmp_ge, lg_cmp_le, Int32.reduceToInt, Int64.reduceToInt] at c1 b5 c800); omega)), by rw [ht]; exact hP9, hD9⟩, hS.F ht⟩) hS.2.2 dX9_told_27
    · have c800 : ¬ inR p0 10 13 := fun h => b5 (by rw [ex2]; exact (tld.mp h).2)
      refine lv_if_eq (tgt := 28) hx hb dX9_told_13 (by decide) (fun _ => ?_) (fun c10 => False.elim (by revert c10; decide))
      refine lv_iload_n hx hb dX9_told_28 rfl (lv_at hl 1 rfl) ?_
      by_cases c90 : p0 = 0
      · refine lv_tableIn (off := 31) (tgt := 60) hx hb dX9_told_29 (by rw [c90]; decide) (by rw [c90]; decide) (by rw [c90]; decide) (by decide) ?_
        refine lv_aload_n hx hb dX9_told_60 rfl (lv_at hl 0 rfl) ?_
        refine va_get (D := G.1) (ci := 5) (v := .ref pad) (C := RX9) (T := TX9) (N := 5) hx hb hts (fun _ h => List.mem_cons_of_mem _ (List.mem_append_left _ (List.mem_append_left _ (List.mem_append_right _ h)))) hown E.K hP 0 rfl rfl 0 (by decide) (hts (.fieldLink RX9 10 "LastMap" "pad" "LLastMap$Pad;") (by decide +kernel)) (fun _ h9 => h9) rfl dX9_told_61 ?_
        refine va_get (D := G.1) (ci := 0) (v := .int 0) (C := RX2) (T := TX2) (N := 3) hx hb hts (fun _ h => List.mem_cons_of_mem _ (List.mem_append_left _ (List.mem_append_right _ h))) hown E.K hP 2 rfl rfl 2 (by decide) (hts (.fieldLink RX9 41 "LastMap$Pad" "length" "I") (by decide +kernel)) (fun _ h9 => h9) rfl dX9_told_64 ?_
        have hP9 := hP.sub (ws' := []) [] rfl
        have hD9 := hD.sub (ws' := []) [] (by decide) rfl
        exact W.iret (v := 0) hx hb hr (fun t ht hW => ⟨⟨0, (), rfl, by dsimp only; symm; unfold sp_told; (repeat (first | (refine Eq.trans (cIf_t ?_) ?_; · first | assumption | ((try simp only [inR, inS, i3_lt, i3_le, i3_eq, i6_lt, i6_le, Int32.toInt_toInt64, lg_cmp_lt, lg_cmp_gt, lg_cmp_ge, lg_cmp_le, Int32.reduceToInt, Int64.reduceToInt] at c1 b5 c800 c90 ⊢); omega)) | (refine Eq.trans (cIf_f ?_) ?_; · first | assumption | ((try simp only [inR, inS, i3_lt, i3_le, i3_eq, i6_lt, i6_le, Int32.toInt_toInt64, lg_cmp_lt, lg_cmp_gt, lg_cmp_ge, lg_cmp_le, Int32.reduceToInt, Int64.reduceToInt] at c1 b5 c800 c90 ⊢); omega)))); first | rfl | (exfalso; ((try simp only [inR, inS, i3_lt, i3_le, i3_eq, i6_lt, i6_le, Int32.toInt_toInt64, lg_cmp_lt, lg_cmp_gt, lg_cmp_ge, lg_cmp_le, Int32.reduceToInt, Int64.reduceToInt] at c1 b5 c800 c90); omega)), by rw [ht]; exact hP9, hD9⟩, hS.F ht⟩) hS.2.2 dX9_told_67
      by_cases c91 : p0 = 1
      · refine lv_tableIn (off := 39) (tgt := 68) hx hb dX9_told_29 (by rw [c91]; decide) (by rw [c91]; decide) (by rw [c91]; decide) (by decide) ?_
        refine lv_aload_n hx hb dX9_told_68 rfl (lv_at hl 0 rfl) ?_
        refine va_get (D := G.1) (ci := 5) (v := .ref pp) (C := RX9) (T := TX9) (N := 5) hx hb hts (fun _ h => List.mem_cons_of_mem _ (List.mem_append_left _ (List.mem_append_left _ (List.mem_append_right _ h)))) hown E.K hP 0 rfl rfl 1 (by decide) (hts (.fieldLink RX9 19 "LastMap" "papers" "LLastMap$Papers;") (by decide +kernel)) (fun _ h9 => h9) rfl dX9_told_69 ?_
        refine va_get (D := G.1) (ci := 1) (v := .int 6) (C := RX3) (T := TX3) (N := 6) hx hb hts (fun _ h => List.mem_cons_of_mem _ (List.mem_append_right _ h)) hown E.K hP 5 rfl rfl 0 (by decide) (hts (.fieldLink RX9 27 "LastMap$Papers" "siteCount" "I") (by decide +kernel)) (fun _ h9 => h9) rfl dX9_told_72 ?_
        have hP9 := hP.sub (ws' := []) [] rfl
        have hD9 := hD.sub (ws' := []) [] (by decide) rfl
        exact W.iret (v := 6) hx hb hr (fun t ht hW => ⟨⟨6, (), rfl, by dsimp only; symm; unfold sp_told; (repeat (first | (refine Eq.trans (cIf_t ?_) ?_; · first | assumption | ((try simp only [inR, inS, i3_lt, i3_le, i3_eq, i6_lt, i6_le, Int32.toInt_toInt64, lg_cmp_lt, lg_cmp_gt, lg_cmp_ge, lg_cmp_le, Int32.reduceToInt, Int64.reduceToInt] at c1 b5 c800 c90 c91 ⊢); omega)) | (refine Eq.trans (cIf_f ?_) ?_; · first | assumption | ((try simp only [inR, inS, i3_lt, i3_le, i3_eq, i6_lt, i6_le, Int32.toInt_toInt64, lg_cmp_lt, lg_cmp_gt, lg_cmp_ge, lg_cmp_le, Int32.reduceToInt, Int64.reduceToInt] at c1 b5 c800 c90 c91 ⊢); omega)))); first | rfl | (exfalso; ((try simp only [inR, inS, i3_lt, i3_le, i3_eq, i6_lt, i6_le, Int32.toInt_toInt64, lg_cmp_lt, lg_cmp_gt, lg_cmp_ge, lg_cmp_le, Int32.reduceToInt, Int64.reduceToInt] at c1 b5 c800 c90 c91); omega)), by rw [ht]; exact hP9, hD9⟩, hS.F ht⟩) hS.2.2 dX9_told_75
      by_cases c92 : p0 = 2
      · refine lv_tableIn (off := 47) (tgt := 76) hx hb dX9_told_29 (by rw [c92]; decide) (by rw [c92]; decide) (by rw [c92]; decide) (by decide) ?_
        refine lv_aload_n hx hb dX9_told_76 rfl (lv_at hl 0 rfl) ?_
        refine va_get (D := G.1) (ci := 5) (v := .ref pp) (C := RX9) (T := TX9) (N := 5) hx hb hts (fun _ h => List.mem_cons_of_mem _ (List.mem_append_left _ (List.mem_append_left _ (List.mem_append_right _ h)))) hown E.K hP 0 rfl rfl 1 (by decide) (hts (.fieldLink RX9 19 "LastMap" "papers" "LLastMap$Papers;") (by decide +kernel)) (fun _ h9 => h9) rfl dX9_told_77 ?_
        refine va_get (D := G.1) (ci := 1) (v := .int 0) (C := RX3) (T := TX3) (N := 6) hx hb hts (fun _ h => List.mem_cons_of_mem _ (List.mem_append_right _ h)) hown E.K hP 5 rfl rfl 1 (by decide) (hts (.fieldLink RX9 31 "LastMap$Papers" "toldMaps" "I") (by decide +kernel)) (fun _ h9 => h9) rfl dX9_told_80 ?_
        have hP9 := hP.sub (ws' := []) [] rfl
        have hD9 := hD.sub (ws' := []) [] (by decide) rfl
        exact W.iret (v := 0) hx hb hr (fun t ht hW => ⟨⟨0, (), rfl, by dsimp only; symm; unfold sp_told; (repeat (first | (refine Eq.trans (cIf_t ?_) ?_; · first | assumption | ((try simp only [inR, inS, i3_lt, i3_le, i3_eq, i6_lt, i6_le, Int32.toInt_toInt64, lg_cmp_lt, lg_cmp_gt, lg_cmp_ge, lg_cmp_le, Int32.reduceToInt, Int64.reduceToInt] at c1 b5 c800 c90 c91 c92 ⊢); omega)) | (refine Eq.trans (cIf_f ?_) ?_; · first | assumption | ((try simp only [inR, inS, i3_lt, i3_le, i3_eq, i6_lt, i6_le, Int32.toInt_toInt64, lg_cmp_lt, lg_cmp_gt, lg_cmp_ge, lg_cmp_le, Int32.reduceToInt, Int64.reduceToInt] at c1 b5 c800 c90 c91 c92 ⊢); omega)))); first | rfl | (exfalso; ((try simp only [inR, inS, i3_lt, i3_le, i3_eq, i6_lt, i6_le, Int32.toInt_toInt64, lg_cmp_lt, lg_cmp_gt, lg_cmp_ge, lg_cmp_le, Int32.reduceToInt, Int64.reduceToInt] at c1 b5 c800 c90 c91 c92); omega)), by rw [ht]; exact hP9, hD9⟩, hS.F ht⟩) hS.2.2 dX9_told_83
      by_cases c93 : p0 = 3
      · refine lv_tableIn (off := 55) (tgt := 84) hx hb dX9_told_29 (by rw [c93]; decide) (by rw [c93]; decide) (by rw [c93]; decide) (by decide) ?_
        refine lv_aload_n hx hb dX9_told_84 rfl (lv_at hl 0 rfl) ?_
        refine va_get (D := G.1) (ci := 5) (v := .ref pp) (C := RX9) (T := TX9) (N := 5) hx hb hts (fun _ h => List.mem_cons_of_mem _ (List.mem_append_left _ (List.mem_append_left _ (List.mem_append_right _ h)))) hown E.K hP 0 rfl rfl 1 (by decide) (hts (.fieldLink RX9 19 "LastMap" "papers" "LLastMap$Papers;") (by decide +kernel)) (fun _ h9 => h9) rfl dX9_told_85 ?_
        refine va_get (D := G.1) (ci := 1) (v := .int 1) (C := RX3) (T := TX3) (N := 6) hx hb hts (fun _ h => List.mem_cons_of_mem _ (List.mem_append_right _ h)) hown E.K hP 5 rfl rfl 2 (by decide) (hts (.fieldLink RX9 184 "LastMap$Papers" "spadeCount" "I") (by decide +kernel)) (fun _ h9 => h9) rfl dX9_told_88 ?_
        have hP9 := hP.sub (ws' := []) [] rfl
        have hD9 := hD.sub (ws' := []) [] (by decide) rfl
        exact W.iret (v := 1) hx hb hr (fun t ht hW => ⟨⟨1, (), rfl, by dsimp only; symm; unfold sp_told; (repeat (first | (refine Eq.trans (cIf_t ?_) ?_; · first | assumption | ((try simp only [inR, inS, i3_lt, i3_le, i3_eq, i6_lt, i6_le, Int32.toInt_toInt64, lg_cmp_lt, lg_cmp_gt, lg_cmp_ge, lg_cmp_le, Int32.reduceToInt, Int64.reduceToInt] at c1 b5 c800 c90 c91 c92 c93 ⊢); omega)) | (refine Eq.trans (cIf_f ?_) ?_; · first | assumption | ((try simp only [inR, inS, i3_lt, i3_le, i3_eq, i6_lt, i6_le, Int32.toInt_toInt64, lg_cmp_lt, lg_cmp_gt, lg_cmp_ge, lg_cmp_le, Int32.reduceToInt, Int64.reduceToInt] at c1 b5 c800 c90 c91 c92 c93 ⊢); omega)))); first | rfl | (exfalso; ((try simp only [inR, inS, i3_lt, i3_le, i3_eq, i6_lt, i6_le, Int32.toInt_toInt64, lg_cmp_lt, lg_cmp_gt, lg_cmp_ge, lg_cmp_le, Int32.reduceToInt, Int64.reduceToInt] at c1 b5 c800 c90 c91 c92 c93); omega)), by rw [ht]; exact hP9, hD9⟩, hS.F ht⟩) hS.2.2 dX9_told_91
      refine lv_tableOut (tgt := 92) hx hb dX9_told_29 (by ((try simp only [inR, inS, i3_lt, i3_le, i3_eq, i6_lt, i6_le, Int32.toInt_toInt64, lg_cmp_lt, lg_cmp_gt, lg_cmp_ge, lg_cmp_le, Int32.reduceToInt, Int64.reduceToInt] at c90 c91 c92 c93 ⊢); omega)) (by decide) ?_
      refine lv_bipush (v := (-2)) hx hb dX9_told_92 (by decide) ?_
      have hP9 := hP.sub (ws' := []) [] rfl
      have hD9 := hD.sub (ws' := []) [] (by decide) rfl
      exact W.iret (v := (-2)) hx hb hr (fun t ht hW => ⟨⟨(-2), (), rfl, by dsimp only; symm; unfold sp_told; (repeat (first | (refine Eq.trans (cIf_t ?_) ?_; · first | assumption | ((try simp only [inR, inS, i3_lt, i3_le, i3_eq, i6_lt, i6_le, Int32.toInt_toInt64, lg_cmp_lt, lg_cmp_gt, lg_cmp_ge, lg_cmp_le, Int32.reduceToInt, Int64.reduceToInt] at c1 b5 c800 c90 c91 c92 c93 ⊢); omega)) | (refine Eq.trans (cIf_f ?_) ?_; · first | assumption | ((try simp only [inR, inS, i3_lt, i3_le, i3_eq, i6_lt, i6_le, Int32.toInt_toInt64, lg_cmp_lt, lg_cmp_gt, lg_cmp_ge, lg_cmp_le, Int32.reduceToInt, Int64.reduceToInt] at c1 b5 c800 c90 c91 c92 c93 ⊢); omega)))); first | rfl | (exfalso; ((try simp only [inR, inS, i3_lt, i3_le, i3_eq, i6_lt, i6_le, Int32.toInt_toInt64, lg_cmp_lt, lg_cmp_gt, lg_cmp_ge, lg_cmp_le, Int32.reduceToInt, Int64.reduceToInt] at c1 b5 c800 c90 c91 c92 c93); omega)), by rw [ht]; exact hP9, hD9⟩, hS.F ht⟩) hS.2.2 dX9_told_94
