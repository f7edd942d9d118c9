set_option maxHeartbeats 1000000 in
set_option maxRecDepth 100000 in
theorem c_isSome (l : Launch) (G : Gy) (sz : Nat) (h0 : Nat) (pad : Nat) (pp : Nat) (im : Nat) (vse : Value) (vtr : Value) (ac : Nat) (ak : Nat) (n : Int32) (told : Int32) (sp : Int32) (gr : Int32) (p0 : Int32) (p1 : Int32) (p2 : Int32)  : Ci l G yX9_isSome wsX9_isSome ({ frames := 4, cells := 0, slots := 0, locals := 87 }) [.ref h0, .int p0, .int p1, .int p2] [(h0, .inr (5, [.ref pad, .ref pp, .ref im, vse, vtr])), (pp, .inr (1, [.int n, .int told, .int sp, .int gr, .ref ac, .ref ak]))] sz (fun (r : Int32) (_ : Unit) => (r = 1 ∧ (mdP p1 p2 n ∧ ¬ aft p0 p1 = p0)) ∨ (r = 0 ∧ ¬ (mdP p1 p2 n ∧ ¬ aft p0 p1 = p0))) (fun (_ : Unit) => [(h0, .inr (5, [.ref pad, .ref pp, .ref im, vse, vtr])), (pp, .inr (1, [.int n, .int told, .int sp, .int gr, .ref ac, .ref ak]))]) 0 0 := by
  refine Met.ofW (cc := cX9_isSome) (maxL := 4) (ret := (some .boolean)) (by decide) rfl ?_
  intro p e s m args below meth c s₁ B hml hv
  obtain ⟨rfl, hsz, hP, hD0, E0⟩ := hv
  have hx := B.exec
  have hb := B.bytes
  have hr := B.returns
  have hts := atoms_spec (ws := wsX9_isSome) B.pre
  have hown : s.vm.findClass RX9 = some m.cls := findClass_of_methodNamed B.named
  have hlocks := B.notSynchronized
  subst hsz
  have hD := hD0.self (sz := s.heap.size)
  generalize hAe : va_A [(h0, .inr (5, [.ref pad, .ref pp, .ref im, vse, vtr])), (pp, .inr (1, [.int n, .int told, .int sp, .int gr, .ref ac, .ref ak]))] s.heap.size = A at hD E0 ⊢
  have E : EV G A s s.heap := E0
  have hA : ∀ q : Nat, s.heap.size ≤ q → A q := fun q h => by rw [← hAe]; exact Or.inr h
  have hS : va_S A s.heap s.heap [] := va_S.rf
  have hl := lv_entry ([.ref h0, .int p0, .int p1, .int p2]) (n := 4) (Nat.le_of_ble_eq_true rfl)
  rw [lg_entry_eq]
  generalize (lg_sl ([.ref h0, .int p0, .int p1, .int p2]) ++ List.replicate (4 - (lg_sl ([.ref h0, .int p0, .int p1, .int p2])).length) Slot.unset).toArray = ls at hl ⊢
  have hl : lv_has ls 4 [(0, .ref h0), (1, .int p0), (2, .int p1), (3, .int p2)] := hl
  have hP : va_P G.1 vwCl [(h0, .inr (5, [.ref pad, .ref pp, .ref im, vse, vtr])), (pp, .inr (1, [.int n, .int told, .int sp, .int gr, .ref ac, .ref ak]))] s.heap := hP
  refine lv_iload_n hx hb dX9_isSome_0 rfl (lv_at hl 2 rfl) ?_
  refine lv_iload_n hx hb dX9_isSome_1 rfl (lv_at hl 3 rfl) ?_
  refine lv_aload_n hx hb dX9_isSome_2 rfl (lv_at hl 0 rfl) ?_
  refine va_get (D := G.1) (ci := 5) (v := .ref pp) (C := RX9) (T := TX9) (N := 5) hx hb hts (fun _ h => List.mem_cons_of_mem _ (List.mem_append_left _ (List.mem_append_right _ h))) hown E.K hP 0 rfl rfl 1 (by decide) (hts (.fieldLink RX9 19 "LastMap" "papers" "LLastMap$Papers;") (by decide +kernel)) (fun _ h9 => h9) rfl dX9_isSome_3 ?_
  refine va_get (D := G.1) (ci := 1) (v := .int n) (C := RX3) (T := TX3) (N := 6) hx hb hts (fun _ h => List.mem_cons_of_mem _ (List.mem_append_right _ h)) hown E.K hP 1 rfl rfl 0 (by decide) (hts (.fieldLink RX9 27 "LastMap$Papers" "siteCount" "I") (by decide +kernel)) (fun _ h9 => h9) rfl dX9_isSome_6 ?_
  refine ca_iR (va_runS (As := [.int p1, .int p2, .int n]) (rest := []) ⟨hx, hb, hml, hown, hts⟩ (c_isMade l G s.heap.size p1 p2 n) (va_cwS 3 hts gX9_isSome_X6_isMade rfl rfl rfl (by decide +kernel) ⟨by decide +kernel, by decide +kernel⟩) (pre_S E hP hD hS hA [] (by decide) rfl) rfl rfl hl.1 rfl (lv_room (Nat.le_of_ble_eq_true rfl)) dX9_isSome_9 ⟨by decide +kernel, by decide +kernel⟩) hS hP hD hA [] rfl (fun r2 _ H locs w1 hP hS => ?_)
  rcases w1 with ⟨rfl, b3⟩ | ⟨rfl, b3⟩
  · refine lv_if_eq (tgt := 28) hx hb dX9_isSome_12 (by decide) (fun c4 => False.elim (by revert c4; decide)) (fun _ => ?_)
    refine lv_iload_n hx hb dX9_isSome_15 rfl (lv_at hl 1 rfl) ?_
    refine lv_iload_n hx hb dX9_isSome_16 rfl (lv_at hl 2 rfl) ?_
    refine ca_iR (va_runS (As := [.int p0, .int p1]) (rest := []) ⟨hx, hb, hml, hown, hts⟩ (c_after l G H.size p0 p1) (va_cwS 2 hts gX9_isSome_X6_after rfl rfl rfl (by decide +kernel) ⟨by decide +kernel, by decide +kernel⟩) (pre_S E hP hD hS hA [] (by decide) rfl) rfl rfl hl.1 rfl (lv_room (Nat.le_of_ble_eq_true rfl)) dX9_isSome_17 ⟨by decide +kernel, by decide +kernel⟩) hS hP hD hA [] rfl (fun r6 _ H locs w5 hP hS => ?_)
    refine lv_iload_n hx hb dX9_isSome_20 rfl (lv_at hl 1 rfl) ?_
    refine lv_icmp_eq (tgt := 28) hx hb dX9_isSome_21 (by decide) (fun c7 => ?_) (fun c7 => ?_)
    · refine lv_iconst (v := 0) hx hb dX9_isSome_28 (by decide) ?_
      have hP9 := hP.sub (ws' := [(h0, .inr (5, [.ref pad, .ref pp, .ref im, vse, vtr])), (pp, .inr (1, [.int n, .int told, .int sp, .int gr, .ref ac, .ref ak]))]) [0, 1] rfl
      have hD9 := hD.sub (ws' := [(h0, .inr (5, [.ref pad, .ref pp, .ref im, vse, vtr])), (pp, .inr (1, [.int n, .int told, .int sp, .int gr, .ref ac, .ref ak]))]) [0, 1] (by decide) rfl
      exact W.zret (v := 0) hx hb hr (by decide) (fun t ht hW => ⟨⟨0, (), rfl, Or.inr ⟨rfl, fun h => h.2 (by rw [← w5]; assumption)⟩, by rw [ht]; exact hP9, hD9⟩, hS.F ht⟩) hS.2.2 dX9_isSome_29
    · refine lv_iconst (v := 1) hx hb dX9_isSome_24 (by decide) ?_
      refine lv_goto (tgt := 29) hx hb dX9_isSome_25 (by decide) ?_
      have hP9 := hP.sub (ws' := [(h0, .inr (5, [.ref pad, .ref pp, .ref im, vse, vtr])), (pp, .inr (1, [.int n, .int told, .int sp, .int gr, .ref ac, .ref ak]))]) [0, 1] rfl
      have hD9 := hD.sub (ws' := [(h0, .inr (5, [.ref pad, .ref pp, .ref im, vse, vtr])), (pp, .inr (1, [.int n, .int told, .int sp, .int gr, .ref ac, .ref ak]))]) [0, 1] (by decide) rfl
      exact W.zret (v := 1) hx hb hr (by decide) (fun t ht hW => ⟨⟨1, (), rfl, Or.inl ⟨rfl, ⟨b3, by rw [← w5]; assumption⟩⟩, by rw [ht]; exact hP9, hD9⟩, hS.F ht⟩) hS.2.2 dX9_isSome_29
  · refine lv_if_eq (tgt := 28) hx hb dX9_isSome_12 (by decide) (fun _ => ?_) (fun c8 => False.elim (by revert c8; decide))
    refine lv_iconst (v := 0) hx hb dX9_isSome_28 (by decide) ?_
    have hP9 := hP.sub (ws' := [(h0, .inr (5, [.ref pad, .ref pp, .ref im, vse, vtr])), (pp, .inr (1, [.int n, .int told, .int sp, .int gr, .ref ac, .ref ak]))]) [0, 1] rfl
    have hD9 := hD.sub (ws' := [(h0, .inr (5, [.ref pad, .ref pp, .ref im, vse, vtr])), (pp, .inr (1, [.int n, .int told, .int sp, .int gr, .ref ac, .ref ak]))]) [0, 1] (by decide) rfl
    exact W.zret (v := 0) hx hb hr (by decide) (fun t ht hW => ⟨⟨0, (), rfl, Or.inr ⟨rfl, fun h => b3 h.1⟩, by rw [ht]; exact hP9, hD9⟩, hS.F ht⟩) hS.2.2 dX9_isSome_29

set_option maxHeartbeats 1000000 in
set_option maxRecDepth 100000 in
theorem c_goalPast (l : Launch) (G : Gy) (sz : Nat) (h0 : Nat) (pad : Nat) (pp : Nat) (im : Nat) (vse : Value) (vtr : Value) (ac : Nat) (ak : Nat) (n : Int32) (told : Int32) (sp : Int32) (gr : Int32) (fc : Nat → Int32) (fk : Nat → Int32) (sg : Nat) (sl : Nat) (len : Int32) (fsg : Nat → Int32) (fsl : Nat → Int32) (p0 : Int32) (p1 : Int32)  : Ci l G yX9_goalPast wsX9_goalPast ({ frames := 2, cells := 0, slots := 0, locals := 42 }) [.ref h0, .int p0, .int p1] [(h0, .inr (5, [.ref pad, .ref pp, .ref im, vse, vtr])), (pad, .inr (0, [.ref sg, .ref sl, .int len])), (sg, .inl (gI G, 40, .inl fsg)), (sl, .inl (gI G, 10, .inl fsl)), (pp, .inr (1, [.int n, .int told, .int sp, .int gr, .ref ac, .ref ak])), (ac, .inl (gI G, 6, .inl fc)), (ak, .inl (gI G, 4, .inl fk))] sz (fun (r : Int32) (_ : Unit) => True) (fun (_ : Unit) => [(h0, .inr (5, [.ref pad, .ref pp, .ref im, vse, vtr])), (pad, .inr (0, [.ref sg, .ref sl, .int len])), (sg, .inl (gI G, 40, .inl fsg)), (sl, .inl (gI G, 10, .inl fsl)), (pp, .inr (1, [.int n, .int told, .int sp, .int gr, .ref ac, .ref ak])), (ac, .inl (gI G, 6, .inl fc)), (ak, .inl (gI G, 4, .inl fk))]) 0 0 := by
  refine Met.ofW (cc := cX9_goalPast) (maxL := 8) (ret := (some .int)) (by decide) rfl ?_
  intro p e s m args below meth c s₁ B hml hv
  obtain ⟨rfl, hsz, hP, hD0, E0⟩ := hv
  have hx := B.exec
  have hb := B.bytes
  have hr := B.returns
  have hts := atoms_spec (ws := wsX9_goalPast) B.pre
  have hown : s.vm.findClass RX9 = some m.cls := findClass_of_methodNamed B.named
  have hlocks := B.notSynchronized
  subst hsz
  have hD := hD0.self (sz := s.heap.size)
  generalize hAe : va_A [(h0, .inr (5, [.ref pad, .ref pp, .ref im, vse, vtr])), (pad, .inr (0, [.ref sg, .ref sl, .int len])), (sg, .inl (gI G, 40, .inl fsg)), (sl, .inl (gI G, 10, .inl fsl)), (pp, .inr (1, [.int n, .int told, .int sp, .int gr, .ref ac, .ref ak])), (ac, .inl (gI G, 6, .inl fc)), (ak, .inl (gI G, 4, .inl fk))] s.heap.size = A at hD E0 ⊢
  have E : EV G A s s.heap := E0
  have hA : ∀ q : Nat, s.heap.size ≤ q → A q := fun q h => by rw [← hAe]; exact Or.inr h
  have hS : va_S A s.heap s.heap [] := va_S.rf
  have hl := lv_entry ([.ref h0, .int p0, .int p1]) (n := 8) (Nat.le_of_ble_eq_true rfl)
  rw [lg_entry_eq]
  generalize (lg_sl ([.ref h0, .int p0, .int p1]) ++ List.replicate (8 - (lg_sl ([.ref h0, .int p0, .int p1])).length) Slot.unset).toArray = ls at hl ⊢
  have hl : lv_has ls 8 [(0, .ref h0), (1, .int p0), (2, .int p1)] := hl
  have hP : va_P G.1 vwCl [(h0, .inr (5, [.ref pad, .ref pp, .ref im, vse, vtr])), (pad, .inr (0, [.ref sg, .ref sl, .int len])), (sg, .inl (gI G, 40, .inl fsg)), (sl, .inl (gI G, 10, .inl fsl)), (pp, .inr (1, [.int n, .int told, .int sp, .int gr, .ref ac, .ref ak])), (ac, .inl (gI G, 6, .inl fc)), (ak, .inl (gI G, 4, .inl fk))] s.heap := hP
  refine lv_iconst (v := 0) hx hb dX9_goalPast_0 (by decide) ?_
  refine lv_istore_n (lv' := [(3, .int 0), (0, .ref h0), (1, .int p0), (2, .int p1)]) hx hb dX9_goalPast_1 rfl hl (by decide) rfl (fun ls hl => ?_)
  refine lv_iconst (v := 0) hx hb dX9_goalPast_2 (by decide) ?_
  refine lv_istore (lv' := [(4, .int 0), (3, .int 0), (0, .ref h0), (1, .int p0), (2, .int p1)]) hx hb dX9_goalPast_3 hl (by decide) rfl (fun ls hl => ?_)
  refine lp_run (x0 := (0, 0)) (fun xx_ : Int32 × Int32 => match xx_ with | (x, y) => [(h0, .inr (5, [.ref pad, .ref pp, .ref im, vse, vtr])), (pad, .inr (0, [.ref sg, .ref sl, .int len])), (sg, .inl (gI G, 40, .inl fsg)), (sl, .inl (gI G, 10, .inl fsl)), (pp, .inr (1, [.int n, .int told, .int sp, .int gr, .ref ac, .ref ak])), (ac, .inl (gI G, 6, .inl fc)), (ak, .inl (gI G, 4, .inl fk))]) (fun xx_ : Int32 × Int32 => match xx_ with | (x, y) => [(4, .int x), (3, .int y), (0, .ref h0), (1, .int p0), (2, .int p1)]) (fun xx_ : Int32 × Int32 => match xx_ with | (x, y) => (0 ≤ x.toInt)) (fun xx_ : Int32 × Int32 => match xx_ with | (x, y) => (n.toInt - x.toInt).toNat) (hP.sub [0, 1, 2, 3, 4, 5, 6] rfl) (hD.sub [0, 1, 2, 3, 4, 5, 6] (by decide) rfl) hS (lv_sub hl [0, 1, 2, 3, 4] rfl) (show (0 : Int) ≤ (0 : Int32).toInt by first | decide | omega | assumption) ?_
  intro xx_ hI ih5 H locs ls hP hD hS hl
  obtain ⟨x, y⟩ := xx_
  dsimp only at hI ih5 hP hD hl
  have hx0 := hI
  have hl : lv_has ls 8 [(4, .int x), (3, .int y), (0, .ref h0), (1, .int p0), (2, .int p1)] := hl
  have hP : va_P G.1 vwCl [(h0, .inr (5, [.ref pad, .ref pp, .ref im, vse, vtr])), (pad, .inr (0, [.ref sg, .ref sl, .int len])), (sg, .inl (gI G, 40, .inl fsg)), (sl, .inl (gI G, 10, .inl fsl)), (pp, .inr (1, [.int n, .int told, .int sp, .int gr, .ref ac, .ref ak])), (ac, .inl (gI G, 6, .inl fc)), (ak, .inl (gI G, 4, .inl fk))] H := hP
  have hD : va_D A [(h0, .inr (5, [.ref pad, .ref pp, .ref im, vse, vtr])), (pad, .inr (0, [.ref sg, .ref sl, .int len])), (sg, .inl (gI G, 40, .inl fsg)), (sl, .inl (gI G, 10, .inl fsl)), (pp, .inr (1, [.int n, .int told, .int sp, .int gr, .ref ac, .ref ak])), (ac, .inl (gI G, 6, .inl fc)), (ak, .inl (gI G, 4, .inl fk))] := hD
  refine lv_iload hx hb dX9_goalPast_5 (lv_at hl 0 rfl) ?_
  refine lv_aload_n hx hb dX9_goalPast_7 rfl (lv_at hl 2 rfl) ?_
  refine va_get (D := G.1) (ci := 5) (v := .ref pp) (C := RX9) (T := TX9) (N := 5) hx hb hts (fun _ h => List.mem_cons_of_mem _ (List.mem_append_left _ (List.mem_append_left _ (List.mem_append_right _ h)))) hown E.K hP 0 rfl rfl 1 (by decide) (hts (.fieldLink RX9 19 "LastMap" "papers" "LLastMap$Papers;") (by decide +kernel)) (fun _ h9 => h9) rfl dX9_goalPast_8 ?_
  refine va_get (D := G.1) (ci := 1) (v := .int n) (C := RX3) (T := TX3) (N := 6) hx hb hts (fun _ h => List.mem_cons_of_mem _ (List.mem_append_left _ (List.mem_append_right _ h))) hown E.K hP 4 rfl rfl 0 (by decide) (hts (.fieldLink RX9 27 "LastMap$Papers" "siteCount" "I") (by decide +kernel)) (fun _ h9 => h9) rfl dX9_goalPast_11 ?_
  refine lv_icmp_ge (tgt := 98) hx hb dX9_goalPast_14 (by decide) (fun c1 => ?_) (fun c1 => ?_)
  · refine lv_iload_n hx hb dX9_goalPast_98 rfl (lv_at hl 1 rfl) ?_
    have hP9 := hP.sub (ws' := [(h0, .inr (5, [.ref pad, .ref pp, .ref im, vse, vtr])), (pad, .inr (0, [.ref sg, .ref sl, .int len])), (sg, .inl (gI G, 40, .inl fsg)), (sl, .inl (gI G, 10, .inl fsl)), (pp, .inr (1, [.int n, .int told, .int sp, .int gr, .ref ac, .ref ak])), (ac, .inl (gI G, 6, .inl fc)), (ak, .inl (gI G, 4, .inl fk))]) [0, 1, 2, 3, 4, 5, 6] rfl
    have hD9 := hD.sub (ws' := [(h0, .inr (5, [.ref pad, .ref pp, .ref im, vse, vtr])), (pad, .inr (0, [.ref sg, .ref sl, .int len])), (sg, .inl (gI G, 40, .inl fsg)), (sl, .inl (gI G, 10, .inl fsl)), (pp, .inr (1, [.int n, .int told, .int sp, .int gr, .ref ac, .ref ak])), (ac, .inl (gI G, 6, .inl fc)), (ak, .inl (gI G, 4, .inl fk))]) [0, 1, 2, 3, 4, 5, 6] (by decide) rfl
    exact W.iret (v := y) hx hb hr (fun t ht hW => ⟨⟨y, (), rfl, trivial, by rw [ht]; exact hP9, hD9⟩, hS.F ht⟩) hS.2.2 dX9_goalPast_99
  · have hlt5 : x.toInt < n.toInt := by ((try simp only [inR, inS, i3_lt, i3_le, i3_eq, i6_lt, i6_le, Int32.toInt_toInt64, lg_cmp_lt, lg_cmp_gt, lg_cmp_ge, lg_cmp_le, Int32.reduceToInt, Int64.reduceToInt] at c1 ⊢); omega)
    refine lv_aload_n hx hb dX9_goalPast_17 rfl (lv_at hl 2 rfl) ?_
    refine va_get (D := G.1) (ci := 5) (v := .ref pad) (C := RX9) (T := TX9) (N := 5) hx hb hts (fun _ h => List.mem_cons_of_mem _ (List.mem_append_left _ (List.mem_append_left _ (List.mem_append_right _ h)))) hown E.K hP 0 rfl rfl 0 (by decide) (hts (.fieldLink RX9 10 "LastMap" "pad" "LLastMap$Pad;") (by decide +kernel)) (fun _ h9 => h9) rfl dX9_goalPast_18 ?_
    refine lv_iload hx hb dX9_goalPast_21 (lv_at hl 0 rfl) ?_
    refine ca_iR (va_runV (As := [.int x]) (rest := []) ⟨hx, hb, hml, hown, hts⟩ (c_padMark l G H.size pad sg sl len fsg fsl x) (cwV 1 hts gX9_goalPast_X2_markAt rfl rfl rfl (by decide +kernel) ⟨by decide +kernel, by decide +kernel⟩) (pre_V E hP hD hS hA [1, 2, 3] (by decide) rfl 1 0 rfl rfl) rfl rfl hl.1 rfl (lv_room (Nat.le_of_ble_eq_true rfl)) dX9_goalPast_23 ⟨by decide +kernel, by decide +kernel⟩) hS hP hD hA [1, 2, 3] rfl (fun r3 _ H locs w2 hP hS => ?_)
    refine lv_istore (lv' := [(5, .int r3), (4, .int x), (3, .int y), (0, .ref h0), (1, .int p0), (2, .int p1)]) hx hb dX9_goalPast_26 hl (by decide) rfl (fun ls hl => ?_)
    refine lv_iload_n hx hb dX9_goalPast_28 rfl (lv_at hl 5 rfl) ?_
    refine lv_iload hx hb dX9_goalPast_29 (lv_at hl 1 rfl) ?_
    refine ca_iR (va_runS (As := [.int p1, .int x]) (rest := []) ⟨hx, hb, hml, hown, hts⟩ (c_signAt l G H.size p1 x) (va_cwS 2 hts gX9_goalPast_X1_signAt rfl rfl rfl (by decide +kernel) ⟨by decide +kernel, by decide +kernel⟩) (pre_S E hP hD hS hA [] (by decide) rfl) rfl rfl hl.1 rfl (lv_room (Nat.le_of_ble_eq_true rfl)) dX9_goalPast_31 ⟨by decide +kernel, by decide +kernel⟩) hS hP hD hA [] rfl (fun r5 _ H locs w4 hP hS => ?_)
    refine lv_istore (lv' := [(6, .int r5), (5, .int r3), (4, .int x), (3, .int y), (0, .ref h0), (1, .int p0), (2, .int p1)]) hx hb dX9_goalPast_34 hl (by decide) rfl (fun ls hl => ?_)
    refine lv_iload_n hx hb dX9_goalPast_36 rfl (lv_at hl 5 rfl) ?_
    refine lv_iload hx hb dX9_goalPast_37 (lv_at hl 2 rfl) ?_
    refine lv_ishr hx hb dX9_goalPast_39 ?_
    refine lv_topi (fun x6 ex6 => ?_)
    refine lv_iconst (v := 1) hx hb dX9_goalPast_40 (by decide) ?_
    refine lv_iand hx hb dX9_goalPast_41 ?_
    refine lv_topi (fun x7 ex7 => ?_)
    refine lv_if_eq (tgt := 49) hx hb dX9_goalPast_42 (by decide) (fun c8 => ?_) (fun c8 => ?_)
    · refine lv_iconst (v := 0) hx hb dX9_goalPast_49 (by decide) ?_
      refine lv_istore (lv' := [(7, .int 0), (6, .int r5), (5, .int r3), (4, .int x), (3, .int y), (0, .ref h0), (1, .int p0), (2, .int p1)]) hx hb dX9_goalPast_50 hl (by decide) rfl (fun ls hl => ?_)
      refine lv_iload hx hb dX9_goalPast_52 (lv_at hl 0 rfl) ?_
      refine lv_if_eq (tgt := 73) hx hb dX9_goalPast_54 (by decide) (fun _ => ?_) (fun c9 => False.elim (by revert c9; decide))
      refine lv_iload_n hx hb dX9_goalPast_73 rfl (lv_at hl 4 rfl) ?_
      refine lv_iload hx hb dX9_goalPast_74 (lv_at hl 3 rfl) ?_
      refine lv_iload hx hb dX9_goalPast_76 (lv_at hl 0 rfl) ?_
      refine lv_if_eq (tgt := 86) hx hb dX9_goalPast_78 (by decide) (fun _ => ?_) (fun c10 => False.elim (by revert c10; decide))
      refine lv_iload hx hb dX9_goalPast_86 (lv_at hl 2 rfl) ?_
      refine ca_iR (va_runS (As := [.int y, .int x, .int r3]) (rest := []) ⟨hx, hb, hml, hown, hts⟩ (c_goalWith l G H.size y x r3) (va_cwS 3 hts gX9_goalPast_X0_with rfl rfl rfl (by decide +kernel) ⟨by decide +kernel, by decide +kernel⟩) (pre_S E hP hD hS hA [] (by decide) rfl) rfl rfl hl.1 rfl (lv_room (Nat.le_of_ble_eq_true rfl)) dX9_goalPast_88 ⟨by decide +kernel, by decide +kernel⟩) hS hP hD hA [] rfl (fun r12 _ H locs w11 hP hS => ?_)
      refine lv_istore_n (lv' := [(3, .int r12), (7, .int 0), (6, .int r5), (5, .int r3), (4, .int x), (0, .ref h0), (1, .int p0), (2, .int p1)]) hx hb dX9_goalPast_91 rfl hl (by decide) rfl (fun ls hl => ?_)
      obtain ⟨x13, ex13⟩ : ∃ yy_ : Int32, yy_ = x + 1 := ⟨_, rfl⟩
      refine lv_iinc (v := x13) (lv' := [(4, .int x13), (3, .int r12), (7, .int 0), (6, .int r5), (5, .int r3), (0, .ref h0), (1, .int p0), (2, .int p1)]) hx hb dX9_goalPast_92 hl (k := 4) rfl (by rw [ex13]; rfl) (by decide) rfl (fun ls hl => ?_)
      refine lv_goto (tgt := 5) hx hb dX9_goalPast_95 (by decide) ?_
      have hinc5 := inc_lt hlt5 ex13
      refine ih5 (x13, r12) ?_ (by first | omega | (dsimp only; omega)) H locs ls (hP.sub [0, 1, 2, 3, 4, 5, 6] rfl) (hD.sub [0, 1, 2, 3, 4, 5, 6] (by decide) rfl) hS (lv_sub hl [0, 1, 5, 6, 7] rfl)
      try dsimp only
      omega
    · refine lv_iconst (v := 1) hx hb dX9_goalPast_45 (by decide) ?_
      refine lv_goto (tgt := 50) hx hb dX9_goalPast_46 (by decide) ?_
      refine lv_istore (lv' := [(7, .int 1), (6, .int r5), (5, .int r3), (4, .int x), (3, .int y), (0, .ref h0), (1, .int p0), (2, .int p1)]) hx hb dX9_goalPast_50 hl (by decide) rfl (fun ls hl => ?_)
      refine lv_iload hx hb dX9_goalPast_52 (lv_at hl 0 rfl) ?_
      refine lv_if_eq (tgt := 73) hx hb dX9_goalPast_54 (by decide) (fun c14 => False.elim (by revert c14; decide)) (fun _ => ?_)
      refine lv_iload hx hb dX9_goalPast_57 (lv_at hl 2 rfl) ?_
      refine lv_iconst (v := 5) hx hb dX9_goalPast_59 (by decide) ?_
      refine lv_icmp_eq (tgt := 73) hx hb dX9_goalPast_60 (by decide) (fun c15 => ?_) (fun c15 => ?_)
      · refine lv_iload_n hx hb dX9_goalPast_73 rfl (lv_at hl 4 rfl) ?_
        refine lv_iload hx hb dX9_goalPast_74 (lv_at hl 3 rfl) ?_
        refine lv_iload hx hb dX9_goalPast_76 (lv_at hl 0 rfl) ?_
        refine lv_if_eq (tgt := 86) hx hb dX9_goalPast_78 (by decide) (fun c16 => False.elim (by revert c16; decide)) (fun _ => ?_)
        refine lv_iload hx hb dX9_goalPast_81 (lv_at hl 1 rfl) ?_
        refine lv_goto (tgt := 88) hx hb dX9_goalPast_83 (by decide) ?_
        refine ca_iR (va_runS (As := [.int y, .int x, .int r5]) (rest := []) ⟨hx, hb, hml, hown, hts⟩ (c_goalWith l G H.size y x r5) (va_cwS 3 hts gX9_goalPast_X0_with rfl rfl rfl (by decide +kernel) ⟨by decide +kernel, by decide +kernel⟩) (pre_S E hP hD hS hA [] (by decide) rfl) rfl rfl hl.1 rfl (lv_room (Nat.le_of_ble_eq_true rfl)) dX9_goalPast_88 ⟨by decide +kernel, by decide +kernel⟩) hS hP hD hA [] rfl (fun r18 _ H locs w17 hP hS => ?_)
        refine lv_istore_n (lv' := [(3, .int r18), (7, .int 1), (6, .int r5), (5, .int r3), (4, .int x), (0, .ref h0), (1, .int p0), (2, .int p1)]) hx hb dX9_goalPast_91 rfl hl (by decide) rfl (fun ls hl => ?_)
        obtain ⟨x19, ex19⟩ : ∃ yy_ : Int32, yy_ = x + 1 := ⟨_, rfl⟩
        refine lv_iinc (v := x19) (lv' := [(4, .int x19), (3, .int r18), (7, .int 1), (6, .int r5), (5, .int r3), (0, .ref h0), (1, .int p0), (2, .int p1)]) hx hb dX9_goalPast_92 hl (k := 4) rfl (by rw [ex19]; rfl) (by decide) rfl (fun ls hl => ?_)
        refine lv_goto (tgt := 5) hx hb dX9_goalPast_95 (by decide) ?_
        have hinc5 := inc_lt hlt5 ex19
        refine ih5 (x19, r18) ?_ (by first | omega | (dsimp only; omega)) H locs ls (hP.sub [0, 1, 2, 3, 4, 5, 6] rfl) (hD.sub [0, 1, 2, 3, 4, 5, 6] (by decide) rfl) hS (lv_sub hl [0, 1, 5, 6, 7] rfl)
        try dsimp only
        omega
      · refine lv_iload hx hb dX9_goalPast_63 (lv_at hl 2 rfl) ?_
        refine lv_iload hx hb dX9_goalPast_65 (lv_at hl 1 rfl) ?_
        refine lv_icmp_eq (tgt := 73) hx hb dX9_goalPast_67 (by decide) (fun c20 => ?_) (fun c20 => ?_)
        · refine lv_iload_n hx hb dX9_goalPast_73 rfl (lv_at hl 4 rfl) ?_
          refine lv_iload hx hb dX9_goalPast_74 (lv_at hl 3 rfl) ?_
          refine lv_iload hx hb dX9_goalPast_76 (lv_at hl 0 rfl) ?_
          refine lv_if_eq (tgt := 86) hx hb dX9_goalPast_78 (by decide) (fun c21 => False.elim (by revert c21; decide)) (fun _ => ?_)
          refine lv_iload hx hb dX9_goalPast_81 (lv_at hl 1 rfl) ?_
          refine lv_goto (tgt := 88) hx hb dX9_goalPast_83 (by decide) ?_
          refine ca_iR (va_runS (As := [.int y, .int x, .int r5]) (rest := []) ⟨hx, hb, hml, hown, hts⟩ (c_goalWith l G H.size y x r5) (va_cwS 3 hts gX9_goalPast_X0_with rfl rfl rfl (by decide +kernel) ⟨by decide +kernel, by decide +kernel⟩) (pre_S E hP hD hS hA [] (by decide) rfl) rfl rfl hl.1 rfl (lv_room (Nat.le_of_ble_eq_true rfl)) dX9_goalPast_88 ⟨by decide +kernel, by decide +kernel⟩) hS hP hD hA [] rfl (fun r23 _ H locs w22 hP hS => ?_)
          refine lv_istore_n (lv' := [(3, .int r23), (7, .int 1), (6, .int r5), (5, .int r3), (4, .int x), (0, .ref h0), (1, .int p0), (2, .int p1)]) hx hb dX9_goalPast_91 rfl hl (by decide) rfl (fun ls hl => ?_)
          obtain ⟨x24, ex24⟩ : ∃ yy_ : Int32, yy_ = x + 1 := ⟨_, rfl⟩
          refine lv_iinc (v := x24) (lv' := [(4, .int x24), (3, .int r23), (7, .int 1), (6, .int r5), (5, .int r3), (0, .ref h0), (1, .int p0), (2, .int p1)]) hx hb dX9_goalPast_92 hl (k := 4) rfl (by rw [ex24]; rfl) (by decide) rfl (fun ls hl => ?_)
          refine lv_goto (tgt := 5) hx hb dX9_goalPast_95 (by decide) ?_
          have hinc5 := inc_lt hlt5 ex24
          refine ih5 (x24, r23) ?_ (by first | omega | (dsimp only; omega)) H locs ls (hP.sub [0, 1, 2, 3, 4, 5, 6] rfl) (hD.sub [0, 1, 2, 3, 4, 5, 6] (by decide) rfl) hS (lv_sub hl [0, 1, 5, 6, 7] rfl)
          try dsimp only
          omega
        · refine lv_bipush (v := (-6)) hx hb dX9_goalPast_70 (by decide) ?_
          have hP9 := hP.sub (ws' := [(h0, .inr (5, [.ref pad, .ref pp, .ref im, vse, vtr])), (pad, .inr (0, [.ref sg, .ref sl, .int len])), (sg, .inl (gI G, 40, .inl fsg)), (sl, .inl (gI G, 10, .inl fsl)), (pp, .inr (1, [.int n, .int told, .int sp, .int gr, .ref ac, .ref ak])), (ac, .inl (gI G, 6, .inl fc)), (ak, .inl (gI G, 4, .inl fk))]) [0, 1, 2, 3, 4, 5, 6] rfl
          have hD9 := hD.sub (ws' := [(h0, .inr (5, [.ref pad, .ref pp, .ref im, vse, vtr])), (pad, .inr (0, [.ref sg, .ref sl, .int len])), (sg, .inl (gI G, 40, .inl fsg)), (sl, .inl (gI G, 10, .inl fsl)), (pp, .inr (1, [.int n, .int told, .int sp, .int gr, .ref ac, .ref ak])), (ac, .inl (gI G, 6, .inl fc)), (ak, .inl (gI G, 4, .inl fk))]) [0, 1, 2, 3, 4, 5, 6] (by decide) rfl
          exact W.iret (v := (-6)) hx hb hr (fun t ht hW => ⟨⟨(-6), (), rfl, trivial, by rw [ht]; exact hP9, hD9⟩, hS.F ht⟩) hS.2.2 dX9_goalPast_72
