set_option maxHeartbeats 1000000 in
set_option maxRecDepth 100000 in
theorem c_isSome (l : Launch) (G : Gy) (sz : Nat) (h0 : Nat) (pad : Nat) (pp : Nat) (im : Nat) (vse : Value) (vtr : Value) (ac : Nat) (ak : Nat) (n : Int32) (told : Int32) (sp : Int32) (gr : Int32) (p0 : Int32) (p1 : Int32) (p2 : Int32)  : Ci l G yX9_isSome wsX9_isSome ({ frames := 4, cells := 0, slots := 0, locals := 87 }) [.ref h0, .int p0, .int p1, .int p2] [(h0, .inr (5, [.ref pad, .ref pp, .ref im, vse, vtr])), (pp, .inr (1, [.int n, .int told, .int sp, .int gr, .ref ac, .ref ak]))] sz (fun (r : Int32) (_ : Unit) => (r = 1 ∧ (mdP p1 p2 n ∧ ¬ aft p0 p1 = p0)) ∨ (r = 0 ∧ ¬ (mdP p1 p2 n ∧ ¬ aft p0 p1 = p0))) (fun (_ : Unit) => [(h0, .inr (5, [.ref pad, .ref pp, .ref im, vse, vtr])), (pp, .inr (1, [.int n, .int told, .int sp, .int gr, .ref ac, .ref ak]))]) 0 0 := by
  refine Met.ofW (cc := cX9_isSome) (maxL := 4) (ret := (some .boolean)) (by decide) rfl ?_
  intro p e s m args below meth c s₁ B hml hv
  obtain ⟨rfl, hsz, hP, hD0, E0⟩ := hv
  have hx := B.exec
  have hb := B.bytes
  have hr := B.returns
  have hts := atoms_spec (ws := wsX9_isSome) B.pre
  have hown : s.vm.findClass RX9 = some m.cls := findClass_of_methodNamed B.named
  have hlocks := B.notSynchronized
  subst hsz
  have hD := hD0.self (sz := s.heap.size)
  generalize hAe : va_A [(h0, .inr (5, [.ref pad, .ref pp, .ref im, vse, vtr])), (pp, .inr (1, [.int n, .int told, .int sp, .int gr, .ref ac, .ref ak]))] s.heap.size = A at hD E0 ⊢
  have E : EV G A s s.heap := E0
  have hA : ∀ q : Nat, s.heap.size ≤ q → A q := fun q h => by rw [← hAe]; exact Or.inr h
  have hS : va_S A s.heap s.heap [] := va_S.rf
  have hl := lv_entry ([.ref h0, .int p0, .int p1, .int p2]) (n := 4) (Nat.le_of_ble_eq_true rfl)
  rw [lg_entry_eq]
  generalize (lg_sl ([.ref h0, .int p0, .int p1, .int p2]) ++ List.replicate (4 - (lg_sl ([.ref h0, .int p0, .int p1, .int p2])).length) Slot.unset).toArray = ls at hl ⊢
  have hl : lv_has ls 4 [(0, .ref h0), (1, .int p0), (2, .int p1), (3, .int p2)] := hl
  have hP : va_P G.1 vwCl [(h0, .inr (5, [.ref pad, .ref pp, .ref im, vse, vtr])), (pp, .inr (1, [.int n, .int told, .int sp, .int gr, .ref ac, .ref ak]))] s.heap := hP
  refine lv_iload_n hx hb dX9_isSome_0 rfl (lv_at hl 2 rfl) ?_
  refine lv_iload_n hx hb dX9_isSome_1 rfl (lv_at hl 3 rfl) ?_
  refine lv_aload_n hx hb dX9_isSome_2 rfl (lv_at hl 0 rfl) ?_
  refine va_get (D := G.1) (ci := 5) (v := .ref pp) (C := RX9) (T := TX9) (N := 5) hx hb hts (fun _ h => List.mem_cons_of_mem _ (List.mem_append_left _ (List.mem_append_right _ h))) hown E.K hP 0 rfl rfl 1 (by decide) (hts (.fieldLink RX9 19 "LastMap" "papers" "LLastMap$Papers;") (by decide +kernel)) (fun _ h9 => h9) rfl dX9_isSome_3 ?_
  refine va_get (D := G.1) (ci := 1) (v := .int n) (C := RX3) (T := TX3) (N := 6) hx hb hts (fun _ h => List.mem_cons_of_mem _ (List.mem_append_right _ h)) hown E.K hP 1 rfl rfl 0 (by decide) (hts (.fieldLink RX9 27 "LastMap$Papers" "siteCount" "I") (by decide +kernel)) (fun _ h9 => h9) rfl dX9_isSome_6 ?_
  refine ca_iR (va_runS (As := [.int p1, .int p2, .int n]) (rest := []) ⟨hx, hb, hml, hown, hts⟩ (c_isMade l G s.heap.size p1 p2 n) (va_cwS 3 hts gX9_isSome_X6_isMade rfl rfl rfl (by decide +kernel) ⟨by decide +kernel, by decide +kernel⟩) (pre_S E hP hD hS hA [] (by decide) rfl) rfl rfl hl.1 rfl (lv_room (Nat.le_of_ble_eq_true rfl)) dX9_isSome_9 ⟨by decide +kernel, by decide +kernel⟩) hS hP hD hA [] rfl (fun r2 _ H locs w1 hP hS => ?_)
  rcases w1 with ⟨rfl, b3⟩ | ⟨rfl, b3⟩
  · refine lv_if_eq (tgt := 28) hx hb dX9_isSome_12 (by decide) (fun c4 => False.elim (by revert c4; decide)) (fun _ => ?_)
    refine lv_iload_n hx hb dX9_isSome_15 rfl (lv_at hl 1 rfl) ?_
    refine lv_iload_n hx hb dX9_isSome_16 rfl (lv_at hl 2 rfl) ?_
    refine ca_iR (va_runS (As := [.int p0, .int p1]) (rest := []) ⟨hx, hb, hml, hown, hts⟩ (c_after l G H.size p0 p1) (va_cwS 2 hts gX9_isSome_X6_after rfl rfl rfl (by decide +kernel) ⟨by decide +kernel, by decide +kernel⟩) (pre_S E hP hD hS hA [] (by decide) rfl) rfl rfl hl.1 rfl (lv_room (Nat.le_of_ble_eq_true rfl)) dX9_isSome_17 ⟨by decide +kernel, by decide +kernel⟩) hS hP hD hA [] rfl (fun r6 _ H locs w5 hP hS => ?_)
    refine lv_iload_n hx hb dX9_isSome_20 rfl (lv_at hl 1 rfl) ?_
    refine lv_icmp_eq (tgt := 28) hx hb dX9_isSome_21 (by decide) (fun c7 => ?_) (fun c7 => ?_)
    · refine lv_iconst (v := 0) hx hb dX9_isSome_28 (by decide) ?_
      have hP9 := hP.sub (ws' := [(h0, .inr (5, [.ref pad, .ref pp, .ref im, vse, vtr])), (pp, .inr (1, [.int n, .int told, .int sp, .int gr, .ref ac, .ref ak]))]) [0, 1] rfl
      have hD9 := hD.sub (ws' := [(h0, .inr (5, [.ref pad, .ref pp, .ref im, vse, vtr])), (pp, .inr (1, [.int n, .int told, .int sp, .int gr, .ref ac, .ref ak]))]) [0, 1] (by decide) rfl
      exact W.zret (v := 0) hx hb hr (by decide) (fun t ht hW => ⟨⟨0, (), rfl, Or.inr ⟨rfl, fun h => h.2 (by rw [← w5]; assumption)⟩, by rw [ht]; exact hP9, hD9⟩, hS.F ht⟩) hS.2.2 dX9_isSome_29
    · refine lv_iconst (v := 1) hx hb dX9_isSome_24 (by decide) ?_
      refine lv_goto (tgt := 29) hx hb dX9_isSome_25 (by decide) ?_
      have hP9 := hP.sub (ws' := [(h0, .inr (5, [.ref pad, .ref pp, .ref im, vse, vtr])), (pp, .inr (1, [.int n, .int told, .int sp, .int gr, .ref ac, .ref ak]))]) [0, 1] rfl
      have hD9 := hD.sub (ws' := [(h0, .inr (5, [.ref pad, .ref pp, .ref im, vse, vtr])), (pp, .inr (1, [.int n, .int told, .int sp, .int gr, .ref ac, .ref ak]))]) [0, 1] (by decide) rfl
      exact W.zret (v := 1) hx hb hr (by decide) (fun t ht hW => ⟨⟨1, (), rfl, Or.inl ⟨rfl, ⟨b3, by rw [← w5]; assumption⟩⟩, by rw [ht]; exact hP9, hD9⟩, hS.F ht⟩) hS.2.2 dX9_isSome_29
  · refine lv_if_eq (tgt := 28) hx hb dX9_isSome_12 (by decide) (fun _ => ?_) (fun c8 => False.elim (by revert c8; decide))
    refine lv_iconst (v := 0) hx hb dX9_isSome_28 (by decide) ?_
    have hP9 := hP.sub (ws' := [(h0, .inr (5, [.ref pad, .ref pp, .ref im, vse, vtr])), (pp, .inr (1, [.int n, .int told, .int sp, .int gr, .ref ac, .ref ak]))]) [0, 1] rfl
    have hD9 := hD.sub (ws' := [(h0, .inr (5, [.ref pad, .ref pp, .ref im, vse, vtr])), (pp, .inr (1, [.int n, .int told, .int sp, .int gr, .ref ac, .ref ak]))]) [0, 1] (by decide) rfl
    exact W.zret (v := 0) hx hb hr (by decide) (fun t ht hW => ⟨⟨0, (), rfl, Or.inr ⟨rfl, fun h => b3 h.1⟩, by rw [ht]; exact hP9, hD9⟩, hS.F ht⟩) hS.2.2 dX9_isSome_29

set_option maxHeartbeats 1000000 in
set_option maxRecDepth 100000 in
theorem c_afterDraw (l : Launch) (G : Gy) (sz : Nat) (h0 : Nat) (pad : Nat) (pp : Nat) (im : Nat) (vse : Value) (vtr : Value) (ac : Nat) (ak : Nat) (n : Int32) (told : Int32) (sp : Int32) (gr : Int32) (p0 : Int32) (p1 : Int32) (p2 : Int32)  : Ci l G yX9_afterDraw wsX9_afterDraw ({ frames := 5, cells := 0, slots := 0, locals := 110 }) [.ref h0, .int p0, .int p1, .int p2] [(h0, .inr (5, [.ref pad, .ref pp, .ref im, vse, vtr])), (pp, .inr (1, [.int n, .int told, .int sp, .int gr, .ref ac, .ref ak]))] sz (fun (r : Int32) (_ : Unit) => True) (fun (_ : Unit) => [(h0, .inr (5, [.ref pad, .ref pp, .ref im, vse, vtr])), (pp, .inr (1, [.int n, .int told, .int sp, .int gr, .ref ac, .ref ak]))]) 0 0 := by
  refine Met.ofW (cc := cX9_afterDraw) (maxL := 8) (ret := (some .int)) (by decide) rfl ?_
  intro p e s m args below meth c s₁ B hml hv
  obtain ⟨rfl, hsz, hP, hD0, E0⟩ := hv
  have hx := B.exec
  have hb := B.bytes
  have hr := B.returns
  have hts := atoms_spec (ws := wsX9_afterDraw) B.pre
  have hown : s.vm.findClass RX9 = some m.cls := findClass_of_methodNamed B.named
  have hlocks := B.notSynchronized
  subst hsz
  have hD := hD0.self (sz := s.heap.size)
  generalize hAe : va_A [(h0, .inr (5, [.ref pad, .ref pp, .ref im, vse, vtr])), (pp, .inr (1, [.int n, .int told, .int sp, .int gr, .ref ac, .ref ak]))] s.heap.size = A at hD E0 ⊢
  have E : EV G A s s.heap := E0
  have hA : ∀ q : Nat, s.heap.size ≤ q → A q := fun q h => by rw [← hAe]; exact Or.inr h
  have hS : va_S A s.heap s.heap [] := va_S.rf
  have hl := lv_entry ([.ref h0, .int p0, .int p1, .int p2]) (n := 8) (Nat.le_of_ble_eq_true rfl)
  rw [lg_entry_eq]
  generalize (lg_sl ([.ref h0, .int p0, .int p1, .int p2]) ++ List.replicate (8 - (lg_sl ([.ref h0, .int p0, .int p1, .int p2])).length) Slot.unset).toArray = ls at hl ⊢
  have hl : lv_has ls 8 [(0, .ref h0), (1, .int p0), (2, .int p1), (3, .int p2)] := hl
  have hP : va_P G.1 vwCl [(h0, .inr (5, [.ref pad, .ref pp, .ref im, vse, vtr])), (pp, .inr (1, [.int n, .int told, .int sp, .int gr, .ref ac, .ref ak]))] s.heap := hP
  refine lv_iconst (v := 0) hx hb dX9_afterDraw_0 (by decide) ?_
  refine lv_istore (lv' := [(4, .int 0), (0, .ref h0), (1, .int p0), (2, .int p1), (3, .int p2)]) hx hb dX9_afterDraw_1 hl (by decide) rfl (fun ls hl => ?_)
  refine lv_iconst (v := 0) hx hb dX9_afterDraw_3 (by decide) ?_
  refine lv_istore (lv' := [(5, .int 0), (4, .int 0), (0, .ref h0), (1, .int p0), (2, .int p1), (3, .int p2)]) hx hb dX9_afterDraw_4 hl (by decide) rfl (fun ls hl => ?_)
  refine lp_run (x0 := (0, 0)) (fun xx_ : Int32 × Int32 => match xx_ with | (x, y) => [(h0, .inr (5, [.ref pad, .ref pp, .ref im, vse, vtr])), (pp, .inr (1, [.int n, .int told, .int sp, .int gr, .ref ac, .ref ak]))]) (fun xx_ : Int32 × Int32 => match xx_ with | (x, y) => [(5, .int x), (4, .int y), (0, .ref h0), (1, .int p0), (2, .int p1), (3, .int p2)]) (fun xx_ : Int32 × Int32 => match xx_ with | (x, y) => (0 ≤ x.toInt)) (fun xx_ : Int32 × Int32 => match xx_ with | (x, y) => ((40 : Int32).toInt - x.toInt).toNat) (hP.sub [0, 1] rfl) (hD.sub [0, 1] (by decide) rfl) hS (lv_sub hl [0, 1, 2, 3, 4, 5] rfl) (show (0 : Int) ≤ (0 : Int32).toInt by first | decide | omega | assumption) ?_
  intro xx_ hI ih6 H locs ls hP hD hS hl
  obtain ⟨x, y⟩ := xx_
  dsimp only at hI ih6 hP hD hl
  have hx0 := hI
  have hl : lv_has ls 8 [(5, .int x), (4, .int y), (0, .ref h0), (1, .int p0), (2, .int p1), (3, .int p2)] := hl
  have hP : va_P G.1 vwCl [(h0, .inr (5, [.ref pad, .ref pp, .ref im, vse, vtr])), (pp, .inr (1, [.int n, .int told, .int sp, .int gr, .ref ac, .ref ak]))] H := hP
  have hD : va_D A [(h0, .inr (5, [.ref pad, .ref pp, .ref im, vse, vtr])), (pp, .inr (1, [.int n, .int told, .int sp, .int gr, .ref ac, .ref ak]))] := hD
  refine lv_iload hx hb dX9_afterDraw_6 (lv_at hl 0 rfl) ?_
  refine lv_bipush (v := 40) hx hb dX9_afterDraw_8 (by decide) ?_
  refine lv_icmp_ge (tgt := 36) hx hb dX9_afterDraw_10 (by decide) (fun c1 => ?_) (fun c1 => ?_)
  · refine lv_iload hx hb dX9_afterDraw_36 (lv_at hl 1 rfl) ?_
    refine lv_if_ne (tgt := 43) hx hb dX9_afterDraw_38 (by decide) (fun c2 => ?_) (fun c2 => ?_)
    · refine lv_iload_n hx hb dX9_afterDraw_43 rfl (lv_at hl 4 rfl) ?_
      refine lv_iload hx hb dX9_afterDraw_44 (lv_at hl 1 rfl) ?_
      refine lv_irem hx hb dX9_afterDraw_46 c2 ?_
      refine lv_topi (fun x3 ex3 => ?_)
      refine lv_istore (lv' := [(5, .int x3), (4, .int y), (0, .ref h0), (1, .int p0), (2, .int p1), (3, .int p2)]) hx hb dX9_afterDraw_47 hl (by decide) rfl (fun ls hl => ?_)
      refine lv_iconst (v := 0) hx hb dX9_afterDraw_49 (by decide) ?_
      refine lv_istore (lv' := [(6, .int 0), (5, .int x3), (4, .int y), (0, .ref h0), (1, .int p0), (2, .int p1), (3, .int p2)]) hx hb dX9_afterDraw_50 hl (by decide) rfl (fun ls hl => ?_)
      refine lp_run (x0 := (0, x3)) (fun xx_ : Int32 × Int32 => match xx_ with | (z, y2) => [(h0, .inr (5, [.ref pad, .ref pp, .ref im, vse, vtr])), (pp, .inr (1, [.int n, .int told, .int sp, .int gr, .ref ac, .ref ak]))]) (fun xx_ : Int32 × Int32 => match xx_ with | (z, y2) => [(6, .int z), (5, .int y2), (4, .int y), (0, .ref h0), (1, .int p0), (2, .int p1), (3, .int p2)]) (fun xx_ : Int32 × Int32 => match xx_ with | (z, y2) => (0 ≤ z.toInt)) (fun xx_ : Int32 × Int32 => match xx_ with | (z, y2) => ((40 : Int32).toInt - z.toInt).toNat) (hP.sub [0, 1] rfl) (hD.sub [0, 1] (by decide) rfl) hS (lv_sub hl [0, 1, 2, 3, 4, 5, 6] rfl) (show (0 : Int) ≤ (0 : Int32).toInt by first | decide | omega | assumption) ?_
      intro xx_ hI ih52 H locs ls hP hD hS hl
      obtain ⟨z, y2⟩ := xx_
      dsimp only at hI ih52 hP hD hl
      have hz0 := hI
      have hl : lv_has ls 8 [(6, .int z), (5, .int y2), (4, .int y), (0, .ref h0), (1, .int p0), (2, .int p1), (3, .int p2)] := hl
      have hP : va_P G.1 vwCl [(h0, .inr (5, [.ref pad, .ref pp, .ref im, vse, vtr])), (pp, .inr (1, [.int n, .int told, .int sp, .int gr, .ref ac, .ref ak]))] H := hP
      have hD : va_D A [(h0, .inr (5, [.ref pad, .ref pp, .ref im, vse, vtr])), (pp, .inr (1, [.int n, .int told, .int sp, .int gr, .ref ac, .ref ak]))] := hD
      refine lv_iload hx hb dX9_afterDraw_52 (lv_at hl 0 rfl) ?_
      refine lv_bipush (v := 40) hx hb dX9_afterDraw_54 (by decide) ?_
      refine lv_icmp_ge (tgt := 98) hx hb dX9_afterDraw_56 (by decide) (fun c4 => ?_) (fun c4 => ?_)
      · refine lv_iload_n hx hb dX9_afterDraw_98 rfl (lv_at hl 4 rfl) ?_
        have hP9 := hP.sub (ws' := [(h0, .inr (5, [.ref pad, .ref pp, .ref im, vse, vtr])), (pp, .inr (1, [.int n, .int told, .int sp, .int gr, .ref ac, .ref ak]))]) [0, 1] rfl
        have hD9 := hD.sub (ws' := [(h0, .inr (5, [.ref pad, .ref pp, .ref im, vse, vtr])), (pp, .inr (1, [.int n, .int told, .int sp, .int gr, .ref ac, .ref ak]))]) [0, 1] (by decide) rfl
        exact W.iret (v := p0) hx hb hr (fun t ht hW => ⟨⟨p0, (), rfl, trivial, by rw [ht]; exact hP9, hD9⟩, hS.F ht⟩) hS.2.2 dX9_afterDraw_99
      · have hlt52 : z.toInt < (40 : Int32).toInt := by ((try simp only [inR, inS, i3_lt, i3_le, i3_eq, i6_lt, i6_le, Int32.toInt_toInt64, lg_cmp_lt, lg_cmp_gt, lg_cmp_ge, lg_cmp_le, Int32.reduceToInt, Int64.reduceToInt] at c4 ⊢); omega)
        refine lv_iload hx hb dX9_afterDraw_59 (lv_at hl 0 rfl) ?_
        refine ca_iR (va_runS (As := [.int z]) (rest := []) ⟨hx, hb, hml, hown, hts⟩ (c_inOrder l G H.size z) (va_cwS 1 hts gX9_afterDraw_X6_inOrder rfl rfl rfl (by decide +kernel) ⟨by decide +kernel, by decide +kernel⟩) (pre_S E hP hD hS hA [] (by decide) rfl) rfl rfl hl.1 rfl (lv_room (Nat.le_of_ble_eq_true rfl)) dX9_afterDraw_61 ⟨by decide +kernel, by decide +kernel⟩) hS hP hD hA [] rfl (fun r6 _ H locs w5 hP hS => ?_)
        refine lv_istore (lv' := [(7, .int r6), (6, .int z), (5, .int y2), (4, .int y), (0, .ref h0), (1, .int p0), (2, .int p1), (3, .int p2)]) hx hb dX9_afterDraw_64 hl (by decide) rfl (fun ls hl => ?_)
        refine lv_aload_n hx hb dX9_afterDraw_66 rfl (lv_at hl 4 rfl) ?_
        refine lv_iload_n hx hb dX9_afterDraw_67 rfl (lv_at hl 5 rfl) ?_
        refine lv_iload hx hb dX9_afterDraw_68 (lv_at hl 0 rfl) ?_
        refine lv_iload_n hx hb dX9_afterDraw_70 rfl (lv_at hl 7 rfl) ?_
        refine ca_iR (va_runV (As := [.int p0, .int r6, .int p2]) (rest := []) ⟨hx, hb, hml, hown, hts⟩ (c_isSome l G H.size h0 pad pp im vse vtr ac ak n told sp gr p0 r6 p2) (cwV 3 hts gX9_afterDraw_X9_isSome rfl rfl rfl (by decide +kernel) ⟨by decide +kernel, by decide +kernel⟩) (pre_V E hP hD hS hA [0, 1] (by decide) rfl 0 5 rfl rfl) rfl rfl hl.1 rfl (lv_room (Nat.le_of_ble_eq_true rfl)) dX9_afterDraw_71 ⟨by decide +kernel, by decide +kernel⟩) hS hP hD hA [0, 1] rfl (fun r8 _ H locs w7 hP hS => ?_)
        rcases w7 with ⟨rfl, b9⟩ | ⟨rfl, b9⟩
        · refine lv_if_eq (tgt := 92) hx hb dX9_afterDraw_74 (by decide) (fun c10 => False.elim (by revert c10; decide)) (fun _ => ?_)
          refine lv_iload hx hb dX9_afterDraw_77 (lv_at hl 2 rfl) ?_
          refine lv_if_ne (tgt := 89) hx hb dX9_afterDraw_79 (by decide) (fun c11 => ?_) (fun c11 => ?_)
          · obtain ⟨x12, ex12⟩ : ∃ yy_ : Int32, yy_ = y2 + (-1) := ⟨_, rfl⟩
            refine lv_iinc (v := x12) (lv' := [(5, .int x12), (7, .int r6), (6, .int z), (4, .int y), (0, .ref h0), (1, .int p0), (2, .int p1), (3, .int p2)]) hx hb dX9_afterDraw_89 hl (k := 2) rfl (by rw [ex12]; rfl) (by decide) rfl (fun ls hl => ?_)
            obtain ⟨x13, ex13⟩ : ∃ yy_ : Int32, yy_ = z + 1 := ⟨_, rfl⟩
            refine lv_iinc (v := x13) (lv' := [(6, .int x13), (5, .int x12), (7, .int r6), (4, .int y), (0, .ref h0), (1, .int p0), (2, .int p1), (3, .int p2)]) hx hb dX9_afterDraw_92 hl (k := 2) rfl (by rw [ex13]; rfl) (by decide) rfl (fun ls hl => ?_)
            refine lv_goto (tgt := 52) hx hb dX9_afterDraw_95 (by decide) ?_
            have hinc52 := inc_lt hlt52 ex13
            refine ih52 (x13, x12) ?_ (by first | omega | (dsimp only; omega)) H locs ls (hP.sub [0, 1] rfl) (hD.sub [0, 1] (by decide) rfl) hS (lv_sub hl [0, 1, 3, 4, 5, 6, 7] rfl)
            try dsimp only
            omega
          · refine lv_iload_n hx hb dX9_afterDraw_82 rfl (lv_at hl 5 rfl) ?_
            refine lv_iload hx hb dX9_afterDraw_83 (lv_at hl 0 rfl) ?_
            refine ca_iR (va_runS (As := [.int p0, .int r6]) (rest := []) ⟨hx, hb, hml, hown, hts⟩ (c_after l G H.size p0 r6) (va_cwS 2 hts gX9_afterDraw_X6_after rfl rfl rfl (by decide +kernel) ⟨by decide +kernel, by decide +kernel⟩) (pre_S E hP hD hS hA [] (by decide) rfl) rfl rfl hl.1 rfl (lv_room (Nat.le_of_ble_eq_true rfl)) dX9_afterDraw_85 ⟨by decide +kernel, by decide +kernel⟩) hS hP hD hA [] rfl (fun r15 _ H locs w14 hP hS => ?_)
            have hP9 := hP.sub (ws' := [(h0, .inr (5, [.ref pad, .ref pp, .ref im, vse, vtr])), (pp, .inr (1, [.int n, .int told, .int sp, .int gr, .ref ac, .ref ak]))]) [0, 1] rfl
            have hD9 := hD.sub (ws' := [(h0, .inr (5, [.ref pad, .ref pp, .ref im, vse, vtr])), (pp, .inr (1, [.int n, .int told, .int sp, .int gr, .ref ac, .ref ak]))]) [0, 1] (by decide) rfl
            exact W.iret (v := r15) hx hb hr (fun t ht hW => ⟨⟨r15, (), rfl, trivial, by rw [ht]; exact hP9, hD9⟩, hS.F ht⟩) hS.2.2 dX9_afterDraw_88
        · refine lv_if_eq (tgt := 92) hx hb dX9_afterDraw_74 (by decide) (fun _ => ?_) (fun c16 => False.elim (by revert c16; decide))
          obtain ⟨x17, ex17⟩ : ∃ yy_ : Int32, yy_ = z + 1 := ⟨_, rfl⟩
          refine lv_iinc (v := x17) (lv' := [(6, .int x17), (7, .int r6), (5, .int y2), (4, .int y), (0, .ref h0), (1, .int p0), (2, .int p1), (3, .int p2)]) hx hb dX9_afterDraw_92 hl (k := 1) rfl (by rw [ex17]; rfl) (by decide) rfl (fun ls hl => ?_)
          refine lv_goto (tgt := 52) hx hb dX9_afterDraw_95 (by decide) ?_
          have hinc52 := inc_lt hlt52 ex17
          refine ih52 (x17, y2) ?_ (by first | omega | (dsimp only; omega)) H locs ls (hP.sub [0, 1] rfl) (hD.sub [0, 1] (by decide) rfl) hS (lv_sub hl [0, 2, 3, 4, 5, 6, 7] rfl)
          try dsimp only
          omega
    · refine lv_iload_n hx hb dX9_afterDraw_41 rfl (lv_at hl 3 rfl) ?_
      have hP9 := hP.sub (ws' := [(h0, .inr (5, [.ref pad, .ref pp, .ref im, vse, vtr])), (pp, .inr (1, [.int n, .int told, .int sp, .int gr, .ref ac, .ref ak]))]) [0, 1] rfl
      have hD9 := hD.sub (ws' := [(h0, .inr (5, [.ref pad, .ref pp, .ref im, vse, vtr])), (pp, .inr (1, [.int n, .int told, .int sp, .int gr, .ref ac, .ref ak]))]) [0, 1] (by decide) rfl
      exact W.iret (v := p0) hx hb hr (fun t ht hW => ⟨⟨p0, (), rfl, trivial, by rw [ht]; exact hP9, hD9⟩, hS.F ht⟩) hS.2.2 dX9_afterDraw_42
  · have hlt6 : x.toInt < (40 : Int32).toInt := by ((try simp only [inR, inS, i3_lt, i3_le, i3_eq, i6_lt, i6_le, Int32.toInt_toInt64, lg_cmp_lt, lg_cmp_gt, lg_cmp_ge, lg_cmp_le, Int32.reduceToInt, Int64.reduceToInt] at c1 ⊢); omega)
    refine lv_aload_n hx hb dX9_afterDraw_13 rfl (lv_at hl 2 rfl) ?_
    refine lv_iload_n hx hb dX9_afterDraw_14 rfl (lv_at hl 3 rfl) ?_
    refine lv_iload hx hb dX9_afterDraw_15 (lv_at hl 0 rfl) ?_
    refine ca_iR (va_runS (As := [.int x]) (rest := [.int p0, .ref h0]) ⟨hx, hb, hml, hown, hts⟩ (c_inOrder l G H.size x) (va_cwS 1 hts gX9_afterDraw_X6_inOrder rfl rfl rfl (by decide +kernel) ⟨by decide +kernel, by decide +kernel⟩) (pre_S E hP hD hS hA [] (by decide) rfl) rfl rfl hl.1 rfl (lv_room (Nat.le_of_ble_eq_true rfl)) dX9_afterDraw_17 ⟨by decide +kernel, by decide +kernel⟩) hS hP hD hA [] rfl (fun r19 _ H locs w18 hP hS => ?_)
    refine lv_iload_n hx hb dX9_afterDraw_20 rfl (lv_at hl 5 rfl) ?_
    refine ca_iR (va_runV (As := [.int p0, .int r19, .int p2]) (rest := []) ⟨hx, hb, hml, hown, hts⟩ (c_isSome l G H.size h0 pad pp im vse vtr ac ak n told sp gr p0 r19 p2) (cwV 3 hts gX9_afterDraw_X9_isSome rfl rfl rfl (by decide +kernel) ⟨by decide +kernel, by decide +kernel⟩) (pre_V E hP hD hS hA [0, 1] (by decide) rfl 0 5 rfl rfl) rfl rfl hl.1 rfl (lv_room (Nat.le_of_ble_eq_true rfl)) dX9_afterDraw_21 ⟨by decide +kernel, by decide +kernel⟩) hS hP hD hA [0, 1] rfl (fun r21 _ H locs w20 hP hS => ?_)
    rcases w20 with ⟨rfl, b22⟩ | ⟨rfl, b22⟩
    · refine lv_if_eq (tgt := 30) hx hb dX9_afterDraw_24 (by decide) (fun c23 => False.elim (by revert c23; decide)) (fun _ => ?_)
      obtain ⟨x24, ex24⟩ : ∃ yy_ : Int32, yy_ = y + 1 := ⟨_, rfl⟩
      refine lv_iinc (v := x24) (lv' := [(4, .int x24), (5, .int x), (0, .ref h0), (1, .int p0), (2, .int p1), (3, .int p2)]) hx hb dX9_afterDraw_27 hl (k := 1) rfl (by rw [ex24]; rfl) (by decide) rfl (fun ls hl => ?_)
      obtain ⟨x25, ex25⟩ : ∃ yy_ : Int32, yy_ = x + 1 := ⟨_, rfl⟩
      refine lv_iinc (v := x25) (lv' := [(5, .int x25), (4, .int x24), (0, .ref h0), (1, .int p0), (2, .int p1), (3, .int p2)]) hx hb dX9_afterDraw_30 hl (k := 1) rfl (by rw [ex25]; rfl) (by decide) rfl (fun ls hl => ?_)
      refine lv_goto (tgt := 6) hx hb dX9_afterDraw_33 (by decide) ?_
      have hinc6 := inc_lt hlt6 ex25
      refine ih6 (x25, x24) ?_ (by first | omega | (dsimp only; omega)) H locs ls (hP.sub [0, 1] rfl) (hD.sub [0, 1] (by decide) rfl) hS (lv_sub hl [0, 1, 2, 3, 4, 5] rfl)
      try dsimp only
      omega
    · refine lv_if_eq (tgt := 30) hx hb dX9_afterDraw_24 (by decide) (fun _ => ?_) (fun c26 => False.elim (by revert c26; decide))
      obtain ⟨x27, ex27⟩ : ∃ yy_ : Int32, yy_ = x + 1 := ⟨_, rfl⟩
      refine lv_iinc (v := x27) (lv' := [(5, .int x27), (4, .int y), (0, .ref h0), (1, .int p0), (2, .int p1), (3, .int p2)]) hx hb dX9_afterDraw_30 hl (k := 0) rfl (by rw [ex27]; rfl) (by decide) rfl (fun ls hl => ?_)
      refine lv_goto (tgt := 6) hx hb dX9_afterDraw_33 (by decide) ?_
      have hinc6 := inc_lt hlt6 ex27
      refine ih6 (x27, y) ?_ (by first | omega | (dsimp only; omega)) H locs ls (hP.sub [0, 1] rfl) (hD.sub [0, 1] (by decide) rfl) hS (lv_sub hl [0, 1, 2, 3, 4, 5] rfl)
      try dsimp only
      omega

set_option maxHeartbeats 1000000 in
set_option maxRecDepth 100000 in
theorem c_firstIdle (l : Launch) (G : Gy) (sz : Nat) (h0 : Nat) (pad : Nat) (pp : Nat) (im : Nat) (vse : Value) (vtr : Value) (sg : Nat) (sl : Nat) (len : Int32) (fsg : Nat → Int32) (fsl : Nat → Int32) (p0 : Int32)  : Ci l G yX9_firstIdle wsX9_firstIdle ({ frames := 4, cells := 0, slots := 0, locals := 87 }) [.ref h0, .int p0] [(h0, .inr (5, [.ref pad, .ref pp, .ref im, vse, vtr])), (pad, .inr (0, [.ref sg, .ref sl, .int len])), (sg, .inl (gI G, 40, .inl fsg)), (sl, .inl (gI G, 10, .inl fsl))] sz (fun (r : Int32) (fsl1 : Nat → Int32) => True) (fun (fsl1 : Nat → Int32) => [(h0, .inr (5, [.ref pad, .ref pp, .ref im, vse, vtr])), (pad, .inr (0, [.ref sg, .ref sl, .int len])), (sg, .inl (gI G, 40, .inl fsg)), (sl, .inl (gI G, 10, .inl fsl1))]) 0 0 := by
  refine Met.ofW (cc := cX9_firstIdle) (maxL := 6) (ret := (some .int)) (by decide) rfl ?_
  intro p e s m args below meth c s₁ B hml hv
  obtain ⟨rfl, hsz, hP, hD0, E0⟩ := hv
  have hx := B.exec
  have hb := B.bytes
  have hr := B.returns
  have hts := atoms_spec (ws := wsX9_firstIdle) B.pre
  have hown : s.vm.findClass RX9 = some m.cls := findClass_of_methodNamed B.named
  have hlocks := B.notSynchronized
  subst hsz
  have hD := hD0.self (sz := s.heap.size)
  generalize hAe : va_A [(h0, .inr (5, [.ref pad, .ref pp, .ref im, vse, vtr])), (pad, .inr (0, [.ref sg, .ref sl, .int len])), (sg, .inl (gI G, 40, .inl fsg)), (sl, .inl (gI G, 10, .inl fsl))] s.heap.size = A at hD E0 ⊢
  have E : EV G A s s.heap := E0
  have hA : ∀ q : Nat, s.heap.size ≤ q → A q := fun q h => by rw [← hAe]; exact Or.inr h
  have hS : va_S A s.heap s.heap [] := va_S.rf
  have hl := lv_entry ([.ref h0, .int p0]) (n := 6) (Nat.le_of_ble_eq_true rfl)
  rw [lg_entry_eq]
  generalize (lg_sl ([.ref h0, .int p0]) ++ List.replicate (6 - (lg_sl ([.ref h0, .int p0])).length) Slot.unset).toArray = ls at hl ⊢
  have hl : lv_has ls 6 [(0, .ref h0), (1, .int p0)] := hl
  have hP : va_P G.1 vwCl [(h0, .inr (5, [.ref pad, .ref pp, .ref im, vse, vtr])), (pad, .inr (0, [.ref sg, .ref sl, .int len])), (sg, .inl (gI G, 40, .inl fsg)), (sl, .inl (gI G, 10, .inl fsl))] s.heap := hP
  refine lv_aload_n hx hb dX9_firstIdle_0 rfl (lv_at hl 0 rfl) ?_
  refine va_get (D := G.1) (ci := 5) (v := .ref pad) (C := RX9) (T := TX9) (N := 5) hx hb hts (fun _ h => List.mem_cons_of_mem _ (List.mem_append_left _ (List.mem_append_right _ h))) hown E.K hP 0 rfl rfl 0 (by decide) (hts (.fieldLink RX9 10 "LastMap" "pad" "LLastMap$Pad;") (by decide +kernel)) (fun _ h9 => h9) rfl dX9_firstIdle_1 ?_
  refine ca_i (wr := [(h0, .inr (5, [.ref pad, .ref pp, .ref im, vse, vtr]))]) (va_runV (As := []) (rest := []) ⟨hx, hb, hml, hown, hts⟩ (c_readSlips l G s.heap.size pad sg sl len fsg fsl) (cwV 0 hts gX9_firstIdle_X2_readSlips rfl rfl rfl (by decide +kernel) ⟨by decide +kernel, by decide +kernel⟩) (pre_V E hP hD hS hA [1, 2, 3] (by decide) rfl 1 0 rfl rfl) rfl rfl hl.1 rfl (lv_room (Nat.le_of_ble_eq_true rfl)) dX9_firstIdle_4 ⟨by decide +kernel, by decide +kernel⟩) hS hP hD hA [1, 2, 3] [0] rfl rfl (by decide) (by decide) (fun r2 u3 H locs w1 hP hD hS => ?_)
  obtain ⟨fsl1_4, rfl⟩ : ∃ z, z = u3 := ⟨_, rfl⟩
  try dsimp only at w1 hP hD
  have hP := hP.sub (ws' := [(h0, .inr (5, [.ref pad, .ref pp, .ref im, vse, vtr])), (pad, .inr (0, [.ref sg, .ref sl, .int len])), (sg, .inl (gI G, 40, .inl fsg)), (sl, .inl (gI G, 10, .inl fsl1_4))]) [0, 1, 2, 3] rfl
  have hD := hD.sub (ws' := [(h0, .inr (5, [.ref pad, .ref pp, .ref im, vse, vtr])), (pad, .inr (0, [.ref sg, .ref sl, .int len])), (sg, .inl (gI G, 40, .inl fsg)), (sl, .inl (gI G, 10, .inl fsl1_4))]) [0, 1, 2, 3] (by decide) rfl
  refine lv_istore_n (lv' := [(2, .int r2), (0, .ref h0), (1, .int p0)]) hx hb dX9_firstIdle_7 rfl hl (by decide) rfl (fun ls hl => ?_)
  refine lv_iload_n hx hb dX9_firstIdle_8 rfl (lv_at hl 2 rfl) ?_
  refine lv_istore_n (lv' := [(3, .int p0), (2, .int r2), (0, .ref h0), (1, .int p0)]) hx hb dX9_firstIdle_9 rfl hl (by decide) rfl (fun ls hl => ?_)
  refine lv_iconst (v := 0) hx hb dX9_firstIdle_10 (by decide) ?_
  refine lv_istore (lv' := [(4, .int 0), (3, .int p0), (2, .int r2), (0, .ref h0), (1, .int p0)]) hx hb dX9_firstIdle_11 hl (by decide) rfl (fun ls hl => ?_)
  refine lp_run (x0 := (0, p0)) (fun xx_ : Int32 × Int32 => match xx_ with | (x, y) => [(h0, .inr (5, [.ref pad, .ref pp, .ref im, vse, vtr])), (pad, .inr (0, [.ref sg, .ref sl, .int len])), (sg, .inl (gI G, 40, .inl fsg)), (sl, .inl (gI G, 10, .inl fsl1_4))]) (fun xx_ : Int32 × Int32 => match xx_ with | (x, y) => [(4, .int x), (3, .int y), (2, .int r2), (0, .ref h0), (1, .int p0)]) (fun xx_ : Int32 × Int32 => match xx_ with | (x, y) => (0 ≤ x.toInt)) (fun xx_ : Int32 × Int32 => match xx_ with | (x, y) => (r2.toInt - x.toInt).toNat) (hP.sub [0, 1, 2, 3] rfl) (hD.sub [0, 1, 2, 3] (by decide) rfl) hS (lv_sub hl [0, 1, 2, 3, 4] rfl) (show (0 : Int) ≤ (0 : Int32).toInt by first | decide | omega | assumption) ?_
  intro xx_ hI ih13 H locs ls hP hD hS hl
  obtain ⟨x, y⟩ := xx_
  dsimp only at hI ih13 hP hD hl
  have hx0 := hI
  have hl : lv_has ls 6 [(4, .int x), (3, .int y), (2, .int r2), (0, .ref h0), (1, .int p0)] := hl
  have hP : va_P G.1 vwCl [(h0, .inr (5, [.ref pad, .ref pp, .ref im, vse, vtr])), (pad, .inr (0, [.ref sg, .ref sl, .int len])), (sg, .inl (gI G, 40, .inl fsg)), (sl, .inl (gI G, 10, .inl fsl1_4))] H := hP
  have hD : va_D A [(h0, .inr (5, [.ref pad, .ref pp, .ref im, vse, vtr])), (pad, .inr (0, [.ref sg, .ref sl, .int len])), (sg, .inl (gI G, 40, .inl fsg)), (sl, .inl (gI G, 10, .inl fsl1_4))] := hD
  refine lv_iload hx hb dX9_firstIdle_13 (lv_at hl 0 rfl) ?_
  refine lv_iload_n hx hb dX9_firstIdle_15 rfl (lv_at hl 2 rfl) ?_
  refine lv_icmp_ge (tgt := 52) hx hb dX9_firstIdle_16 (by decide) (fun c5 => ?_) (fun c5 => ?_)
  · refine lv_bipush (v := (-6)) hx hb dX9_firstIdle_52 (by decide) ?_
    have hP9 := hP.sub (ws' := [(h0, .inr (5, [.ref pad, .ref pp, .ref im, vse, vtr])), (pad, .inr (0, [.ref sg, .ref sl, .int len])), (sg, .inl (gI G, 40, .inl fsg)), (sl, .inl (gI G, 10, .inl fsl1_4))]) [0, 1, 2, 3] rfl
    have hD9 := hD.sub (ws' := [(h0, .inr (5, [.ref pad, .ref pp, .ref im, vse, vtr])), (pad, .inr (0, [.ref sg, .ref sl, .int len])), (sg, .inl (gI G, 40, .inl fsg)), (sl, .inl (gI G, 10, .inl fsl1_4))]) [0, 1, 2, 3] (by decide) rfl
    exact W.iret (v := (-6)) hx hb hr (fun t ht hW => ⟨⟨(-6), fsl1_4, rfl, trivial, by rw [ht]; exact hP9, hD9⟩, hS.F ht⟩) hS.2.2 dX9_firstIdle_54
  · have hlt13 : x.toInt < r2.toInt := by ((try simp only [inR, inS, i3_lt, i3_le, i3_eq, i6_lt, i6_le, Int32.toInt_toInt64, lg_cmp_lt, lg_cmp_gt, lg_cmp_ge, lg_cmp_le, Int32.reduceToInt, Int64.reduceToInt] at c5 ⊢); omega)
    refine lv_iload_n hx hb dX9_firstIdle_19 rfl (lv_at hl 1 rfl) ?_
    refine lv_aload_n hx hb dX9_firstIdle_20 rfl (lv_at hl 3 rfl) ?_
    refine va_get (D := G.1) (ci := 5) (v := .ref pad) (C := RX9) (T := TX9) (N := 5) hx hb hts (fun _ h => List.mem_cons_of_mem _ (List.mem_append_left _ (List.mem_append_right _ h))) hown E.K hP 0 rfl rfl 0 (by decide) (hts (.fieldLink RX9 10 "LastMap" "pad" "LLastMap$Pad;") (by decide +kernel)) (fun _ h9 => h9) rfl dX9_firstIdle_21 ?_
    refine lv_iload hx hb dX9_firstIdle_24 (lv_at hl 0 rfl) ?_
    refine ca_iR (va_runV (As := [.int x]) (rest := [.int y]) ⟨hx, hb, hml, hown, hts⟩ (c_slipAt l G H.size pad sg sl len fsg fsl1_4 x) (cwV 1 hts gX9_firstIdle_X2_slipAt rfl rfl rfl (by decide +kernel) ⟨by decide +kernel, by decide +kernel⟩) (pre_V E hP hD hS hA [1, 2, 3] (by decide) rfl 1 0 rfl rfl) rfl rfl hl.1 rfl (lv_room (Nat.le_of_ble_eq_true rfl)) dX9_firstIdle_26 ⟨by decide +kernel, by decide +kernel⟩) hS hP hD hA [1, 2, 3] rfl (fun r7 _ H locs w6 hP hS => ?_)
    refine ca_iR (va_runS (As := [.int y, .int r7]) (rest := []) ⟨hx, hb, hml, hown, hts⟩ (c_after l G H.size y r7) (va_cwS 2 hts gX9_firstIdle_X6_after rfl rfl rfl (by decide +kernel) ⟨by decide +kernel, by decide +kernel⟩) (pre_S E hP hD hS hA [] (by decide) rfl) rfl rfl hl.1 rfl (lv_room (Nat.le_of_ble_eq_true rfl)) dX9_firstIdle_29 ⟨by decide +kernel, by decide +kernel⟩) hS hP hD hA [] rfl (fun r9 _ H locs w8 hP hS => ?_)
    refine lv_istore (lv' := [(5, .int r9), (4, .int x), (3, .int y), (2, .int r2), (0, .ref h0), (1, .int p0)]) hx hb dX9_firstIdle_32 hl (by decide) rfl (fun ls hl => ?_)
    refine lv_iload hx hb dX9_firstIdle_34 (lv_at hl 0 rfl) ?_
    refine lv_iload_n hx hb dX9_firstIdle_36 rfl (lv_at hl 2 rfl) ?_
    refine lv_icmp_ne (tgt := 43) hx hb dX9_firstIdle_37 (by decide) (fun c10 => ?_) (fun c10 => ?_)
    · refine lv_iload hx hb dX9_firstIdle_43 (lv_at hl 0 rfl) ?_
      refine lv_istore_n (lv' := [(3, .int r9), (5, .int r9), (4, .int x), (2, .int r2), (0, .ref h0), (1, .int p0)]) hx hb dX9_firstIdle_45 rfl hl (by decide) rfl (fun ls hl => ?_)
      obtain ⟨x11, ex11⟩ : ∃ yy_ : Int32, yy_ = x + 1 := ⟨_, rfl⟩
      refine lv_iinc (v := x11) (lv' := [(4, .int x11), (3, .int r9), (5, .int r9), (2, .int r2), (0, .ref h0), (1, .int p0)]) hx hb dX9_firstIdle_46 hl (k := 2) rfl (by rw [ex11]; rfl) (by decide) rfl (fun ls hl => ?_)
      refine lv_goto (tgt := 13) hx hb dX9_firstIdle_49 (by decide) ?_
      have hinc13 := inc_lt hlt13 ex11
      refine ih13 (x11, r9) ?_ (by first | omega | (dsimp only; omega)) H locs ls (hP.sub [0, 1, 2, 3] rfl) (hD.sub [0, 1, 2, 3] (by decide) rfl) hS (lv_sub hl [0, 1, 3, 4, 5] rfl)
      try dsimp only
      omega
    · refine lv_iload hx hb dX9_firstIdle_40 (lv_at hl 1 rfl) ?_
      have hP9 := hP.sub (ws' := [(h0, .inr (5, [.ref pad, .ref pp, .ref im, vse, vtr])), (pad, .inr (0, [.ref sg, .ref sl, .int len])), (sg, .inl (gI G, 40, .inl fsg)), (sl, .inl (gI G, 10, .inl fsl1_4))]) [0, 1, 2, 3] rfl
      have hD9 := hD.sub (ws' := [(h0, .inr (5, [.ref pad, .ref pp, .ref im, vse, vtr])), (pad, .inr (0, [.ref sg, .ref sl, .int len])), (sg, .inl (gI G, 40, .inl fsg)), (sl, .inl (gI G, 10, .inl fsl1_4))]) [0, 1, 2, 3] (by decide) rfl
      exact W.iret (v := x) hx hb hr (fun t ht hW => ⟨⟨x, fsl1_4, rfl, trivial, by rw [ht]; exact hP9, hD9⟩, hS.F ht⟩) hS.2.2 dX9_firstIdle_42

set_option maxHeartbeats 1000000 in
set_option maxRecDepth 100000 in
theorem c_goalPast (l : Launch) (G : Gy) (sz : Nat) (h0 : Nat) (pad : Nat) (pp : Nat) (im : Nat) (vse : Value) (vtr : Value) (ac : Nat) (ak : Nat) (n : Int32) (told : Int32) (sp : Int32) (gr : Int32) (fc : Nat → Int32) (fk : Nat → Int32) (sg : Nat) (sl : Nat) (len : Int32) (fsg : Nat → Int32) (fsl : Nat → Int32) (p0 : Int32) (p1 : Int32)  : Ci l G yX9_goalPast wsX9_goalPast ({ frames := 2, cells := 0, slots := 0, locals := 42 }) [.ref h0, .int p0, .int p1] [(h0, .inr (5, [.ref pad, .ref pp, .ref im, vse, vtr])), (pad, .inr (0, [.ref sg, .ref sl, .int len])), (sg, .inl (gI G, 40, .inl fsg)), (sl, .inl (gI G, 10, .inl fsl)), (pp, .inr (1, [.int n, .int told, .int sp, .int gr, .ref ac, .ref ak])), (ac, .inl (gI G, 6, .inl fc)), (ak, .inl (gI G, 4, .inl fk))] sz (fun (r : Int32) (_ : Unit) => True) (fun (_ : Unit) => [(h0, .inr (5, [.ref pad, .ref pp, .ref im, vse, vtr])), (pad, .inr (0, [.ref sg, .ref sl, .int len])), (sg, .inl (gI G, 40, .inl fsg)), (sl, .inl (gI G, 10, .inl fsl)), (pp, .inr (1, [.int n, .int told, .int sp, .int gr, .ref ac, .ref ak])), (ac, .inl (gI G, 6, .inl fc)), (ak, .inl (gI G, 4, .inl fk))]) 0 0 := by
  refine Met.ofW (cc := cX9_goalPast) (maxL := 8) (ret := (some .int)) (by decide) rfl ?_
  intro p e s m args below meth c s₁ B hml hv
  obtain ⟨rfl, hsz, hP, hD0, E0⟩ := hv
  have hx := B.exec
  have hb := B.bytes
  have hr := B.returns
  have hts := atoms_spec (ws := wsX9_goalPast) B.pre
  have hown : s.vm.findClass RX9 = some m.cls := findClass_of_methodNamed B.named
  have hlocks := B.notSynchronized
  subst hsz
  have hD := hD0.self (sz := s.heap.size)
  generalize hAe : va_A [(h0, .inr (5, [.ref pad, .ref pp, .ref im, vse, vtr])), (pad, .inr (0, [.ref sg, .ref sl, .int len])), (sg, .inl (gI G, 40, .inl fsg)), (sl, .inl (gI G, 10, .inl fsl)), (pp, .inr (1, [.int n, .int told, .int sp, .int gr, .ref ac, .ref ak])), (ac, .inl (gI G, 6, .inl fc)), (ak, .inl (gI G, 4, .inl fk))] s.heap.size = A at hD E0 ⊢
  have E : EV G A s s.heap := E0
  have hA : ∀ q : Nat, s.heap.size ≤ q → A q := fun q h => by rw [← hAe]; exact Or.inr h
  have hS : va_S A s.heap s.heap [] := va_S.rf
  have hl := lv_entry ([.ref h0, .int p0, .int p1]) (n := 8) (Nat.le_of_ble_eq_true rfl)
  rw [lg_entry_eq]
  generalize (lg_sl ([.ref h0, .int p0, .int p1]) ++ List.replicate (8 - (lg_sl ([.ref h0, .int p0, .int p1])).length) Slot.unset).toArray = ls at hl ⊢
  have hl : lv_has ls 8 [(0, .ref h0), (1, .int p0), (2, .int p1)] := hl
  have hP : va_P G.1 vwCl [(h0, .inr (5, [.ref pad, .ref pp, .ref im, vse, vtr])), (pad, .inr (0, [.ref sg, .ref sl, .int len])), (sg, .inl (gI G, 40, .inl fsg)), (sl, .inl (gI G, 10, .inl fsl)), (pp, .inr (1, [.int n, .int told, .int sp, .int gr, .ref ac, .ref ak])), (ac, .inl (gI G, 6, .inl fc)), (ak, .inl (gI G, 4, .inl fk))] s.heap := hP
  refine lv_iconst (v := 0) hx hb dX9_goalPast_0 (by decide) ?_
  refine lv_istore_n (lv' := [(3, .int 0), (0, .ref h0), (1, .int p0), (2, .int p1)]) hx hb dX9_goalPast_1 rfl hl (by decide) rfl (fun ls hl => ?_)
  refine lv_iconst (v := 0) hx hb dX9_goalPast_2 (by decide) ?_
  refine lv_istore (lv' := [(4, .int 0), (3, .int 0), (0, .ref h0), (1, .int p0), (2, .int p1)]) hx hb dX9_goalPast_3 hl (by decide) rfl (fun ls hl => ?_)
  refine lp_run (x0 := (0, 0)) (fun xx_ : Int32 × Int32 => match xx_ with | (x, y) => [(h0, .inr (5, [.ref pad, .ref pp, .ref im, vse, vtr])), (pad, .inr (0, [.ref sg, .ref sl, .int len])), (sg, .inl (gI G, 40, .inl fsg)), (sl, .inl (gI G, 10, .inl fsl)), (pp, .inr (1, [.int n, .int told, .int sp, .int gr, .ref ac, .ref ak])), (ac, .inl (gI G, 6, .inl fc)), (ak, .inl (gI G, 4, .inl fk))]) (fun xx_ : Int32 × Int32 => match xx_ with | (x, y) => [(4, .int x), (3, .int y), (0, .ref h0), (1, .int p0), (2, .int p1)]) (fun xx_ : Int32 × Int32 => match xx_ with | (x, y) => (0 ≤ x.toInt)) (fun xx_ : Int32 × Int32 => match xx_ with | (x, y) => (n.toInt - x.toInt).toNat) (hP.sub [0, 1, 2, 3, 4, 5, 6] rfl) (hD.sub [0, 1, 2, 3, 4, 5, 6] (by decide) rfl) hS (lv_sub hl [0, 1, 2, 3, 4] rfl) (show (0 : Int) ≤ (0 : Int32).toInt by first | decide | omega | assumption) ?_
  intro xx_ hI ih5 H locs ls hP hD hS hl
  obtain ⟨x, y⟩ := xx_
  dsimp only at hI ih5 hP hD hl
  have hx0 := hI
  have hl : lv_has ls 8 [(4, .int x), (3, .int y), (0, .ref h0), (1, .int p0), (2, .int p1)] := hl
  have hP : va_P G.1 vwCl [(h0, .inr (5, [.ref pad, .ref pp, .ref im, vse, vtr])), (pad, .inr (0, [.ref sg, .ref sl, .int len])), (sg, .inl (gI G, 40, .inl fsg)), (sl, .inl (gI G, 10, .inl fsl)), (pp, .inr (1, [.int n, .int told, .int sp, .int gr, .ref ac, .ref ak])), (ac, .inl (gI G, 6, .inl fc)), (ak, .inl (gI G, 4, .inl fk))] H := hP
  have hD : va_D A [(h0, .inr (5, [.ref pad, .ref pp, .ref im, vse, vtr])), (pad, .inr (0, [.ref sg, .ref sl, .int len])), (sg, .inl (gI G, 40, .inl fsg)), (sl, .inl (gI G, 10, .inl fsl)), (pp, .inr (1, [.int n, .int told, .int sp, .int gr, .ref ac, .ref ak])), (ac, .inl (gI G, 6, .inl fc)), (ak, .inl (gI G, 4, .inl fk))] := hD
  refine lv_iload hx hb dX9_goalPast_5 (lv_at hl 0 rfl) ?_
  refine lv_aload_n hx hb dX9_goalPast_7 rfl (lv_at hl 2 rfl) ?_
  refine va_get (D := G.1) (ci := 5) (v := .ref pp) (C := RX9) (T := TX9) (N := 5) hx hb hts (fun _ h => List.mem_cons_of_mem _ (List.mem_append_left _ (List.mem_append_left _ (List.mem_append_right _ h)))) hown E.K hP 0 rfl rfl 1 (by decide) (hts (.fieldLink RX9 19 "LastMap" "papers" "LLastMap$Papers;") (by decide +kernel)) (fun _ h9 => h9) rfl dX9_goalPast_8 ?_
  refine va_get (D := G.1) (ci := 1) (v := .int n) (C := RX3) (T := TX3) (N := 6) hx hb hts (fun _ h => List.mem_cons_of_mem _ (List.mem_append_left _ (List.mem_append_right _ h))) hown E.K hP 4 rfl rfl 0 (by decide) (hts (.fieldLink RX9 27 "LastMap$Papers" "siteCount" "I") (by decide +kernel)) (fun _ h9 => h9) rfl dX9_goalPast_11 ?_
  refine lv_icmp_ge (tgt := 98) hx hb dX9_goalPast_14 (by decide) (fun c1 => ?_) (fun c1 => ?_)
  · refine lv_iload_n hx hb dX9_goalPast_98 rfl (lv_at hl 1 rfl) ?_
    have hP9 := hP.sub (ws' := [(h0, .inr (5, [.ref pad, .ref pp, .ref im, vse, vtr])), (pad, .inr (0, [.ref sg, .ref sl, .int len])), (sg, .inl (gI G, 40, .inl fsg)), (sl, .inl (gI G, 10, .inl fsl)), (pp, .inr (1, [.int n, .int told, .int sp, .int gr, .ref ac, .ref ak])), (ac, .inl (gI G, 6, .inl fc)), (ak, .inl (gI G, 4, .inl fk))]) [0, 1, 2, 3, 4, 5, 6] rfl
    have hD9 := hD.sub (ws' := [(h0, .inr (5, [.ref pad, .ref pp, .ref im, vse, vtr])), (pad, .inr (0, [.ref sg, .ref sl, .int len])), (sg, .inl (gI G, 40, .inl fsg)), (sl, .inl (gI G, 10, .inl fsl)), (pp, .inr (1, [.int n, .int told, .int sp, .int gr, .ref ac, .ref ak])), (ac, .inl (gI G, 6, .inl fc)), (ak, .inl (gI G, 4, .inl fk))]) [0, 1, 2, 3, 4, 5, 6] (by decide) rfl
    exact W.iret (v := y) hx hb hr (fun t ht hW => ⟨⟨y, (), rfl, trivial, by rw [ht]; exact hP9, hD9⟩, hS.F ht⟩) hS.2.2 dX9_goalPast_99
  · have hlt5 : x.toInt < n.toInt := by ((try simp only [inR, inS, i3_lt, i3_le, i3_eq, i6_lt, i6_le, Int32.toInt_toInt64, lg_cmp_lt, lg_cmp_gt, lg_cmp_ge, lg_cmp_le, Int32.reduceToInt, Int64.reduceToInt] at c1 ⊢); omega)
    refine lv_aload_n hx hb dX9_goalPast_17 rfl (lv_at hl 2 rfl) ?_
    refine va_get (D := G.1) (ci := 5) (v := .ref pad) (C := RX9) (T := TX9) (N := 5) hx hb hts (fun _ h => List.mem_cons_of_mem _ (List.mem_append_left _ (List.mem_append_left _ (List.mem_append_right _ h)))) hown E.K hP 0 rfl rfl 0 (by decide) (hts (.fieldLink RX9 10 "LastMap" "pad" "LLastMap$Pad;") (by decide +kernel)) (fun _ h9 => h9) rfl dX9_goalPast_18 ?_
    refine lv_iload hx hb dX9_goalPast_21 (lv_at hl 0 rfl) ?_
    refine ca_iR (va_runV (As := [.int x]) (rest := []) ⟨hx, hb, hml, hown, hts⟩ (c_padMark l G H.size pad sg sl len fsg fsl x) (cwV 1 hts gX9_goalPast_X2_markAt rfl rfl rfl (by decide +kernel) ⟨by decide +kernel, by decide +kernel⟩) (pre_V E hP hD hS hA [1, 2, 3] (by decide) rfl 1 0 rfl rfl) rfl rfl hl.1 rfl (lv_room (Nat.le_of_ble_eq_true rfl)) dX9_goalPast_23 ⟨by decide +kernel, by decide +kernel⟩) hS hP hD hA [1, 2, 3] rfl (fun r3 _ H locs w2 hP hS => ?_)
    refine lv_istore (lv' := [(5, .int r3), (4, .int x), (3, .int y), (0, .ref h0), (1, .int p0), (2, .int p1)]) hx hb dX9_goalPast_26 hl (by decide) rfl (fun ls hl => ?_)
    refine lv_iload_n hx hb dX9_goalPast_28 rfl (lv_at hl 5 rfl) ?_
    refine lv_iload hx hb dX9_goalPast_29 (lv_at hl 1 rfl) ?_
    refine ca_iR (va_runS (As := [.int p1, .int x]) (rest := []) ⟨hx, hb, hml, hown, hts⟩ (c_signAt l G H.size p1 x) (va_cwS 2 hts gX9_goalPast_X1_signAt rfl rfl rfl (by decide +kernel) ⟨by decide +kernel, by decide +kernel⟩) (pre_S E hP hD hS hA [] (by decide) rfl) rfl rfl hl.1 rfl (lv_room (Nat.le_of_ble_eq_true rfl)) dX9_goalPast_31 ⟨by decide +kernel, by decide +kernel⟩) hS hP hD hA [] rfl (fun r5 _ H locs w4 hP hS => ?_)
    refine lv_istore (lv' := [(6, .int r5), (5, .int r3), (4, .int x), (3, .int y), (0, .ref h0), (1, .int p0), (2, .int p1)]) hx hb dX9_goalPast_34 hl (by decide) rfl (fun ls hl => ?_)
    refine lv_iload_n hx hb dX9_goalPast_36 rfl (lv_at hl 5 rfl) ?_
    refine lv_iload hx hb dX9_goalPast_37 (lv_at hl 2 rfl) ?_
    refine lv_ishr hx hb dX9_goalPast_39 ?_
    refine lv_topi (fun x6 ex6 => ?_)
    refine lv_iconst (v := 1) hx hb dX9_goalPast_40 (by decide) ?_
    refine lv_iand hx hb dX9_goalPast_41 ?_
    refine lv_topi (fun x7 ex7 => ?_)
    refine lv_if_eq (tgt := 49) hx hb dX9_goalPast_42 (by decide) (fun c8 => ?_) (fun c8 => ?_)
    · refine lv_iconst (v := 0) hx hb dX9_goalPast_49 (by decide) ?_
      refine lv_istore (lv' := [(7, .int 0), (6, .int r5), (5, .int r3), (4, .int x), (3, .int y), (0, .ref h0), (1, .int p0), (2, .int p1)]) hx hb dX9_goalPast_50 hl (by decide) rfl (fun ls hl => ?_)
      refine lv_iload hx hb dX9_goalPast_52 (lv_at hl 0 rfl) ?_
      refine lv_if_eq (tgt := 73) hx hb dX9_goalPast_54 (by decide) (fun _ => ?_) (fun c9 => False.elim (by revert c9; decide))
      refine lv_iload_n hx hb dX9_goalPast_73 rfl (lv_at hl 4 rfl) ?_
      refine lv_iload hx hb dX9_goalPast_74 (lv_at hl 3 rfl) ?_
      refine lv_iload hx hb dX9_goalPast_76 (lv_at hl 0 rfl) ?_
      refine lv_if_eq (tgt := 86) hx hb dX9_goalPast_78 (by decide) (fun _ => ?_) (fun c10 => False.elim (by revert c10; decide))
      refine lv_iload hx hb dX9_goalPast_86 (lv_at hl 2 rfl) ?_
      refine ca_iR (va_runS (As := [.int y, .int x, .int r3]) (rest := []) ⟨hx, hb, hml, hown, hts⟩ (c_goalWith l G H.size y x r3) (va_cwS 3 hts gX9_goalPast_X0_with rfl rfl rfl (by decide +kernel) ⟨by decide +kernel, by decide +kernel⟩) (pre_S E hP hD hS hA [] (by decide) rfl) rfl rfl hl.1 rfl (lv_room (Nat.le_of_ble_eq_true rfl)) dX9_goalPast_88 ⟨by decide +kernel, by decide +kernel⟩) hS hP hD hA [] rfl (fun r12 _ H locs w11 hP hS => ?_)
      refine lv_istore_n (lv' := [(3, .int r12), (7, .int 0), (6, .int r5), (5, .int r3), (4, .int x), (0, .ref h0), (1, .int p0), (2, .int p1)]) hx hb dX9_goalPast_91 rfl hl (by decide) rfl (fun ls hl => ?_)
      obtain ⟨x13, ex13⟩ : ∃ yy_ : Int32, yy_ = x + 1 := ⟨_, rfl⟩
      refine lv_iinc (v := x13) (lv' := [(4, .int x13), (3, .int r12), (7, .int 0), (6, .int r5), (5, .int r3), (0, .ref h0), (1, .int p0), (2, .int p1)]) hx hb dX9_goalPast_92 hl (k := 4) rfl (by rw [ex13]; rfl) (by decide) rfl (fun ls hl => ?_)
      refine lv_goto (tgt := 5) hx hb dX9_goalPast_95 (by decide) ?_
      have hinc5 := inc_lt hlt5 ex13
      refine ih5 (x13, r12) ?_ (by first | omega | (dsimp only; omega)) H locs ls (hP.sub [0, 1, 2, 3, 4, 5, 6] rfl) (hD.sub [0, 1, 2, 3, 4, 5, 6] (by decide) rfl) hS (lv_sub hl [0, 1, 5, 6, 7] rfl)
      try dsimp only
      omega
    · refine lv_iconst (v := 1) hx hb dX9_goalPast_45 (by decide) ?_
      refine lv_goto (tgt := 50) hx hb dX9_goalPast_46 (by decide) ?_
      refine lv_istore (lv' := [(7, .int 1), (6, .int r5), (5, .int r3), (4, .int x), (3, .int y), (0, .ref h0), (1, .int p0), (2, .int p1)]) hx hb dX9_goalPast_50 hl (by decide) rfl (fun ls hl => ?_)
      refine lv_iload hx hb dX9_goalPast_52 (lv_at hl 0 rfl) ?_
      refine lv_if_eq (tgt := 73) hx hb dX9_goalPast_54 (by decide) (fun c14 => False.elim (by revert c14; decide)) (fun _ => ?_)
      refine lv_iload hx hb dX9_goalPast_57 (lv_at hl 2 rfl) ?_
      refine lv_iconst (v := 5) hx hb dX9_goalPast_59 (by decide) ?_
      refine lv_icmp_eq (tgt := 73) hx hb dX9_goalPast_60 (by decide) (fun c15 => ?_) (fun c15 => ?_)
      · refine lv_iload_n hx hb dX9_goalPast_73 rfl (lv_at hl 4 rfl) ?_
        refine lv_iload hx hb dX9_goalPast_74 (lv_at hl 3 rfl) ?_
        refine lv_iload hx hb dX9_goalPast_76 (lv_at hl 0 rfl) ?_
        refine lv_if_eq (tgt := 86) hx hb dX9_goalPast_78 (by decide) (fun c16 => False.elim (by revert c16; decide)) (fun _ => ?_)
        refine lv_iload hx hb dX9_goalPast_81 (lv_at hl 1 rfl) ?_
        refine lv_goto (tgt := 88) hx hb dX9_goalPast_83 (by decide) ?_
        refine ca_iR (va_runS (As := [.int y, .int x, .int r5]) (rest := []) ⟨hx, hb, hml, hown, hts⟩ (c_goalWith l G H.size y x r5) (va_cwS 3 hts gX9_goalPast_X0_with rfl rfl rfl (by decide +kernel) ⟨by decide +kernel, by decide +kernel⟩) (pre_S E hP hD hS hA [] (by decide) rfl) rfl rfl hl.1 rfl (lv_room (Nat.le_of_ble_eq_true rfl)) dX9_goalPast_88 ⟨by decide +kernel, by decide +kernel⟩) hS hP hD hA [] rfl (fun r18 _ H locs w17 hP hS => ?_)
        refine lv_istore_n (lv' := [(3, .int r18), (7, .int 1), (6, .int r5), (5, .int r3), (4, .int x), (0, .ref h0), (1, .int p0), (2, .int p1)]) hx hb dX9_goalPast_91 rfl hl (by decide) rfl (fun ls hl => ?_)
        obtain ⟨x19, ex19⟩ : ∃ yy_ : Int32, yy_ = x + 1 := ⟨_, rfl⟩
        refine lv_iinc (v := x19) (lv' := [(4, .int x19), (3, .int r18), (7, .int 1), (6, .int r5), (5, .int r3), (0, .ref h0), (1, .int p0), (2, .int p1)]) hx hb dX9_goalPast_92 hl (k := 4) rfl (by rw [ex19]; rfl) (by decide) rfl (fun ls hl => ?_)
        refine lv_goto (tgt := 5) hx hb dX9_goalPast_95 (by decide) ?_
        have hinc5 := inc_lt hlt5 ex19
        refine ih5 (x19, r18) ?_ (by first | omega | (dsimp only; omega)) H locs ls (hP.sub [0, 1, 2, 3, 4, 5, 6] rfl) (hD.sub [0, 1, 2, 3, 4, 5, 6] (by decide) rfl) hS (lv_sub hl [0, 1, 5, 6, 7] rfl)
        try dsimp only
        omega
      · refine lv_iload hx hb dX9_goalPast_63 (lv_at hl 2 rfl) ?_
        refine lv_iload hx hb dX9_goalPast_65 (lv_at hl 1 rfl) ?_
        refine lv_icmp_eq (tgt := 73) hx hb dX9_goalPast_67 (by decide) (fun c20 => ?_) (fun c20 => ?_)
        · refine lv_iload_n hx hb dX9_goalPast_73 rfl (lv_at hl 4 rfl) ?_
          refine lv_iload hx hb dX9_goalPast_74 (lv_at hl 3 rfl) ?_
          refine lv_iload hx hb dX9_goalPast_76 (lv_at hl 0 rfl) ?_
          refine lv_if_eq (tgt := 86) hx hb dX9_goalPast_78 (by decide) (fun c21 => False.elim (by revert c21; decide)) (fun _ => ?_)
          refine lv_iload hx hb dX9_goalPast_81 (lv_at hl 1 rfl) ?_
          refine lv_goto (tgt := 88) hx hb dX9_goalPast_83 (by decide) ?_
          refine ca_iR (va_runS (As := [.int y, .int x, .int r5]) (rest := []) ⟨hx, hb, hml, hown, hts⟩ (c_goalWith l G H.size y x r5) (va_cwS 3 hts gX9_goalPast_X0_with rfl rfl rfl (by decide +kernel) ⟨by decide +kernel, by decide +kernel⟩) (pre_S E hP hD hS hA [] (by decide) rfl) rfl rfl hl.1 rfl (lv_room (Nat.le_of_ble_eq_true rfl)) dX9_goalPast_88 ⟨by decide +kernel, by decide +kernel⟩) hS hP hD hA [] rfl (fun r23 _ H locs w22 hP hS => ?_)
          refine lv_istore_n (lv' := [(3, .int r23), (7, .int 1), (6, .int r5), (5, .int r3), (4, .int x), (0, .ref h0), (1, .int p0), (2, .int p1)]) hx hb dX9_goalPast_91 rfl hl (by decide) rfl (fun ls hl => ?_)
          obtain ⟨x24, ex24⟩ : ∃ yy_ : Int32, yy_ = x + 1 := ⟨_, rfl⟩
          refine lv_iinc (v := x24) (lv' := [(4, .int x24), (3, .int r23), (7, .int 1), (6, .int r5), (5, .int r3), (0, .ref h0), (1, .int p0), (2, .int p1)]) hx hb dX9_goalPast_92 hl (k := 4) rfl (by rw [ex24]; rfl) (by decide) rfl (fun ls hl => ?_)
          refine lv_goto (tgt := 5) hx hb dX9_goalPast_95 (by decide) ?_
          have hinc5 := inc_lt hlt5 ex24
          refine ih5 (x24, r23) ?_ (by first | omega | (dsimp only; omega)) H locs ls (hP.sub [0, 1, 2, 3, 4, 5, 6] rfl) (hD.sub [0, 1, 2, 3, 4, 5, 6] (by decide) rfl) hS (lv_sub hl [0, 1, 5, 6, 7] rfl)
          try dsimp only
          omega
        · refine lv_bipush (v := (-6)) hx hb dX9_goalPast_70 (by decide) ?_
          have hP9 := hP.sub (ws' := [(h0, .inr (5, [.ref pad, .ref pp, .ref im, vse, vtr])), (pad, .inr (0, [.ref sg, .ref sl, .int len])), (sg, .inl (gI G, 40, .inl fsg)), (sl, .inl (gI G, 10, .inl fsl)), (pp, .inr (1, [.int n, .int told, .int sp, .int gr, .ref ac, .ref ak])), (ac, .inl (gI G, 6, .inl fc)), (ak, .inl (gI G, 4, .inl fk))]) [0, 1, 2, 3, 4, 5, 6] rfl
          have hD9 := hD.sub (ws' := [(h0, .inr (5, [.ref pad, .ref pp, .ref im, vse, vtr])), (pad, .inr (0, [.ref sg, .ref sl, .int len])), (sg, .inl (gI G, 40, .inl fsg)), (sl, .inl (gI G, 10, .inl fsl)), (pp, .inr (1, [.int n, .int told, .int sp, .int gr, .ref ac, .ref ak])), (ac, .inl (gI G, 6, .inl fc)), (ak, .inl (gI G, 4, .inl fk))]) [0, 1, 2, 3, 4, 5, 6] (by decide) rfl
          exact W.iret (v := (-6)) hx hb hr (fun t ht hW => ⟨⟨(-6), (), rfl, trivial, by rw [ht]; exact hP9, hD9⟩, hS.F ht⟩) hS.2.2 dX9_goalPast_72

set_option maxHeartbeats 1000000 in
set_option maxRecDepth 100000 in
theorem c_howMany (l : Launch) (G : Gy) (sz : Nat) (h0 : Nat) (pad : Nat) (pp : Nat) (im : Nat) (vse : Value) (vtr : Value) (ac : Nat) (ak : Nat) (n : Int32) (told : Int32) (sp : Int32) (gr : Int32) (fc : Nat → Int32) (fk : Nat → Int32) (p0 : Int32) (p1 : Int32) (p2 : Int32)  : Ci l G yX9_howMany wsX9_howMany ({ frames := 2, cells := 0, slots := 0, locals := 42 }) [.ref h0, .int p0, .int p1, .int p2] [(h0, .inr (5, [.ref pad, .ref pp, .ref im, vse, vtr])), (pp, .inr (1, [.int n, .int told, .int sp, .int gr, .ref ac, .ref ak])), (ac, .inl (gI G, 6, .inl fc)), (ak, .inl (gI G, 4, .inl fk))] sz (fun (r : Int32) (_ : Unit) => True) (fun (_ : Unit) => [(h0, .inr (5, [.ref pad, .ref pp, .ref im, vse, vtr])), (pp, .inr (1, [.int n, .int told, .int sp, .int gr, .ref ac, .ref ak])), (ac, .inl (gI G, 6, .inl fc)), (ak, .inl (gI G, 4, .inl fk))]) 0 0 := by
  refine Met.ofW (cc := cX9_howMany) (maxL := 6) (ret := (some .int)) (by decide) rfl ?_
  intro p e s m args below meth c s₁ B hml hv
  obtain ⟨rfl, hsz, hP, hD0, E0⟩ := hv
  have hx := B.exec
  have hb := B.bytes
  have hr := B.returns
  have hts := atoms_spec (ws := wsX9_howMany) B.pre
  have hown : s.vm.findClass RX9 = some m.cls := findClass_of_methodNamed B.named
  have hlocks := B.notSynchronized
  subst hsz
  have hD := hD0.self (sz := s.heap.size)
  generalize hAe : va_A [(h0, .inr (5, [.ref pad, .ref pp, .ref im, vse, vtr])), (pp, .inr (1, [.int n, .int told, .int sp, .int gr, .ref ac, .ref ak])), (ac, .inl (gI G, 6, .inl fc)), (ak, .inl (gI G, 4, .inl fk))] s.heap.size = A at hD E0 ⊢
  have E : EV G A s s.heap := E0
  have hA : ∀ q : Nat, s.heap.size ≤ q → A q := fun q h => by rw [← hAe]; exact Or.inr h
  have hS : va_S A s.heap s.heap [] := va_S.rf
  have hl := lv_entry ([.ref h0, .int p0, .int p1, .int p2]) (n := 6) (Nat.le_of_ble_eq_true rfl)
  rw [lg_entry_eq]
  generalize (lg_sl ([.ref h0, .int p0, .int p1, .int p2]) ++ List.replicate (6 - (lg_sl ([.ref h0, .int p0, .int p1, .int p2])).length) Slot.unset).toArray = ls at hl ⊢
  have hl : lv_has ls 6 [(0, .ref h0), (1, .int p0), (2, .int p1), (3, .int p2)] := hl
  have hP : va_P G.1 vwCl [(h0, .inr (5, [.ref pad, .ref pp, .ref im, vse, vtr])), (pp, .inr (1, [.int n, .int told, .int sp, .int gr, .ref ac, .ref ak])), (ac, .inl (gI G, 6, .inl fc)), (ak, .inl (gI G, 4, .inl fk))] s.heap := hP
  refine lv_iconst (v := 0) hx hb dX9_howMany_0 (by decide) ?_
  refine lv_istore (lv' := [(4, .int 0), (0, .ref h0), (1, .int p0), (2, .int p1), (3, .int p2)]) hx hb dX9_howMany_1 hl (by decide) rfl (fun ls hl => ?_)
  refine lv_iconst (v := 0) hx hb dX9_howMany_3 (by decide) ?_
  refine lv_istore (lv' := [(5, .int 0), (4, .int 0), (0, .ref h0), (1, .int p0), (2, .int p1), (3, .int p2)]) hx hb dX9_howMany_4 hl (by decide) rfl (fun ls hl => ?_)
  refine lp_run (x0 := (0, 0)) (fun xx_ : Int32 × Int32 => match xx_ with | (x, y) => [(h0, .inr (5, [.ref pad, .ref pp, .ref im, vse, vtr])), (pp, .inr (1, [.int n, .int told, .int sp, .int gr, .ref ac, .ref ak])), (ac, .inl (gI G, 6, .inl fc)), (ak, .inl (gI G, 4, .inl fk))]) (fun xx_ : Int32 × Int32 => match xx_ with | (x, y) => [(5, .int x), (4, .int y), (0, .ref h0), (1, .int p0), (2, .int p1), (3, .int p2)]) (fun xx_ : Int32 × Int32 => match xx_ with | (x, y) => (0 ≤ x.toInt)) (fun xx_ : Int32 × Int32 => match xx_ with | (x, y) => ((6 : Int32).toInt - x.toInt).toNat) (hP.sub [0, 1, 2, 3] rfl) (hD.sub [0, 1, 2, 3] (by decide) rfl) hS (lv_sub hl [0, 1, 2, 3, 4, 5] rfl) (show (0 : Int) ≤ (0 : Int32).toInt by first | decide | omega | assumption) ?_
  intro xx_ hI ih6 H locs ls hP hD hS hl
  obtain ⟨x, y⟩ := xx_
  dsimp only at hI ih6 hP hD hl
  have hx0 := hI
  have hl : lv_has ls 6 [(5, .int x), (4, .int y), (0, .ref h0), (1, .int p0), (2, .int p1), (3, .int p2)] := hl
  have hP : va_P G.1 vwCl [(h0, .inr (5, [.ref pad, .ref pp, .ref im, vse, vtr])), (pp, .inr (1, [.int n, .int told, .int sp, .int gr, .ref ac, .ref ak])), (ac, .inl (gI G, 6, .inl fc)), (ak, .inl (gI G, 4, .inl fk))] H := hP
  have hD : va_D A [(h0, .inr (5, [.ref pad, .ref pp, .ref im, vse, vtr])), (pp, .inr (1, [.int n, .int told, .int sp, .int gr, .ref ac, .ref ak])), (ac, .inl (gI G, 6, .inl fc)), (ak, .inl (gI G, 4, .inl fk))] := hD
  refine lv_iload hx hb dX9_howMany_6 (lv_at hl 0 rfl) ?_
  refine lv_bipush (v := 6) hx hb dX9_howMany_8 (by decide) ?_
  refine lv_icmp_ge (tgt := 48) hx hb dX9_howMany_10 (by decide) (fun c1 => ?_) (fun c1 => ?_)
  · refine lv_iload hx hb dX9_howMany_48 (lv_at hl 1 rfl) ?_
    have hP9 := hP.sub (ws' := [(h0, .inr (5, [.ref pad, .ref pp, .ref im, vse, vtr])), (pp, .inr (1, [.int n, .int told, .int sp, .int gr, .ref ac, .ref ak])), (ac, .inl (gI G, 6, .inl fc)), (ak, .inl (gI G, 4, .inl fk))]) [0, 1, 2, 3] rfl
    have hD9 := hD.sub (ws' := [(h0, .inr (5, [.ref pad, .ref pp, .ref im, vse, vtr])), (pp, .inr (1, [.int n, .int told, .int sp, .int gr, .ref ac, .ref ak])), (ac, .inl (gI G, 6, .inl fc)), (ak, .inl (gI G, 4, .inl fk))]) [0, 1, 2, 3] (by decide) rfl
    exact W.iret (v := y) hx hb hr (fun t ht hW => ⟨⟨y, (), rfl, trivial, by rw [ht]; exact hP9, hD9⟩, hS.F ht⟩) hS.2.2 dX9_howMany_50
  · have hlt6 : x.toInt < (6 : Int32).toInt := by ((try simp only [inR, inS, i3_lt, i3_le, i3_eq, i6_lt, i6_le, Int32.toInt_toInt64, lg_cmp_lt, lg_cmp_gt, lg_cmp_ge, lg_cmp_le, Int32.reduceToInt, Int64.reduceToInt] at c1 ⊢); omega)
    refine lv_iload_n hx hb dX9_howMany_13 rfl (lv_at hl 3 rfl) ?_
    refine lv_iload hx hb dX9_howMany_14 (lv_at hl 0 rfl) ?_
    refine ca_iR (va_runS (As := [.int p0, .int x]) (rest := []) ⟨hx, hb, hml, hown, hts⟩ (c_isOf l G H.size p0 x) (va_cwS 2 hts gX9_howMany_X9_isOf rfl rfl rfl (by decide +kernel) ⟨by decide +kernel, by decide +kernel⟩) (pre_S E hP hD hS hA [] (by decide) rfl) rfl rfl hl.1 rfl (lv_room (Nat.le_of_ble_eq_true rfl)) dX9_howMany_16 ⟨by decide +kernel, by decide +kernel⟩) hS hP hD hA [] rfl (fun r3 _ H locs w2 hP hS => ?_)
    rcases w2 with ⟨rfl, b4⟩ | ⟨rfl, b4⟩
    · refine lv_if_eq (tgt := 42) hx hb dX9_howMany_19 (by decide) (fun c5 => False.elim (by revert c5; decide)) (fun _ => ?_)
      refine lv_aload_n hx hb dX9_howMany_22 rfl (lv_at hl 2 rfl) ?_
      refine va_get (D := G.1) (ci := 5) (v := .ref pp) (C := RX9) (T := TX9) (N := 5) hx hb hts (fun _ h => List.mem_cons_of_mem _ (List.mem_append_left _ (List.mem_append_right _ h))) hown E.K hP 0 rfl rfl 1 (by decide) (hts (.fieldLink RX9 19 "LastMap" "papers" "LLastMap$Papers;") (by decide +kernel)) (fun _ h9 => h9) rfl dX9_howMany_23 ?_
      refine lv_iload hx hb dX9_howMany_26 (lv_at hl 0 rfl) ?_
      refine ca_iR (va_runV (As := [.int x]) (rest := []) ⟨hx, hb, hml, hown, hts⟩ (c_codeOf l G H.size pp ac ak n told sp gr fc fk x) (cwV 1 hts gX9_howMany_X3_codeOf rfl rfl rfl (by decide +kernel) ⟨by decide +kernel, by decide +kernel⟩) (pre_V E hP hD hS hA [1, 2, 3] (by decide) rfl 1 1 rfl rfl) rfl rfl hl.1 rfl (lv_room (Nat.le_of_ble_eq_true rfl)) dX9_howMany_28 ⟨by decide +kernel, by decide +kernel⟩) hS hP hD hA [1, 2, 3] rfl (fun r7 _ H locs w6 hP hS => ?_)
      refine lv_iload_n hx hb dX9_howMany_31 rfl (lv_at hl 4 rfl) ?_
      refine ca_iR (va_runS (As := [.int r7, .int p1]) (rest := []) ⟨hx, hb, hml, hown, hts⟩ (c_signAt l G H.size r7 p1) (va_cwS 2 hts gX9_howMany_X1_signAt rfl rfl rfl (by decide +kernel) ⟨by decide +kernel, by decide +kernel⟩) (pre_S E hP hD hS hA [] (by decide) rfl) rfl rfl hl.1 rfl (lv_room (Nat.le_of_ble_eq_true rfl)) dX9_howMany_32 ⟨by decide +kernel, by decide +kernel⟩) hS hP hD hA [] rfl (fun r9 _ H locs w8 hP hS => ?_)
      refine lv_iload_n hx hb dX9_howMany_35 rfl (lv_at hl 5 rfl) ?_
      refine lv_icmp_ne (tgt := 42) hx hb dX9_howMany_36 (by decide) (fun c10 => ?_) (fun c10 => ?_)
      · obtain ⟨x11, ex11⟩ : ∃ yy_ : Int32, yy_ = x + 1 := ⟨_, rfl⟩
        refine lv_iinc (v := x11) (lv' := [(5, .int x11), (4, .int y), (0, .ref h0), (1, .int p0), (2, .int p1), (3, .int p2)]) hx hb dX9_howMany_42 hl (k := 0) rfl (by rw [ex11]; rfl) (by decide) rfl (fun ls hl => ?_)
        refine lv_goto (tgt := 6) hx hb dX9_howMany_45 (by decide) ?_
        have hinc6 := inc_lt hlt6 ex11
        refine ih6 (x11, y) ?_ (by first | omega | (dsimp only; omega)) H locs ls (hP.sub [0, 1, 2, 3] rfl) (hD.sub [0, 1, 2, 3] (by decide) rfl) hS (lv_sub hl [0, 1, 2, 3, 4, 5] rfl)
        try dsimp only
        omega
      · obtain ⟨x12, ex12⟩ : ∃ yy_ : Int32, yy_ = y + 1 := ⟨_, rfl⟩
        refine lv_iinc (v := x12) (lv' := [(4, .int x12), (5, .int x), (0, .ref h0), (1, .int p0), (2, .int p1), (3, .int p2)]) hx hb dX9_howMany_39 hl (k := 1) rfl (by rw [ex12]; rfl) (by decide) rfl (fun ls hl => ?_)
        obtain ⟨x13, ex13⟩ : ∃ yy_ : Int32, yy_ = x + 1 := ⟨_, rfl⟩
        refine lv_iinc (v := x13) (lv' := [(5, .int x13), (4, .int x12), (0, .ref h0), (1, .int p0), (2, .int p1), (3, .int p2)]) hx hb dX9_howMany_42 hl (k := 1) rfl (by rw [ex13]; rfl) (by decide) rfl (fun ls hl => ?_)
        refine lv_goto (tgt := 6) hx hb dX9_howMany_45 (by decide) ?_
        have hinc6 := inc_lt hlt6 ex13
        refine ih6 (x13, x12) ?_ (by first | omega | (dsimp only; omega)) H locs ls (hP.sub [0, 1, 2, 3] rfl) (hD.sub [0, 1, 2, 3] (by decide) rfl) hS (lv_sub hl [0, 1, 2, 3, 4, 5] rfl)
        try dsimp only
        omega
    · refine lv_if_eq (tgt := 42) hx hb dX9_howMany_19 (by decide) (fun _ => ?_) (fun c14 => False.elim (by revert c14; decide))
      obtain ⟨x15, ex15⟩ : ∃ yy_ : Int32, yy_ = x + 1 := ⟨_, rfl⟩
      refine lv_iinc (v := x15) (lv' := [(5, .int x15), (4, .int y), (0, .ref h0), (1, .int p0), (2, .int p1), (3, .int p2)]) hx hb dX9_howMany_42 hl (k := 0) rfl (by rw [ex15]; rfl) (by decide) rfl (fun ls hl => ?_)
      refine lv_goto (tgt := 6) hx hb dX9_howMany_45 (by decide) ?_
      have hinc6 := inc_lt hlt6 ex15
      refine ih6 (x15, y) ?_ (by first | omega | (dsimp only; omega)) H locs ls (hP.sub [0, 1, 2, 3] rfl) (hD.sub [0, 1, 2, 3] (by decide) rfl) hS (lv_sub hl [0, 1, 2, 3, 4, 5] rfl)
      try dsimp only
      omega

set_option maxHeartbeats 1000000 in
set_option maxRecDepth 100000 in
theorem c_mostAt (l : Launch) (G : Gy) (sz : Nat) (h0 : Nat) (pad : Nat) (pp : Nat) (im : Nat) (vse : Value) (vtr : Value) (ac : Nat) (ak : Nat) (n : Int32) (told : Int32) (sp : Int32) (gr : Int32) (fc : Nat → Int32) (fk : Nat → Int32) (p0 : Int32) (p1 : Int32)  : Ci l G yX9_mostAt wsX9_mostAt ({ frames := 3, cells := 0, slots := 0, locals := 67 }) [.ref h0, .int p0, .int p1] [(h0, .inr (5, [.ref pad, .ref pp, .ref im, vse, vtr])), (pp, .inr (1, [.int n, .int told, .int sp, .int gr, .ref ac, .ref ak])), (ac, .inl (gI G, 6, .inl fc)), (ak, .inl (gI G, 4, .inl fk))] sz (fun (r : Int32) (_ : Unit) => True) (fun (_ : Unit) => [(h0, .inr (5, [.ref pad, .ref pp, .ref im, vse, vtr])), (pp, .inr (1, [.int n, .int told, .int sp, .int gr, .ref ac, .ref ak])), (ac, .inl (gI G, 6, .inl fc)), (ak, .inl (gI G, 4, .inl fk))]) 0 0 := by
  refine Met.ofW (cc := cX9_mostAt) (maxL := 5) (ret := (some .int)) (by decide) rfl ?_
  intro p e s m args below meth c s₁ B hml hv
  obtain ⟨rfl, hsz, hP, hD0, E0⟩ := hv
  have hx := B.exec
  have hb := B.bytes
  have hr := B.returns
  have hts := atoms_spec (ws := wsX9_mostAt) B.pre
  have hown : s.vm.findClass RX9 = some m.cls := findClass_of_methodNamed B.named
  have hlocks := B.notSynchronized
  subst hsz
  have hD := hD0.self (sz := s.heap.size)
  generalize hAe : va_A [(h0, .inr (5, [.ref pad, .ref pp, .ref im, vse, vtr])), (pp, .inr (1, [.int n, .int told, .int sp, .int gr, .ref ac, .ref ak])), (ac, .inl (gI G, 6, .inl fc)), (ak, .inl (gI G, 4, .inl fk))] s.heap.size = A at hD E0 ⊢
  have E : EV G A s s.heap := E0
  have hA : ∀ q : Nat, s.heap.size ≤ q → A q := fun q h => by rw [← hAe]; exact Or.inr h
  have hS : va_S A s.heap s.heap [] := va_S.rf
  have hl := lv_entry ([.ref h0, .int p0, .int p1]) (n := 5) (Nat.le_of_ble_eq_true rfl)
  rw [lg_entry_eq]
  generalize (lg_sl ([.ref h0, .int p0, .int p1]) ++ List.replicate (5 - (lg_sl ([.ref h0, .int p0, .int p1])).length) Slot.unset).toArray = ls at hl ⊢
  have hl : lv_has ls 5 [(0, .ref h0), (1, .int p0), (2, .int p1)] := hl
  have hP : va_P G.1 vwCl [(h0, .inr (5, [.ref pad, .ref pp, .ref im, vse, vtr])), (pp, .inr (1, [.int n, .int told, .int sp, .int gr, .ref ac, .ref ak])), (ac, .inl (gI G, 6, .inl fc)), (ak, .inl (gI G, 4, .inl fk))] s.heap := hP
  refine lv_iconst (v := 0) hx hb dX9_mostAt_0 (by decide) ?_
  refine lv_istore_n (lv' := [(3, .int 0), (0, .ref h0), (1, .int p0), (2, .int p1)]) hx hb dX9_mostAt_1 rfl hl (by decide) rfl (fun ls hl => ?_)
  refine lv_iconst (v := 1) hx hb dX9_mostAt_2 (by decide) ?_
  refine lv_istore (lv' := [(4, .int 1), (3, .int 0), (0, .ref h0), (1, .int p0), (2, .int p1)]) hx hb dX9_mostAt_3 hl (by decide) rfl (fun ls hl => ?_)
  refine lp_run (x0 := (1, 0)) (fun xx_ : Int32 × Int32 => match xx_ with | (x, y) => [(h0, .inr (5, [.ref pad, .ref pp, .ref im, vse, vtr])), (pp, .inr (1, [.int n, .int told, .int sp, .int gr, .ref ac, .ref ak])), (ac, .inl (gI G, 6, .inl fc)), (ak, .inl (gI G, 4, .inl fk))]) (fun xx_ : Int32 × Int32 => match xx_ with | (x, y) => [(4, .int x), (3, .int y), (0, .ref h0), (1, .int p0), (2, .int p1)]) (fun xx_ : Int32 × Int32 => match xx_ with | (x, y) => (0 ≤ x.toInt)) (fun xx_ : Int32 × Int32 => match xx_ with | (x, y) => ((5 : Int32).toInt - x.toInt).toNat) (hP.sub [0, 1, 2, 3] rfl) (hD.sub [0, 1, 2, 3] (by decide) rfl) hS (lv_sub hl [0, 1, 2, 3, 4] rfl) (show (0 : Int) ≤ (1 : Int32).toInt by first | decide | omega | assumption) ?_
  intro xx_ hI ih5 H locs ls hP hD hS hl
  obtain ⟨x, y⟩ := xx_
  dsimp only at hI ih5 hP hD hl
  have hx0 := hI
  have hl : lv_has ls 5 [(4, .int x), (3, .int y), (0, .ref h0), (1, .int p0), (2, .int p1)] := hl
  have hP : va_P G.1 vwCl [(h0, .inr (5, [.ref pad, .ref pp, .ref im, vse, vtr])), (pp, .inr (1, [.int n, .int told, .int sp, .int gr, .ref ac, .ref ak])), (ac, .inl (gI G, 6, .inl fc)), (ak, .inl (gI G, 4, .inl fk))] H := hP
  have hD : va_D A [(h0, .inr (5, [.ref pad, .ref pp, .ref im, vse, vtr])), (pp, .inr (1, [.int n, .int told, .int sp, .int gr, .ref ac, .ref ak])), (ac, .inl (gI G, 6, .inl fc)), (ak, .inl (gI G, 4, .inl fk))] := hD
  refine lv_iload hx hb dX9_mostAt_5 (lv_at hl 0 rfl) ?_
  refine lv_iconst (v := 5) hx hb dX9_mostAt_7 (by decide) ?_
  refine lv_icmp_ge (tgt := 38) hx hb dX9_mostAt_8 (by decide) (fun c1 => ?_) (fun c1 => ?_)
  · refine lv_iload_n hx hb dX9_mostAt_38 rfl (lv_at hl 1 rfl) ?_
    have hP9 := hP.sub (ws' := [(h0, .inr (5, [.ref pad, .ref pp, .ref im, vse, vtr])), (pp, .inr (1, [.int n, .int told, .int sp, .int gr, .ref ac, .ref ak])), (ac, .inl (gI G, 6, .inl fc)), (ak, .inl (gI G, 4, .inl fk))]) [0, 1, 2, 3] rfl
    have hD9 := hD.sub (ws' := [(h0, .inr (5, [.ref pad, .ref pp, .ref im, vse, vtr])), (pp, .inr (1, [.int n, .int told, .int sp, .int gr, .ref ac, .ref ak])), (ac, .inl (gI G, 6, .inl fc)), (ak, .inl (gI G, 4, .inl fk))]) [0, 1, 2, 3] (by decide) rfl
    exact W.iret (v := y) hx hb hr (fun t ht hW => ⟨⟨y, (), rfl, trivial, by rw [ht]; exact hP9, hD9⟩, hS.F ht⟩) hS.2.2 dX9_mostAt_39
  · have hlt5 : x.toInt < (5 : Int32).toInt := by ((try simp only [inR, inS, i3_lt, i3_le, i3_eq, i6_lt, i6_le, Int32.toInt_toInt64, lg_cmp_lt, lg_cmp_gt, lg_cmp_ge, lg_cmp_le, Int32.reduceToInt, Int64.reduceToInt] at c1 ⊢); omega)
    refine lv_aload_n hx hb dX9_mostAt_11 rfl (lv_at hl 2 rfl) ?_
    refine lv_iload_n hx hb dX9_mostAt_12 rfl (lv_at hl 3 rfl) ?_
    refine lv_iload_n hx hb dX9_mostAt_13 rfl (lv_at hl 4 rfl) ?_
    refine lv_iload hx hb dX9_mostAt_14 (lv_at hl 0 rfl) ?_
    refine ca_iR (va_runV (As := [.int p0, .int p1, .int x]) (rest := []) ⟨hx, hb, hml, hown, hts⟩ (c_howMany l G H.size h0 pad pp im vse vtr ac ak n told sp gr fc fk p0 p1 x) (cwV 3 hts gX9_mostAt_X9_howMany rfl rfl rfl (by decide +kernel) ⟨by decide +kernel, by decide +kernel⟩) (pre_V E hP hD hS hA [0, 1, 2, 3] (by decide) rfl 0 5 rfl rfl) rfl rfl hl.1 rfl (lv_room (Nat.le_of_ble_eq_true rfl)) dX9_mostAt_16 ⟨by decide +kernel, by decide +kernel⟩) hS hP hD hA [0, 1, 2, 3] rfl (fun r3 _ H locs w2 hP hS => ?_)
    refine lv_aload_n hx hb dX9_mostAt_19 rfl (lv_at hl 2 rfl) ?_
    refine lv_iload_n hx hb dX9_mostAt_20 rfl (lv_at hl 3 rfl) ?_
    refine lv_iload_n hx hb dX9_mostAt_21 rfl (lv_at hl 4 rfl) ?_
    refine lv_iload_n hx hb dX9_mostAt_22 rfl (lv_at hl 1 rfl) ?_
    refine ca_iR (va_runV (As := [.int p0, .int p1, .int y]) (rest := [.int r3]) ⟨hx, hb, hml, hown, hts⟩ (c_howMany l G H.size h0 pad pp im vse vtr ac ak n told sp gr fc fk p0 p1 y) (cwV 3 hts gX9_mostAt_X9_howMany rfl rfl rfl (by decide +kernel) ⟨by decide +kernel, by decide +kernel⟩) (pre_V E hP hD hS hA [0, 1, 2, 3] (by decide) rfl 0 5 rfl rfl) rfl rfl hl.1 rfl (lv_room (Nat.le_of_ble_eq_true rfl)) dX9_mostAt_23 ⟨by decide +kernel, by decide +kernel⟩) hS hP hD hA [0, 1, 2, 3] rfl (fun r5 _ H locs w4 hP hS => ?_)
    refine lv_icmp_le (tgt := 32) hx hb dX9_mostAt_26 (by decide) (fun c6 => ?_) (fun c6 => ?_)
    · obtain ⟨x7, ex7⟩ : ∃ yy_ : Int32, yy_ = x + 1 := ⟨_, rfl⟩
      refine lv_iinc (v := x7) (lv' := [(4, .int x7), (3, .int y), (0, .ref h0), (1, .int p0), (2, .int p1)]) hx hb dX9_mostAt_32 hl (k := 0) rfl (by rw [ex7]; rfl) (by decide) rfl (fun ls hl => ?_)
      refine lv_goto (tgt := 5) hx hb dX9_mostAt_35 (by decide) ?_
      have hinc5 := inc_lt hlt5 ex7
      refine ih5 (x7, y) ?_ (by first | omega | (dsimp only; omega)) H locs ls (hP.sub [0, 1, 2, 3] rfl) (hD.sub [0, 1, 2, 3] (by decide) rfl) hS (lv_sub hl [0, 1, 2, 3, 4] rfl)
      try dsimp only
      omega
    · refine lv_iload hx hb dX9_mostAt_29 (lv_at hl 0 rfl) ?_
      refine lv_istore_n (lv' := [(3, .int x), (4, .int x), (0, .ref h0), (1, .int p0), (2, .int p1)]) hx hb dX9_mostAt_31 rfl hl (by decide) rfl (fun ls hl => ?_)
      obtain ⟨x8, ex8⟩ : ∃ yy_ : Int32, yy_ = x + 1 := ⟨_, rfl⟩
      refine lv_iinc (v := x8) (lv' := [(4, .int x8), (3, .int x), (0, .ref h0), (1, .int p0), (2, .int p1)]) hx hb dX9_mostAt_32 hl (k := 1) rfl (by rw [ex8]; rfl) (by decide) rfl (fun ls hl => ?_)
      refine lv_goto (tgt := 5) hx hb dX9_mostAt_35 (by decide) ?_
      have hinc5 := inc_lt hlt5 ex8
      refine ih5 (x8, x) ?_ (by first | omega | (dsimp only; omega)) H locs ls (hP.sub [0, 1, 2, 3] rfl) (hD.sub [0, 1, 2, 3] (by decide) rfl) hS (lv_sub hl [0, 1, 2, 3, 4] rfl)
      try dsimp only
      omega
