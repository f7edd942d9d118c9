set_option maxHeartbeats 1000000 in
set_option maxRecDepth 100000 in
theorem n_goalPast (l : Launch) (G : Gy) (sz : Nat) (h0 : Nat) (pad : Nat) (pp : Nat) (im : Nat) (vse : Value) (vtr : Value) (ac : Nat) (ak : Nat) (sg : Nat) (sl : Nat) (k : Nat) (pm : Nat) (told : Int32) (sp : Int32) (gr : Int32) (fsg : Nat → Int32) (fsl : Nat → Int32) (a : Nat) (p0 : Int32) (hk2 : 2 ≤ k) (hk6 : k ≤ 6) (hpm : pm ≤ 40) (ha : a < 5 ^ k) (hpk : pm = k) (hcan : ∀ j, j < k → canM True (fsg j)) : Ci l G yX9_goalPast wsX9_goalPast ({ frames := 2, cells := 0, slots := 0, locals := 42 }) [.ref h0, .int p0, .int (nI (sc k a))] ([(h0, .inr (5, [.ref pad, .ref pp, .ref im, vse, vtr])), (pad, .inr (0, [.ref sg, .ref sl, .int (nI pm)])), (sg, .inl (gI G, 40, .inl fsg)), (sl, .inl (gI G, 10, .inl fsl)), (pp, .inr (1, [.int (nI k), .int told, .int sp, .int gr, .ref ac, .ref ak]))]) sz (fun (r : Int32) (_ : Unit) => (r = (-6) ∧ ∀ z, z < 5 ^ k → ¬ wishS k fsg p0 a z) ∨ (¬ r = (-6) ∧ ∀ z, z < 5 ^ k → (gS k r z ↔ wishS k fsg p0 a z))) (fun (_ : Unit) => [(h0, .inr (5, [.ref pad, .ref pp, .ref im, vse, vtr])), (pad, .inr (0, [.ref sg, .ref sl, .int (nI pm)])), (sg, .inl (gI G, 40, .inl fsg)), (sl, .inl (gI G, 10, .inl fsl)), (pp, .inr (1, [.int (nI k), .int told, .int sp, .int gr, .ref ac, .ref ak]))]) 0 0 := by
  refine Met.ofW (cc := cX9_goalPast) (maxL := 8) (ret := (some .int)) (by decide) rfl ?_
  intro p e s m args below meth c s₁ B hml hv
  obtain ⟨rfl, hsz, hP, hD0, E0⟩ := hv
  have hx := B.exec
  have hb := B.bytes
  have hr := B.returns
  have hts := atoms_spec (ws := wsX9_goalPast) B.pre
  have hown : s.vm.findClass RX9 = some m.cls := findClass_of_methodNamed B.named
  have hlocks := B.notSynchronized
  subst hsz
  have hD := hD0.self (sz := s.heap.size)
  generalize hAe : va_A ([(h0, .inr (5, [.ref pad, .ref pp, .ref im, vse, vtr])), (pad, .inr (0, [.ref sg, .ref sl, .int (nI pm)])), (sg, .inl (gI G, 40, .inl fsg)), (sl, .inl (gI G, 10, .inl fsl)), (pp, .inr (1, [.int (nI k), .int told, .int sp, .int gr, .ref ac, .ref ak]))]) s.heap.size = A at hD E0 ⊢
  have E : EV G A s s.heap := E0
  have hA : ∀ q : Nat, s.heap.size ≤ q → A q := fun q h => by rw [← hAe]; exact Or.inr h
  have hS : va_S A s.heap s.heap [] := va_S.rf
  have hl := lv_entry ([.ref h0, .int p0, .int (nI (sc k a))]) (n := 8) (Nat.le_of_ble_eq_true rfl)
  rw [lg_entry_eq]
  generalize (lg_sl ([.ref h0, .int p0, .int (nI (sc k a))]) ++ List.replicate (8 - (lg_sl ([.ref h0, .int p0, .int (nI (sc k a))])).length) Slot.unset).toArray = ls at hl ⊢
  have hl : lv_has ls 8 [(0, .ref h0), (1, .int p0), (2, .int (nI (sc k a)))] := hl
  have hP : va_P G.1 vwCl ([(h0, .inr (5, [.ref pad, .ref pp, .ref im, vse, vtr])), (pad, .inr (0, [.ref sg, .ref sl, .int (nI pm)])), (sg, .inl (gI G, 40, .inl fsg)), (sl, .inl (gI G, 10, .inl fsl)), (pp, .inr (1, [.int (nI k), .int told, .int sp, .int gr, .ref ac, .ref ak]))]) s.heap := hP
  refine lv_iconst (v := 0) hx hb dX9_goalPast_0 (by decide) ?_
  refine lv_istore_n (lv' := [(3, .int 0), (0, .ref h0), (1, .int p0), (2, .int (nI (sc k a)))]) hx hb dX9_goalPast_1 rfl hl (by decide) rfl (fun ls hl => ?_)
  refine lv_iconst (v := 0) hx hb dX9_goalPast_2 (by decide) ?_
  refine lv_istore (lv' := [(4, .int 0), (3, .int 0), (0, .ref h0), (1, .int p0), (2, .int (nI (sc k a)))]) hx hb dX9_goalPast_3 hl (by decide) rfl (fun ls hl => ?_)
  refine lp_run (x0 := (0, 0)) (fun xx_ : Nat × Int32 => match xx_ with | (x, gq) => [(h0, .inr (5, [.ref pad, .ref pp, .ref im, vse, vtr])), (pad, .inr (0, [.ref sg, .ref sl, .int (nI pm)])), (sg, .inl (gI G, 40, .inl fsg)), (sl, .inl (gI G, 10, .inl fsl)), (pp, .inr (1, [.int (nI k), .int told, .int sp, .int gr, .ref ac, .ref ak]))]) (fun xx_ : Nat × Int32 => match xx_ with | (x, gq) => [(4, .int (nI x)), (3, .int gq), (0, .ref h0), (1, .int p0), (2, .int (nI (sc k a)))]) (fun xx_ : Nat × Int32 => match xx_ with | (x, gq) => (x ≤ k) ∧ (∀ j, j < x → (tdP p0 (nI j) ∧ gmk gq j = nI (dg k a j) ∧ (num (fsg j) = 5 ∨ num (fsg j) = nI (dg k a j))) ∨ (¬ tdP p0 (nI j) ∧ gmk gq j = num (fsg j))) ∧ (∀ i, 3 * x ≤ i → i < 32 → bt gq i = false)) (fun xx_ : Nat × Int32 => match xx_ with | (x, gq) => k - x) (hP.sub [0, 1, 2, 3, 4] rfl) (hD.sub [0, 1, 2, 3, 4] (by decide) rfl) hS (lv_sub hl [0, 1, 2, 3, 4] rfl) ⟨(by omega), by intro j hj; omega, fun i _ _ => bt_zero i⟩ ?_
  intro xx_ hI ih5 H locs ls hP hD hS hl
  obtain ⟨x, gq⟩ := xx_
  dsimp only at hI ih5 hP hD hl
  obtain ⟨hx0, hg, hz⟩ := hI
  have hl : lv_has ls 8 [(4, .int (nI x)), (3, .int gq), (0, .ref h0), (1, .int p0), (2, .int (nI (sc k a)))] := hl
  have hP : va_P G.1 vwCl ([(h0, .inr (5, [.ref pad, .ref pp, .ref im, vse, vtr])), (pad, .inr (0, [.ref sg, .ref sl, .int (nI pm)])), (sg, .inl (gI G, 40, .inl fsg)), (sl, .inl (gI G, 10, .inl fsl)), (pp, .inr (1, [.int (nI k), .int told, .int sp, .int gr, .ref ac, .ref ak]))]) H := hP
  have hD : va_D A ([(h0, .inr (5, [.ref pad, .ref pp, .ref im, vse, vtr])), (pad, .inr (0, [.ref sg, .ref sl, .int (nI pm)])), (sg, .inl (gI G, 40, .inl fsg)), (sl, .inl (gI G, 10, .inl fsl)), (pp, .inr (1, [.int (nI k), .int told, .int sp, .int gr, .ref ac, .ref ak]))]) := hD
  refine lv_iload hx hb dX9_goalPast_5 (lv_at hl 0 rfl) ?_
  refine lv_aload_n hx hb dX9_goalPast_7 rfl (lv_at hl 2 rfl) ?_
  refine va_get (D := G.1) (ci := 5) (v := .ref pp) (C := RX9) (T := TX9) (N := 5) hx hb hts (fun _ h => List.mem_cons_of_mem _ (List.mem_append_left _ (List.mem_append_left _ (List.mem_append_right _ h)))) hown E.K hP 0 rfl rfl 1 (by decide) (hts (.fieldLink RX9 19 "LastMap" "papers" "LLastMap$Papers;") (by decide +kernel)) (fun _ h9 => h9) rfl dX9_goalPast_8 ?_
  refine va_get (D := G.1) (ci := 1) (v := .int (nI k)) (C := RX3) (T := TX3) (N := 6) hx hb hts (fun _ h => List.mem_cons_of_mem _ (List.mem_append_left _ (List.mem_append_right _ h))) hown E.K hP 4 rfl rfl 0 (by decide) (hts (.fieldLink RX9 27 "LastMap$Papers" "siteCount" "I") (by decide +kernel)) (fun _ h9 => h9) rfl dX9_goalPast_11 ?_
  refine lv_icmp_ge (tgt := 98) hx hb dX9_goalPast_14 (by decide) (fun c1 => ?_) (fun c1 => ?_)
  · have c1 : k ≤ x := (nI_leI (a := k) (b := x) (by omega) (by omega)).mp c1
    refine lv_iload_n hx hb dX9_goalPast_98 rfl (lv_at hl 1 rfl) ?_
    have hP9 := (hP.sub (ws' := [(h0, .inr (5, [.ref pad, .ref pp, .ref im, vse, vtr])), (pad, .inr (0, [.ref sg, .ref sl, .int (nI pm)])), (sg, .inl (gI G, 40, .inl fsg)), (sl, .inl (gI G, 10, .inl fsl)), (pp, .inr (1, [.int (nI k), .int told, .int sp, .int gr, .ref ac, .ref ak]))]) [0, 1, 2, 3, 4] rfl)
    have hD9 := (hD.sub (ws' := [(h0, .inr (5, [.ref pad, .ref pp, .ref im, vse, vtr])), (pad, .inr (0, [.ref sg, .ref sl, .int (nI pm)])), (sg, .inl (gI G, 40, .inl fsg)), (sl, .inl (gI G, 10, .inl fsl)), (pp, .inr (1, [.int (nI k), .int told, .int sp, .int gr, .ref ac, .ref ak]))]) [0, 1, 2, 3, 4] (by decide) rfl)
    exact W.iret (v := gq) hx hb hr (fun t9_ ht9_ hW9_ => ⟨⟨gq, (), rfl, Or.inr ⟨gp_ne (by omega) hz, fun z9 _ => gp_ok (fun j9 h9 => hg j9 (by omega)) z9⟩, by rw [ht9_]; exact hP9, hD9⟩, hS.F ht9_⟩) hS.2.2 dX9_goalPast_99
  · have c1 : ¬ k ≤ x := fun h9_ => c1 ((nI_leI (a := k) (b := x) (by omega) (by omega)).mpr h9_)
    refine lv_aload_n hx hb dX9_goalPast_17 rfl (lv_at hl 2 rfl) ?_
    refine va_get (D := G.1) (ci := 5) (v := .ref pad) (C := RX9) (T := TX9) (N := 5) hx hb hts (fun _ h => List.mem_cons_of_mem _ (List.mem_append_left _ (List.mem_append_left _ (List.mem_append_right _ h)))) hown E.K hP 0 rfl rfl 0 (by decide) (hts (.fieldLink RX9 10 "LastMap" "pad" "LLastMap$Pad;") (by decide +kernel)) (fun _ h9 => h9) rfl dX9_goalPast_18 ?_
    refine lv_iload hx hb dX9_goalPast_21 (lv_at hl 0 rfl) ?_
    refine ca_iR (va_runV (As := [.int (nI x)]) (rest := []) ⟨hx, hb, hml, hown, hts⟩ (n_padMark l G H.size pad sg sl pm fsg fsl x (by omega) (by omega)) (cwV 1 hts gX9_goalPast_X2_markAt rfl rfl rfl (by decide +kernel) ⟨by decide +kernel, by decide +kernel⟩) (pre_V E hP hD hS hA [1, 2, 3] (by decide) rfl 1 0 rfl rfl) rfl rfl hl.1 rfl (lv_room (Nat.le_of_ble_eq_true rfl)) dX9_goalPast_23 ⟨by decide +kernel, by decide +kernel⟩) hS hP hD hA [1, 2, 3] rfl (fun r3 _ H locs w2 hP hS => ?_)
    obtain ⟨g9, hg9, eg9⟩ := num_6 (hcan x (by omega))
    obtain rfl : r3 = nI g9 := by rw [w2]; exact eg9
    refine lv_istore (lv' := [(5, .int (nI g9)), (4, .int (nI x)), (3, .int gq), (0, .ref h0), (1, .int p0), (2, .int (nI (sc k a)))]) hx hb dX9_goalPast_26 hl (by decide) rfl (fun ls hl => ?_)
    refine lv_iload_n hx hb dX9_goalPast_28 rfl (lv_at hl 5 rfl) ?_
    refine lv_iload hx hb dX9_goalPast_29 (lv_at hl 1 rfl) ?_
    refine ca_iR (va_runS (As := [.int (nI (sc k a)), .int (nI x)]) (rest := []) ⟨hx, hb, hml, hown, hts⟩ (n_signAt l G H.size (sc k a) x (sc_lt hk6 ha) (by omega)) (va_cwS 2 hts gX9_goalPast_X1_signAt rfl rfl rfl (by decide +kernel) ⟨by decide +kernel, by decide +kernel⟩) (pre_S E hP hD hS hA [] (by decide) rfl) rfl rfl hl.1 rfl (lv_room (Nat.le_of_ble_eq_true rfl)) dX9_goalPast_31 ⟨by decide +kernel, by decide +kernel⟩) hS hP hD hA [] rfl (fun r5 _ H locs w4 hP hS => ?_)
    rw [w4]
    have hd9 := dg_lt k a x
    refine W.eq (g2 := F0 m 34 ls [.int (nI (dg k a x))]) (by rw [dg_sc hk6 (show x < k by omega)]) ?_
    refine lv_istore (lv' := [(6, .int (nI (dg k a x))), (5, .int (nI g9)), (4, .int (nI x)), (3, .int gq), (0, .ref h0), (1, .int p0), (2, .int (nI (sc k a)))]) hx hb dX9_goalPast_34 hl (by decide) rfl (fun ls hl => ?_)
    refine lv_iload_n hx hb dX9_goalPast_36 rfl (lv_at hl 5 rfl) ?_
    refine lv_iload hx hb dX9_goalPast_37 (lv_at hl 2 rfl) ?_
    refine lv_ishr hx hb dX9_goalPast_39 ?_
    refine lv_topi (fun x6 ex6 => ?_)
    refine lv_iconst (v := 1) hx hb dX9_goalPast_40 (by decide) ?_
    refine lv_iand hx hb dX9_goalPast_41 ?_
    refine lv_topi (fun x7 ex7 => ?_)
    refine lv_if_eq (tgt := 49) hx hb dX9_goalPast_42 (by decide) (fun c8 => ?_) (fun c8 => ?_)
    · have hntd : ¬ tdP p0 (nI x) := by unfold tdP; rw [← ex6, ← ex7, c8]; decide
      refine lv_iconst (v := 0) hx hb dX9_goalPast_49 (by decide) ?_
      refine lv_istore (lv' := [(7, .int 0), (6, .int (nI (dg k a x))), (5, .int (nI g9)), (4, .int (nI x)), (3, .int gq), (0, .ref h0), (1, .int p0), (2, .int (nI (sc k a)))]) hx hb dX9_goalPast_50 hl (by decide) rfl (fun ls hl => ?_)
      refine lv_iload hx hb dX9_goalPast_52 (lv_at hl 0 rfl) ?_
      refine lv_if_eq (tgt := 73) hx hb dX9_goalPast_54 (by decide) (fun _ => ?_) (fun c9 => False.elim (by revert c9; decide))
      refine lv_iload_n hx hb dX9_goalPast_73 rfl (lv_at hl 4 rfl) ?_
      refine lv_iload hx hb dX9_goalPast_74 (lv_at hl 3 rfl) ?_
      refine lv_iload hx hb dX9_goalPast_76 (lv_at hl 0 rfl) ?_
      refine lv_if_eq (tgt := 86) hx hb dX9_goalPast_78 (by decide) (fun _ => ?_) (fun c10 => False.elim (by revert c10; decide))
      refine lv_iload hx hb dX9_goalPast_86 (lv_at hl 2 rfl) ?_
      have hgo := gmk_or (g := gq) (x := x) (d := g9) (by omega) (by omega) hz
      refine ca_iR (va_runS (As := [.int gq, .int (nI x), .int (nI g9)]) (rest := []) ⟨hx, hb, hml, hown, hts⟩ (c_goalWith l G H.size gq (nI x) (nI g9)) (va_cwS 3 hts gX9_goalPast_X0_with rfl rfl rfl (by decide +kernel) ⟨by decide +kernel, by decide +kernel⟩) (pre_S E hP hD hS hA [] (by decide) rfl) rfl rfl hl.1 rfl (lv_room (Nat.le_of_ble_eq_true rfl)) dX9_goalPast_88 ⟨by decide +kernel, by decide +kernel⟩) hS hP hD hA [] rfl (fun r12 _ H locs w11 hP hS => ?_)
      have hnw : r12 = gq ||| (nI g9 <<< ((3 * nI x) &&& 31)) := w11
      refine lv_istore_n (lv' := [(3, .int r12), (7, .int 0), (6, .int (nI (dg k a x))), (5, .int (nI g9)), (4, .int (nI x)), (0, .ref h0), (1, .int p0), (2, .int (nI (sc k a)))]) hx hb dX9_goalPast_91 rfl hl (by decide) rfl (fun ls hl => ?_)
      obtain ⟨x13, ex13⟩ : ∃ yy_ : Int32, yy_ = (nI x) + 1 := ⟨_, rfl⟩
      refine lv_iinc (v := x13) (lv' := [(4, .int x13), (3, .int r12), (7, .int 0), (6, .int (nI (dg k a x))), (5, .int (nI g9)), (0, .ref h0), (1, .int p0), (2, .int (nI (sc k a)))]) hx hb dX9_goalPast_92 hl (k := 4) rfl (by rw [ex13]; rfl) (by decide) rfl (fun ls hl => ?_)
      obtain rfl : x13 = nI (x + 1) := by rw [ex13]; exact nI_add x 1
      refine lv_goto (tgt := 5) hx hb dX9_goalPast_95 (by decide) ?_
      refine ih5 ((x + 1), r12) ⟨?_, ?_, ?_⟩ (by first | omega | (dsimp only; omega)) H locs ls (hP.sub [0, 1, 2, 3, 4] rfl) (hD.sub [0, 1, 2, 3, 4] (by decide) rfl) hS (lv_sub hl [0, 1, 5, 6, 7] rfl)
      · try dsimp only
        omega
      · try dsimp only
        intro j9 h9; rw [hnw]
        by_cases e9 : j9 = x
        · rw [e9]; exact Or.inr ⟨hntd, hgo.2.1.trans eg9.symm⟩
        · rw [hgo.1 j9 (by omega)]; exact hg j9 (by omega)
      · try dsimp only
        rw [hnw]; exact hgo.2.2
    · have htd : tdP p0 (nI x) := by have q9 := and1 (p0 >>> (nI x &&& 31)); unfold tdP; rw [← ex6, ← ex7] at *; exact q9.elim (fun q8 => absurd q8 c8) id
      refine lv_iconst (v := 1) hx hb dX9_goalPast_45 (by decide) ?_
      refine lv_goto (tgt := 50) hx hb dX9_goalPast_46 (by decide) ?_
      refine lv_istore (lv' := [(7, .int 1), (6, .int (nI (dg k a x))), (5, .int (nI g9)), (4, .int (nI x)), (3, .int gq), (0, .ref h0), (1, .int p0), (2, .int (nI (sc k a)))]) hx hb dX9_goalPast_50 hl (by decide) rfl (fun ls hl => ?_)
      refine lv_iload hx hb dX9_goalPast_52 (lv_at hl 0 rfl) ?_
      refine lv_if_eq (tgt := 73) hx hb dX9_goalPast_54 (by decide) (fun c14 => False.elim (by revert c14; decide)) (fun _ => ?_)
      refine lv_iload hx hb dX9_goalPast_57 (lv_at hl 2 rfl) ?_
      refine lv_iconst (v := 5) hx hb dX9_goalPast_59 (by decide) ?_
      refine lv_icmp_eq (tgt := 73) hx hb dX9_goalPast_60 (by decide) (fun c15 => ?_) (fun c15 => ?_)
      · have c15 : g9 = 5 := (nI_eq (a := g9) (b := 5) (by omega) (by omega)).mp c15
        refine lv_iload_n hx hb dX9_goalPast_73 rfl (lv_at hl 4 rfl) ?_
        refine lv_iload hx hb dX9_goalPast_74 (lv_at hl 3 rfl) ?_
        refine lv_iload hx hb dX9_goalPast_76 (lv_at hl 0 rfl) ?_
        refine lv_if_eq (tgt := 86) hx hb dX9_goalPast_78 (by decide) (fun c16 => False.elim (by revert c16; decide)) (fun _ => ?_)
        refine lv_iload hx hb dX9_goalPast_81 (lv_at hl 1 rfl) ?_
        refine lv_goto (tgt := 88) hx hb dX9_goalPast_83 (by decide) ?_
        have hgo := gmk_or (g := gq) (x := x) (d := dg k a x) (by omega) (by omega) hz
        refine ca_iR (va_runS (As := [.int gq, .int (nI x), .int (nI (dg k a x))]) (rest := []) ⟨hx, hb, hml, hown, hts⟩ (c_goalWith l G H.size gq (nI x) (nI (dg k a x))) (va_cwS 3 hts gX9_goalPast_X0_with rfl rfl rfl (by decide +kernel) ⟨by decide +kernel, by decide +kernel⟩) (pre_S E hP hD hS hA [] (by decide) rfl) rfl rfl hl.1 rfl (lv_room (Nat.le_of_ble_eq_true rfl)) dX9_goalPast_88 ⟨by decide +kernel, by decide +kernel⟩) hS hP hD hA [] rfl (fun r18 _ H locs w17 hP hS => ?_)
        have hnw : r18 = gq ||| (nI (dg k a x) <<< ((3 * nI x) &&& 31)) := w17
        refine lv_istore_n (lv' := [(3, .int r18), (7, .int 1), (6, .int (nI (dg k a x))), (5, .int (nI g9)), (4, .int (nI x)), (0, .ref h0), (1, .int p0), (2, .int (nI (sc k a)))]) hx hb dX9_goalPast_91 rfl hl (by decide) rfl (fun ls hl => ?_)
        obtain ⟨x19, ex19⟩ : ∃ yy_ : Int32, yy_ = (nI x) + 1 := ⟨_, rfl⟩
        refine lv_iinc (v := x19) (lv' := [(4, .int x19), (3, .int r18), (7, .int 1), (6, .int (nI (dg k a x))), (5, .int (nI g9)), (0, .ref h0), (1, .int p0), (2, .int (nI (sc k a)))]) hx hb dX9_goalPast_92 hl (k := 4) rfl (by rw [ex19]; rfl) (by decide) rfl (fun ls hl => ?_)
        obtain rfl : x19 = nI (x + 1) := by rw [ex19]; exact nI_add x 1
        refine lv_goto (tgt := 5) hx hb dX9_goalPast_95 (by decide) ?_
        refine ih5 ((x + 1), r18) ⟨?_, ?_, ?_⟩ (by first | omega | (dsimp only; omega)) H locs ls (hP.sub [0, 1, 2, 3, 4] rfl) (hD.sub [0, 1, 2, 3, 4] (by decide) rfl) hS (lv_sub hl [0, 1, 5, 6, 7] rfl)
        · try dsimp only
          omega
        · try dsimp only
          intro j9 h9; rw [hnw]
          by_cases e9 : j9 = x
          · rw [e9]; exact Or.inl ⟨htd, hgo.2.1, Or.inl (eg9.trans (by rw [c15]; first | done | decide))⟩
          · rw [hgo.1 j9 (by omega)]; exact hg j9 (by omega)
        · try dsimp only
          rw [hnw]; exact hgo.2.2
      · have c15 : ¬ g9 = 5 := fun h9_ => c15 ((nI_eq (a := g9) (b := 5) (by omega) (by omega)).mpr h9_)
        refine lv_iload hx hb dX9_goalPast_63 (lv_at hl 2 rfl) ?_
        refine lv_iload hx hb dX9_goalPast_65 (lv_at hl 1 rfl) ?_
        refine lv_icmp_eq (tgt := 73) hx hb dX9_goalPast_67 (by decide) (fun c20 => ?_) (fun c20 => ?_)
        · have c20 : g9 = (dg k a x) := (nI_eq (a := g9) (b := (dg k a x)) (by omega) (by omega)).mp c20
          refine lv_iload_n hx hb dX9_goalPast_73 rfl (lv_at hl 4 rfl) ?_
          refine lv_iload hx hb dX9_goalPast_74 (lv_at hl 3 rfl) ?_
          refine lv_iload hx hb dX9_goalPast_76 (lv_at hl 0 rfl) ?_
          refine lv_if_eq (tgt := 86) hx hb dX9_goalPast_78 (by decide) (fun c21 => False.elim (by revert c21; decide)) (fun _ => ?_)
          refine lv_iload hx hb dX9_goalPast_81 (lv_at hl 1 rfl) ?_
          refine lv_goto (tgt := 88) hx hb dX9_goalPast_83 (by decide) ?_
          have hgo := gmk_or (g := gq) (x := x) (d := dg k a x) (by omega) (by omega) hz
          refine ca_iR (va_runS (As := [.int gq, .int (nI x), .int (nI (dg k a x))]) (rest := []) ⟨hx, hb, hml, hown, hts⟩ (c_goalWith l G H.size gq (nI x) (nI (dg k a x))) (va_cwS 3 hts gX9_goalPast_X0_with rfl rfl rfl (by decide +kernel) ⟨by decide +kernel, by decide +kernel⟩) (pre_S E hP hD hS hA [] (by decide) rfl) rfl rfl hl.1 rfl (lv_room (Nat.le_of_ble_eq_true rfl)) dX9_goalPast_88 ⟨by decide +kernel, by decide +kernel⟩) hS hP hD hA [] rfl (fun r23 _ H locs w22 hP hS => ?_)
          have hnw : r23 = gq ||| (nI (dg k a x) <<< ((3 * nI x) &&& 31)) := w22
          refine lv_istore_n (lv' := [(3, .int r23), (7, .int 1), (6, .int (nI (dg k a x))), (5, .int (nI g9)), (4, .int (nI x)), (0, .ref h0), (1, .int p0), (2, .int (nI (sc k a)))]) hx hb dX9_goalPast_91 rfl hl (by decide) rfl (fun ls hl => ?_)
          obtain ⟨x24, ex24⟩ : ∃ yy_ : Int32, yy_ = (nI x) + 1 := ⟨_, rfl⟩
          refine lv_iinc (v := x24) (lv' := [(4, .int x24), (3, .int r23), (7, .int 1), (6, .int (nI (dg k a x))), (5, .int (nI g9)), (0, .ref h0), (1, .int p0), (2, .int (nI (sc k a)))]) hx hb dX9_goalPast_92 hl (k := 4) rfl (by rw [ex24]; rfl) (by decide) rfl (fun ls hl => ?_)
          obtain rfl : x24 = nI (x + 1) := by rw [ex24]; exact nI_add x 1
          refine lv_goto (tgt := 5) hx hb dX9_goalPast_95 (by decide) ?_
          refine ih5 ((x + 1), r23) ⟨?_, ?_, ?_⟩ (by first | omega | (dsimp only; omega)) H locs ls (hP.sub [0, 1, 2, 3, 4] rfl) (hD.sub [0, 1, 2, 3, 4] (by decide) rfl) hS (lv_sub hl [0, 1, 5, 6, 7] rfl)
          · try dsimp only
            omega
          · try dsimp only
            intro j9 h9; rw [hnw]
            by_cases e9 : j9 = x
            · rw [e9]; exact Or.inl ⟨htd, hgo.2.1, Or.inr (eg9.trans (by rw [c20]))⟩
            · rw [hgo.1 j9 (by omega)]; exact hg j9 (by omega)
          · try dsimp only
            rw [hnw]; exact hgo.2.2
        · have c20 : ¬ g9 = (dg k a x) := fun h9_ => c20 ((nI_eq (a := g9) (b := (dg k a x)) (by omega) (by omega)).mpr h9_)
          refine lv_bipush (v := (-6)) hx hb dX9_goalPast_70 (by decide) ?_
          have hP9 := (hP.sub (ws' := [(h0, .inr (5, [.ref pad, .ref pp, .ref im, vse, vtr])), (pad, .inr (0, [.ref sg, .ref sl, .int (nI pm)])), (sg, .inl (gI G, 40, .inl fsg)), (sl, .inl (gI G, 10, .inl fsl)), (pp, .inr (1, [.int (nI k), .int told, .int sp, .int gr, .ref ac, .ref ak]))]) [0, 1, 2, 3, 4] rfl)
          have hD9 := (hD.sub (ws' := [(h0, .inr (5, [.ref pad, .ref pp, .ref im, vse, vtr])), (pad, .inr (0, [.ref sg, .ref sl, .int (nI pm)])), (sg, .inl (gI G, 40, .inl fsg)), (sl, .inl (gI G, 10, .inl fsl)), (pp, .inr (1, [.int (nI k), .int told, .int sp, .int gr, .ref ac, .ref ak]))]) [0, 1, 2, 3, 4] (by decide) rfl)
          exact W.iret (v := (-6)) hx hb hr (fun t9_ ht9_ hW9_ => ⟨⟨(-6), (), rfl, Or.inl ⟨rfl, fun z9 _ => gp_no (by omega) htd eg9 hg9 c15 c20 z9⟩, by rw [ht9_]; exact hP9, hD9⟩, hS.F ht9_⟩) hS.2.2 dX9_goalPast_72

set_option maxHeartbeats 1000000 in
set_option maxRecDepth 100000 in
theorem q_wished (l : Launch) (G : Gy) (H0 : Heap) (h0 : Nat) (pad : Nat) (pp : Nat) (im : Nat) (vse : Value) (vtr : Value) (ac : Nat) (ak : Nat) (sg : Nat) (sl : Nat) (k : Nat) (pm : Nat) (la : Nat) (told : Int32) (sp : Int32) (fc : Nat → Int32) (fk : Nat → Int32) (fsg : Nat → Int32) (fsl : Nat → Int32) (ma : Nat → Nat) (T : va_W) (c0 : Nat) (p0 : Int32) (p1 : Int32) (p2 : Int32) (p3 : Int32) (hk2 : 2 ≤ k) (hk6 : k ≤ 6) (hpm : pm ≤ 40) (hla : la < 5 ^ k) (hcr : CR k told fc ma) (hsp : inR sp 1 6) (hSR : SK2 G vse T c0) : ChI l G yX9_wished wsX9_wished ({ frames := 10, cells := 6, slots := 62514, locals := 238 }) [.ref h0, .int p0, .int p1, .int p2, .int p3] ([(h0, .inr (5, [.ref pad, .ref pp, .ref im, vse, vtr])), (pad, .inr (0, [.ref sg, .ref sl, .int (nI pm)])), (sg, .inl (gI G, 40, .inl fsg)), (sl, .inl (gI G, 10, .inl fsl)), (pp, .inr (1, [.int (nI k), .int told, .int sp, .int (nI (sc k la)), .ref ac, .ref ak])), (ac, .inl (gI G, 6, .inl fc)), (ak, .inl (gI G, 4, .inl fk))] ++ T) H0 (fun (r : Int32) (u : Value × va_W × Nat) => match u with | (vse1, T1, k1) => SK2 G vse1 T1 (c0 + k1) ∧ wsP k pm told ma fsg fk p0 p1 p2 p3 r) (fun (u : Value × va_W × Nat) => (match u with | (vse1, T1, k1) => [(h0, .inr (5, [.ref pad, .ref pp, .ref im, vse1, vtr])), (pad, .inr (0, [.ref sg, .ref sl, .int (nI pm)])), (sg, .inl (gI G, 40, .inl fsg)), (sl, .inl (gI G, 10, .inl fsl)), (pp, .inr (1, [.int (nI k), .int told, .int sp, .int (nI (sc k la)), .ref ac, .ref ak])), (ac, .inl (gI G, 6, .inl fc)), (ak, .inl (gI G, 4, .inl fk))]) ++ (match u with | (vse1, T1, k1) => T1)) (fun (u : Value × va_W × Nat) => match u with | (vse1, T1, k1) => 3 * k1) (fun (u : Value × va_W × Nat) => match u with | (vse1, T1, k1) => 31257 * k1) 6 62514 := by
  refine Met.ofW (cc := cX9_wished) (maxL := 8) (ret := (some .int)) (by decide) rfl ?_
  intro p e s m args below meth c s₁ B hml hv
  obtain ⟨rfl, hsz, hP, hD0, E0⟩ := hv
  have hx := B.exec
  have hb := B.bytes
  have hr := B.returns
  have hts := atoms_spec (ws := wsX9_wished) B.pre
  have hown : s.vm.findClass RX9 = some m.cls := findClass_of_methodNamed B.named
  have hlocks := B.notSynchronized
  subst hsz
  have hD := hD0.self (sz := s.heap.size)
  generalize hAe : va_A ([(h0, .inr (5, [.ref pad, .ref pp, .ref im, vse, vtr])), (pad, .inr (0, [.ref sg, .ref sl, .int (nI pm)])), (sg, .inl (gI G, 40, .inl fsg)), (sl, .inl (gI G, 10, .inl fsl)), (pp, .inr (1, [.int (nI k), .int told, .int sp, .int (nI (sc k la)), .ref ac, .ref ak])), (ac, .inl (gI G, 6, .inl fc)), (ak, .inl (gI G, 4, .inl fk))] ++ T) s.heap.size = A at hD E0 ⊢
  have E : EV G A s s.heap := E0
  have hA : ∀ q : Nat, s.heap.size ≤ q → A q := fun q h => by rw [← hAe]; exact Or.inr h
  have hS : va_S A s.heap s.heap [] := va_S.rf
  have hl := lv_entry ([.ref h0, .int p0, .int p1, .int p2, .int p3]) (n := 8) (Nat.le_of_ble_eq_true rfl)
  rw [lg_entry_eq]
  generalize (lg_sl ([.ref h0, .int p0, .int p1, .int p2, .int p3]) ++ List.replicate (8 - (lg_sl ([.ref h0, .int p0, .int p1, .int p2, .int p3])).length) Slot.unset).toArray = ls at hl ⊢
  have hl : lv_has ls 8 [(0, .ref h0), (1, .int p0), (2, .int p1), (3, .int p2), (4, .int p3)] := hl
  have hP : va_P G.1 vwCl ([(h0, .inr (5, [.ref pad, .ref pp, .ref im, vse, vtr])), (pad, .inr (0, [.ref sg, .ref sl, .int (nI pm)])), (sg, .inl (gI G, 40, .inl fsg)), (sl, .inl (gI G, 10, .inl fsl)), (pp, .inr (1, [.int (nI k), .int told, .int sp, .int (nI (sc k la)), .ref ac, .ref ak])), (ac, .inl (gI G, 6, .inl fc)), (ak, .inl (gI G, 4, .inl fk))] ++ T) s.heap := hP
  refine lv_iload_n hx hb dX9_wished_0 rfl (lv_at hl 1 rfl) ?_
  refine ca_iR (va_runS (As := [.int p0]) (rest := []) ⟨hx, hb, hml, hown, hts⟩ (c_isMap l G s.heap.size p0) (va_cwS 1 hts gX9_wished_X9_isMap rfl rfl rfl (by decide +kernel) ⟨by decide +kernel, by decide +kernel⟩) (pre_S E hP hD hS hA [] (by decide) rfl) rfl rfl hl.1 rfl (lv_room (Nat.le_of_ble_eq_true rfl)) dX9_wished_1 ⟨show 0 + 0 ≤ 6 by omega, show 0 + 0 ≤ 62514 by omega⟩) hS hP hD hA [] rfl (fun r2 _ H locs w1 hP hS => ?_)
  rcases w1 with ⟨rfl, b3⟩ | ⟨rfl, b3⟩
  · refine lv_if_eq (tgt := 14) hx hb dX9_wished_4 (by decide) (fun c4 => False.elim (by revert c4; decide)) (fun _ => ?_)
    refine lv_iload_n hx hb dX9_wished_7 rfl (lv_at hl 2 rfl) ?_
    refine ca_iR (va_runS (As := [.int p1]) (rest := []) ⟨hx, hb, hml, hown, hts⟩ (c_isHand l G H.size p1) (va_cwS 1 hts gX9_wished_X9_isHand rfl rfl rfl (by decide +kernel) ⟨by decide +kernel, by decide +kernel⟩) (pre_S E hP hD hS hA [] (by decide) rfl) rfl rfl hl.1 rfl (lv_room (Nat.le_of_ble_eq_true rfl)) dX9_wished_8 ⟨show 0 + 0 ≤ 6 by omega, show 0 + 0 ≤ 62514 by omega⟩) hS hP hD hA [] rfl (fun r6 _ H locs w5 hP hS => ?_)
    rcases w5 with ⟨rfl, b7⟩ | ⟨rfl, b7⟩
    · refine lv_if_ne (tgt := 16) hx hb dX9_wished_11 (by decide) (fun _ => ?_) (fun c8 => False.elim (by revert c8; decide))
      refine lv_iload_n hx hb dX9_wished_16 rfl (lv_at hl 3 rfl) ?_
      refine lv_if_lt (tgt := 33) hx hb dX9_wished_17 (by decide) (fun c9 => ?_) (fun c9 => ?_)
      · refine lv_bipush (v := (-2)) hx hb dX9_wished_33 (by decide) ?_
        refine W_facts (fun hg => ?_)
        have hg : GF s.heap H (0) (0) := hg
        refine W.widen (k := 6) (n := 62514) (show 0 ≤ 6 by omega) (show 0 ≤ 62514 by omega) ?_
        have hP9 := (P_subT (X' := [(h0, .inr (5, [.ref pad, .ref pp, .ref im, vse, vtr])), (pad, .inr (0, [.ref sg, .ref sl, .int (nI pm)])), (sg, .inl (gI G, 40, .inl fsg)), (sl, .inl (gI G, 10, .inl fsl)), (pp, .inr (1, [.int (nI k), .int told, .int sp, .int (nI (sc k la)), .ref ac, .ref ak])), (ac, .inl (gI G, 6, .inl fc)), (ak, .inl (gI G, 4, .inl fk))]) hP [0, 1, 2, 3, 4, 5, 6] rfl)
        have hD9 := (D_subT (X' := [(h0, .inr (5, [.ref pad, .ref pp, .ref im, vse, vtr])), (pad, .inr (0, [.ref sg, .ref sl, .int (nI pm)])), (sg, .inl (gI G, 40, .inl fsg)), (sl, .inl (gI G, 10, .inl fsl)), (pp, .inr (1, [.int (nI k), .int told, .int sp, .int (nI (sc k la)), .ref ac, .ref ak])), (ac, .inl (gI G, 6, .inl fc)), (ak, .inl (gI G, 4, .inl fk))]) hD [0, 1, 2, 3, 4, 5, 6] (by decide) rfl)
        exact W.iret (v := (-2)) hx hb hr (fun t9_ ht9_ hW9_ => ⟨⟨(-2), (vse, T, 0), rfl, ⟨hSR, Or.inr ⟨⟨b3, b7⟩, Or.inl ⟨rd_n hk6 c9, rfl⟩⟩⟩, by rw [ht9_]; exact hP9, hD9, by rw [ht9_]; exact (show GF s.heap H (3 * 0) (31257 * 0) from hg.wide (by omega) (by omega))⟩, hS.F ht9_⟩) hS.2.2 dX9_wished_35
      · refine lv_iload_n hx hb dX9_wished_20 rfl (lv_at hl 3 rfl) ?_
        refine lv_iconst (v := 1) hx hb dX9_wished_21 (by decide) ?_
        refine lv_aload_n hx hb dX9_wished_22 rfl (lv_at hl 0 rfl) ?_
        refine va_get (D := G.1) (ci := 5) (v := .ref pp) (C := RX9) (T := TX9) (N := 5) hx hb hts (fun _ h => List.mem_cons_of_mem _ (List.mem_append_left _ (List.mem_append_left _ (List.mem_append_left _ (List.mem_append_left _ (List.mem_append_right _ h)))))) hown E.K hP 0 rfl rfl 1 (by decide) (hts (.fieldLink RX9 19 "LastMap" "papers" "LLastMap$Papers;") (by decide +kernel)) (fun _ h9 => h9) rfl dX9_wished_23 ?_
        refine va_get (D := G.1) (ci := 1) (v := .int (nI k)) (C := RX3) (T := TX3) (N := 6) hx hb hts (fun _ h => List.mem_cons_of_mem _ (List.mem_append_left _ (List.mem_append_left _ (List.mem_append_left _ (List.mem_append_right _ h))))) hown E.K hP 4 rfl rfl 0 (by decide) (hts (.fieldLink RX9 27 "LastMap$Papers" "siteCount" "I") (by decide +kernel)) (fun _ h9 => h9) rfl dX9_wished_26 ?_
        refine lv_ishl hx hb dX9_wished_29 ?_
        refine lv_topi (fun x10 ex10 => ?_)
        refine lv_icmp_lt (tgt := 36) hx hb dX9_wished_30 (by decide) (fun c11 => ?_) (fun c11 => ?_)
        · have hrd := rd_c hk6 c9 (by have q9 := c11; rw [ex10, shl_k k (by omega)] at q9; exact q9)
          refine lv_aload_n hx hb dX9_wished_36 rfl (lv_at hl 0 rfl) ?_
          refine lv_iload_n hx hb dX9_wished_37 rfl (lv_at hl 1 rfl) ?_
          refine ca_iR (va_runV (As := [.int p0]) (rest := []) ⟨hx, hb, hml, hown, hts⟩ (n_isTold l G H.size h0 pad pp im vse vtr ac ak (nI k) told sp (nI (sc k la)) p0) (cwV 1 hts gX9_wished_X9_isTold rfl rfl rfl (by decide +kernel) ⟨by decide +kernel, by decide +kernel⟩) (pre_V E hP hD hS hA [0, 4] (by decide) rfl 0 5 rfl rfl) rfl rfl hl.1 rfl (lv_room (Nat.le_of_ble_eq_true rfl)) dX9_wished_38 ⟨show 0 + 0 ≤ 6 by omega, show 0 + 0 ≤ 62514 by omega⟩) hS hP hD hA [0, 4] rfl (fun r13 _ H locs w12 hP hS => ?_)
          rcases w12 with ⟨rfl, b14⟩ | ⟨rfl, b14⟩
          · refine lv_if_ne (tgt := 47) hx hb dX9_wished_41 (by decide) (fun _ => ?_) (fun c15 => False.elim (by revert c15; decide))
            obtain ⟨j_p0, hj_p0, ej_p0⟩ := inR6 b3
            have hl : lv_has ls 8 [(0, .ref h0), (1, .int (nI j_p0)), (2, .int p1), (3, .int p2), (4, .int p3)] := by have q := hl; rw [ej_p0] at q; exact q
            obtain ⟨j_p1, hj_p1, ej_p1⟩ := inR4 b7
            have hl : lv_has ls 8 [(0, .ref h0), (1, .int (nI j_p0)), (2, .int (nI j_p1)), (3, .int p2), (4, .int p3)] := by have q := hl; rw [ej_p1] at q; exact q
            have htd0 := b14.2
            have hcf := hcr j_p0 hj_p0 (by rw [← ej_p0]; exact htd0)
            refine lv_aload_n hx hb dX9_wished_47 rfl (lv_at hl 0 rfl) ?_
            refine va_get (D := G.1) (ci := 5) (v := .ref pad) (C := RX9) (T := TX9) (N := 5) hx hb hts (fun _ h => List.mem_cons_of_mem _ (List.mem_append_left _ (List.mem_append_left _ (List.mem_append_left _ (List.mem_append_left _ (List.mem_append_right _ h)))))) hown E.K hP 0 rfl rfl 0 (by decide) (hts (.fieldLink RX9 10 "LastMap" "pad" "LLastMap$Pad;") (by decide +kernel)) (fun _ h9 => h9) rfl dX9_wished_48 ?_
            refine lv_iconst (v := 2) hx hb dX9_wished_51 (by decide) ?_
            refine lv_aload_n hx hb dX9_wished_52 rfl (lv_at hl 0 rfl) ?_
            refine va_get (D := G.1) (ci := 5) (v := .ref pp) (C := RX9) (T := TX9) (N := 5) hx hb hts (fun _ h => List.mem_cons_of_mem _ (List.mem_append_left _ (List.mem_append_left _ (List.mem_append_left _ (List.mem_append_left _ (List.mem_append_right _ h)))))) hown E.K hP 0 rfl rfl 1 (by decide) (hts (.fieldLink RX9 19 "LastMap" "papers" "LLastMap$Papers;") (by decide +kernel)) (fun _ h9 => h9) rfl dX9_wished_53 ?_
            refine va_get (D := G.1) (ci := 1) (v := .int (nI k)) (C := RX3) (T := TX3) (N := 6) hx hb hts (fun _ h => List.mem_cons_of_mem _ (List.mem_append_left _ (List.mem_append_left _ (List.mem_append_left _ (List.mem_append_right _ h))))) hown E.K hP 4 rfl rfl 0 (by decide) (hts (.fieldLink RX9 27 "LastMap$Papers" "siteCount" "I") (by decide +kernel)) (fun _ h9 => h9) rfl dX9_wished_56 ?_
            refine ca_iR (va_runV (As := [.int 2, .int (nI k)]) (rest := []) ⟨hx, hb, hml, hown, hts⟩ (n_firstWrong l G H.size pad sg sl pm fsg fsl k 2 hk2 hk6 (by omega)) (cwV 2 hts gX9_wished_X2_firstWrong rfl rfl rfl (by decide +kernel) ⟨by decide +kernel, by decide +kernel⟩) (pre_V E hP hD hS hA [1, 2, 3] (by decide) rfl 1 0 rfl rfl) rfl rfl hl.1 rfl (lv_room (Nat.le_of_ble_eq_true rfl)) dX9_wished_59 ⟨show 0 + 0 ≤ 6 by omega, show 0 + 0 ≤ 62514 by omega⟩) hS hP hD hA [1, 2, 3] rfl (fun r17 _ H locs w16 hP hS => ?_)
            have hfw : r17 = fmF fsg pm k True pm 0 := by rw [w16.2 (by decide)]; exact fmF_w (by decide)
            refine lv_bipush (v := (-6)) hx hb dX9_wished_62 (by decide) ?_
            refine lv_icmp_eq (tgt := 70) hx hb dX9_wished_64 (by decide) (fun c18 => ?_) (fun c18 => ?_)
            · have hf6 : fmF fsg pm k True pm 0 = (-6) := hfw.symm.trans c18
              obtain ⟨hpk, hcan⟩ := fmF_ok hpm pm 0 (by omega) (by omega) hf6
              refine lv_aload_n hx hb dX9_wished_70 rfl (lv_at hl 0 rfl) ?_
              refine va_get (D := G.1) (ci := 5) (v := .ref pp) (C := RX9) (T := TX9) (N := 5) hx hb hts (fun _ h => List.mem_cons_of_mem _ (List.mem_append_left _ (List.mem_append_left _ (List.mem_append_left _ (List.mem_append_left _ (List.mem_append_right _ h)))))) hown E.K hP 0 rfl rfl 1 (by decide) (hts (.fieldLink RX9 19 "LastMap" "papers" "LLastMap$Papers;") (by decide +kernel)) (fun _ h9 => h9) rfl dX9_wished_71 ?_
              refine lv_iload_n hx hb dX9_wished_74 rfl (lv_at hl 1 rfl) ?_
              refine ca_iR (va_runV (As := [.int (nI j_p0)]) (rest := []) ⟨hx, hb, hml, hown, hts⟩ (n_codeOf l G H.size pp ac ak (nI k) told sp (nI (sc k la)) fc fk j_p0 hj_p0) (cwV 1 hts gX9_wished_X3_codeOf rfl rfl rfl (by decide +kernel) ⟨by decide +kernel, by decide +kernel⟩) (pre_V E hP hD hS hA [4, 5, 6] (by decide) rfl 4 1 rfl rfl) rfl rfl hl.1 rfl (lv_room (Nat.le_of_ble_eq_true rfl)) dX9_wished_75 ⟨show 0 + 0 ≤ 6 by omega, show 0 + 0 ≤ 62514 by omega⟩) hS hP hD hA [4, 5, 6] rfl (fun r20 _ H locs w19 hP hS => ?_)
              obtain rfl : r20 = nI (sc k (ma j_p0)) := by rw [w19]; exact hcf.2
              refine lv_istore (lv' := [(5, .int (nI (sc k (ma j_p0)))), (0, .ref h0), (1, .int (nI j_p0)), (2, .int (nI j_p1)), (3, .int p2), (4, .int p3)]) hx hb dX9_wished_78 hl (by decide) rfl (fun ls hl => ?_)
              refine lv_aload_n hx hb dX9_wished_80 rfl (lv_at hl 1 rfl) ?_
              refine lv_iload_n hx hb dX9_wished_81 rfl (lv_at hl 4 rfl) ?_
              refine lv_iload hx hb dX9_wished_82 (lv_at hl 0 rfl) ?_
              refine ca_iR (va_runV (As := [.int p2, .int (nI (sc k (ma j_p0)))]) (rest := []) ⟨hx, hb, hml, hown, hts⟩ (n_goalPast l G H.size h0 pad pp im vse vtr ac ak sg sl k pm told sp (nI (sc k la)) fsg fsl (ma j_p0) p2 hk2 hk6 (by omega) hcf.1 hpk (fun j9 h9 => hcan j9 (Nat.zero_le _) (by omega))) (cwV 2 hts gX9_wished_X9_goalPast rfl rfl rfl (by decide +kernel) ⟨by decide +kernel, by decide +kernel⟩) (pre_V E hP hD hS hA [0, 1, 2, 3, 4] (by decide) rfl 0 5 rfl rfl) rfl rfl hl.1 rfl (lv_room (Nat.le_of_ble_eq_true rfl)) dX9_wished_84 ⟨show 0 + 0 ≤ 6 by omega, show 0 + 0 ≤ 62514 by omega⟩) hS hP hD hA [0, 1, 2, 3, 4] rfl (fun r22 _ H locs w21 hP hS => ?_)
              refine lv_istore (lv' := [(6, .int r22), (5, .int (nI (sc k (ma j_p0)))), (0, .ref h0), (1, .int (nI j_p0)), (2, .int (nI j_p1)), (3, .int p2), (4, .int p3)]) hx hb dX9_wished_87 hl (by decide) rfl (fun ls hl => ?_)
              refine lv_iload hx hb dX9_wished_89 (lv_at hl 0 rfl) ?_
              refine lv_bipush (v := (-6)) hx hb dX9_wished_91 (by decide) ?_
              refine lv_icmp_ne (tgt := 99) hx hb dX9_wished_93 (by decide) (fun c23 => ?_) (fun c23 => ?_)
              · have hgs9 := w21.elim (fun q9 => absurd q9.1 c23) (fun q9 => q9.2)
                refine lv_aload_n hx hb dX9_wished_99 rfl (lv_at hl 2 rfl) ?_
                have hle_24 := SK2.le hSR
                rcases hSR with ⟨hva_24, hvb_24, hvc_24⟩ | ⟨sr_24, rt_24, ru_24, ol_24, ft_24, gu_24, T_24, hva_24, hPL_24, hvb_24, hvc_24⟩
                · have hP : va_P G.1 vwCl ([(h0, .inr (5, [.ref pad, .ref pp, .ref im, .null, vtr])), (pad, .inr (0, [.ref sg, .ref sl, .int (nI pm)])), (sg, .inl (gI G, 40, .inl fsg)), (sl, .inl (gI G, 10, .inl fsl)), (pp, .inr (1, [.int (nI k), .int told, .int sp, .int (nI (sc k la)), .ref ac, .ref ak])), (ac, .inl (gI G, 6, .inl fc)), (ak, .inl (gI G, 4, .inl fk))] ++ ([] : va_W)) H := by rw [hva_24, hvb_24] at hP; exact hP
                  have hD : va_D A ([(h0, .inr (5, [.ref pad, .ref pp, .ref im, .null, vtr])), (pad, .inr (0, [.ref sg, .ref sl, .int (nI pm)])), (sg, .inl (gI G, 40, .inl fsg)), (sl, .inl (gI G, 10, .inl fsl)), (pp, .inr (1, [.int (nI k), .int told, .int sp, .int (nI (sc k la)), .ref ac, .ref ak])), (ac, .inl (gI G, 6, .inl fc)), (ak, .inl (gI G, 4, .inl fk))] ++ ([] : va_W)) := by rw [hva_24, hvb_24] at hD; exact hD
                  refine W_facts (fun hg => ?_)
                  have hg : GF s.heap H (0) (0) := hg
                  refine ca_rH (wr := [(pad, .inr (0, [.ref sg, .ref sl, .int (nI pm)])), (sg, .inl (gI G, 40, .inl fsg)), (sl, .inl (gI G, 10, .inl fsl)), (pp, .inr (1, [.int (nI k), .int told, .int sp, .int (nI (sc k la)), .ref ac, .ref ak])), (ac, .inl (gI G, 6, .inl fc)), (ak, .inl (gI G, 4, .inl fk))]) hg (va_runV (As := []) (rest := []) ⟨hx, hb, hml, hown, hts⟩ (d_ready_n l G H h0 pad pp im vtr ([] : va_W)) (cwV 0 hts gX9_wished_X9_readySearch rfl rfl rfl (by decide +kernel) ⟨by decide +kernel, by decide +kernel⟩) (pre_VH E hP hD hS hA [0] (by decide) rfl 0 5 rfl rfl) rfl rfl hl.1 rfl (lv_room (Nat.le_of_ble_eq_true rfl)) dX9_wished_100 ⟨show 0 + 3 ≤ 6 by omega, show 0 + 15636 ≤ 62514 by omega⟩) hS hP hD hA [0] [1, 2, 3, 4, 5, 6] rfl rfl (by decide) (by decide) (fun u27 H locs w25 hP hD hS hg => ?_)
                  obtain ⟨sr1_28, rt1_29, ru1_30⟩ := u27
                  try dsimp only at w25 hP hD
                  have hP := (P_subT (X' := [(h0, .inr (5, [.ref pad, .ref pp, .ref im, .ref sr1_28, vtr])), (pad, .inr (0, [.ref sg, .ref sl, .int (nI pm)])), (sg, .inl (gI G, 40, .inl fsg)), (sl, .inl (gI G, 10, .inl fsl)), (pp, .inr (1, [.int (nI k), .int told, .int sp, .int (nI (sc k la)), .ref ac, .ref ak])), (ac, .inl (gI G, 6, .inl fc)), (ak, .inl (gI G, 4, .inl fk)), (sr1_28, .inr (2, [.ref rt1_29, .ref ru1_30, .int 0])), (rt1_29, .inl (gT G, 8, .inr (.inr (.inr (.inr (fun _ => none)))))), (ru1_30, .inl (gI G, 15625, .inl (fun _ => 0)))]) hP [6, 0, 1, 2, 3, 4, 5, 7, 8, 9] rfl)
                  have hD := (D_subT (X' := [(h0, .inr (5, [.ref pad, .ref pp, .ref im, .ref sr1_28, vtr])), (pad, .inr (0, [.ref sg, .ref sl, .int (nI pm)])), (sg, .inl (gI G, 40, .inl fsg)), (sl, .inl (gI G, 10, .inl fsl)), (pp, .inr (1, [.int (nI k), .int told, .int sp, .int (nI (sc k la)), .ref ac, .ref ak])), (ac, .inl (gI G, 6, .inl fc)), (ak, .inl (gI G, 4, .inl fk)), (sr1_28, .inr (2, [.ref rt1_29, .ref ru1_30, .int 0])), (rt1_29, .inl (gT G, 8, .inr (.inr (.inr (.inr (fun _ => none)))))), (ru1_30, .inl (gI G, 15625, .inl (fun _ => 0)))]) hD [6, 0, 1, 2, 3, 4, 5, 7, 8, 9] (by decide) rfl)
                  refine lv_iload hx hb dX9_wished_103 (lv_at hl 0 rfl) ?_
                  refine lv_aload_n hx hb dX9_wished_105 rfl (lv_at hl 2 rfl) ?_
                  refine va_get (D := G.1) (ci := 5) (v := .ref pp) (C := RX9) (T := TX9) (N := 5) hx hb hts (fun _ h => List.mem_cons_of_mem _ (List.mem_append_left _ (List.mem_append_left _ (List.mem_append_left _ (List.mem_append_left _ (List.mem_append_right _ h)))))) hown E.K hP 0 rfl rfl 1 (by decide) (hts (.fieldLink RX9 19 "LastMap" "papers" "LLastMap$Papers;") (by decide +kernel)) (fun _ h9 => h9) rfl dX9_wished_106 ?_
                  refine lv_iload_n hx hb dX9_wished_109 rfl (lv_at hl 4 rfl) ?_
                  refine ca_iR (va_runV (As := [.int (nI j_p1)]) (rest := [.int r22, .ref sr1_28]) ⟨hx, hb, hml, hown, hts⟩ (n_kindsOf l G H.size pp ac ak (nI k) told sp (nI (sc k la)) fc fk j_p1 hj_p1) (cwV 1 hts gX9_wished_X3_kindsOf rfl rfl rfl (by decide +kernel) ⟨by decide +kernel, by decide +kernel⟩) (pre_V E hP hD hS hA [4, 5, 6] (by decide) rfl 4 1 rfl rfl) rfl rfl hl.1 rfl (lv_room (Nat.le_of_ble_eq_true rfl)) dX9_wished_110 ⟨show 0 + 3 + 0 ≤ 6 by omega, show 0 + 15636 + 0 ≤ 62514 by omega⟩) hS hP hD hA [4, 5, 6] rfl (fun r32 _ H locs w31 hP hS => ?_)
                  obtain rfl : r32 = fk j_p1 := w31
                  refine lv_aload_n hx hb dX9_wished_113 rfl (lv_at hl 2 rfl) ?_
                  refine va_get (D := G.1) (ci := 5) (v := .ref pp) (C := RX9) (T := TX9) (N := 5) hx hb hts (fun _ h => List.mem_cons_of_mem _ (List.mem_append_left _ (List.mem_append_left _ (List.mem_append_left _ (List.mem_append_left _ (List.mem_append_right _ h)))))) hown E.K hP 0 rfl rfl 1 (by decide) (hts (.fieldLink RX9 19 "LastMap" "papers" "LLastMap$Papers;") (by decide +kernel)) (fun _ h9 => h9) rfl dX9_wished_114 ?_
                  refine va_get (D := G.1) (ci := 1) (v := .int (nI k)) (C := RX3) (T := TX3) (N := 6) hx hb hts (fun _ h => List.mem_cons_of_mem _ (List.mem_append_left _ (List.mem_append_left _ (List.mem_append_left _ (List.mem_append_right _ h))))) hown E.K hP 4 rfl rfl 0 (by decide) (hts (.fieldLink RX9 27 "LastMap$Papers" "siteCount" "I") (by decide +kernel)) (fun _ h9 => h9) rfl dX9_wished_117 ?_
                  refine W_facts (fun hg => ?_)
                  have hg : GF s.heap H (0 + 3) (0 + 15636) := hg
                  refine ca_rH (wr := [(h0, .inr (5, [.ref pad, .ref pp, .ref im, .ref sr1_28, vtr])), (pad, .inr (0, [.ref sg, .ref sl, .int (nI pm)])), (sg, .inl (gI G, 40, .inl fsg)), (sl, .inl (gI G, 10, .inl fsl)), (pp, .inr (1, [.int (nI k), .int told, .int sp, .int (nI (sc k la)), .ref ac, .ref ak])), (ac, .inl (gI G, 6, .inl fc)), (ak, .inl (gI G, 4, .inl fk))]) hg (va_runV (As := [.int r22, .int (fk j_p1), .int (nI k)]) (rest := []) ⟨hx, hb, hml, hown, hts⟩ (h_toward l G H sr1_28 rt1_29 ru1_30 0 (fun _ => none) (fun _ => 0) ([] : va_W) k r22 (fk j_p1) hk2 hk6 pl2_none) (cwV 3 hts gX9_wished_X4_toward rfl rfl rfl (by decide +kernel) ⟨by decide +kernel, by decide +kernel⟩) (pre_VH E hP hD hS hA [7, 8, 9] (by decide) rfl 7 2 rfl rfl) rfl rfl hl.1 rfl (lv_room (Nat.le_of_ble_eq_true rfl)) dX9_wished_120 ⟨show 0 + 3 + 3 ≤ 6 by omega, show 0 + 15636 + 31257 ≤ 62514 by omega⟩) hS hP hD hA [7, 8, 9] [0, 1, 2, 3, 4, 5, 6] rfl rfl (by decide) (by decide) (fun u35 H locs w33 hP hD hS hg => ?_)
                  obtain ⟨ol1_36, ft1_37, t1_38, ta1_39, tq1_40, qd1_41, se1_42, go1_43, ki1_44, nn1_45, fs1_46, fq1_47, T1_48, k1_49⟩ := u35
                  try dsimp only at w33 hP hD
                  have hP := (P_subT (X' := [(h0, .inr (5, [.ref pad, .ref pp, .ref im, .ref sr1_28, vtr])), (pad, .inr (0, [.ref sg, .ref sl, .int (nI pm)])), (sg, .inl (gI G, 40, .inl fsg)), (sl, .inl (gI G, 10, .inl fsl)), (pp, .inr (1, [.int (nI k), .int told, .int sp, .int (nI (sc k la)), .ref ac, .ref ak])), (ac, .inl (gI G, 6, .inl fc)), (ak, .inl (gI G, 4, .inl fk)), (sr1_28, .inr (2, [.ref rt1_29, .ref ru1_30, .int ol1_36])), (rt1_29, .inl (gT G, 8, .inr (.inr (.inr (.inr ft1_37))))), (ru1_30, .inl (gI G, 15625, .inl (fun _ => 0))), (t1_38, .inr (3, [.ref ta1_39, .ref tq1_40, .int qd1_41, .int se1_42, .int go1_43, .int ki1_44, .int nn1_45])), (ta1_39, .inl (gB G, 15625, .inl fs1_46)), (tq1_40, .inl (gI G, 15625, .inl fq1_47))]) hP [0, 1, 2, 3, 4, 5, 6, 7, 8, 9, 10, 11, 12] rfl)
                  have hD := (D_subT (X' := [(h0, .inr (5, [.ref pad, .ref pp, .ref im, .ref sr1_28, vtr])), (pad, .inr (0, [.ref sg, .ref sl, .int (nI pm)])), (sg, .inl (gI G, 40, .inl fsg)), (sl, .inl (gI G, 10, .inl fsl)), (pp, .inr (1, [.int (nI k), .int told, .int sp, .int (nI (sc k la)), .ref ac, .ref ak])), (ac, .inl (gI G, 6, .inl fc)), (ak, .inl (gI G, 4, .inl fk)), (sr1_28, .inr (2, [.ref rt1_29, .ref ru1_30, .int ol1_36])), (rt1_29, .inl (gT G, 8, .inr (.inr (.inr (.inr ft1_37))))), (ru1_30, .inl (gI G, 15625, .inl (fun _ => 0))), (t1_38, .inr (3, [.ref ta1_39, .ref tq1_40, .int qd1_41, .int se1_42, .int go1_43, .int ki1_44, .int nn1_45])), (ta1_39, .inl (gB G, 15625, .inl fs1_46)), (tq1_40, .inl (gI G, 15625, .inl fq1_47))]) hD [0, 1, 2, 3, 4, 5, 6, 7, 8, 9, 10, 11, 12] (by decide) rfl)
                  have hTL := w33.1.1
                  have hd2 := w33.1.2
                  have hkn := w33.2.1
                  have hkm := w33.2.2.1
                  have hgq := w33.2.2.2.1
                  have hz0 : cntS (fun _ => none) 8 = 0 := rfl
                  obtain rfl : ki1_44 = fk j_p1 := w33.2.2.2.2.1
                  obtain rfl : nn1_45 = nI k := w33.2.2.2.2.2
                  obtain ⟨yv9, cv9, ecv9, eyv9, hbk9⟩ := tok_get hd2 rfl hk2 hk6
                  obtain rfl := ecv9
                  obtain rfl := eyv9
                  have hP : va_P G.1 vwCl ([(h0, .inr (5, [.ref pad, .ref pp, .ref im, .ref sr1_28, vtr])), (pad, .inr (0, [.ref sg, .ref sl, .int (nI pm)])), (sg, .inl (gI G, 40, .inl fsg)), (sl, .inl (gI G, 10, .inl fsl)), (pp, .inr (1, [.int (nI k), .int told, .int sp, .int (nI (sc k la)), .ref ac, .ref ak])), (ac, .inl (gI G, 6, .inl fc)), (ak, .inl (gI G, 4, .inl fk)), (sr1_28, .inr (2, [.ref rt1_29, .ref ru1_30, .int ol1_36])), (rt1_29, .inl (gT G, 8, .inr (.inr (.inr (.inr ft1_37))))), (ru1_30, .inl (gI G, 15625, .inl (fun _ => 0))), (t1_38, .inr (3, [.ref ta1_39, .ref tq1_40, .int (nI cv9), .int (nI yv9), .int go1_43, .int (fk j_p1), .int (nI k)])), (ta1_39, .inl (gB G, 15625, .inl fs1_46)), (tq1_40, .inl (gI G, 15625, .inl fq1_47))] ++ T1_48) H := hP
                  have hD : va_D A ([(h0, .inr (5, [.ref pad, .ref pp, .ref im, .ref sr1_28, vtr])), (pad, .inr (0, [.ref sg, .ref sl, .int (nI pm)])), (sg, .inl (gI G, 40, .inl fsg)), (sl, .inl (gI G, 10, .inl fsl)), (pp, .inr (1, [.int (nI k), .int told, .int sp, .int (nI (sc k la)), .ref ac, .ref ak])), (ac, .inl (gI G, 6, .inl fc)), (ak, .inl (gI G, 4, .inl fk)), (sr1_28, .inr (2, [.ref rt1_29, .ref ru1_30, .int ol1_36])), (rt1_29, .inl (gT G, 8, .inr (.inr (.inr (.inr ft1_37))))), (ru1_30, .inl (gI G, 15625, .inl (fun _ => 0))), (t1_38, .inr (3, [.ref ta1_39, .ref tq1_40, .int (nI cv9), .int (nI yv9), .int go1_43, .int (fk j_p1), .int (nI k)])), (ta1_39, .inl (gB G, 15625, .inl fs1_46)), (tq1_40, .inl (gI G, 15625, .inl fq1_47))] ++ T1_48) := hD
                  refine lv_astore (lv' := [(7, .ref t1_38), (6, .int r22), (5, .int (nI (sc k (ma j_p0)))), (0, .ref h0), (1, .int (nI j_p0)), (2, .int (nI j_p1)), (3, .int p2), (4, .int p3)]) hx hb dX9_wished_123 hl (by decide) rfl (fun ls hl => ?_)
                  refine lv_aload_n hx hb dX9_wished_125 rfl (lv_at hl 3 rfl) ?_
                  refine lv_aload hx hb dX9_wished_126 (lv_at hl 0 rfl) ?_
                  refine lv_iload hx hb dX9_wished_128 (lv_at hl 2 rfl) ?_
                  refine lv_iload_n hx hb dX9_wished_130 rfl (lv_at hl 5 rfl) ?_
                  refine lv_iload hx hb dX9_wished_131 (lv_at hl 7 rfl) ?_
                  refine ca_iQ (wr := [(pad, .inr (0, [.ref sg, .ref sl, .int (nI pm)])), (sg, .inl (gI G, 40, .inl fsg)), (sl, .inl (gI G, 10, .inl fsl)), (sr1_28, .inr (2, [.ref rt1_29, .ref ru1_30, .int ol1_36])), (rt1_29, .inl (gT G, 8, .inr (.inr (.inr (.inr ft1_37))))), (ru1_30, .inl (gI G, 15625, .inl (fun _ => 0)))]) (va_runV (As := [.ref t1_38, .int (nI (sc k (ma j_p0))), .int (nI j_p1), .int p3]) (rest := []) ⟨hx, hb, hml, hown, hts⟩ (n_rowAnswer l G H.size h0 pad pp im (.ref sr1_28) vtr ac ak told sp (nI (sc k la)) fc fk t1_38 ta1_39 tq1_40 k cv9 yv9 go1_43 (fk j_p1) fs1_46 fq1_47 (gS k go1_43) (ma j_p0) j_p1 p3 hk2 hk6 hbk9 hcf.1 hj_p1 rfl) (cwV 4 hts gX9_wished_X9_rowAnswer rfl rfl rfl (by decide +kernel) ⟨by decide +kernel, by decide +kernel⟩) (pre_V E hP hD hS hA [0, 4, 5, 6, 10, 11, 12] (by decide) rfl 0 5 rfl rfl) rfl rfl hl.1 rfl (lv_room (Nat.le_of_ble_eq_true rfl)) dX9_wished_133 ⟨show 0 + 3 + (3 * k1_49) + 0 ≤ 6 by omega, show 0 + 15636 + (31257 * k1_49) + 0 ≤ 62514 by omega⟩) hS hP hD hA [0, 4, 5, 6, 10, 11, 12] [1, 2, 3, 7, 8, 9] rfl rfl (by decide) (by decide) (fun r51 u52 H locs w50 hP hD hS => ?_)
                  obtain ⟨cq1_53, yq1_54, fs1_55, fq1_56⟩ := u52
                  try dsimp only at w50 hP hD
                  have hP := (P_subT (X' := [(h0, .inr (5, [.ref pad, .ref pp, .ref im, .ref sr1_28, vtr])), (pad, .inr (0, [.ref sg, .ref sl, .int (nI pm)])), (sg, .inl (gI G, 40, .inl fsg)), (sl, .inl (gI G, 10, .inl fsl)), (pp, .inr (1, [.int (nI k), .int told, .int sp, .int (nI (sc k la)), .ref ac, .ref ak])), (ac, .inl (gI G, 6, .inl fc)), (ak, .inl (gI G, 4, .inl fk)), (sr1_28, .inr (2, [.ref rt1_29, .ref ru1_30, .int ol1_36])), (rt1_29, .inl (gT G, 8, .inr (.inr (.inr (.inr ft1_37))))), (ru1_30, .inl (gI G, 15625, .inl (fun _ => 0))), (t1_38, .inr (3, [.ref ta1_39, .ref tq1_40, .int (nI cq1_53), .int (nI yq1_54), .int go1_43, .int (fk j_p1), .int (nI k)])), (ta1_39, .inl (gB G, 15625, .inl fs1_55)), (tq1_40, .inl (gI G, 15625, .inl fq1_56))]) hP [6, 0, 1, 2, 7, 8, 9, 3, 4, 5, 10, 11, 12] rfl)
                  have hD := (D_subT (X' := [(h0, .inr (5, [.ref pad, .ref pp, .ref im, .ref sr1_28, vtr])), (pad, .inr (0, [.ref sg, .ref sl, .int (nI pm)])), (sg, .inl (gI G, 40, .inl fsg)), (sl, .inl (gI G, 10, .inl fsl)), (pp, .inr (1, [.int (nI k), .int told, .int sp, .int (nI (sc k la)), .ref ac, .ref ak])), (ac, .inl (gI G, 6, .inl fc)), (ak, .inl (gI G, 4, .inl fk)), (sr1_28, .inr (2, [.ref rt1_29, .ref ru1_30, .int ol1_36])), (rt1_29, .inl (gT G, 8, .inr (.inr (.inr (.inr ft1_37))))), (ru1_30, .inl (gI G, 15625, .inl (fun _ => 0))), (t1_38, .inr (3, [.ref ta1_39, .ref tq1_40, .int (nI cq1_53), .int (nI yq1_54), .int go1_43, .int (fk j_p1), .int (nI k)])), (ta1_39, .inl (gB G, 15625, .inl fs1_55)), (tq1_40, .inl (gI G, 15625, .inl fq1_56))]) hD [6, 0, 1, 2, 7, 8, 9, 3, 4, 5, 10, 11, 12] (by decide) rfl)
                  refine W_facts (fun hg => ?_)
                  have hg : GF s.heap H (0 + 3 + (3 * k1_49)) (0 + 15636 + (31257 * k1_49)) := hg
                  refine W.widen (k := 6) (n := 62514) (show 0 + 3 + (3 * k1_49) ≤ 6 by omega) (show 0 + 15636 + (31257 * k1_49) ≤ 62514 by omega) ?_
                  obtain ⟨T8_57, hT8_57, hP, hD⟩ := pl2_put (X := [(h0, .inr (5, [.ref pad, .ref pp, .ref im, .ref sr1_28, vtr])), (pad, .inr (0, [.ref sg, .ref sl, .int (nI pm)])), (sg, .inl (gI G, 40, .inl fsg)), (sl, .inl (gI G, 10, .inl fsl)), (pp, .inr (1, [.int (nI k), .int told, .int sp, .int (nI (sc k la)), .ref ac, .ref ak])), (ac, .inl (gI G, 6, .inl fc)), (ak, .inl (gI G, 4, .inl fk)), (sr1_28, .inr (2, [.ref rt1_29, .ref ru1_30, .int ol1_36])), (rt1_29, .inl (gT G, 8, .inr (.inr (.inr (.inr ft1_37))))), (ru1_30, .inl (gI G, 15625, .inl (fun _ => 0)))]) (d1 := (t1_38, ta1_39, tq1_40, nI cq1_53, nI yq1_54, go1_43, fk j_p1, nI k, fs1_55, fq1_56)) hTL rfl (Or.inr ⟨k, yq1_54, cq1_53, hk2, hk6, rfl, rfl, rfl, w50.1⟩) (P_subT hP [0, 1, 2, 3, 4, 5, 6, 7, 8, 9, 10, 11, 12] rfl) (D_subT hD [0, 1, 2, 3, 4, 5, 6, 7, 8, 9, 10, 11, 12] (by decide) rfl)
                  have hP : va_P G.1 vwCl ([(h0, .inr (5, [.ref pad, .ref pp, .ref im, .ref sr1_28, vtr])), (pad, .inr (0, [.ref sg, .ref sl, .int (nI pm)])), (sg, .inl (gI G, 40, .inl fsg)), (sl, .inl (gI G, 10, .inl fsl)), (pp, .inr (1, [.int (nI k), .int told, .int sp, .int (nI (sc k la)), .ref ac, .ref ak])), (ac, .inl (gI G, 6, .inl fc)), (ak, .inl (gI G, 4, .inl fk)), (sr1_28, .inr (2, [.ref rt1_29, .ref ru1_30, .int ol1_36])), (rt1_29, .inl (gT G, 8, .inr (.inr (.inr (.inr ft1_37))))), (ru1_30, .inl (gI G, 15625, .inl (fun _ => 0)))] ++ T8_57) H := hP
                  have hD : va_D A ([(h0, .inr (5, [.ref pad, .ref pp, .ref im, .ref sr1_28, vtr])), (pad, .inr (0, [.ref sg, .ref sl, .int (nI pm)])), (sg, .inl (gI G, 40, .inl fsg)), (sl, .inl (gI G, 10, .inl fsl)), (pp, .inr (1, [.int (nI k), .int told, .int sp, .int (nI (sc k la)), .ref ac, .ref ak])), (ac, .inl (gI G, 6, .inl fc)), (ak, .inl (gI G, 4, .inl fk)), (sr1_28, .inr (2, [.ref rt1_29, .ref ru1_30, .int ol1_36])), (rt1_29, .inl (gT G, 8, .inr (.inr (.inr (.inr ft1_37))))), (ru1_30, .inl (gI G, 15625, .inl (fun _ => 0)))] ++ T8_57) := hD
                  have hP : va_P G.1 vwCl ([(h0, .inr (5, [.ref pad, .ref pp, .ref im, .ref sr1_28, vtr])), (pad, .inr (0, [.ref sg, .ref sl, .int (nI pm)])), (sg, .inl (gI G, 40, .inl fsg)), (sl, .inl (gI G, 10, .inl fsl)), (pp, .inr (1, [.int (nI k), .int told, .int sp, .int (nI (sc k la)), .ref ac, .ref ak])), (ac, .inl (gI G, 6, .inl fc)), (ak, .inl (gI G, 4, .inl fk))] ++ ([(sr1_28, .inr (2, [.ref rt1_29, .ref ru1_30, .int ol1_36])), (rt1_29, .inl (gT G, 8, .inr (.inr (.inr (.inr ft1_37))))), (ru1_30, .inl (gI G, 15625, .inl (fun _ => 0)))] ++ T8_57)) H := (P_subT (X' := [(h0, .inr (5, [.ref pad, .ref pp, .ref im, .ref sr1_28, vtr])), (pad, .inr (0, [.ref sg, .ref sl, .int (nI pm)])), (sg, .inl (gI G, 40, .inl fsg)), (sl, .inl (gI G, 10, .inl fsl)), (pp, .inr (1, [.int (nI k), .int told, .int sp, .int (nI (sc k la)), .ref ac, .ref ak])), (ac, .inl (gI G, 6, .inl fc)), (ak, .inl (gI G, 4, .inl fk)), (sr1_28, .inr (2, [.ref rt1_29, .ref ru1_30, .int ol1_36])), (rt1_29, .inl (gT G, 8, .inr (.inr (.inr (.inr ft1_37))))), (ru1_30, .inl (gI G, 15625, .inl (fun _ => 0)))]) hP [0, 1, 2, 3, 4, 5, 6, 7, 8, 9] rfl)
                  have hD : va_D A ([(h0, .inr (5, [.ref pad, .ref pp, .ref im, .ref sr1_28, vtr])), (pad, .inr (0, [.ref sg, .ref sl, .int (nI pm)])), (sg, .inl (gI G, 40, .inl fsg)), (sl, .inl (gI G, 10, .inl fsl)), (pp, .inr (1, [.int (nI k), .int told, .int sp, .int (nI (sc k la)), .ref ac, .ref ak])), (ac, .inl (gI G, 6, .inl fc)), (ak, .inl (gI G, 4, .inl fk))] ++ ([(sr1_28, .inr (2, [.ref rt1_29, .ref ru1_30, .int ol1_36])), (rt1_29, .inl (gT G, 8, .inr (.inr (.inr (.inr ft1_37))))), (ru1_30, .inl (gI G, 15625, .inl (fun _ => 0)))] ++ T8_57)) := (D_subT (X' := [(h0, .inr (5, [.ref pad, .ref pp, .ref im, .ref sr1_28, vtr])), (pad, .inr (0, [.ref sg, .ref sl, .int (nI pm)])), (sg, .inl (gI G, 40, .inl fsg)), (sl, .inl (gI G, 10, .inl fsl)), (pp, .inr (1, [.int (nI k), .int told, .int sp, .int (nI (sc k la)), .ref ac, .ref ak])), (ac, .inl (gI G, 6, .inl fc)), (ak, .inl (gI G, 4, .inl fk)), (sr1_28, .inr (2, [.ref rt1_29, .ref ru1_30, .int ol1_36])), (rt1_29, .inl (gT G, 8, .inr (.inr (.inr (.inr ft1_37))))), (ru1_30, .inl (gI G, 15625, .inl (fun _ => 0)))]) hD [0, 1, 2, 3, 4, 5, 6, 7, 8, 9] (by decide) rfl)
                  have hP9 := (P_subT (X' := [(h0, .inr (5, [.ref pad, .ref pp, .ref im, .ref sr1_28, vtr])), (pad, .inr (0, [.ref sg, .ref sl, .int (nI pm)])), (sg, .inl (gI G, 40, .inl fsg)), (sl, .inl (gI G, 10, .inl fsl)), (pp, .inr (1, [.int (nI k), .int told, .int sp, .int (nI (sc k la)), .ref ac, .ref ak])), (ac, .inl (gI G, 6, .inl fc)), (ak, .inl (gI G, 4, .inl fk))]) hP [0, 1, 2, 3, 4, 5, 6] rfl)
                  have hD9 := (D_subT (X' := [(h0, .inr (5, [.ref pad, .ref pp, .ref im, .ref sr1_28, vtr])), (pad, .inr (0, [.ref sg, .ref sl, .int (nI pm)])), (sg, .inl (gI G, 40, .inl fsg)), (sl, .inl (gI G, 10, .inl fsl)), (pp, .inr (1, [.int (nI k), .int told, .int sp, .int (nI (sc k la)), .ref ac, .ref ak])), (ac, .inl (gI G, 6, .inl fc)), (ak, .inl (gI G, 4, .inl fk))]) hD [0, 1, 2, 3, 4, 5, 6] (by decide) rfl)
                  exact W.iret (v := r51) hx hb hr (fun t9_ ht9_ hW9_ => ⟨⟨r51, ((.ref sr1_28), ([(sr1_28, .inr (2, [.ref rt1_29, .ref ru1_30, .int ol1_36])), (rt1_29, .inl (gT G, 8, .inr (.inr (.inr (.inr ft1_37))))), (ru1_30, .inl (gI G, 15625, .inl (fun _ => 0)))] ++ T8_57), 1 + k1_49), rfl, ⟨(Or.inr ⟨sr1_28, rt1_29, ru1_30, ol1_36, ft1_37, (fun _ => 0), T8_57, rfl, hT8_57, rfl, by omega⟩), wsP_5 hj_p0 ej_p0 hj_p1 ej_p1 hrd htd0 hf6 (fun x9 h9 => by rw [hgq]; exact hgs9 x9 h9) w50.2⟩, by rw [ht9_]; exact hP9, hD9, by rw [ht9_]; exact (show GF s.heap H (3 * (1 + k1_49)) (31257 * (1 + k1_49)) from hg.wide (by omega) (by omega))⟩, hS.F ht9_⟩) hS.2.2 dX9_wished_136
                · have hP : va_P G.1 vwCl ([(h0, .inr (5, [.ref pad, .ref pp, .ref im, .ref sr_24, vtr])), (pad, .inr (0, [.ref sg, .ref sl, .int (nI pm)])), (sg, .inl (gI G, 40, .inl fsg)), (sl, .inl (gI G, 10, .inl fsl)), (pp, .inr (1, [.int (nI k), .int told, .int sp, .int (nI (sc k la)), .ref ac, .ref ak])), (ac, .inl (gI G, 6, .inl fc)), (ak, .inl (gI G, 4, .inl fk)), (sr_24, .inr (2, [.ref rt_24, .ref ru_24, .int ol_24])), (rt_24, .inl (gT G, 8, .inr (.inr (.inr (.inr ft_24))))), (ru_24, .inl (gI G, 15625, .inl gu_24))] ++ T_24) H := by rw [hva_24, hvb_24] at hP; exact hP
                  have hD : va_D A ([(h0, .inr (5, [.ref pad, .ref pp, .ref im, .ref sr_24, vtr])), (pad, .inr (0, [.ref sg, .ref sl, .int (nI pm)])), (sg, .inl (gI G, 40, .inl fsg)), (sl, .inl (gI G, 10, .inl fsl)), (pp, .inr (1, [.int (nI k), .int told, .int sp, .int (nI (sc k la)), .ref ac, .ref ak])), (ac, .inl (gI G, 6, .inl fc)), (ak, .inl (gI G, 4, .inl fk)), (sr_24, .inr (2, [.ref rt_24, .ref ru_24, .int ol_24])), (rt_24, .inl (gT G, 8, .inr (.inr (.inr (.inr ft_24))))), (ru_24, .inl (gI G, 15625, .inl gu_24))] ++ T_24) := by rw [hva_24, hvb_24] at hD; exact hD
                  refine W_facts (fun hg => ?_)
                  have hg : GF s.heap H (0) (0) := hg
                  refine ca_rH (wr := [(pad, .inr (0, [.ref sg, .ref sl, .int (nI pm)])), (sg, .inl (gI G, 40, .inl fsg)), (sl, .inl (gI G, 10, .inl fsl)), (pp, .inr (1, [.int (nI k), .int told, .int sp, .int (nI (sc k la)), .ref ac, .ref ak])), (ac, .inl (gI G, 6, .inl fc)), (ak, .inl (gI G, 4, .inl fk)), (sr_24, .inr (2, [.ref rt_24, .ref ru_24, .int ol_24])), (rt_24, .inl (gT G, 8, .inr (.inr (.inr (.inr ft_24))))), (ru_24, .inl (gI G, 15625, .inl gu_24))]) hg (va_runV (As := []) (rest := []) ⟨hx, hb, hml, hown, hts⟩ (d_ready_s l G H h0 pad pp im vtr sr_24 T_24) (cwV 0 hts gX9_wished_X9_readySearch rfl rfl rfl (by decide +kernel) ⟨by decide +kernel, by decide +kernel⟩) (pre_VH E hP hD hS hA [0] (by decide) rfl 0 5 rfl rfl) rfl rfl hl.1 rfl (lv_room (Nat.le_of_ble_eq_true rfl)) dX9_wished_100 ⟨show 0 + 0 ≤ 6 by omega, show 0 + 0 ≤ 62514 by omega⟩) hS hP hD hA [0] [1, 2, 3, 4, 5, 6, 7, 8, 9] rfl rfl (by decide) (by decide) (fun u60 H locs w58 hP hD hS hg => ?_)
                  try dsimp only at w58 hP hD
                  have hP := (P_subT (X' := [(h0, .inr (5, [.ref pad, .ref pp, .ref im, .ref sr_24, vtr])), (pad, .inr (0, [.ref sg, .ref sl, .int (nI pm)])), (sg, .inl (gI G, 40, .inl fsg)), (sl, .inl (gI G, 10, .inl fsl)), (pp, .inr (1, [.int (nI k), .int told, .int sp, .int (nI (sc k la)), .ref ac, .ref ak])), (ac, .inl (gI G, 6, .inl fc)), (ak, .inl (gI G, 4, .inl fk)), (sr_24, .inr (2, [.ref rt_24, .ref ru_24, .int ol_24])), (rt_24, .inl (gT G, 8, .inr (.inr (.inr (.inr ft_24))))), (ru_24, .inl (gI G, 15625, .inl gu_24))]) hP [9, 0, 1, 2, 3, 4, 5, 6, 7, 8] rfl)
                  have hD := (D_subT (X' := [(h0, .inr (5, [.ref pad, .ref pp, .ref im, .ref sr_24, vtr])), (pad, .inr (0, [.ref sg, .ref sl, .int (nI pm)])), (sg, .inl (gI G, 40, .inl fsg)), (sl, .inl (gI G, 10, .inl fsl)), (pp, .inr (1, [.int (nI k), .int told, .int sp, .int (nI (sc k la)), .ref ac, .ref ak])), (ac, .inl (gI G, 6, .inl fc)), (ak, .inl (gI G, 4, .inl fk)), (sr_24, .inr (2, [.ref rt_24, .ref ru_24, .int ol_24])), (rt_24, .inl (gT G, 8, .inr (.inr (.inr (.inr ft_24))))), (ru_24, .inl (gI G, 15625, .inl gu_24))]) hD [9, 0, 1, 2, 3, 4, 5, 6, 7, 8] (by decide) rfl)
                  refine lv_iload hx hb dX9_wished_103 (lv_at hl 0 rfl) ?_
                  refine lv_aload_n hx hb dX9_wished_105 rfl (lv_at hl 2 rfl) ?_
                  refine va_get (D := G.1) (ci := 5) (v := .ref pp) (C := RX9) (T := TX9) (N := 5) hx hb hts (fun _ h => List.mem_cons_of_mem _ (List.mem_append_left _ (List.mem_append_left _ (List.mem_append_left _ (List.mem_append_left _ (List.mem_append_right _ h)))))) hown E.K hP 0 rfl rfl 1 (by decide) (hts (.fieldLink RX9 19 "LastMap" "papers" "LLastMap$Papers;") (by decide +kernel)) (fun _ h9 => h9) rfl dX9_wished_106 ?_
                  refine lv_iload_n hx hb dX9_wished_109 rfl (lv_at hl 4 rfl) ?_
                  refine ca_iR (va_runV (As := [.int (nI j_p1)]) (rest := [.int r22, .ref sr_24]) ⟨hx, hb, hml, hown, hts⟩ (n_kindsOf l G H.size pp ac ak (nI k) told sp (nI (sc k la)) fc fk j_p1 hj_p1) (cwV 1 hts gX9_wished_X3_kindsOf rfl rfl rfl (by decide +kernel) ⟨by decide +kernel, by decide +kernel⟩) (pre_V E hP hD hS hA [4, 5, 6] (by decide) rfl 4 1 rfl rfl) rfl rfl hl.1 rfl (lv_room (Nat.le_of_ble_eq_true rfl)) dX9_wished_110 ⟨show 0 + 0 + 0 ≤ 6 by omega, show 0 + 0 + 0 ≤ 62514 by omega⟩) hS hP hD hA [4, 5, 6] rfl (fun r62 _ H locs w61 hP hS => ?_)
                  obtain rfl : r62 = fk j_p1 := w61
                  refine lv_aload_n hx hb dX9_wished_113 rfl (lv_at hl 2 rfl) ?_
                  refine va_get (D := G.1) (ci := 5) (v := .ref pp) (C := RX9) (T := TX9) (N := 5) hx hb hts (fun _ h => List.mem_cons_of_mem _ (List.mem_append_left _ (List.mem_append_left _ (List.mem_append_left _ (List.mem_append_left _ (List.mem_append_right _ h)))))) hown E.K hP 0 rfl rfl 1 (by decide) (hts (.fieldLink RX9 19 "LastMap" "papers" "LLastMap$Papers;") (by decide +kernel)) (fun _ h9 => h9) rfl dX9_wished_114 ?_
                  refine va_get (D := G.1) (ci := 1) (v := .int (nI k)) (C := RX3) (T := TX3) (N := 6) hx hb hts (fun _ h => List.mem_cons_of_mem _ (List.mem_append_left _ (List.mem_append_left _ (List.mem_append_left _ (List.mem_append_right _ h))))) hown E.K hP 4 rfl rfl 0 (by decide) (hts (.fieldLink RX9 27 "LastMap$Papers" "siteCount" "I") (by decide +kernel)) (fun _ h9 => h9) rfl dX9_wished_117 ?_
                  refine W_facts (fun hg => ?_)
                  have hg : GF s.heap H (0 + 0) (0 + 0) := hg
                  refine ca_rH (wr := [(h0, .inr (5, [.ref pad, .ref pp, .ref im, .ref sr_24, vtr])), (pad, .inr (0, [.ref sg, .ref sl, .int (nI pm)])), (sg, .inl (gI G, 40, .inl fsg)), (sl, .inl (gI G, 10, .inl fsl)), (pp, .inr (1, [.int (nI k), .int told, .int sp, .int (nI (sc k la)), .ref ac, .ref ak])), (ac, .inl (gI G, 6, .inl fc)), (ak, .inl (gI G, 4, .inl fk))]) hg (va_runV (As := [.int r22, .int (fk j_p1), .int (nI k)]) (rest := []) ⟨hx, hb, hml, hown, hts⟩ (h_toward l G H sr_24 rt_24 ru_24 ol_24 ft_24 gu_24 T_24 k r22 (fk j_p1) hk2 hk6 hPL_24) (cwV 3 hts gX9_wished_X4_toward rfl rfl rfl (by decide +kernel) ⟨by decide +kernel, by decide +kernel⟩) (pre_VH E hP hD hS hA [7, 8, 9] (by decide) rfl 7 2 rfl rfl) rfl rfl hl.1 rfl (lv_room (Nat.le_of_ble_eq_true rfl)) dX9_wished_120 ⟨show 0 + 0 + 3 ≤ 6 by omega, show 0 + 0 + 31257 ≤ 62514 by omega⟩) hS hP hD hA [7, 8, 9] [0, 1, 2, 3, 4, 5, 6] rfl rfl (by decide) (by decide) (fun u65 H locs w63 hP hD hS hg => ?_)
                  obtain ⟨ol1_66, ft1_67, t1_68, ta1_69, tq1_70, qd1_71, se1_72, go1_73, ki1_74, nn1_75, fs1_76, fq1_77, T1_78, k1_79⟩ := u65
                  try dsimp only at w63 hP hD
                  have hP := (P_subT (X' := [(h0, .inr (5, [.ref pad, .ref pp, .ref im, .ref sr_24, vtr])), (pad, .inr (0, [.ref sg, .ref sl, .int (nI pm)])), (sg, .inl (gI G, 40, .inl fsg)), (sl, .inl (gI G, 10, .inl fsl)), (pp, .inr (1, [.int (nI k), .int told, .int sp, .int (nI (sc k la)), .ref ac, .ref ak])), (ac, .inl (gI G, 6, .inl fc)), (ak, .inl (gI G, 4, .inl fk)), (sr_24, .inr (2, [.ref rt_24, .ref ru_24, .int ol1_66])), (rt_24, .inl (gT G, 8, .inr (.inr (.inr (.inr ft1_67))))), (ru_24, .inl (gI G, 15625, .inl gu_24)), (t1_68, .inr (3, [.ref ta1_69, .ref tq1_70, .int qd1_71, .int se1_72, .int go1_73, .int ki1_74, .int nn1_75])), (ta1_69, .inl (gB G, 15625, .inl fs1_76)), (tq1_70, .inl (gI G, 15625, .inl fq1_77))]) hP [0, 1, 2, 3, 4, 5, 6, 7, 8, 9, 10, 11, 12] rfl)
                  have hD := (D_subT (X' := [(h0, .inr (5, [.ref pad, .ref pp, .ref im, .ref sr_24, vtr])), (pad, .inr (0, [.ref sg, .ref sl, .int (nI pm)])), (sg, .inl (gI G, 40, .inl fsg)), (sl, .inl (gI G, 10, .inl fsl)), (pp, .inr (1, [.int (nI k), .int told, .int sp, .int (nI (sc k la)), .ref ac, .ref ak])), (ac, .inl (gI G, 6, .inl fc)), (ak, .inl (gI G, 4, .inl fk)), (sr_24, .inr (2, [.ref rt_24, .ref ru_24, .int ol1_66])), (rt_24, .inl (gT G, 8, .inr (.inr (.inr (.inr ft1_67))))), (ru_24, .inl (gI G, 15625, .inl gu_24)), (t1_68, .inr (3, [.ref ta1_69, .ref tq1_70, .int qd1_71, .int se1_72, .int go1_73, .int ki1_74, .int nn1_75])), (ta1_69, .inl (gB G, 15625, .inl fs1_76)), (tq1_70, .inl (gI G, 15625, .inl fq1_77))]) hD [0, 1, 2, 3, 4, 5, 6, 7, 8, 9, 10, 11, 12] (by decide) rfl)
                  have hTL := w63.1.1
                  have hd2 := w63.1.2
                  have hkn := w63.2.1
                  have hkm := w63.2.2.1
                  have hgq := w63.2.2.2.1
                  obtain rfl : ki1_74 = fk j_p1 := w63.2.2.2.2.1
                  obtain rfl : nn1_75 = nI k := w63.2.2.2.2.2
                  obtain ⟨yv9, cv9, ecv9, eyv9, hbk9⟩ := tok_get hd2 rfl hk2 hk6
                  obtain rfl := ecv9
                  obtain rfl := eyv9
                  have hP : va_P G.1 vwCl ([(h0, .inr (5, [.ref pad, .ref pp, .ref im, .ref sr_24, vtr])), (pad, .inr (0, [.ref sg, .ref sl, .int (nI pm)])), (sg, .inl (gI G, 40, .inl fsg)), (sl, .inl (gI G, 10, .inl fsl)), (pp, .inr (1, [.int (nI k), .int told, .int sp, .int (nI (sc k la)), .ref ac, .ref ak])), (ac, .inl (gI G, 6, .inl fc)), (ak, .inl (gI G, 4, .inl fk)), (sr_24, .inr (2, [.ref rt_24, .ref ru_24, .int ol1_66])), (rt_24, .inl (gT G, 8, .inr (.inr (.inr (.inr ft1_67))))), (ru_24, .inl (gI G, 15625, .inl gu_24)), (t1_68, .inr (3, [.ref ta1_69, .ref tq1_70, .int (nI cv9), .int (nI yv9), .int go1_73, .int (fk j_p1), .int (nI k)])), (ta1_69, .inl (gB G, 15625, .inl fs1_76)), (tq1_70, .inl (gI G, 15625, .inl fq1_77))] ++ T1_78) H := hP
                  have hD : va_D A ([(h0, .inr (5, [.ref pad, .ref pp, .ref im, .ref sr_24, vtr])), (pad, .inr (0, [.ref sg, .ref sl, .int (nI pm)])), (sg, .inl (gI G, 40, .inl fsg)), (sl, .inl (gI G, 10, .inl fsl)), (pp, .inr (1, [.int (nI k), .int told, .int sp, .int (nI (sc k la)), .ref ac, .ref ak])), (ac, .inl (gI G, 6, .inl fc)), (ak, .inl (gI G, 4, .inl fk)), (sr_24, .inr (2, [.ref rt_24, .ref ru_24, .int ol1_66])), (rt_24, .inl (gT G, 8, .inr (.inr (.inr (.inr ft1_67))))), (ru_24, .inl (gI G, 15625, .inl gu_24)), (t1_68, .inr (3, [.ref ta1_69, .ref tq1_70, .int (nI cv9), .int (nI yv9), .int go1_73, .int (fk j_p1), .int (nI k)])), (ta1_69, .inl (gB G, 15625, .inl fs1_76)), (tq1_70, .inl (gI G, 15625, .inl fq1_77))] ++ T1_78) := hD
                  refine lv_astore (lv' := [(7, .ref t1_68), (6, .int r22), (5, .int (nI (sc k (ma j_p0)))), (0, .ref h0), (1, .int (nI j_p0)), (2, .int (nI j_p1)), (3, .int p2), (4, .int p3)]) hx hb dX9_wished_123 hl (by decide) rfl (fun ls hl => ?_)
                  refine lv_aload_n hx hb dX9_wished_125 rfl (lv_at hl 3 rfl) ?_
                  refine lv_aload hx hb dX9_wished_126 (lv_at hl 0 rfl) ?_
                  refine lv_iload hx hb dX9_wished_128 (lv_at hl 2 rfl) ?_
                  refine lv_iload_n hx hb dX9_wished_130 rfl (lv_at hl 5 rfl) ?_
                  refine lv_iload hx hb dX9_wished_131 (lv_at hl 7 rfl) ?_
                  refine ca_iQ (wr := [(pad, .inr (0, [.ref sg, .ref sl, .int (nI pm)])), (sg, .inl (gI G, 40, .inl fsg)), (sl, .inl (gI G, 10, .inl fsl)), (sr_24, .inr (2, [.ref rt_24, .ref ru_24, .int ol1_66])), (rt_24, .inl (gT G, 8, .inr (.inr (.inr (.inr ft1_67))))), (ru_24, .inl (gI G, 15625, .inl gu_24))]) (va_runV (As := [.ref t1_68, .int (nI (sc k (ma j_p0))), .int (nI j_p1), .int p3]) (rest := []) ⟨hx, hb, hml, hown, hts⟩ (n_rowAnswer l G H.size h0 pad pp im (.ref sr_24) vtr ac ak told sp (nI (sc k la)) fc fk t1_68 ta1_69 tq1_70 k cv9 yv9 go1_73 (fk j_p1) fs1_76 fq1_77 (gS k go1_73) (ma j_p0) j_p1 p3 hk2 hk6 hbk9 hcf.1 hj_p1 rfl) (cwV 4 hts gX9_wished_X9_rowAnswer rfl rfl rfl (by decide +kernel) ⟨by decide +kernel, by decide +kernel⟩) (pre_V E hP hD hS hA [0, 4, 5, 6, 10, 11, 12] (by decide) rfl 0 5 rfl rfl) rfl rfl hl.1 rfl (lv_room (Nat.le_of_ble_eq_true rfl)) dX9_wished_133 ⟨show 0 + 0 + (3 * k1_79) + 0 ≤ 6 by omega, show 0 + 0 + (31257 * k1_79) + 0 ≤ 62514 by omega⟩) hS hP hD hA [0, 4, 5, 6, 10, 11, 12] [1, 2, 3, 7, 8, 9] rfl rfl (by decide) (by decide) (fun r81 u82 H locs w80 hP hD hS => ?_)
                  obtain ⟨cq1_83, yq1_84, fs1_85, fq1_86⟩ := u82
                  try dsimp only at w80 hP hD
                  have hP := (P_subT (X' := [(h0, .inr (5, [.ref pad, .ref pp, .ref im, .ref sr_24, vtr])), (pad, .inr (0, [.ref sg, .ref sl, .int (nI pm)])), (sg, .inl (gI G, 40, .inl fsg)), (sl, .inl (gI G, 10, .inl fsl)), (pp, .inr (1, [.int (nI k), .int told, .int sp, .int (nI (sc k la)), .ref ac, .ref ak])), (ac, .inl (gI G, 6, .inl fc)), (ak, .inl (gI G, 4, .inl fk)), (sr_24, .inr (2, [.ref rt_24, .ref ru_24, .int ol1_66])), (rt_24, .inl (gT G, 8, .inr (.inr (.inr (.inr ft1_67))))), (ru_24, .inl (gI G, 15625, .inl gu_24)), (t1_68, .inr (3, [.ref ta1_69, .ref tq1_70, .int (nI cq1_83), .int (nI yq1_84), .int go1_73, .int (fk j_p1), .int (nI k)])), (ta1_69, .inl (gB G, 15625, .inl fs1_85)), (tq1_70, .inl (gI G, 15625, .inl fq1_86))]) hP [6, 0, 1, 2, 7, 8, 9, 3, 4, 5, 10, 11, 12] rfl)
                  have hD := (D_subT (X' := [(h0, .inr (5, [.ref pad, .ref pp, .ref im, .ref sr_24, vtr])), (pad, .inr (0, [.ref sg, .ref sl, .int (nI pm)])), (sg, .inl (gI G, 40, .inl fsg)), (sl, .inl (gI G, 10, .inl fsl)), (pp, .inr (1, [.int (nI k), .int told, .int sp, .int (nI (sc k la)), .ref ac, .ref ak])), (ac, .inl (gI G, 6, .inl fc)), (ak, .inl (gI G, 4, .inl fk)), (sr_24, .inr (2, [.ref rt_24, .ref ru_24, .int ol1_66])), (rt_24, .inl (gT G, 8, .inr (.inr (.inr (.inr ft1_67))))), (ru_24, .inl (gI G, 15625, .inl gu_24)), (t1_68, .inr (3, [.ref ta1_69, .ref tq1_70, .int (nI cq1_83), .int (nI yq1_84), .int go1_73, .int (fk j_p1), .int (nI k)])), (ta1_69, .inl (gB G, 15625, .inl fs1_85)), (tq1_70, .inl (gI G, 15625, .inl fq1_86))]) hD [6, 0, 1, 2, 7, 8, 9, 3, 4, 5, 10, 11, 12] (by decide) rfl)
                  refine W_facts (fun hg => ?_)
                  have hg : GF s.heap H (0 + 0 + (3 * k1_79)) (0 + 0 + (31257 * k1_79)) := hg
                  refine W.widen (k := 6) (n := 62514) (show 0 + 0 + (3 * k1_79) ≤ 6 by omega) (show 0 + 0 + (31257 * k1_79) ≤ 62514 by omega) ?_
                  obtain ⟨T8_87, hT8_87, hP, hD⟩ := pl2_put (X := [(h0, .inr (5, [.ref pad, .ref pp, .ref im, .ref sr_24, vtr])), (pad, .inr (0, [.ref sg, .ref sl, .int (nI pm)])), (sg, .inl (gI G, 40, .inl fsg)), (sl, .inl (gI G, 10, .inl fsl)), (pp, .inr (1, [.int (nI k), .int told, .int sp, .int (nI (sc k la)), .ref ac, .ref ak])), (ac, .inl (gI G, 6, .inl fc)), (ak, .inl (gI G, 4, .inl fk)), (sr_24, .inr (2, [.ref rt_24, .ref ru_24, .int ol1_66])), (rt_24, .inl (gT G, 8, .inr (.inr (.inr (.inr ft1_67))))), (ru_24, .inl (gI G, 15625, .inl gu_24))]) (d1 := (t1_68, ta1_69, tq1_70, nI cq1_83, nI yq1_84, go1_73, fk j_p1, nI k, fs1_85, fq1_86)) hTL rfl (Or.inr ⟨k, yq1_84, cq1_83, hk2, hk6, rfl, rfl, rfl, w80.1⟩) (P_subT hP [0, 1, 2, 3, 4, 5, 6, 7, 8, 9, 10, 11, 12] rfl) (D_subT hD [0, 1, 2, 3, 4, 5, 6, 7, 8, 9, 10, 11, 12] (by decide) rfl)
                  have hP : va_P G.1 vwCl ([(h0, .inr (5, [.ref pad, .ref pp, .ref im, .ref sr_24, vtr])), (pad, .inr (0, [.ref sg, .ref sl, .int (nI pm)])), (sg, .inl (gI G, 40, .inl fsg)), (sl, .inl (gI G, 10, .inl fsl)), (pp, .inr (1, [.int (nI k), .int told, .int sp, .int (nI (sc k la)), .ref ac, .ref ak])), (ac, .inl (gI G, 6, .inl fc)), (ak, .inl (gI G, 4, .inl fk)), (sr_24, .inr (2, [.ref rt_24, .ref ru_24, .int ol1_66])), (rt_24, .inl (gT G, 8, .inr (.inr (.inr (.inr ft1_67))))), (ru_24, .inl (gI G, 15625, .inl gu_24))] ++ T8_87) H := hP
                  have hD : va_D A ([(h0, .inr (5, [.ref pad, .ref pp, .ref im, .ref sr_24, vtr])), (pad, .inr (0, [.ref sg, .ref sl, .int (nI pm)])), (sg, .inl (gI G, 40, .inl fsg)), (sl, .inl (gI G, 10, .inl fsl)), (pp, .inr (1, [.int (nI k), .int told, .int sp, .int (nI (sc k la)), .ref ac, .ref ak])), (ac, .inl (gI G, 6, .inl fc)), (ak, .inl (gI G, 4, .inl fk)), (sr_24, .inr (2, [.ref rt_24, .ref ru_24, .int ol1_66])), (rt_24, .inl (gT G, 8, .inr (.inr (.inr (.inr ft1_67))))), (ru_24, .inl (gI G, 15625, .inl gu_24))] ++ T8_87) := hD
                  have hP : va_P G.1 vwCl ([(h0, .inr (5, [.ref pad, .ref pp, .ref im, .ref sr_24, vtr])), (pad, .inr (0, [.ref sg, .ref sl, .int (nI pm)])), (sg, .inl (gI G, 40, .inl fsg)), (sl, .inl (gI G, 10, .inl fsl)), (pp, .inr (1, [.int (nI k), .int told, .int sp, .int (nI (sc k la)), .ref ac, .ref ak])), (ac, .inl (gI G, 6, .inl fc)), (ak, .inl (gI G, 4, .inl fk))] ++ ([(sr_24, .inr (2, [.ref rt_24, .ref ru_24, .int ol1_66])), (rt_24, .inl (gT G, 8, .inr (.inr (.inr (.inr ft1_67))))), (ru_24, .inl (gI G, 15625, .inl gu_24))] ++ T8_87)) H := (P_subT (X' := [(h0, .inr (5, [.ref pad, .ref pp, .ref im, .ref sr_24, vtr])), (pad, .inr (0, [.ref sg, .ref sl, .int (nI pm)])), (sg, .inl (gI G, 40, .inl fsg)), (sl, .inl (gI G, 10, .inl fsl)), (pp, .inr (1, [.int (nI k), .int told, .int sp, .int (nI (sc k la)), .ref ac, .ref ak])), (ac, .inl (gI G, 6, .inl fc)), (ak, .inl (gI G, 4, .inl fk)), (sr_24, .inr (2, [.ref rt_24, .ref ru_24, .int ol1_66])), (rt_24, .inl (gT G, 8, .inr (.inr (.inr (.inr ft1_67))))), (ru_24, .inl (gI G, 15625, .inl gu_24))]) hP [0, 1, 2, 3, 4, 5, 6, 7, 8, 9] rfl)
                  have hD : va_D A ([(h0, .inr (5, [.ref pad, .ref pp, .ref im, .ref sr_24, vtr])), (pad, .inr (0, [.ref sg, .ref sl, .int (nI pm)])), (sg, .inl (gI G, 40, .inl fsg)), (sl, .inl (gI G, 10, .inl fsl)), (pp, .inr (1, [.int (nI k), .int told, .int sp, .int (nI (sc k la)), .ref ac, .ref ak])), (ac, .inl (gI G, 6, .inl fc)), (ak, .inl (gI G, 4, .inl fk))] ++ ([(sr_24, .inr (2, [.ref rt_24, .ref ru_24, .int ol1_66])), (rt_24, .inl (gT G, 8, .inr (.inr (.inr (.inr ft1_67))))), (ru_24, .inl (gI G, 15625, .inl gu_24))] ++ T8_87)) := (D_subT (X' := [(h0, .inr (5, [.ref pad, .ref pp, .ref im, .ref sr_24, vtr])), (pad, .inr (0, [.ref sg, .ref sl, .int (nI pm)])), (sg, .inl (gI G, 40, .inl fsg)), (sl, .inl (gI G, 10, .inl fsl)), (pp, .inr (1, [.int (nI k), .int told, .int sp, .int (nI (sc k la)), .ref ac, .ref ak])), (ac, .inl (gI G, 6, .inl fc)), (ak, .inl (gI G, 4, .inl fk)), (sr_24, .inr (2, [.ref rt_24, .ref ru_24, .int ol1_66])), (rt_24, .inl (gT G, 8, .inr (.inr (.inr (.inr ft1_67))))), (ru_24, .inl (gI G, 15625, .inl gu_24))]) hD [0, 1, 2, 3, 4, 5, 6, 7, 8, 9] (by decide) rfl)
                  have hP9 := (P_subT (X' := [(h0, .inr (5, [.ref pad, .ref pp, .ref im, .ref sr_24, vtr])), (pad, .inr (0, [.ref sg, .ref sl, .int (nI pm)])), (sg, .inl (gI G, 40, .inl fsg)), (sl, .inl (gI G, 10, .inl fsl)), (pp, .inr (1, [.int (nI k), .int told, .int sp, .int (nI (sc k la)), .ref ac, .ref ak])), (ac, .inl (gI G, 6, .inl fc)), (ak, .inl (gI G, 4, .inl fk))]) hP [0, 1, 2, 3, 4, 5, 6] rfl)
                  have hD9 := (D_subT (X' := [(h0, .inr (5, [.ref pad, .ref pp, .ref im, .ref sr_24, vtr])), (pad, .inr (0, [.ref sg, .ref sl, .int (nI pm)])), (sg, .inl (gI G, 40, .inl fsg)), (sl, .inl (gI G, 10, .inl fsl)), (pp, .inr (1, [.int (nI k), .int told, .int sp, .int (nI (sc k la)), .ref ac, .ref ak])), (ac, .inl (gI G, 6, .inl fc)), (ak, .inl (gI G, 4, .inl fk))]) hD [0, 1, 2, 3, 4, 5, 6] (by decide) rfl)
                  exact W.iret (v := r81) hx hb hr (fun t9_ ht9_ hW9_ => ⟨⟨r81, ((.ref sr_24), ([(sr_24, .inr (2, [.ref rt_24, .ref ru_24, .int ol1_66])), (rt_24, .inl (gT G, 8, .inr (.inr (.inr (.inr ft1_67))))), (ru_24, .inl (gI G, 15625, .inl gu_24))] ++ T8_87), k1_79), rfl, ⟨(Or.inr ⟨sr_24, rt_24, ru_24, ol1_66, ft1_67, gu_24, T8_87, rfl, hT8_87, rfl, by omega⟩), wsP_5 hj_p0 ej_p0 hj_p1 ej_p1 hrd htd0 hf6 (fun x9 h9 => by rw [hgq]; exact hgs9 x9 h9) w80.2⟩, by rw [ht9_]; exact hP9, hD9, by rw [ht9_]; exact (show GF s.heap H (3 * k1_79) (31257 * k1_79) from hg.wide (by omega) (by omega))⟩, hS.F ht9_⟩) hS.2.2 dX9_wished_136
              · refine lv_bipush (v := (-6)) hx hb dX9_wished_96 (by decide) ?_
                refine W_facts (fun hg => ?_)
                have hg : GF s.heap H (0) (0) := hg
                refine W.widen (k := 6) (n := 62514) (show 0 ≤ 6 by omega) (show 0 ≤ 62514 by omega) ?_
                have hP9 := (P_subT (X' := [(h0, .inr (5, [.ref pad, .ref pp, .ref im, vse, vtr])), (pad, .inr (0, [.ref sg, .ref sl, .int (nI pm)])), (sg, .inl (gI G, 40, .inl fsg)), (sl, .inl (gI G, 10, .inl fsl)), (pp, .inr (1, [.int (nI k), .int told, .int sp, .int (nI (sc k la)), .ref ac, .ref ak])), (ac, .inl (gI G, 6, .inl fc)), (ak, .inl (gI G, 4, .inl fk))]) hP [0, 1, 2, 3, 4, 5, 6] rfl)
                have hD9 := (D_subT (X' := [(h0, .inr (5, [.ref pad, .ref pp, .ref im, vse, vtr])), (pad, .inr (0, [.ref sg, .ref sl, .int (nI pm)])), (sg, .inl (gI G, 40, .inl fsg)), (sl, .inl (gI G, 10, .inl fsl)), (pp, .inr (1, [.int (nI k), .int told, .int sp, .int (nI (sc k la)), .ref ac, .ref ak])), (ac, .inl (gI G, 6, .inl fc)), (ak, .inl (gI G, 4, .inl fk))]) hD [0, 1, 2, 3, 4, 5, 6] (by decide) rfl)
                exact W.iret (v := (-6)) hx hb hr (fun t9_ ht9_ hW9_ => ⟨⟨(-6), (vse, T, 0), rfl, ⟨hSR, wsP_5 hj_p0 ej_p0 hj_p1 ej_p1 hrd htd0 hf6 (fun x9 h9 => Iff.rfl) (rwA_no (w21.elim (fun q9 => q9.2) (fun q9 => absurd c23 q9.1)))⟩, by rw [ht9_]; exact hP9, hD9, by rw [ht9_]; exact (show GF s.heap H (3 * 0) (31257 * 0) from hg.wide (by omega) (by omega))⟩, hS.F ht9_⟩) hS.2.2 dX9_wished_98
            · refine lv_bipush (v := (-5)) hx hb dX9_wished_67 (by decide) ?_
              refine W_facts (fun hg => ?_)
              have hg : GF s.heap H (0) (0) := hg
              refine W.widen (k := 6) (n := 62514) (show 0 ≤ 6 by omega) (show 0 ≤ 62514 by omega) ?_
              have hP9 := (P_subT (X' := [(h0, .inr (5, [.ref pad, .ref pp, .ref im, vse, vtr])), (pad, .inr (0, [.ref sg, .ref sl, .int (nI pm)])), (sg, .inl (gI G, 40, .inl fsg)), (sl, .inl (gI G, 10, .inl fsl)), (pp, .inr (1, [.int (nI k), .int told, .int sp, .int (nI (sc k la)), .ref ac, .ref ak])), (ac, .inl (gI G, 6, .inl fc)), (ak, .inl (gI G, 4, .inl fk))]) hP [0, 1, 2, 3, 4, 5, 6] rfl)
              have hD9 := (D_subT (X' := [(h0, .inr (5, [.ref pad, .ref pp, .ref im, vse, vtr])), (pad, .inr (0, [.ref sg, .ref sl, .int (nI pm)])), (sg, .inl (gI G, 40, .inl fsg)), (sl, .inl (gI G, 10, .inl fsl)), (pp, .inr (1, [.int (nI k), .int told, .int sp, .int (nI (sc k la)), .ref ac, .ref ak])), (ac, .inl (gI G, 6, .inl fc)), (ak, .inl (gI G, 4, .inl fk))]) hD [0, 1, 2, 3, 4, 5, 6] (by decide) rfl)
              exact W.iret (v := (-5)) hx hb hr (fun t9_ ht9_ hW9_ => ⟨⟨(-5), (vse, T, 0), rfl, ⟨hSR, Or.inr ⟨⟨b3, b7⟩, Or.inr ⟨hrd, Or.inr ⟨htd0, Or.inl ⟨fun q9 => c18 (hfw.trans q9), rfl⟩⟩⟩⟩⟩, by rw [ht9_]; exact hP9, hD9, by rw [ht9_]; exact (show GF s.heap H (3 * 0) (31257 * 0) from hg.wide (by omega) (by omega))⟩, hS.F ht9_⟩) hS.2.2 dX9_wished_69
          · refine lv_if_ne (tgt := 47) hx hb dX9_wished_41 (by decide) (fun c88 => False.elim (by revert c88; decide)) (fun _ => ?_)
            refine lv_bipush (v := (-3)) hx hb dX9_wished_44 (by decide) ?_
            refine W_facts (fun hg => ?_)
            have hg : GF s.heap H (0) (0) := hg
            refine W.widen (k := 6) (n := 62514) (show 0 ≤ 6 by omega) (show 0 ≤ 62514 by omega) ?_
            have hP9 := (P_subT (X' := [(h0, .inr (5, [.ref pad, .ref pp, .ref im, vse, vtr])), (pad, .inr (0, [.ref sg, .ref sl, .int (nI pm)])), (sg, .inl (gI G, 40, .inl fsg)), (sl, .inl (gI G, 10, .inl fsl)), (pp, .inr (1, [.int (nI k), .int told, .int sp, .int (nI (sc k la)), .ref ac, .ref ak])), (ac, .inl (gI G, 6, .inl fc)), (ak, .inl (gI G, 4, .inl fk))]) hP [0, 1, 2, 3, 4, 5, 6] rfl)
            have hD9 := (D_subT (X' := [(h0, .inr (5, [.ref pad, .ref pp, .ref im, vse, vtr])), (pad, .inr (0, [.ref sg, .ref sl, .int (nI pm)])), (sg, .inl (gI G, 40, .inl fsg)), (sl, .inl (gI G, 10, .inl fsl)), (pp, .inr (1, [.int (nI k), .int told, .int sp, .int (nI (sc k la)), .ref ac, .ref ak])), (ac, .inl (gI G, 6, .inl fc)), (ak, .inl (gI G, 4, .inl fk))]) hD [0, 1, 2, 3, 4, 5, 6] (by decide) rfl)
            exact W.iret (v := (-3)) hx hb hr (fun t9_ ht9_ hW9_ => ⟨⟨(-3), (vse, T, 0), rfl, ⟨hSR, Or.inr ⟨⟨b3, b7⟩, Or.inr ⟨hrd, Or.inl ⟨fun q9 => b14 ⟨b3, q9⟩, rfl⟩⟩⟩⟩, by rw [ht9_]; exact hP9, hD9, by rw [ht9_]; exact (show GF s.heap H (3 * 0) (31257 * 0) from hg.wide (by omega) (by omega))⟩, hS.F ht9_⟩) hS.2.2 dX9_wished_46
        · refine lv_bipush (v := (-2)) hx hb dX9_wished_33 (by decide) ?_
          refine W_facts (fun hg => ?_)
          have hg : GF s.heap H (0) (0) := hg
          refine W.widen (k := 6) (n := 62514) (show 0 ≤ 6 by omega) (show 0 ≤ 62514 by omega) ?_
          have hP9 := (P_subT (X' := [(h0, .inr (5, [.ref pad, .ref pp, .ref im, vse, vtr])), (pad, .inr (0, [.ref sg, .ref sl, .int (nI pm)])), (sg, .inl (gI G, 40, .inl fsg)), (sl, .inl (gI G, 10, .inl fsl)), (pp, .inr (1, [.int (nI k), .int told, .int sp, .int (nI (sc k la)), .ref ac, .ref ak])), (ac, .inl (gI G, 6, .inl fc)), (ak, .inl (gI G, 4, .inl fk))]) hP [0, 1, 2, 3, 4, 5, 6] rfl)
          have hD9 := (D_subT (X' := [(h0, .inr (5, [.ref pad, .ref pp, .ref im, vse, vtr])), (pad, .inr (0, [.ref sg, .ref sl, .int (nI pm)])), (sg, .inl (gI G, 40, .inl fsg)), (sl, .inl (gI G, 10, .inl fsl)), (pp, .inr (1, [.int (nI k), .int told, .int sp, .int (nI (sc k la)), .ref ac, .ref ak])), (ac, .inl (gI G, 6, .inl fc)), (ak, .inl (gI G, 4, .inl fk))]) hD [0, 1, 2, 3, 4, 5, 6] (by decide) rfl)
          exact W.iret (v := (-2)) hx hb hr (fun t9_ ht9_ hW9_ => ⟨⟨(-2), (vse, T, 0), rfl, ⟨hSR, Or.inr ⟨⟨b3, b7⟩, Or.inl ⟨rd_b hk6 (by have q9 := c11; rw [ex10, shl_k k (by omega)] at q9; exact q9), rfl⟩⟩⟩, by rw [ht9_]; exact hP9, hD9, by rw [ht9_]; exact (show GF s.heap H (3 * 0) (31257 * 0) from hg.wide (by omega) (by omega))⟩, hS.F ht9_⟩) hS.2.2 dX9_wished_35
    · refine lv_if_ne (tgt := 16) hx hb dX9_wished_11 (by decide) (fun c89 => False.elim (by revert c89; decide)) (fun _ => ?_)
      refine lv_iconst (v := (-1)) hx hb dX9_wished_14 (by decide) ?_
      refine W_facts (fun hg => ?_)
      have hg : GF s.heap H (0) (0) := hg
      refine W.widen (k := 6) (n := 62514) (show 0 ≤ 6 by omega) (show 0 ≤ 62514 by omega) ?_
      have hP9 := (P_subT (X' := [(h0, .inr (5, [.ref pad, .ref pp, .ref im, vse, vtr])), (pad, .inr (0, [.ref sg, .ref sl, .int (nI pm)])), (sg, .inl (gI G, 40, .inl fsg)), (sl, .inl (gI G, 10, .inl fsl)), (pp, .inr (1, [.int (nI k), .int told, .int sp, .int (nI (sc k la)), .ref ac, .ref ak])), (ac, .inl (gI G, 6, .inl fc)), (ak, .inl (gI G, 4, .inl fk))]) hP [0, 1, 2, 3, 4, 5, 6] rfl)
      have hD9 := (D_subT (X' := [(h0, .inr (5, [.ref pad, .ref pp, .ref im, vse, vtr])), (pad, .inr (0, [.ref sg, .ref sl, .int (nI pm)])), (sg, .inl (gI G, 40, .inl fsg)), (sl, .inl (gI G, 10, .inl fsl)), (pp, .inr (1, [.int (nI k), .int told, .int sp, .int (nI (sc k la)), .ref ac, .ref ak])), (ac, .inl (gI G, 6, .inl fc)), (ak, .inl (gI G, 4, .inl fk))]) hD [0, 1, 2, 3, 4, 5, 6] (by decide) rfl)
      exact W.iret (v := (-1)) hx hb hr (fun t9_ ht9_ hW9_ => ⟨⟨(-1), (vse, T, 0), rfl, ⟨hSR, Or.inl ⟨fun q9 => b7 q9.2, rfl⟩⟩, by rw [ht9_]; exact hP9, hD9, by rw [ht9_]; exact (show GF s.heap H (3 * 0) (31257 * 0) from hg.wide (by omega) (by omega))⟩, hS.F ht9_⟩) hS.2.2 dX9_wished_15
  · refine lv_if_eq (tgt := 14) hx hb dX9_wished_4 (by decide) (fun _ => ?_) (fun c90 => False.elim (by revert c90; decide))
    refine lv_iconst (v := (-1)) hx hb dX9_wished_14 (by decide) ?_
    refine W_facts (fun hg => ?_)
    have hg : GF s.heap H (0) (0) := hg
    refine W.widen (k := 6) (n := 62514) (show 0 ≤ 6 by omega) (show 0 ≤ 62514 by omega) ?_
    have hP9 := (P_subT (X' := [(h0, .inr (5, [.ref pad, .ref pp, .ref im, vse, vtr])), (pad, .inr (0, [.ref sg, .ref sl, .int (nI pm)])), (sg, .inl (gI G, 40, .inl fsg)), (sl, .inl (gI G, 10, .inl fsl)), (pp, .inr (1, [.int (nI k), .int told, .int sp, .int (nI (sc k la)), .ref ac, .ref ak])), (ac, .inl (gI G, 6, .inl fc)), (ak, .inl (gI G, 4, .inl fk))]) hP [0, 1, 2, 3, 4, 5, 6] rfl)
    have hD9 := (D_subT (X' := [(h0, .inr (5, [.ref pad, .ref pp, .ref im, vse, vtr])), (pad, .inr (0, [.ref sg, .ref sl, .int (nI pm)])), (sg, .inl (gI G, 40, .inl fsg)), (sl, .inl (gI G, 10, .inl fsl)), (pp, .inr (1, [.int (nI k), .int told, .int sp, .int (nI (sc k la)), .ref ac, .ref ak])), (ac, .inl (gI G, 6, .inl fc)), (ak, .inl (gI G, 4, .inl fk))]) hD [0, 1, 2, 3, 4, 5, 6] (by decide) rfl)
    exact W.iret (v := (-1)) hx hb hr (fun t9_ ht9_ hW9_ => ⟨⟨(-1), (vse, T, 0), rfl, ⟨hSR, Or.inl ⟨fun q9 => b3 q9.1, rfl⟩⟩, by rw [ht9_]; exact hP9, hD9, by rw [ht9_]; exact (show GF s.heap H (3 * 0) (31257 * 0) from hg.wide (by omega) (by omega))⟩, hS.F ht9_⟩) hS.2.2 dX9_wished_15
