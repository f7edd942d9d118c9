theorem n_isOf (l : Launch) (G : Gy) (sz : Nat) (p0 : Int32) (p1 : Int32)  : Ci l G yX9_isOf wsX9_isOf ({ frames := 1, cells := 0, slots := 0, locals := 20 }) [.int p0, .int p1] ([]) sz (fun (r : Int32) (_ : Unit) => (r = 1 ∧ (inR p1 0 5 ∧ tdP p0 p1)) ∨ (r = 0 ∧ ¬ (inR p1 0 5 ∧ tdP p0 p1))) (fun (_ : Unit) => []) 0 0 := by
  have h := c_isOf l G sz p0 p1
  rw [isOfP_td] at h
  exact h

set_option maxHeartbeats 1000000 in
set_option maxRecDepth 100000 in
theorem n_bitCount (l : Launch) (G : Gy) (sz : Nat) (p0 : Int32)  : Ci l G yJ6_bitCount_0f7a4 wsJ6_bitCount_0f7a4 ({ frames := 0, cells := 0, slots := 0, locals := 0 }) [.int p0] ([]) sz (fun (r : Int32) (_ : Unit) => r = bcE p0) (fun (_ : Unit) => []) 0 0 := by
  refine Met.ofW (cc := cJ6_bitCount_0f7a4) (maxL := 1) (ret := (some .int)) (by decide) rfl ?_
  intro p e s m args below meth c s₁ B hml hv
  obtain ⟨rfl, hsz, hP, hD0, E0⟩ := hv
  have hx := B.exec
  have hb := B.bytes
  have hr := B.returns
  have hts := atoms_spec (ws := wsJ6_bitCount_0f7a4) B.pre
  have hown : s.vm.findClass RJ6 = some m.cls := findClass_of_methodNamed B.named
  have hlocks := B.notSynchronized
  subst hsz
  have hD := hD0.self (sz := s.heap.size)
  generalize hAe : va_A ([]) s.heap.size = A at hD E0 ⊢
  have E : EV G A s s.heap := E0
  have hA : ∀ q : Nat, s.heap.size ≤ q → A q := fun q h => by rw [← hAe]; exact Or.inr h
  have hS : va_S A s.heap s.heap [] := va_S.rf
  have hl := lv_entry ([.int p0]) (n := 1) (Nat.le_of_ble_eq_true rfl)
  rw [lg_entry_eq]
  generalize (lg_sl ([.int p0]) ++ List.replicate (1 - (lg_sl ([.int p0])).length) Slot.unset).toArray = ls at hl ⊢
  have hl : lv_has ls 1 [(0, .int p0)] := hl
  have hP : va_P G.1 vwCl ([]) s.heap := hP
  refine lv_iload_n hx hb dJ6_bitCount_0f7a4_0 rfl (lv_at hl 0 rfl) ?_
  refine lv_iload_n hx hb dJ6_bitCount_0f7a4_1 rfl (lv_at hl 0 rfl) ?_
  refine lv_iconst (v := 1) hx hb dJ6_bitCount_0f7a4_2 (by decide) ?_
  refine lv_iushr hx hb dJ6_bitCount_0f7a4_3 rfl ?_
  refine lv_topi (fun x1 ex1 => ?_)
  refine lv_ldcw (v := 1431655765) hx hb hown (hts (.constant RJ6 265 (1431655765)) (by decide +kernel)) dJ6_bitCount_0f7a4_4 ?_
  refine lv_iand hx hb dJ6_bitCount_0f7a4_7 ?_
  refine lv_topi (fun x2 ex2 => ?_)
  refine lv_isub hx hb dJ6_bitCount_0f7a4_8 ?_
  refine lv_topi (fun x3 ex3 => ?_)
  refine lv_istore_n (lv' := [(0, .int x3)]) hx hb dJ6_bitCount_0f7a4_9 rfl hl (by decide) rfl (fun ls hl => ?_)
  refine lv_iload_n hx hb dJ6_bitCount_0f7a4_10 rfl (lv_at hl 0 rfl) ?_
  refine lv_ldcw (v := 858993459) hx hb hown (hts (.constant RJ6 266 (858993459)) (by decide +kernel)) dJ6_bitCount_0f7a4_11 ?_
  refine lv_iand hx hb dJ6_bitCount_0f7a4_14 ?_
  refine lv_topi (fun x4 ex4 => ?_)
  refine lv_iload_n hx hb dJ6_bitCount_0f7a4_15 rfl (lv_at hl 0 rfl) ?_
  refine lv_iconst (v := 2) hx hb dJ6_bitCount_0f7a4_16 (by decide) ?_
  refine lv_iushr hx hb dJ6_bitCount_0f7a4_17 rfl ?_
  refine lv_topi (fun x5 ex5 => ?_)
  refine lv_ldcw (v := 858993459) hx hb hown (hts (.constant RJ6 266 (858993459)) (by decide +kernel)) dJ6_bitCount_0f7a4_18 ?_
  refine lv_iand hx hb dJ6_bitCount_0f7a4_21 ?_
  refine lv_topi (fun x6 ex6 => ?_)
  refine lv_iadd hx hb dJ6_bitCount_0f7a4_22 ?_
  refine lv_topi (fun x7 ex7 => ?_)
  refine lv_istore_n (lv' := [(0, .int x7)]) hx hb dJ6_bitCount_0f7a4_23 rfl hl (by decide) rfl (fun ls hl => ?_)
  refine lv_iload_n hx hb dJ6_bitCount_0f7a4_24 rfl (lv_at hl 0 rfl) ?_
  refine lv_iload_n hx hb dJ6_bitCount_0f7a4_25 rfl (lv_at hl 0 rfl) ?_
  refine lv_iconst (v := 4) hx hb dJ6_bitCount_0f7a4_26 (by decide) ?_
  refine lv_iushr hx hb dJ6_bitCount_0f7a4_27 rfl ?_
  refine lv_topi (fun x8 ex8 => ?_)
  refine lv_iadd hx hb dJ6_bitCount_0f7a4_28 ?_
  refine lv_topi (fun x9 ex9 => ?_)
  refine lv_ldcw (v := 252645135) hx hb hown (hts (.constant RJ6 267 (252645135)) (by decide +kernel)) dJ6_bitCount_0f7a4_29 ?_
  refine lv_iand hx hb dJ6_bitCount_0f7a4_32 ?_
  refine lv_topi (fun x10 ex10 => ?_)
  refine lv_istore_n (lv' := [(0, .int x10)]) hx hb dJ6_bitCount_0f7a4_33 rfl hl (by decide) rfl (fun ls hl => ?_)
  refine lv_iload_n hx hb dJ6_bitCount_0f7a4_34 rfl (lv_at hl 0 rfl) ?_
  refine lv_iload_n hx hb dJ6_bitCount_0f7a4_35 rfl (lv_at hl 0 rfl) ?_
  refine lv_bipush (v := 8) hx hb dJ6_bitCount_0f7a4_36 (by decide) ?_
  refine lv_iushr hx hb dJ6_bitCount_0f7a4_38 rfl ?_
  refine lv_topi (fun x11 ex11 => ?_)
  refine lv_iadd hx hb dJ6_bitCount_0f7a4_39 ?_
  refine lv_topi (fun x12 ex12 => ?_)
  refine lv_istore_n (lv' := [(0, .int x12)]) hx hb dJ6_bitCount_0f7a4_40 rfl hl (by decide) rfl (fun ls hl => ?_)
  refine lv_iload_n hx hb dJ6_bitCount_0f7a4_41 rfl (lv_at hl 0 rfl) ?_
  refine lv_iload_n hx hb dJ6_bitCount_0f7a4_42 rfl (lv_at hl 0 rfl) ?_
  refine lv_bipush (v := 16) hx hb dJ6_bitCount_0f7a4_43 (by decide) ?_
  refine lv_iushr hx hb dJ6_bitCount_0f7a4_45 rfl ?_
  refine lv_topi (fun x13 ex13 => ?_)
  refine lv_iadd hx hb dJ6_bitCount_0f7a4_46 ?_
  refine lv_topi (fun x14 ex14 => ?_)
  refine lv_istore_n (lv' := [(0, .int x14)]) hx hb dJ6_bitCount_0f7a4_47 rfl hl (by decide) rfl (fun ls hl => ?_)
  refine lv_iload_n hx hb dJ6_bitCount_0f7a4_48 rfl (lv_at hl 0 rfl) ?_
  refine lv_bipush (v := 63) hx hb dJ6_bitCount_0f7a4_49 (by decide) ?_
  refine lv_iand hx hb dJ6_bitCount_0f7a4_51 ?_
  refine lv_topi (fun x15 ex15 => ?_)
  have hP9 := (hP.sub (ws' := []) [] rfl)
  have hD9 := (hD.sub (ws' := []) [] (by decide) rfl)
  exact W.iret (v := x15) hx hb hr (fun t9_ ht9_ hW9_ => ⟨⟨x15, (), rfl, by simp only [ex15, ex14, ex13, ex12, ex11, ex10, ex9, ex8, ex7, ex6, ex5, ex4, ex3, ex2, ex1]; rfl, by rw [ht9_]; exact hP9, hD9⟩, hS.F ht9_⟩) hS.2.2 dJ6_bitCount_0f7a4_52

set_option maxHeartbeats 1000000 in
set_option maxRecDepth 100000 in
theorem n_howMany (l : Launch) (G : Gy) (sz : Nat) (h0 : Nat) (pad : Nat) (pp : Nat) (im : Nat) (vse : Value) (vtr : Value) (ac : Nat) (ak : Nat) (k : Nat) (j : Nat) (told : Int32) (sp : Int32) (gr : Int32) (fc : Nat → Int32) (fk : Nat → Int32) (ma : Nat → Nat) (g : Nat) (p0 : Int32) (hk6 : k ≤ 6) (hcr : CR k told fc ma) (hset : ∀ i : Nat, i < 6 → tdP p0 (nI i) → tdP told (nI i)) (hj : j < k) (hg : g < 5) : Ci l G yX9_howMany wsX9_howMany ({ frames := 2, cells := 0, slots := 0, locals := 42 }) [.ref h0, .int p0, .int (nI j), .int (nI g)] ([(h0, .inr (5, [.ref pad, .ref pp, .ref im, vse, vtr])), (pp, .inr (1, [.int (nI k), .int told, .int sp, .int gr, .ref ac, .ref ak])), (ac, .inl (gI G, 6, .inl fc)), (ak, .inl (gI G, 4, .inl fk))]) sz (fun (r : Int32) (_ : Unit) => r = nI (hmN k p0 ma j g 6)) (fun (_ : Unit) => [(h0, .inr (5, [.ref pad, .ref pp, .ref im, vse, vtr])), (pp, .inr (1, [.int (nI k), .int told, .int sp, .int gr, .ref ac, .ref ak])), (ac, .inl (gI G, 6, .inl fc)), (ak, .inl (gI G, 4, .inl fk))]) 0 0 := by
  refine Met.ofW (cc := cX9_howMany) (maxL := 6) (ret := (some .int)) (by decide) rfl ?_
  intro p e s m args below meth c s₁ B hml hv
  obtain ⟨rfl, hsz, hP, hD0, E0⟩ := hv
  have hx := B.exec
  have hb := B.bytes
  have hr := B.returns
  have hts := atoms_spec (ws := wsX9_howMany) B.pre
  have hown : s.vm.findClass RX9 = some m.cls := findClass_of_methodNamed B.named
  have hlocks := B.notSynchronized
  subst hsz
  have hD := hD0.self (sz := s.heap.size)
  generalize hAe : va_A ([(h0, .inr (5, [.ref pad, .ref pp, .ref im, vse, vtr])), (pp, .inr (1, [.int (nI k), .int told, .int sp, .int gr, .ref ac, .ref ak])), (ac, .inl (gI G, 6, .inl fc)), (ak, .inl (gI G, 4, .inl fk))]) s.heap.size = A at hD E0 ⊢
  have E : EV G A s s.heap := E0
  have hA : ∀ q : Nat, s.heap.size ≤ q → A q := fun q h => by rw [← hAe]; exact Or.inr h
  have hS : va_S A s.heap s.heap [] := va_S.rf
  have hl := lv_entry ([.ref h0, .int p0, .int (nI j), .int (nI g)]) (n := 6) (Nat.le_of_ble_eq_true rfl)
  rw [lg_entry_eq]
  generalize (lg_sl ([.ref h0, .int p0, .int (nI j), .int (nI g)]) ++ List.replicate (6 - (lg_sl ([.ref h0, .int p0, .int (nI j), .int (nI g)])).length) Slot.unset).toArray = ls at hl ⊢
  have hl : lv_has ls 6 [(0, .ref h0), (1, .int p0), (2, .int (nI j)), (3, .int (nI g))] := hl
  have hP : va_P G.1 vwCl ([(h0, .inr (5, [.ref pad, .ref pp, .ref im, vse, vtr])), (pp, .inr (1, [.int (nI k), .int told, .int sp, .int gr, .ref ac, .ref ak])), (ac, .inl (gI G, 6, .inl fc)), (ak, .inl (gI G, 4, .inl fk))]) s.heap := hP
  refine lv_iconst (v := 0) hx hb dX9_howMany_0 (by decide) ?_
  refine lv_istore (lv' := [(4, .int 0), (0, .ref h0), (1, .int p0), (2, .int (nI j)), (3, .int (nI g))]) hx hb dX9_howMany_1 hl (by decide) rfl (fun ls hl => ?_)
  refine lv_iconst (v := 0) hx hb dX9_howMany_3 (by decide) ?_
  refine lv_istore (lv' := [(5, .int 0), (4, .int 0), (0, .ref h0), (1, .int p0), (2, .int (nI j)), (3, .int (nI g))]) hx hb dX9_howMany_4 hl (by decide) rfl (fun ls hl => ?_)
  refine lp_run (x0 := (0, 0)) (fun xx_ : Nat × Nat => match xx_ with | (x, u) => [(h0, .inr (5, [.ref pad, .ref pp, .ref im, vse, vtr])), (pp, .inr (1, [.int (nI k), .int told, .int sp, .int gr, .ref ac, .ref ak])), (ac, .inl (gI G, 6, .inl fc)), (ak, .inl (gI G, 4, .inl fk))]) (fun xx_ : Nat × Nat => match xx_ with | (x, u) => [(5, .int (nI x)), (4, .int (nI u)), (0, .ref h0), (1, .int p0), (2, .int (nI j)), (3, .int (nI g))]) (fun xx_ : Nat × Nat => match xx_ with | (x, u) => (x ≤ 6) ∧ (u = hmN k p0 ma j g x) ∧ (u ≤ x)) (fun xx_ : Nat × Nat => match xx_ with | (x, u) => 6 - x) (hP.sub [0, 1, 2, 3] rfl) (hD.sub [0, 1, 2, 3] (by decide) rfl) hS (lv_sub hl [0, 1, 2, 3, 4, 5] rfl) ⟨(by omega), rfl, by omega⟩ ?_
  intro xx_ hI ih6 H locs ls hP hD hS hl
  obtain ⟨x, u⟩ := xx_
  dsimp only at hI ih6 hP hD hl
  obtain ⟨hx0, hu, hu9⟩ := hI
  have hl : lv_has ls 6 [(5, .int (nI x)), (4, .int (nI u)), (0, .ref h0), (1, .int p0), (2, .int (nI j)), (3, .int (nI g))] := hl
  have hP : va_P G.1 vwCl ([(h0, .inr (5, [.ref pad, .ref pp, .ref im, vse, vtr])), (pp, .inr (1, [.int (nI k), .int told, .int sp, .int gr, .ref ac, .ref ak])), (ac, .inl (gI G, 6, .inl fc)), (ak, .inl (gI G, 4, .inl fk))]) H := hP
  have hD : va_D A ([(h0, .inr (5, [.ref pad, .ref pp, .ref im, vse, vtr])), (pp, .inr (1, [.int (nI k), .int told, .int sp, .int gr, .ref ac, .ref ak])), (ac, .inl (gI G, 6, .inl fc)), (ak, .inl (gI G, 4, .inl fk))]) := hD
  refine lv_iload hx hb dX9_howMany_6 (lv_at hl 0 rfl) ?_
  refine lv_bipush (v := 6) hx hb dX9_howMany_8 (by decide) ?_
  refine lv_icmp_ge (tgt := 48) hx hb dX9_howMany_10 (by decide) (fun c1 => ?_) (fun c1 => ?_)
  · have c1 : 6 ≤ x := (nI_leI (a := 6) (b := x) (by omega) (by omega)).mp c1
    refine lv_iload hx hb dX9_howMany_48 (lv_at hl 1 rfl) ?_
    have hP9 := (hP.sub (ws' := [(h0, .inr (5, [.ref pad, .ref pp, .ref im, vse, vtr])), (pp, .inr (1, [.int (nI k), .int told, .int sp, .int gr, .ref ac, .ref ak])), (ac, .inl (gI G, 6, .inl fc)), (ak, .inl (gI G, 4, .inl fk))]) [0, 1, 2, 3] rfl)
    have hD9 := (hD.sub (ws' := [(h0, .inr (5, [.ref pad, .ref pp, .ref im, vse, vtr])), (pp, .inr (1, [.int (nI k), .int told, .int sp, .int gr, .ref ac, .ref ak])), (ac, .inl (gI G, 6, .inl fc)), (ak, .inl (gI G, 4, .inl fk))]) [0, 1, 2, 3] (by decide) rfl)
    exact W.iret (v := (nI u)) hx hb hr (fun t9_ ht9_ hW9_ => ⟨⟨nI u, (), rfl, by rw [hu, show x = 6 by omega], by rw [ht9_]; exact hP9, hD9⟩, hS.F ht9_⟩) hS.2.2 dX9_howMany_50
  · have c1 : ¬ 6 ≤ x := fun h9_ => c1 ((nI_leI (a := 6) (b := x) (by omega) (by omega)).mpr h9_)
    refine lv_iload_n hx hb dX9_howMany_13 rfl (lv_at hl 3 rfl) ?_
    refine lv_iload hx hb dX9_howMany_14 (lv_at hl 0 rfl) ?_
    refine ca_iR (va_runS (As := [.int p0, .int (nI x)]) (rest := []) ⟨hx, hb, hml, hown, hts⟩ (n_isOf l G H.size p0 (nI x)) (va_cwS 2 hts gX9_howMany_X9_isOf rfl rfl rfl (by decide +kernel) ⟨by decide +kernel, by decide +kernel⟩) (pre_S E hP hD hS hA [] (by decide) rfl) rfl rfl hl.1 rfl (lv_room (Nat.le_of_ble_eq_true rfl)) dX9_howMany_16 ⟨by decide +kernel, by decide +kernel⟩) hS hP hD hA [] rfl (fun r3 _ H locs w2 hP hS => ?_)
    rcases w2 with ⟨rfl, b4⟩ | ⟨rfl, b4⟩
    · refine lv_if_eq (tgt := 42) hx hb dX9_howMany_19 (by decide) (fun c5 => False.elim (by revert c5; decide)) (fun _ => ?_)
      refine lv_aload_n hx hb dX9_howMany_22 rfl (lv_at hl 2 rfl) ?_
      refine va_get (D := G.1) (ci := 5) (v := .ref pp) (C := RX9) (T := TX9) (N := 5) hx hb hts (fun _ h => List.mem_cons_of_mem _ (List.mem_append_left _ (List.mem_append_right _ h))) hown E.K hP 0 rfl rfl 1 (by decide) (hts (.fieldLink RX9 19 "LastMap" "papers" "LLastMap$Papers;") (by decide +kernel)) (fun _ h9 => h9) rfl dX9_howMany_23 ?_
      refine lv_iload hx hb dX9_howMany_26 (lv_at hl 0 rfl) ?_
      refine ca_iR (va_runV (As := [.int (nI x)]) (rest := []) ⟨hx, hb, hml, hown, hts⟩ (n_codeOf l G H.size pp ac ak (nI k) told sp gr fc fk x (by omega)) (cwV 1 hts gX9_howMany_X3_codeOf rfl rfl rfl (by decide +kernel) ⟨by decide +kernel, by decide +kernel⟩) (pre_V E hP hD hS hA [1, 2, 3] (by decide) rfl 1 1 rfl rfl) rfl rfl hl.1 rfl (lv_room (Nat.le_of_ble_eq_true rfl)) dX9_howMany_28 ⟨by decide +kernel, by decide +kernel⟩) hS hP hD hA [1, 2, 3] rfl (fun r7 _ H locs w6 hP hS => ?_)
      have hcx := hcr x (by omega) (hset x (by omega) b4.2)
      have hc6 := sc_lt hk6 hcx.1
      obtain rfl : r7 = nI (sc k (ma x)) := by rw [w6]; exact hcx.2
      refine lv_iload_n hx hb dX9_howMany_31 rfl (lv_at hl 4 rfl) ?_
      refine ca_iR (va_runS (As := [.int (nI (sc k (ma x))), .int (nI j)]) (rest := []) ⟨hx, hb, hml, hown, hts⟩ (n_signAt l G H.size (sc k (ma x)) j hc6 (by omega)) (va_cwS 2 hts gX9_howMany_X1_signAt rfl rfl rfl (by decide +kernel) ⟨by decide +kernel, by decide +kernel⟩) (pre_S E hP hD hS hA [] (by decide) rfl) rfl rfl hl.1 rfl (lv_room (Nat.le_of_ble_eq_true rfl)) dX9_howMany_32 ⟨by decide +kernel, by decide +kernel⟩) hS hP hD hA [] rfl (fun r9 _ H locs w8 hP hS => ?_)
      rw [w8]
      have hdg9 : (dg 6 (sc k (ma x)) j) < 5 := dg_lt _ _ _
      refine lv_iload_n hx hb dX9_howMany_35 rfl (lv_at hl 5 rfl) ?_
      refine lv_icmp_ne (tgt := 42) hx hb dX9_howMany_36 (by decide) (fun c10 => ?_) (fun c10 => ?_)
      · have c10 : ¬ (dg 6 (sc k (ma x)) j) = g := fun h9_ => c10 ((nI_eq (a := (dg 6 (sc k (ma x)) j)) (b := g) (by omega) (by omega)).mpr h9_)
        obtain ⟨x11, ex11⟩ : ∃ yy_ : Int32, yy_ = (nI x) + 1 := ⟨_, rfl⟩
        refine lv_iinc (v := x11) (lv' := [(5, .int x11), (4, .int (nI u)), (0, .ref h0), (1, .int p0), (2, .int (nI j)), (3, .int (nI g))]) hx hb dX9_howMany_42 hl (k := 0) rfl (by rw [ex11]; rfl) (by decide) rfl (fun ls hl => ?_)
        obtain rfl : x11 = nI (x + 1) := by rw [ex11]; exact nI_add x 1
        refine lv_goto (tgt := 6) hx hb dX9_howMany_45 (by decide) ?_
        refine ih6 ((x + 1), u) ⟨?_, ?_, ?_⟩ (by first | omega | (dsimp only; omega)) H locs ls (hP.sub [0, 1, 2, 3] rfl) (hD.sub [0, 1, 2, 3] (by decide) rfl) hS (lv_sub hl [0, 1, 2, 3, 4, 5] rfl)
        · try dsimp only
          omega
        · try dsimp only
          rw [hmN_f (fun q9 => c10 (by rw [dg_sc hk6 hj]; exact q9.2))]; exact hu
        · try dsimp only
          omega
      · have c10 : (dg 6 (sc k (ma x)) j) = g := (nI_eq (a := (dg 6 (sc k (ma x)) j)) (b := g) (by omega) (by omega)).mp c10
        obtain ⟨x12, ex12⟩ : ∃ yy_ : Int32, yy_ = (nI u) + 1 := ⟨_, rfl⟩
        refine lv_iinc (v := x12) (lv' := [(4, .int x12), (5, .int (nI x)), (0, .ref h0), (1, .int p0), (2, .int (nI j)), (3, .int (nI g))]) hx hb dX9_howMany_39 hl (k := 1) rfl (by rw [ex12]; rfl) (by decide) rfl (fun ls hl => ?_)
        obtain rfl : x12 = nI (u + 1) := by rw [ex12]; exact nI_add u 1
        obtain ⟨x13, ex13⟩ : ∃ yy_ : Int32, yy_ = (nI x) + 1 := ⟨_, rfl⟩
        refine lv_iinc (v := x13) (lv' := [(5, .int x13), (4, .int (nI (u + 1))), (0, .ref h0), (1, .int p0), (2, .int (nI j)), (3, .int (nI g))]) hx hb dX9_howMany_42 hl (k := 1) rfl (by rw [ex13]; rfl) (by decide) rfl (fun ls hl => ?_)
        obtain rfl : x13 = nI (x + 1) := by rw [ex13]; exact nI_add x 1
        refine lv_goto (tgt := 6) hx hb dX9_howMany_45 (by decide) ?_
        refine ih6 ((x + 1), (u + 1)) ⟨?_, ?_, ?_⟩ (by first | omega | (dsimp only; omega)) H locs ls (hP.sub [0, 1, 2, 3] rfl) (hD.sub [0, 1, 2, 3] (by decide) rfl) hS (lv_sub hl [0, 1, 2, 3, 4, 5] rfl)
        · try dsimp only
          omega
        · try dsimp only
          rw [hmN_t b4.2 (by rw [← dg_sc hk6 hj]; exact c10)]; omega
        · try dsimp only
          omega
    · refine lv_if_eq (tgt := 42) hx hb dX9_howMany_19 (by decide) (fun _ => ?_) (fun c14 => False.elim (by revert c14; decide))
      obtain ⟨x15, ex15⟩ : ∃ yy_ : Int32, yy_ = (nI x) + 1 := ⟨_, rfl⟩
      refine lv_iinc (v := x15) (lv' := [(5, .int x15), (4, .int (nI u)), (0, .ref h0), (1, .int p0), (2, .int (nI j)), (3, .int (nI g))]) hx hb dX9_howMany_42 hl (k := 0) rfl (by rw [ex15]; rfl) (by decide) rfl (fun ls hl => ?_)
      obtain rfl : x15 = nI (x + 1) := by rw [ex15]; exact nI_add x 1
      refine lv_goto (tgt := 6) hx hb dX9_howMany_45 (by decide) ?_
      refine ih6 ((x + 1), u) ⟨?_, ?_, ?_⟩ (by first | omega | (dsimp only; omega)) H locs ls (hP.sub [0, 1, 2, 3] rfl) (hD.sub [0, 1, 2, 3] (by decide) rfl) hS (lv_sub hl [0, 1, 2, 3, 4, 5] rfl)
      · try dsimp only
        omega
      · try dsimp only
        rw [hmN_f (fun q9 => b4 ⟨inR05 (by omega), q9.1⟩)]; exact hu
      · try dsimp only
        omega

set_option maxHeartbeats 1000000 in
set_option maxRecDepth 100000 in
theorem n_mostAt (l : Launch) (G : Gy) (sz : Nat) (h0 : Nat) (pad : Nat) (pp : Nat) (im : Nat) (vse : Value) (vtr : Value) (ac : Nat) (ak : Nat) (k : Nat) (j : Nat) (told : Int32) (sp : Int32) (gr : Int32) (fc : Nat → Int32) (fk : Nat → Int32) (ma : Nat → Nat) (p0 : Int32) (hk6 : k ≤ 6) (hcr : CR k told fc ma) (hset : ∀ i : Nat, i < 6 → tdP p0 (nI i) → tdP told (nI i)) (hj : j < k) : Ci l G yX9_mostAt wsX9_mostAt ({ frames := 3, cells := 0, slots := 0, locals := 67 }) [.ref h0, .int p0, .int (nI j)] ([(h0, .inr (5, [.ref pad, .ref pp, .ref im, vse, vtr])), (pp, .inr (1, [.int (nI k), .int told, .int sp, .int gr, .ref ac, .ref ak])), (ac, .inl (gI G, 6, .inl fc)), (ak, .inl (gI G, 4, .inl fk))]) sz (fun (r : Int32) (_ : Unit) => r = nI (mstA k p0 ma j)) (fun (_ : Unit) => [(h0, .inr (5, [.ref pad, .ref pp, .ref im, vse, vtr])), (pp, .inr (1, [.int (nI k), .int told, .int sp, .int gr, .ref ac, .ref ak])), (ac, .inl (gI G, 6, .inl fc)), (ak, .inl (gI G, 4, .inl fk))]) 0 0 := by
  refine Met.ofW (cc := cX9_mostAt) (maxL := 5) (ret := (some .int)) (by decide) rfl ?_
  intro p e s m args below meth c s₁ B hml hv
  obtain ⟨rfl, hsz, hP, hD0, E0⟩ := hv
  have hx := B.exec
  have hb := B.bytes
  have hr := B.returns
  have hts := atoms_spec (ws := wsX9_mostAt) B.pre
  have hown : s.vm.findClass RX9 = some m.cls := findClass_of_methodNamed B.named
  have hlocks := B.notSynchronized
  subst hsz
  have hD := hD0.self (sz := s.heap.size)
  generalize hAe : va_A ([(h0, .inr (5, [.ref pad, .ref pp, .ref im, vse, vtr])), (pp, .inr (1, [.int (nI k), .int told, .int sp, .int gr, .ref ac, .ref ak])), (ac, .inl (gI G, 6, .inl fc)), (ak, .inl (gI G, 4, .inl fk))]) s.heap.size = A at hD E0 ⊢
  have E : EV G A s s.heap := E0
  have hA : ∀ q : Nat, s.heap.size ≤ q → A q := fun q h => by rw [← hAe]; exact Or.inr h
  have hS : va_S A s.heap s.heap [] := va_S.rf
  have hl := lv_entry ([.ref h0, .int p0, .int (nI j)]) (n := 5) (Nat.le_of_ble_eq_true rfl)
  rw [lg_entry_eq]
  generalize (lg_sl ([.ref h0, .int p0, .int (nI j)]) ++ List.replicate (5 - (lg_sl ([.ref h0, .int p0, .int (nI j)])).length) Slot.unset).toArray = ls at hl ⊢
  have hl : lv_has ls 5 [(0, .ref h0), (1, .int p0), (2, .int (nI j))] := hl
  have hP : va_P G.1 vwCl ([(h0, .inr (5, [.ref pad, .ref pp, .ref im, vse, vtr])), (pp, .inr (1, [.int (nI k), .int told, .int sp, .int gr, .ref ac, .ref ak])), (ac, .inl (gI G, 6, .inl fc)), (ak, .inl (gI G, 4, .inl fk))]) s.heap := hP
  refine lv_iconst (v := 0) hx hb dX9_mostAt_0 (by decide) ?_
  refine lv_istore_n (lv' := [(3, .int 0), (0, .ref h0), (1, .int p0), (2, .int (nI j))]) hx hb dX9_mostAt_1 rfl hl (by decide) rfl (fun ls hl => ?_)
  refine lv_iconst (v := 1) hx hb dX9_mostAt_2 (by decide) ?_
  refine lv_istore (lv' := [(4, .int 1), (3, .int 0), (0, .ref h0), (1, .int p0), (2, .int (nI j))]) hx hb dX9_mostAt_3 hl (by decide) rfl (fun ls hl => ?_)
  refine lp_run (x0 := (1, 0)) (fun xx_ : Nat × Nat => match xx_ with | (x, mo) => [(h0, .inr (5, [.ref pad, .ref pp, .ref im, vse, vtr])), (pp, .inr (1, [.int (nI k), .int told, .int sp, .int gr, .ref ac, .ref ak])), (ac, .inl (gI G, 6, .inl fc)), (ak, .inl (gI G, 4, .inl fk))]) (fun xx_ : Nat × Nat => match xx_ with | (x, mo) => [(4, .int (nI x)), (3, .int (nI mo)), (0, .ref h0), (1, .int p0), (2, .int (nI j))]) (fun xx_ : Nat × Nat => match xx_ with | (x, mo) => (x ≤ 5) ∧ (1 ≤ x) ∧ (mo = mstN (fun g => hmN k p0 ma j g 6) (x - 1)) ∧ (mo < 5)) (fun xx_ : Nat × Nat => match xx_ with | (x, mo) => 5 - x) (hP.sub [0, 1, 2, 3] rfl) (hD.sub [0, 1, 2, 3] (by decide) rfl) hS (lv_sub hl [0, 1, 2, 3, 4] rfl) ⟨(by omega), by omega, by rfl, by omega⟩ ?_
  intro xx_ hI ih5 H locs ls hP hD hS hl
  obtain ⟨x, mo⟩ := xx_
  dsimp only at hI ih5 hP hD hl
  obtain ⟨hx0, hx1, hmo, hm5⟩ := hI
  have hl : lv_has ls 5 [(4, .int (nI x)), (3, .int (nI mo)), (0, .ref h0), (1, .int p0), (2, .int (nI j))] := hl
  have hP : va_P G.1 vwCl ([(h0, .inr (5, [.ref pad, .ref pp, .ref im, vse, vtr])), (pp, .inr (1, [.int (nI k), .int told, .int sp, .int gr, .ref ac, .ref ak])), (ac, .inl (gI G, 6, .inl fc)), (ak, .inl (gI G, 4, .inl fk))]) H := hP
  have hD : va_D A ([(h0, .inr (5, [.ref pad, .ref pp, .ref im, vse, vtr])), (pp, .inr (1, [.int (nI k), .int told, .int sp, .int gr, .ref ac, .ref ak])), (ac, .inl (gI G, 6, .inl fc)), (ak, .inl (gI G, 4, .inl fk))]) := hD
  refine lv_iload hx hb dX9_mostAt_5 (lv_at hl 0 rfl) ?_
  refine lv_iconst (v := 5) hx hb dX9_mostAt_7 (by decide) ?_
  refine lv_icmp_ge (tgt := 38) hx hb dX9_mostAt_8 (by decide) (fun c1 => ?_) (fun c1 => ?_)
  · have c1 : 5 ≤ x := (nI_leI (a := 5) (b := x) (by omega) (by omega)).mp c1
    refine lv_iload_n hx hb dX9_mostAt_38 rfl (lv_at hl 1 rfl) ?_
    have hP9 := (hP.sub (ws' := [(h0, .inr (5, [.ref pad, .ref pp, .ref im, vse, vtr])), (pp, .inr (1, [.int (nI k), .int told, .int sp, .int gr, .ref ac, .ref ak])), (ac, .inl (gI G, 6, .inl fc)), (ak, .inl (gI G, 4, .inl fk))]) [0, 1, 2, 3] rfl)
    have hD9 := (hD.sub (ws' := [(h0, .inr (5, [.ref pad, .ref pp, .ref im, vse, vtr])), (pp, .inr (1, [.int (nI k), .int told, .int sp, .int gr, .ref ac, .ref ak])), (ac, .inl (gI G, 6, .inl fc)), (ak, .inl (gI G, 4, .inl fk))]) [0, 1, 2, 3] (by decide) rfl)
    exact W.iret (v := (nI mo)) hx hb hr (fun t9_ ht9_ hW9_ => ⟨⟨nI mo, (), rfl, by unfold mstA; rw [hmo, show x = 5 by omega], by rw [ht9_]; exact hP9, hD9⟩, hS.F ht9_⟩) hS.2.2 dX9_mostAt_39
  · have c1 : ¬ 5 ≤ x := fun h9_ => c1 ((nI_leI (a := 5) (b := x) (by omega) (by omega)).mpr h9_)
    refine lv_aload_n hx hb dX9_mostAt_11 rfl (lv_at hl 2 rfl) ?_
    refine lv_iload_n hx hb dX9_mostAt_12 rfl (lv_at hl 3 rfl) ?_
    refine lv_iload_n hx hb dX9_mostAt_13 rfl (lv_at hl 4 rfl) ?_
    refine lv_iload hx hb dX9_mostAt_14 (lv_at hl 0 rfl) ?_
    refine ca_iR (va_runV (As := [.int p0, .int (nI j), .int (nI x)]) (rest := []) ⟨hx, hb, hml, hown, hts⟩ (n_howMany l G H.size h0 pad pp im vse vtr ac ak k j told sp gr fc fk ma x p0 hk6 hcr hset hj (by omega)) (cwV 3 hts gX9_mostAt_X9_howMany rfl rfl rfl (by decide +kernel) ⟨by decide +kernel, by decide +kernel⟩) (pre_V E hP hD hS hA [0, 1, 2, 3] (by decide) rfl 0 5 rfl rfl) rfl rfl hl.1 rfl (lv_room (Nat.le_of_ble_eq_true rfl)) dX9_mostAt_16 ⟨by decide +kernel, by decide +kernel⟩) hS hP hD hA [0, 1, 2, 3] rfl (fun r3 _ H locs w2 hP hS => ?_)
    rw [w2]
    have hb8 := hmN_le (k := k) (j := j) (g := x) (set := p0) (ma := ma) 6
    refine lv_aload_n hx hb dX9_mostAt_19 rfl (lv_at hl 2 rfl) ?_
    refine lv_iload_n hx hb dX9_mostAt_20 rfl (lv_at hl 3 rfl) ?_
    refine lv_iload_n hx hb dX9_mostAt_21 rfl (lv_at hl 4 rfl) ?_
    refine lv_iload_n hx hb dX9_mostAt_22 rfl (lv_at hl 1 rfl) ?_
    refine ca_iR (va_runV (As := [.int p0, .int (nI j), .int (nI mo)]) (rest := [.int (nI (hmN k p0 ma j x 6))]) ⟨hx, hb, hml, hown, hts⟩ (n_howMany l G H.size h0 pad pp im vse vtr ac ak k j told sp gr fc fk ma mo p0 hk6 hcr hset hj (by omega)) (cwV 3 hts gX9_mostAt_X9_howMany rfl rfl rfl (by decide +kernel) ⟨by decide +kernel, by decide +kernel⟩) (pre_V E hP hD hS hA [0, 1, 2, 3] (by decide) rfl 0 5 rfl rfl) rfl rfl hl.1 rfl (lv_room (Nat.le_of_ble_eq_true rfl)) dX9_mostAt_23 ⟨by decide +kernel, by decide +kernel⟩) hS hP hD hA [0, 1, 2, 3] rfl (fun r5 _ H locs w4 hP hS => ?_)
    rw [w4]
    have hb9 := hmN_le (k := k) (j := j) (g := mo) (set := p0) (ma := ma) 6
    refine lv_icmp_le (tgt := 32) hx hb dX9_mostAt_26 (by decide) (fun c6 => ?_) (fun c6 => ?_)
    · have c6 : (hmN k p0 ma j x 6) ≤ (hmN k p0 ma j mo 6) := (nI_leI (a := (hmN k p0 ma j x 6)) (b := (hmN k p0 ma j mo 6)) (by omega) (by omega)).mp c6
      obtain ⟨x7, ex7⟩ : ∃ yy_ : Int32, yy_ = (nI x) + 1 := ⟨_, rfl⟩
      refine lv_iinc (v := x7) (lv' := [(4, .int x7), (3, .int (nI mo)), (0, .ref h0), (1, .int p0), (2, .int (nI j))]) hx hb dX9_mostAt_32 hl (k := 0) rfl (by rw [ex7]; rfl) (by decide) rfl (fun ls hl => ?_)
      obtain rfl : x7 = nI (x + 1) := by rw [ex7]; exact nI_add x 1
      refine lv_goto (tgt := 5) hx hb dX9_mostAt_35 (by decide) ?_
      refine ih5 ((x + 1), mo) ⟨?_, ?_, ?_, ?_⟩ (by first | omega | (dsimp only; omega)) H locs ls (hP.sub [0, 1, 2, 3] rfl) (hD.sub [0, 1, 2, 3] (by decide) rfl) hS (lv_sub hl [0, 1, 2, 3, 4] rfl)
      · try dsimp only
        omega
      · try dsimp only
        omega
      · try dsimp only
        rw [show x + 1 - 1 = (x - 1) + 1 by omega, mstN_f (f := (fun g => hmN k p0 ma j g 6)) (x := x - 1) (by show ¬ hmN k p0 ma j (mstN (fun g => hmN k p0 ma j g 6) (x - 1)) 6 < hmN k p0 ma j (x - 1 + 1) 6; rw [← hmo, show x - 1 + 1 = x by omega]; omega)]; exact hmo
      · try dsimp only
        omega
    · have c6 : ¬ (hmN k p0 ma j x 6) ≤ (hmN k p0 ma j mo 6) := fun h9_ => c6 ((nI_leI (a := (hmN k p0 ma j x 6)) (b := (hmN k p0 ma j mo 6)) (by omega) (by omega)).mpr h9_)
      refine lv_iload hx hb dX9_mostAt_29 (lv_at hl 0 rfl) ?_
      refine lv_istore_n (lv' := [(3, .int (nI x)), (4, .int (nI x)), (0, .ref h0), (1, .int p0), (2, .int (nI j))]) hx hb dX9_mostAt_31 rfl hl (by decide) rfl (fun ls hl => ?_)
      obtain ⟨x8, ex8⟩ : ∃ yy_ : Int32, yy_ = (nI x) + 1 := ⟨_, rfl⟩
      refine lv_iinc (v := x8) (lv' := [(4, .int x8), (3, .int (nI x)), (0, .ref h0), (1, .int p0), (2, .int (nI j))]) hx hb dX9_mostAt_32 hl (k := 1) rfl (by rw [ex8]; rfl) (by decide) rfl (fun ls hl => ?_)
      obtain rfl : x8 = nI (x + 1) := by rw [ex8]; exact nI_add x 1
      refine lv_goto (tgt := 5) hx hb dX9_mostAt_35 (by decide) ?_
      refine ih5 ((x + 1), x) ⟨?_, ?_, ?_, ?_⟩ (by first | omega | (dsimp only; omega)) H locs ls (hP.sub [0, 1, 2, 3] rfl) (hD.sub [0, 1, 2, 3] (by decide) rfl) hS (lv_sub hl [0, 1, 2, 3, 4] rfl)
      · try dsimp only
        omega
      · try dsimp only
        omega
      · try dsimp only
        rw [show x + 1 - 1 = (x - 1) + 1 by omega, mstN_t (f := (fun g => hmN k p0 ma j g 6)) (x := x - 1) (by show hmN k p0 ma j (mstN (fun g => hmN k p0 ma j g 6) (x - 1)) 6 < hmN k p0 ma j (x - 1 + 1) 6; rw [← hmo, show x - 1 + 1 = x by omega]; omega)]; omega
      · try dsimp only
        omega

set_option maxHeartbeats 1000000 in
set_option maxRecDepth 100000 in
theorem g_holds (l : Launch) (G : Gy) (sz : Nat) (h0 : Nat) (pad : Nat) (pp : Nat) (im : Nat) (vse : Value) (vtr : Value) (ac : Nat) (ak : Nat) (sg : Nat) (sl : Nat) (k : Nat) (pm : Nat) (la : Nat) (told : Int32) (sp : Int32) (fc : Nat → Int32) (fk : Nat → Int32) (fsg : Nat → Int32) (fsl : Nat → Int32) (ma : Nat → Nat) (p0 : Int32) (p1 : Int32) (hk2 : 2 ≤ k) (hk6 : k ≤ 6) (hpm : pm ≤ 40) (hla : la < 5 ^ k) (hcr : CR k told fc ma) (hsp : inR sp 1 6) : Ci l G yX9_holds wsX9_holds ({ frames := 4, cells := 0, slots := 0, locals := 91 }) [.ref h0, .int p0, .int p1] ([(h0, .inr (5, [.ref pad, .ref pp, .ref im, vse, vtr])), (pad, .inr (0, [.ref sg, .ref sl, .int (nI pm)])), (sg, .inl (gI G, 40, .inl fsg)), (sl, .inl (gI G, 10, .inl fsl)), (pp, .inr (1, [.int (nI k), .int told, .int sp, .int (nI (sc k la)), .ref ac, .ref ak])), (ac, .inl (gI G, 6, .inl fc)), (ak, .inl (gI G, 4, .inl fk))]) sz (fun (r : Int32) (_ : Unit) => r = hoA k told ma p0 p1) (fun (_ : Unit) => [(h0, .inr (5, [.ref pad, .ref pp, .ref im, vse, vtr])), (pad, .inr (0, [.ref sg, .ref sl, .int (nI pm)])), (sg, .inl (gI G, 40, .inl fsg)), (sl, .inl (gI G, 10, .inl fsl)), (pp, .inr (1, [.int (nI k), .int told, .int sp, .int (nI (sc k la)), .ref ac, .ref ak])), (ac, .inl (gI G, 6, .inl fc)), (ak, .inl (gI G, 4, .inl fk))]) 0 0 := by
  refine Met.ofW (cc := cX9_holds) (maxL := 6) (ret := (some .int)) (by decide) rfl ?_
  intro p e s m args below meth c s₁ B hml hv
  obtain ⟨rfl, hsz, hP, hD0, E0⟩ := hv
  have hx := B.exec
  have hb := B.bytes
  have hr := B.returns
  have hts := atoms_spec (ws := wsX9_holds) B.pre
  have hown : s.vm.findClass RX9 = some m.cls := findClass_of_methodNamed B.named
  have hlocks := B.notSynchronized
  subst hsz
  have hD := hD0.self (sz := s.heap.size)
  generalize hAe : va_A ([(h0, .inr (5, [.ref pad, .ref pp, .ref im, vse, vtr])), (pad, .inr (0, [.ref sg, .ref sl, .int (nI pm)])), (sg, .inl (gI G, 40, .inl fsg)), (sl, .inl (gI G, 10, .inl fsl)), (pp, .inr (1, [.int (nI k), .int told, .int sp, .int (nI (sc k la)), .ref ac, .ref ak])), (ac, .inl (gI G, 6, .inl fc)), (ak, .inl (gI G, 4, .inl fk))]) s.heap.size = A at hD E0 ⊢
  have E : EV G A s s.heap := E0
  have hA : ∀ q : Nat, s.heap.size ≤ q → A q := fun q h => by rw [← hAe]; exact Or.inr h
  have hS : va_S A s.heap s.heap [] := va_S.rf
  have hl := lv_entry ([.ref h0, .int p0, .int p1]) (n := 6) (Nat.le_of_ble_eq_true rfl)
  rw [lg_entry_eq]
  generalize (lg_sl ([.ref h0, .int p0, .int p1]) ++ List.replicate (6 - (lg_sl ([.ref h0, .int p0, .int p1])).length) Slot.unset).toArray = ls at hl ⊢
  have hl : lv_has ls 6 [(0, .ref h0), (1, .int p0), (2, .int p1)] := hl
  have hP : va_P G.1 vwCl ([(h0, .inr (5, [.ref pad, .ref pp, .ref im, vse, vtr])), (pad, .inr (0, [.ref sg, .ref sl, .int (nI pm)])), (sg, .inl (gI G, 40, .inl fsg)), (sl, .inl (gI G, 10, .inl fsl)), (pp, .inr (1, [.int (nI k), .int told, .int sp, .int (nI (sc k la)), .ref ac, .ref ak])), (ac, .inl (gI G, 6, .inl fc)), (ak, .inl (gI G, 4, .inl fk))]) s.heap := hP
  refine lv_iload_n hx hb dX9_holds_0 rfl (lv_at hl 2 rfl) ?_
  refine lv_iconst (v := (-1)) hx hb dX9_holds_1 (by decide) ?_
  refine lv_icmp_eq (tgt := 15) hx hb dX9_holds_2 (by decide) (fun c1 => ?_) (fun c1 => ?_)
  · refine lv_iload_n hx hb dX9_holds_15 rfl (lv_at hl 1 rfl) ?_
    refine ca_iR (va_runS (As := [.int p0]) (rest := []) ⟨hx, hb, hml, hown, hts⟩ (c_isSet l G s.heap.size p0) (va_cwS 1 hts gX9_holds_X9_isSet rfl rfl rfl (by decide +kernel) ⟨by decide +kernel, by decide +kernel⟩) (pre_S E hP hD hS hA [] (by decide) rfl) rfl rfl hl.1 rfl (lv_room (Nat.le_of_ble_eq_true rfl)) dX9_holds_16 ⟨by decide +kernel, by decide +kernel⟩) hS hP hD hA [] rfl (fun r3 _ H locs w2 hP hS => ?_)
    rcases w2 with ⟨rfl, b4⟩ | ⟨rfl, b4⟩
    · refine lv_if_ne (tgt := 25) hx hb dX9_holds_19 (by decide) (fun _ => ?_) (fun c5 => False.elim (by revert c5; decide))
      refine lv_aload_n hx hb dX9_holds_25 rfl (lv_at hl 0 rfl) ?_
      refine lv_iload_n hx hb dX9_holds_26 rfl (lv_at hl 1 rfl) ?_
      refine ca_iR (va_runV (As := [.int p0]) (rest := []) ⟨hx, hb, hml, hown, hts⟩ (c_areTold l G H.size h0 pad pp im vse vtr ac ak (nI k) told sp (nI (sc k la)) p0) (cwV 1 hts gX9_holds_X9_areTold rfl rfl rfl (by decide +kernel) ⟨by decide +kernel, by decide +kernel⟩) (pre_V E hP hD hS hA [0, 4] (by decide) rfl 0 5 rfl rfl) rfl rfl hl.1 rfl (lv_room (Nat.le_of_ble_eq_true rfl)) dX9_holds_27 ⟨by decide +kernel, by decide +kernel⟩) hS hP hD hA [0, 4] rfl (fun r7 _ H locs w6 hP hS => ?_)
      rcases w6 with ⟨rfl, b8⟩ | ⟨rfl, b8⟩
      · refine lv_if_ne (tgt := 36) hx hb dX9_holds_30 (by decide) (fun _ => ?_) (fun c9 => False.elim (by revert c9; decide))
        have hset : ∀ i : Nat, i < 6 → tdP p0 (nI i) → tdP told (nI i) := fun i9 h9 t9 => set_told b8 (by omega) t9
        refine lv_iload_n hx hb dX9_holds_36 rfl (lv_at hl 2 rfl) ?_
        refine lv_iconst (v := (-1)) hx hb dX9_holds_37 (by decide) ?_
        refine lv_icmp_eq (tgt := 51) hx hb dX9_holds_38 (by decide) (fun c10 => ?_) (fun c10 => absurd c1 c10)
        refine lv_iconst (v := 0) hx hb dX9_holds_51 (by decide) ?_
        refine lv_istore_n (lv' := [(3, .int 0), (0, .ref h0), (1, .int p0), (2, .int p1)]) hx hb dX9_holds_52 rfl hl (by decide) rfl (fun ls hl => ?_)
        refine lv_iconst (v := 0) hx hb dX9_holds_53 (by decide) ?_
        refine lv_istore (lv' := [(4, .int 0), (3, .int 0), (0, .ref h0), (1, .int p0), (2, .int p1)]) hx hb dX9_holds_54 hl (by decide) rfl (fun ls hl => ?_)
        refine lp_run (x0 := (0, 0)) (fun xx_ : Nat × Int32 => match xx_ with | (x, bi) => [(h0, .inr (5, [.ref pad, .ref pp, .ref im, vse, vtr])), (pad, .inr (0, [.ref sg, .ref sl, .int (nI pm)])), (sg, .inl (gI G, 40, .inl fsg)), (sl, .inl (gI G, 10, .inl fsl)), (pp, .inr (1, [.int (nI k), .int told, .int sp, .int (nI (sc k la)), .ref ac, .ref ak])), (ac, .inl (gI G, 6, .inl fc)), (ak, .inl (gI G, 4, .inl fk))]) (fun xx_ : Nat × Int32 => match xx_ with | (x, bi) => [(4, .int (nI x)), (3, .int bi), (0, .ref h0), (1, .int p0), (2, .int p1)]) (fun xx_ : Nat × Int32 => match xx_ with | (x, bi) => (x ≤ k) ∧ (bi = hbA (fun j => allH k p0 ma j (mstA k p0 ma j)) x)) (fun xx_ : Nat × Int32 => match xx_ with | (x, bi) => k - x) (hP.sub [0, 1, 2, 3, 4, 5, 6] rfl) (hD.sub [0, 1, 2, 3, 4, 5, 6] (by decide) rfl) hS (lv_sub hl [0, 1, 2, 3, 4] rfl) ⟨(by omega), rfl⟩ ?_
        intro xx_ hI ih56 H locs ls hP hD hS hl
        obtain ⟨x, bi⟩ := xx_
        dsimp only at hI ih56 hP hD hl
        obtain ⟨hx0, hbi⟩ := hI
        have hl : lv_has ls 6 [(4, .int (nI x)), (3, .int bi), (0, .ref h0), (1, .int p0), (2, .int p1)] := hl
        have hP : va_P G.1 vwCl ([(h0, .inr (5, [.ref pad, .ref pp, .ref im, vse, vtr])), (pad, .inr (0, [.ref sg, .ref sl, .int (nI pm)])), (sg, .inl (gI G, 40, .inl fsg)), (sl, .inl (gI G, 10, .inl fsl)), (pp, .inr (1, [.int (nI k), .int told, .int sp, .int (nI (sc k la)), .ref ac, .ref ak])), (ac, .inl (gI G, 6, .inl fc)), (ak, .inl (gI G, 4, .inl fk))]) H := hP
        have hD : va_D A ([(h0, .inr (5, [.ref pad, .ref pp, .ref im, vse, vtr])), (pad, .inr (0, [.ref sg, .ref sl, .int (nI pm)])), (sg, .inl (gI G, 40, .inl fsg)), (sl, .inl (gI G, 10, .inl fsl)), (pp, .inr (1, [.int (nI k), .int told, .int sp, .int (nI (sc k la)), .ref ac, .ref ak])), (ac, .inl (gI G, 6, .inl fc)), (ak, .inl (gI G, 4, .inl fk))]) := hD
        refine lv_iload hx hb dX9_holds_56 (lv_at hl 0 rfl) ?_
        refine lv_aload_n hx hb dX9_holds_58 rfl (lv_at hl 2 rfl) ?_
        refine va_get (D := G.1) (ci := 5) (v := .ref pp) (C := RX9) (T := TX9) (N := 5) hx hb hts (fun _ h => List.mem_cons_of_mem _ (List.mem_append_left _ (List.mem_append_right _ h))) hown E.K hP 0 rfl rfl 1 (by decide) (hts (.fieldLink RX9 19 "LastMap" "papers" "LLastMap$Papers;") (by decide +kernel)) (fun _ h9 => h9) rfl dX9_holds_59 ?_
        refine va_get (D := G.1) (ci := 1) (v := .int (nI k)) (C := RX3) (T := TX3) (N := 6) hx hb hts (fun _ h => List.mem_cons_of_mem _ (List.mem_append_right _ h)) hown E.K hP 4 rfl rfl 0 (by decide) (hts (.fieldLink RX9 27 "LastMap$Papers" "siteCount" "I") (by decide +kernel)) (fun _ h9 => h9) rfl dX9_holds_62 ?_
        refine lv_icmp_ge (tgt := 106) hx hb dX9_holds_65 (by decide) (fun c11 => ?_) (fun c11 => ?_)
        · have c11 : k ≤ x := (nI_leI (a := k) (b := x) (by omega) (by omega)).mp c11
          refine lv_iload_n hx hb dX9_holds_106 rfl (lv_at hl 1 rfl) ?_
          have hP9 := (hP.sub (ws' := [(h0, .inr (5, [.ref pad, .ref pp, .ref im, vse, vtr])), (pad, .inr (0, [.ref sg, .ref sl, .int (nI pm)])), (sg, .inl (gI G, 40, .inl fsg)), (sl, .inl (gI G, 10, .inl fsl)), (pp, .inr (1, [.int (nI k), .int told, .int sp, .int (nI (sc k la)), .ref ac, .ref ak])), (ac, .inl (gI G, 6, .inl fc)), (ak, .inl (gI G, 4, .inl fk))]) [0, 1, 2, 3, 4, 5, 6] rfl)
          have hD9 := (hD.sub (ws' := [(h0, .inr (5, [.ref pad, .ref pp, .ref im, vse, vtr])), (pad, .inr (0, [.ref sg, .ref sl, .int (nI pm)])), (sg, .inl (gI G, 40, .inl fsg)), (sl, .inl (gI G, 10, .inl fsl)), (pp, .inr (1, [.int (nI k), .int told, .int sp, .int (nI (sc k la)), .ref ac, .ref ak])), (ac, .inl (gI G, 6, .inl fc)), (ak, .inl (gI G, 4, .inl fk))]) [0, 1, 2, 3, 4, 5, 6] (by decide) rfl)
          exact W.iret (v := bi) hx hb hr (fun t9_ ht9_ hW9_ => ⟨⟨bi, (), rfl, by rw [hbi, show x = k by omega]; exact hoA_4 c1 b4 b8, by rw [ht9_]; exact hP9, hD9⟩, hS.F ht9_⟩) hS.2.2 dX9_holds_107
        · have c11 : ¬ k ≤ x := fun h9_ => c11 ((nI_leI (a := k) (b := x) (by omega) (by omega)).mpr h9_)
          refine lv_aload_n hx hb dX9_holds_68 rfl (lv_at hl 2 rfl) ?_
          refine lv_iload_n hx hb dX9_holds_69 rfl (lv_at hl 3 rfl) ?_
          refine lv_iload hx hb dX9_holds_70 (lv_at hl 0 rfl) ?_
          refine ca_iR (va_runV (As := [.int p0, .int (nI x)]) (rest := []) ⟨hx, hb, hml, hown, hts⟩ (n_mostAt l G H.size h0 pad pp im vse vtr ac ak k x told sp (nI (sc k la)) fc fk ma p0 hk6 hcr hset (by omega)) (cwV 2 hts gX9_holds_X9_mostAt rfl rfl rfl (by decide +kernel) ⟨by decide +kernel, by decide +kernel⟩) (pre_V E hP hD hS hA [0, 4, 5, 6] (by decide) rfl 0 5 rfl rfl) rfl rfl hl.1 rfl (lv_room (Nat.le_of_ble_eq_true rfl)) dX9_holds_72 ⟨by decide +kernel, by decide +kernel⟩) hS hP hD hA [0, 4, 5, 6] rfl (fun r13 _ H locs w12 hP hS => ?_)
          rw [w12]
          have hm5 := mstA_lt (k := k) (j := x) (set := p0) (ma := ma)
          refine lv_istore (lv' := [(5, .int (nI (mstA k p0 ma x))), (4, .int (nI x)), (3, .int bi), (0, .ref h0), (1, .int p0), (2, .int p1)]) hx hb dX9_holds_75 hl (by decide) rfl (fun ls hl => ?_)
          refine lv_aload_n hx hb dX9_holds_77 rfl (lv_at hl 3 rfl) ?_
          refine lv_iload_n hx hb dX9_holds_78 rfl (lv_at hl 4 rfl) ?_
          refine lv_iload hx hb dX9_holds_79 (lv_at hl 1 rfl) ?_
          refine lv_iload hx hb dX9_holds_81 (lv_at hl 0 rfl) ?_
          refine ca_iR (va_runV (As := [.int p0, .int (nI x), .int (nI (mstA k p0 ma x))]) (rest := []) ⟨hx, hb, hml, hown, hts⟩ (n_howMany l G H.size h0 pad pp im vse vtr ac ak k x told sp (nI (sc k la)) fc fk ma (mstA k p0 ma x) p0 hk6 hcr hset (by omega) (by omega)) (cwV 3 hts gX9_holds_X9_howMany rfl rfl rfl (by decide +kernel) ⟨by decide +kernel, by decide +kernel⟩) (pre_V E hP hD hS hA [0, 4, 5, 6] (by decide) rfl 0 5 rfl rfl) rfl rfl hl.1 rfl (lv_room (Nat.le_of_ble_eq_true rfl)) dX9_holds_83 ⟨by decide +kernel, by decide +kernel⟩) hS hP hD hA [0, 4, 5, 6] rfl (fun r15 _ H locs w14 hP hS => ?_)
          rw [w14]
          have hb9 := hmN_le (k := k) (j := x) (g := mstA k p0 ma x) (set := p0) (ma := ma) 6
          refine lv_iload_n hx hb dX9_holds_86 rfl (lv_at hl 4 rfl) ?_
          refine ca_iR (va_runS (As := [.int p0]) (rest := [.int (nI (hmN k p0 ma x (mstA k p0 ma x) 6))]) ⟨hx, hb, hml, hown, hts⟩ (n_bitCount l G H.size p0) (va_cwS 1 hts gX9_holds_J6_bitCount_0f7a4 rfl rfl rfl (by decide +kernel) ⟨by decide +kernel, by decide +kernel⟩) (pre_S E hP hD hS hA [] (by decide) rfl) rfl rfl hl.1 rfl (lv_room (Nat.le_of_ble_eq_true rfl)) dX9_holds_87 ⟨by decide +kernel, by decide +kernel⟩) hS hP hD hA [] rfl (fun r17 _ H locs w16 hP hS => ?_)
          obtain ⟨q9, hq9, eq9⟩ := set_nat b4
          have hbc9 : bcN p0 6 ≤ 6 := by rw [eq9]; exact (by decide +kernel : ∀ q, q < 64 → bcN (nI q) 6 ≤ 6) q9 hq9
          obtain rfl : r17 = nI (bcN p0 6) := by rw [w16, eq9]; exact bcE_ok q9 hq9
          refine lv_icmp_ne (tgt := 100) hx hb dX9_holds_90 (by decide) (fun c18 => ?_) (fun c18 => ?_)
          · have c18 : ¬ (hmN k p0 ma x (mstA k p0 ma x) 6) = (bcN p0 6) := fun h9_ => c18 ((nI_eq (a := (hmN k p0 ma x (mstA k p0 ma x) 6)) (b := (bcN p0 6)) (by omega) (by omega)).mpr h9_)
            obtain ⟨x19, ex19⟩ : ∃ yy_ : Int32, yy_ = (nI x) + 1 := ⟨_, rfl⟩
            refine lv_iinc (v := x19) (lv' := [(4, .int x19), (5, .int (nI (mstA k p0 ma x))), (3, .int bi), (0, .ref h0), (1, .int p0), (2, .int p1)]) hx hb dX9_holds_100 hl (k := 1) rfl (by rw [ex19]; rfl) (by decide) rfl (fun ls hl => ?_)
            obtain rfl : x19 = nI (x + 1) := by rw [ex19]; exact nI_add x 1
            refine lv_goto (tgt := 56) hx hb dX9_holds_103 (by decide) ?_
            refine ih56 ((x + 1), bi) ⟨?_, ?_⟩ (by first | omega | (dsimp only; omega)) H locs ls (hP.sub [0, 1, 2, 3, 4, 5, 6] rfl) (hD.sub [0, 1, 2, 3, 4, 5, 6] (by decide) rfl) hS (lv_sub hl [0, 2, 3, 4, 5] rfl)
            · try dsimp only
              omega
            · try dsimp only
              rw [hbA_f (R := (fun j => allH k p0 ma j (mstA k p0 ma j))) (show ¬ allH k p0 ma x (mstA k p0 ma x) from fun q9 => c18 ((hm_bc 6).mpr q9))]; exact hbi
          · have c18 : (hmN k p0 ma x (mstA k p0 ma x) 6) = (bcN p0 6) := (nI_eq (a := (hmN k p0 ma x (mstA k p0 ma x) 6)) (b := (bcN p0 6)) (by omega) (by omega)).mp c18
            refine lv_iload_n hx hb dX9_holds_93 rfl (lv_at hl 2 rfl) ?_
            refine lv_iconst (v := 1) hx hb dX9_holds_94 (by decide) ?_
            refine lv_iload hx hb dX9_holds_95 (lv_at hl 1 rfl) ?_
            refine lv_ishl hx hb dX9_holds_97 ?_
            refine lv_topi (fun x20 ex20 => ?_)
            refine lv_ior hx hb dX9_holds_98 ?_
            refine lv_topi (fun x21 ex21 => ?_)
            refine lv_istore_n (lv' := [(3, .int x21), (5, .int (nI (mstA k p0 ma x))), (4, .int (nI x)), (0, .ref h0), (1, .int p0), (2, .int p1)]) hx hb dX9_holds_99 rfl hl (by decide) rfl (fun ls hl => ?_)
            obtain ⟨x22, ex22⟩ : ∃ yy_ : Int32, yy_ = (nI x) + 1 := ⟨_, rfl⟩
            refine lv_iinc (v := x22) (lv' := [(4, .int x22), (3, .int x21), (5, .int (nI (mstA k p0 ma x))), (0, .ref h0), (1, .int p0), (2, .int p1)]) hx hb dX9_holds_100 hl (k := 2) rfl (by rw [ex22]; rfl) (by decide) rfl (fun ls hl => ?_)
            obtain rfl : x22 = nI (x + 1) := by rw [ex22]; exact nI_add x 1
            refine lv_goto (tgt := 56) hx hb dX9_holds_103 (by decide) ?_
            refine ih56 ((x + 1), x21) ⟨?_, ?_⟩ (by first | omega | (dsimp only; omega)) H locs ls (hP.sub [0, 1, 2, 3, 4, 5, 6] rfl) (hD.sub [0, 1, 2, 3, 4, 5, 6] (by decide) rfl) hS (lv_sub hl [0, 1, 3, 4, 5] rfl)
            · try dsimp only
              omega
            · try dsimp only
              rw [hbA_t (R := (fun j => allH k p0 ma j (mstA k p0 ma j))) (show allH k p0 ma x (mstA k p0 ma x) from (hm_bc 6).mp c18), ← hbi, ex21, ex20]
      · refine lv_if_ne (tgt := 36) hx hb dX9_holds_30 (by decide) (fun c23 => False.elim (by revert c23; decide)) (fun _ => ?_)
        refine lv_bipush (v := (-3)) hx hb dX9_holds_33 (by decide) ?_
        have hP9 := (hP.sub (ws' := [(h0, .inr (5, [.ref pad, .ref pp, .ref im, vse, vtr])), (pad, .inr (0, [.ref sg, .ref sl, .int (nI pm)])), (sg, .inl (gI G, 40, .inl fsg)), (sl, .inl (gI G, 10, .inl fsl)), (pp, .inr (1, [.int (nI k), .int told, .int sp, .int (nI (sc k la)), .ref ac, .ref ak])), (ac, .inl (gI G, 6, .inl fc)), (ak, .inl (gI G, 4, .inl fk))]) [0, 1, 2, 3, 4, 5, 6] rfl)
        have hD9 := (hD.sub (ws' := [(h0, .inr (5, [.ref pad, .ref pp, .ref im, vse, vtr])), (pad, .inr (0, [.ref sg, .ref sl, .int (nI pm)])), (sg, .inl (gI G, 40, .inl fsg)), (sl, .inl (gI G, 10, .inl fsl)), (pp, .inr (1, [.int (nI k), .int told, .int sp, .int (nI (sc k la)), .ref ac, .ref ak])), (ac, .inl (gI G, 6, .inl fc)), (ak, .inl (gI G, 4, .inl fk))]) [0, 1, 2, 3, 4, 5, 6] (by decide) rfl)
        exact W.iret (v := (-3)) hx hb hr (fun t9_ ht9_ hW9_ => ⟨⟨(-3), (), rfl, hoA_3 (fun q9 => q9.1 c1) b4 b8, by rw [ht9_]; exact hP9, hD9⟩, hS.F ht9_⟩) hS.2.2 dX9_holds_35
    · refine lv_if_ne (tgt := 25) hx hb dX9_holds_19 (by decide) (fun c24 => False.elim (by revert c24; decide)) (fun _ => ?_)
      refine lv_bipush (v := (-2)) hx hb dX9_holds_22 (by decide) ?_
      have hP9 := (hP.sub (ws' := [(h0, .inr (5, [.ref pad, .ref pp, .ref im, vse, vtr])), (pad, .inr (0, [.ref sg, .ref sl, .int (nI pm)])), (sg, .inl (gI G, 40, .inl fsg)), (sl, .inl (gI G, 10, .inl fsl)), (pp, .inr (1, [.int (nI k), .int told, .int sp, .int (nI (sc k la)), .ref ac, .ref ak])), (ac, .inl (gI G, 6, .inl fc)), (ak, .inl (gI G, 4, .inl fk))]) [0, 1, 2, 3, 4, 5, 6] rfl)
      have hD9 := (hD.sub (ws' := [(h0, .inr (5, [.ref pad, .ref pp, .ref im, vse, vtr])), (pad, .inr (0, [.ref sg, .ref sl, .int (nI pm)])), (sg, .inl (gI G, 40, .inl fsg)), (sl, .inl (gI G, 10, .inl fsl)), (pp, .inr (1, [.int (nI k), .int told, .int sp, .int (nI (sc k la)), .ref ac, .ref ak])), (ac, .inl (gI G, 6, .inl fc)), (ak, .inl (gI G, 4, .inl fk))]) [0, 1, 2, 3, 4, 5, 6] (by decide) rfl)
      exact W.iret (v := (-2)) hx hb hr (fun t9_ ht9_ hW9_ => ⟨⟨(-2), (), rfl, hoA_2 (fun q9 => q9.1 c1) b4, by rw [ht9_]; exact hP9, hD9⟩, hS.F ht9_⟩) hS.2.2 dX9_holds_24
  · refine lv_aload_n hx hb dX9_holds_5 rfl (lv_at hl 0 rfl) ?_
    refine lv_iload_n hx hb dX9_holds_6 rfl (lv_at hl 2 rfl) ?_
    refine ca_iR (va_runV (As := [.int p1]) (rest := []) ⟨hx, hb, hml, hown, hts⟩ (n_isSite l G s.heap.size h0 pad pp im vse vtr ac ak k told sp (nI (sc k la)) p1 hk6) (cwV 1 hts gX9_holds_X9_isSite rfl rfl rfl (by decide +kernel) ⟨by decide +kernel, by decide +kernel⟩) (pre_V E hP hD hS hA [0, 4] (by decide) rfl 0 5 rfl rfl) rfl rfl hl.1 rfl (lv_room (Nat.le_of_ble_eq_true rfl)) dX9_holds_7 ⟨by decide +kernel, by decide +kernel⟩) hS hP hD hA [0, 4] rfl (fun r26 _ H locs w25 hP hS => ?_)
    rcases w25 with ⟨rfl, b27⟩ | ⟨rfl, b27⟩
    · refine lv_if_ne (tgt := 15) hx hb dX9_holds_10 (by decide) (fun _ => ?_) (fun c28 => False.elim (by revert c28; decide))
      refine lv_iload_n hx hb dX9_holds_15 rfl (lv_at hl 1 rfl) ?_
      refine ca_iR (va_runS (As := [.int p0]) (rest := []) ⟨hx, hb, hml, hown, hts⟩ (c_isSet l G H.size p0) (va_cwS 1 hts gX9_holds_X9_isSet rfl rfl rfl (by decide +kernel) ⟨by decide +kernel, by decide +kernel⟩) (pre_S E hP hD hS hA [] (by decide) rfl) rfl rfl hl.1 rfl (lv_room (Nat.le_of_ble_eq_true rfl)) dX9_holds_16 ⟨by decide +kernel, by decide +kernel⟩) hS hP hD hA [] rfl (fun r30 _ H locs w29 hP hS => ?_)
      rcases w29 with ⟨rfl, b31⟩ | ⟨rfl, b31⟩
      · refine lv_if_ne (tgt := 25) hx hb dX9_holds_19 (by decide) (fun _ => ?_) (fun c32 => False.elim (by revert c32; decide))
        refine lv_aload_n hx hb dX9_holds_25 rfl (lv_at hl 0 rfl) ?_
        refine lv_iload_n hx hb dX9_holds_26 rfl (lv_at hl 1 rfl) ?_
        refine ca_iR (va_runV (As := [.int p0]) (rest := []) ⟨hx, hb, hml, hown, hts⟩ (c_areTold l G H.size h0 pad pp im vse vtr ac ak (nI k) told sp (nI (sc k la)) p0) (cwV 1 hts gX9_holds_X9_areTold rfl rfl rfl (by decide +kernel) ⟨by decide +kernel, by decide +kernel⟩) (pre_V E hP hD hS hA [0, 4] (by decide) rfl 0 5 rfl rfl) rfl rfl hl.1 rfl (lv_room (Nat.le_of_ble_eq_true rfl)) dX9_holds_27 ⟨by decide +kernel, by decide +kernel⟩) hS hP hD hA [0, 4] rfl (fun r34 _ H locs w33 hP hS => ?_)
        rcases w33 with ⟨rfl, b35⟩ | ⟨rfl, b35⟩
        · refine lv_if_ne (tgt := 36) hx hb dX9_holds_30 (by decide) (fun _ => ?_) (fun c36 => False.elim (by revert c36; decide))
          have hset : ∀ i : Nat, i < 6 → tdP p0 (nI i) → tdP told (nI i) := fun i9 h9 t9 => set_told b35 (by omega) t9
          refine lv_iload_n hx hb dX9_holds_36 rfl (lv_at hl 2 rfl) ?_
          refine lv_iconst (v := (-1)) hx hb dX9_holds_37 (by decide) ?_
          refine lv_icmp_eq (tgt := 51) hx hb dX9_holds_38 (by decide) (fun c37 => absurd c37 c1) (fun c37 => ?_)
          obtain ⟨j_p1, hj_p1, ej_p1⟩ := b27
          have hl : lv_has ls 6 [(0, .ref h0), (1, .int p0), (2, .int (nI j_p1))] := by have q := hl; rw [ej_p1] at q; exact q
          refine lv_aload_n hx hb dX9_holds_41 rfl (lv_at hl 0 rfl) ?_
          refine lv_iload_n hx hb dX9_holds_42 rfl (lv_at hl 1 rfl) ?_
          refine lv_iload_n hx hb dX9_holds_43 rfl (lv_at hl 2 rfl) ?_
          refine ca_iR (va_runV (As := [.int p0, .int (nI j_p1)]) (rest := []) ⟨hx, hb, hml, hown, hts⟩ (n_mostAt l G H.size h0 pad pp im vse vtr ac ak k j_p1 told sp (nI (sc k la)) fc fk ma p0 hk6 hcr hset (by omega)) (cwV 2 hts gX9_holds_X9_mostAt rfl rfl rfl (by decide +kernel) ⟨by decide +kernel, by decide +kernel⟩) (pre_V E hP hD hS hA [0, 4, 5, 6] (by decide) rfl 0 5 rfl rfl) rfl rfl hl.1 rfl (lv_room (Nat.le_of_ble_eq_true rfl)) dX9_holds_44 ⟨by decide +kernel, by decide +kernel⟩) hS hP hD hA [0, 4, 5, 6] rfl (fun r39 _ H locs w38 hP hS => ?_)
          rw [w38]
          refine ca_iR (va_runS (As := [.int (nI (mstA k p0 ma j_p1))]) (rest := []) ⟨hx, hb, hml, hown, hts⟩ (n_written l G H.size (mstA k p0 ma j_p1) mstA_lt) (va_cwS 1 hts gX9_holds_X5_written rfl rfl rfl (by decide +kernel) ⟨by decide +kernel, by decide +kernel⟩) (pre_S E hP hD hS hA [] (by decide) rfl) rfl rfl hl.1 rfl (lv_room (Nat.le_of_ble_eq_true rfl)) dX9_holds_47 ⟨by decide +kernel, by decide +kernel⟩) hS hP hD hA [] rfl (fun r41 _ H locs w40 hP hS => ?_)
          have hP9 := (hP.sub (ws' := [(h0, .inr (5, [.ref pad, .ref pp, .ref im, vse, vtr])), (pad, .inr (0, [.ref sg, .ref sl, .int (nI pm)])), (sg, .inl (gI G, 40, .inl fsg)), (sl, .inl (gI G, 10, .inl fsl)), (pp, .inr (1, [.int (nI k), .int told, .int sp, .int (nI (sc k la)), .ref ac, .ref ak])), (ac, .inl (gI G, 6, .inl fc)), (ak, .inl (gI G, 4, .inl fk))]) [0, 1, 2, 3, 4, 5, 6] rfl)
          have hD9 := (hD.sub (ws' := [(h0, .inr (5, [.ref pad, .ref pp, .ref im, vse, vtr])), (pad, .inr (0, [.ref sg, .ref sl, .int (nI pm)])), (sg, .inl (gI G, 40, .inl fsg)), (sl, .inl (gI G, 10, .inl fsl)), (pp, .inr (1, [.int (nI k), .int told, .int sp, .int (nI (sc k la)), .ref ac, .ref ak])), (ac, .inl (gI G, 6, .inl fc)), (ak, .inl (gI G, 4, .inl fk))]) [0, 1, 2, 3, 4, 5, 6] (by decide) rfl)
          exact W.iret (v := r41) hx hb hr (fun t9_ ht9_ hW9_ => ⟨⟨r41, (), rfl, by rw [w40]; exact hoA_5 hk6 hj_p1 ej_p1 b31 b35, by rw [ht9_]; exact hP9, hD9⟩, hS.F ht9_⟩) hS.2.2 dX9_holds_50
        · refine lv_if_ne (tgt := 36) hx hb dX9_holds_30 (by decide) (fun c42 => False.elim (by revert c42; decide)) (fun _ => ?_)
          refine lv_bipush (v := (-3)) hx hb dX9_holds_33 (by decide) ?_
          have hP9 := (hP.sub (ws' := [(h0, .inr (5, [.ref pad, .ref pp, .ref im, vse, vtr])), (pad, .inr (0, [.ref sg, .ref sl, .int (nI pm)])), (sg, .inl (gI G, 40, .inl fsg)), (sl, .inl (gI G, 10, .inl fsl)), (pp, .inr (1, [.int (nI k), .int told, .int sp, .int (nI (sc k la)), .ref ac, .ref ak])), (ac, .inl (gI G, 6, .inl fc)), (ak, .inl (gI G, 4, .inl fk))]) [0, 1, 2, 3, 4, 5, 6] rfl)
          have hD9 := (hD.sub (ws' := [(h0, .inr (5, [.ref pad, .ref pp, .ref im, vse, vtr])), (pad, .inr (0, [.ref sg, .ref sl, .int (nI pm)])), (sg, .inl (gI G, 40, .inl fsg)), (sl, .inl (gI G, 10, .inl fsl)), (pp, .inr (1, [.int (nI k), .int told, .int sp, .int (nI (sc k la)), .ref ac, .ref ak])), (ac, .inl (gI G, 6, .inl fc)), (ak, .inl (gI G, 4, .inl fk))]) [0, 1, 2, 3, 4, 5, 6] (by decide) rfl)
          exact W.iret (v := (-3)) hx hb hr (fun t9_ ht9_ hW9_ => ⟨⟨(-3), (), rfl, hoA_3 (fun q9 => q9.2 b27) b31 b35, by rw [ht9_]; exact hP9, hD9⟩, hS.F ht9_⟩) hS.2.2 dX9_holds_35
      · refine lv_if_ne (tgt := 25) hx hb dX9_holds_19 (by decide) (fun c43 => False.elim (by revert c43; decide)) (fun _ => ?_)
        refine lv_bipush (v := (-2)) hx hb dX9_holds_22 (by decide) ?_
        have hP9 := (hP.sub (ws' := [(h0, .inr (5, [.ref pad, .ref pp, .ref im, vse, vtr])), (pad, .inr (0, [.ref sg, .ref sl, .int (nI pm)])), (sg, .inl (gI G, 40, .inl fsg)), (sl, .inl (gI G, 10, .inl fsl)), (pp, .inr (1, [.int (nI k), .int told, .int sp, .int (nI (sc k la)), .ref ac, .ref ak])), (ac, .inl (gI G, 6, .inl fc)), (ak, .inl (gI G, 4, .inl fk))]) [0, 1, 2, 3, 4, 5, 6] rfl)
        have hD9 := (hD.sub (ws' := [(h0, .inr (5, [.ref pad, .ref pp, .ref im, vse, vtr])), (pad, .inr (0, [.ref sg, .ref sl, .int (nI pm)])), (sg, .inl (gI G, 40, .inl fsg)), (sl, .inl (gI G, 10, .inl fsl)), (pp, .inr (1, [.int (nI k), .int told, .int sp, .int (nI (sc k la)), .ref ac, .ref ak])), (ac, .inl (gI G, 6, .inl fc)), (ak, .inl (gI G, 4, .inl fk))]) [0, 1, 2, 3, 4, 5, 6] (by decide) rfl)
        exact W.iret (v := (-2)) hx hb hr (fun t9_ ht9_ hW9_ => ⟨⟨(-2), (), rfl, hoA_2 (fun q9 => q9.2 b27) b31, by rw [ht9_]; exact hP9, hD9⟩, hS.F ht9_⟩) hS.2.2 dX9_holds_24
    · refine lv_if_ne (tgt := 15) hx hb dX9_holds_10 (by decide) (fun c44 => False.elim (by revert c44; decide)) (fun _ => ?_)
      refine lv_iconst (v := (-1)) hx hb dX9_holds_13 (by decide) ?_
      have hP9 := (hP.sub (ws' := [(h0, .inr (5, [.ref pad, .ref pp, .ref im, vse, vtr])), (pad, .inr (0, [.ref sg, .ref sl, .int (nI pm)])), (sg, .inl (gI G, 40, .inl fsg)), (sl, .inl (gI G, 10, .inl fsl)), (pp, .inr (1, [.int (nI k), .int told, .int sp, .int (nI (sc k la)), .ref ac, .ref ak])), (ac, .inl (gI G, 6, .inl fc)), (ak, .inl (gI G, 4, .inl fk))]) [0, 1, 2, 3, 4, 5, 6] rfl)
      have hD9 := (hD.sub (ws' := [(h0, .inr (5, [.ref pad, .ref pp, .ref im, vse, vtr])), (pad, .inr (0, [.ref sg, .ref sl, .int (nI pm)])), (sg, .inl (gI G, 40, .inl fsg)), (sl, .inl (gI G, 10, .inl fsl)), (pp, .inr (1, [.int (nI k), .int told, .int sp, .int (nI (sc k la)), .ref ac, .ref ak])), (ac, .inl (gI G, 6, .inl fc)), (ak, .inl (gI G, 4, .inl fk))]) [0, 1, 2, 3, 4, 5, 6] (by decide) rfl)
      exact W.iret (v := (-1)) hx hb hr (fun t9_ ht9_ hW9_ => ⟨⟨(-1), (), rfl, hoA_1 c1 b27, by rw [ht9_]; exact hP9, hD9⟩, hS.F ht9_⟩) hS.2.2 dX9_holds_14
