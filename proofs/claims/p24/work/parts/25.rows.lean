set_option maxHeartbeats 1000000 in
set_option maxRecDepth 100000 in
theorem c_firstNearer (l : Launch) (G : Gy) (sz : Nat) (h0 : Nat) (pad : Nat) (pp : Nat) (im : Nat) (vse : Value) (vtr : Value) (ac : Nat) (ak : Nat) (n : Int32) (told : Int32) (sp : Int32) (gr : Int32) (t : Nat) (ta : Nat) (tq : Nat) (qd : Int32) (se : Int32) (go : Int32) (ki : Int32) (nn : Int32) (fs : Nat → Int32) (fq : Nat → Int32) (p1 : Int32) (p2 : Int32)  : Ci l G yX9_firstNearer wsX9_firstNearer ({ frames := 4, cells := 0, slots := 0, locals := 87 }) [.ref h0, .ref t, .int p1, .int p2] ([(h0, .inr (5, [.ref pad, .ref pp, .ref im, vse, vtr])), (pp, .inr (1, [.int n, .int told, .int sp, .int gr, .ref ac, .ref ak])), (t, .inr (3, [.ref ta, .ref tq, .int qd, .int se, .int go, .int ki, .int nn])), (ta, .inl (gB G, 15625, .inl fs)), (tq, .inl (gI G, 15625, .inl fq))]) sz (fun (r : Int32) (_ : Unit) => True) (fun (_ : Unit) => [(h0, .inr (5, [.ref pad, .ref pp, .ref im, vse, vtr])), (pp, .inr (1, [.int n, .int told, .int sp, .int gr, .ref ac, .ref ak])), (t, .inr (3, [.ref ta, .ref tq, .int qd, .int se, .int go, .int ki, .int nn])), (ta, .inl (gB G, 15625, .inl fs)), (tq, .inl (gI G, 15625, .inl fq))]) 0 0 := by
  refine Met.ofW (cc := cX9_firstNearer) (maxL := 7) (ret := (some .int)) (by decide) rfl ?_
  intro p e s m args below meth c s₁ B hml hv
  obtain ⟨rfl, hsz, hP, hD0, E0⟩ := hv
  have hx := B.exec
  have hb := B.bytes
  have hr := B.returns
  have hts := atoms_spec (ws := wsX9_firstNearer) B.pre
  have hown : s.vm.findClass RX9 = some m.cls := findClass_of_methodNamed B.named
  have hlocks := B.notSynchronized
  subst hsz
  have hD := hD0.self (sz := s.heap.size)
  generalize hAe : va_A ([(h0, .inr (5, [.ref pad, .ref pp, .ref im, vse, vtr])), (pp, .inr (1, [.int n, .int told, .int sp, .int gr, .ref ac, .ref ak])), (t, .inr (3, [.ref ta, .ref tq, .int qd, .int se, .int go, .int ki, .int nn])), (ta, .inl (gB G, 15625, .inl fs)), (tq, .inl (gI G, 15625, .inl fq))]) s.heap.size = A at hD E0 ⊢
  have E : EV G A s s.heap := E0
  have hA : ∀ q : Nat, s.heap.size ≤ q → A q := fun q h => by rw [← hAe]; exact Or.inr h
  have hS : va_S A s.heap s.heap [] := va_S.rf
  have hl := lv_entry ([.ref h0, .ref t, .int p1, .int p2]) (n := 7) (Nat.le_of_ble_eq_true rfl)
  rw [lg_entry_eq]
  generalize (lg_sl ([.ref h0, .ref t, .int p1, .int p2]) ++ List.replicate (7 - (lg_sl ([.ref h0, .ref t, .int p1, .int p2])).length) Slot.unset).toArray = ls at hl ⊢
  have hl : lv_has ls 7 [(0, .ref h0), (1, .ref t), (2, .int p1), (3, .int p2)] := hl
  have hP : va_P G.1 vwCl ([(h0, .inr (5, [.ref pad, .ref pp, .ref im, vse, vtr])), (pp, .inr (1, [.int n, .int told, .int sp, .int gr, .ref ac, .ref ak])), (t, .inr (3, [.ref ta, .ref tq, .int qd, .int se, .int go, .int ki, .int nn])), (ta, .inl (gB G, 15625, .inl fs)), (tq, .inl (gI G, 15625, .inl fq))]) s.heap := hP
  refine lv_aload_n hx hb dX9_firstNearer_0 rfl (lv_at hl 1 rfl) ?_
  refine lv_iload_n hx hb dX9_firstNearer_1 rfl (lv_at hl 2 rfl) ?_
  refine ca_iR (va_runV (As := [.int p1]) (rest := []) ⟨hx, hb, hml, hown, hts⟩ (c_known l G s.heap.size t ta tq qd se go ki nn fs fq p1) (cwV 1 hts gX9_firstNearer_X7_known rfl rfl rfl (by decide +kernel) ⟨by decide +kernel, by decide +kernel⟩) (pre_V E hP hD hS hA [2, 3, 4] (by decide) rfl 2 3 rfl rfl) rfl rfl hl.1 rfl (lv_room (Nat.le_of_ble_eq_true rfl)) dX9_firstNearer_2 ⟨by decide +kernel, by decide +kernel⟩) hS hP hD hA [2, 3, 4] rfl (fun r2 _ H locs w1 hP hS => ?_)
  refine lv_iconst (v := 1) hx hb dX9_firstNearer_5 (by decide) ?_
  refine lv_isub hx hb dX9_firstNearer_6 ?_
  refine lv_topi (fun x3 ex3 => ?_)
  refine lv_istore (lv' := [(4, .int x3), (0, .ref h0), (1, .ref t), (2, .int p1), (3, .int p2)]) hx hb dX9_firstNearer_7 hl (by decide) rfl (fun ls hl => ?_)
  refine lv_iconst (v := 0) hx hb dX9_firstNearer_9 (by decide) ?_
  refine lv_istore (lv' := [(5, .int 0), (4, .int x3), (0, .ref h0), (1, .ref t), (2, .int p1), (3, .int p2)]) hx hb dX9_firstNearer_10 hl (by decide) rfl (fun ls hl => ?_)
  refine lp_run (x0 := 0) (fun x : Int32 => [(h0, .inr (5, [.ref pad, .ref pp, .ref im, vse, vtr])), (pp, .inr (1, [.int n, .int told, .int sp, .int gr, .ref ac, .ref ak])), (t, .inr (3, [.ref ta, .ref tq, .int qd, .int se, .int go, .int ki, .int nn])), (ta, .inl (gB G, 15625, .inl fs)), (tq, .inl (gI G, 15625, .inl fq))]) (fun x : Int32 => [(5, .int x), (4, .int x3), (0, .ref h0), (1, .ref t), (2, .int p1), (3, .int p2)]) (fun x : Int32 => (0 ≤ x.toInt)) (fun x : Int32 => ((40 : Int32).toInt - x.toInt).toNat) (hP.sub [0, 1, 2, 3, 4] rfl) (hD.sub [0, 1, 2, 3, 4] (by decide) rfl) hS (lv_sub hl [0, 1, 2, 3, 4, 5] rfl) (show (0 : Int) ≤ (0 : Int32).toInt by first | decide | omega | assumption) ?_
  intro xx_ hI ih12 H locs ls hP hD hS hl
  obtain ⟨x, rfl⟩ : ∃ zz_, zz_ = xx_ := ⟨_, rfl⟩
  have hx0 := hI
  have hl : lv_has ls 7 [(5, .int x), (4, .int x3), (0, .ref h0), (1, .ref t), (2, .int p1), (3, .int p2)] := hl
  have hP : va_P G.1 vwCl ([(h0, .inr (5, [.ref pad, .ref pp, .ref im, vse, vtr])), (pp, .inr (1, [.int n, .int told, .int sp, .int gr, .ref ac, .ref ak])), (t, .inr (3, [.ref ta, .ref tq, .int qd, .int se, .int go, .int ki, .int nn])), (ta, .inl (gB G, 15625, .inl fs)), (tq, .inl (gI G, 15625, .inl fq))]) H := hP
  have hD : va_D A ([(h0, .inr (5, [.ref pad, .ref pp, .ref im, vse, vtr])), (pp, .inr (1, [.int n, .int told, .int sp, .int gr, .ref ac, .ref ak])), (t, .inr (3, [.ref ta, .ref tq, .int qd, .int se, .int go, .int ki, .int nn])), (ta, .inl (gB G, 15625, .inl fs)), (tq, .inl (gI G, 15625, .inl fq))]) := hD
  refine lv_iload hx hb dX9_firstNearer_12 (lv_at hl 0 rfl) ?_
  refine lv_bipush (v := 40) hx hb dX9_firstNearer_14 (by decide) ?_
  refine lv_icmp_ge (tgt := 66) hx hb dX9_firstNearer_16 (by decide) (fun c4 => ?_) (fun c4 => ?_)
  · refine lv_bipush (v := (-6)) hx hb dX9_firstNearer_66 (by decide) ?_
    have hP9 := (hP.sub (ws' := [(h0, .inr (5, [.ref pad, .ref pp, .ref im, vse, vtr])), (pp, .inr (1, [.int n, .int told, .int sp, .int gr, .ref ac, .ref ak])), (t, .inr (3, [.ref ta, .ref tq, .int qd, .int se, .int go, .int ki, .int nn])), (ta, .inl (gB G, 15625, .inl fs)), (tq, .inl (gI G, 15625, .inl fq))]) [0, 1, 2, 3, 4] rfl)
    have hD9 := (hD.sub (ws' := [(h0, .inr (5, [.ref pad, .ref pp, .ref im, vse, vtr])), (pp, .inr (1, [.int n, .int told, .int sp, .int gr, .ref ac, .ref ak])), (t, .inr (3, [.ref ta, .ref tq, .int qd, .int se, .int go, .int ki, .int nn])), (ta, .inl (gB G, 15625, .inl fs)), (tq, .inl (gI G, 15625, .inl fq))]) [0, 1, 2, 3, 4] (by decide) rfl)
    exact W.iret (v := (-6)) hx hb hr (fun t ht hW => ⟨⟨(-6), (), rfl, trivial, by rw [ht]; exact hP9, hD9⟩, hS.F ht⟩) hS.2.2 dX9_firstNearer_68
  · have hlt12 : x.toInt < (40 : Int32).toInt := by ((try simp only [inR, inS, i3_lt, i3_le, i3_eq, i6_lt, i6_le, Int32.toInt_toInt64, lg_cmp_lt, lg_cmp_gt, lg_cmp_ge, lg_cmp_le, Int32.reduceToInt, Int64.reduceToInt] at c4 ⊢); omega)
    refine lv_iload hx hb dX9_firstNearer_19 (lv_at hl 0 rfl) ?_
    refine ca_iR (va_runS (As := [.int x]) (rest := []) ⟨hx, hb, hml, hown, hts⟩ (c_inOrder l G H.size x) (va_cwS 1 hts gX9_firstNearer_X6_inOrder rfl rfl rfl (by decide +kernel) ⟨by decide +kernel, by decide +kernel⟩) (pre_S E hP hD hS hA [] (by decide) rfl) rfl rfl hl.1 rfl (lv_room (Nat.le_of_ble_eq_true rfl)) dX9_firstNearer_21 ⟨by decide +kernel, by decide +kernel⟩) hS hP hD hA [] rfl (fun r6 _ H locs w5 hP hS => ?_)
    refine lv_istore (lv' := [(6, .int r6), (5, .int x), (4, .int x3), (0, .ref h0), (1, .ref t), (2, .int p1), (3, .int p2)]) hx hb dX9_firstNearer_24 hl (by decide) rfl (fun ls hl => ?_)
    refine lv_iload hx hb dX9_firstNearer_26 (lv_at hl 0 rfl) ?_
    refine lv_iload_n hx hb dX9_firstNearer_28 rfl (lv_at hl 6 rfl) ?_
    refine lv_aload_n hx hb dX9_firstNearer_29 rfl (lv_at hl 3 rfl) ?_
    refine va_get (D := G.1) (ci := 5) (v := .ref pp) (C := RX9) (T := TX9) (N := 5) hx hb hts (fun _ h => List.mem_cons_of_mem _ (List.mem_append_left _ (List.mem_append_left _ (List.mem_append_right _ h)))) hown E.K hP 0 rfl rfl 1 (by decide) (hts (.fieldLink RX9 19 "LastMap" "papers" "LLastMap$Papers;") (by decide +kernel)) (fun _ h9 => h9) rfl dX9_firstNearer_30 ?_
    refine va_get (D := G.1) (ci := 1) (v := .int n) (C := RX3) (T := TX3) (N := 6) hx hb hts (fun _ h => List.mem_cons_of_mem _ (List.mem_append_left _ (List.mem_append_right _ h))) hown E.K hP 1 rfl rfl 0 (by decide) (hts (.fieldLink RX9 27 "LastMap$Papers" "siteCount" "I") (by decide +kernel)) (fun _ h9 => h9) rfl dX9_firstNearer_33 ?_
    refine ca_iR (va_runS (As := [.int r6, .int p2, .int n]) (rest := []) ⟨hx, hb, hml, hown, hts⟩ (c_isMade l G H.size r6 p2 n) (va_cwS 3 hts gX9_firstNearer_X6_isMade rfl rfl rfl (by decide +kernel) ⟨by decide +kernel, by decide +kernel⟩) (pre_S E hP hD hS hA [] (by decide) rfl) rfl rfl hl.1 rfl (lv_room (Nat.le_of_ble_eq_true rfl)) dX9_firstNearer_36 ⟨by decide +kernel, by decide +kernel⟩) hS hP hD hA [] rfl (fun r8 _ H locs w7 hP hS => ?_)
    rcases w7 with ⟨rfl, b9⟩ | ⟨rfl, b9⟩
    · refine lv_if_eq (tgt := 60) hx hb dX9_firstNearer_39 (by decide) (fun c10 => False.elim (by revert c10; decide)) (fun _ => ?_)
      refine lv_aload_n hx hb dX9_firstNearer_42 rfl (lv_at hl 4 rfl) ?_
      refine lv_iload_n hx hb dX9_firstNearer_43 rfl (lv_at hl 5 rfl) ?_
      refine lv_iload hx hb dX9_firstNearer_44 (lv_at hl 0 rfl) ?_
      refine ca_iR (va_runS (As := [.int p1, .int r6]) (rest := [.ref t]) ⟨hx, hb, hml, hown, hts⟩ (c_after l G H.size p1 r6) (va_cwS 2 hts gX9_firstNearer_X6_after rfl rfl rfl (by decide +kernel) ⟨by decide +kernel, by decide +kernel⟩) (pre_S E hP hD hS hA [] (by decide) rfl) rfl rfl hl.1 rfl (lv_room (Nat.le_of_ble_eq_true rfl)) dX9_firstNearer_46 ⟨by decide +kernel, by decide +kernel⟩) hS hP hD hA [] rfl (fun r12 _ H locs w11 hP hS => ?_)
      refine ca_iR (va_runV (As := [.int r12]) (rest := []) ⟨hx, hb, hml, hown, hts⟩ (c_known l G H.size t ta tq qd se go ki nn fs fq r12) (cwV 1 hts gX9_firstNearer_X7_known rfl rfl rfl (by decide +kernel) ⟨by decide +kernel, by decide +kernel⟩) (pre_V E hP hD hS hA [2, 3, 4] (by decide) rfl 2 3 rfl rfl) rfl rfl hl.1 rfl (lv_room (Nat.le_of_ble_eq_true rfl)) dX9_firstNearer_49 ⟨by decide +kernel, by decide +kernel⟩) hS hP hD hA [2, 3, 4] rfl (fun r14 _ H locs w13 hP hS => ?_)
      refine lv_iload hx hb dX9_firstNearer_52 (lv_at hl 2 rfl) ?_
      refine lv_icmp_ne (tgt := 60) hx hb dX9_firstNearer_54 (by decide) (fun c15 => ?_) (fun c15 => ?_)
      · obtain ⟨x16, ex16⟩ : ∃ yy_ : Int32, yy_ = x + 1 := ⟨_, rfl⟩
        refine lv_iinc (v := x16) (lv' := [(5, .int x16), (6, .int r6), (4, .int x3), (0, .ref h0), (1, .ref t), (2, .int p1), (3, .int p2)]) hx hb dX9_firstNearer_60 hl (k := 1) rfl (by rw [ex16]; rfl) (by decide) rfl (fun ls hl => ?_)
        refine lv_goto (tgt := 12) hx hb dX9_firstNearer_63 (by decide) ?_
        have hinc12 := inc_lt hlt12 ex16
        refine ih12 x16 ?_ (by first | omega | (dsimp only; omega)) H locs ls (hP.sub [0, 1, 2, 3, 4] rfl) (hD.sub [0, 1, 2, 3, 4] (by decide) rfl) hS (lv_sub hl [0, 2, 3, 4, 5, 6] rfl)
        try dsimp only
        omega
      · refine lv_iload hx hb dX9_firstNearer_57 (lv_at hl 0 rfl) ?_
        have hP9 := (hP.sub (ws' := [(h0, .inr (5, [.ref pad, .ref pp, .ref im, vse, vtr])), (pp, .inr (1, [.int n, .int told, .int sp, .int gr, .ref ac, .ref ak])), (t, .inr (3, [.ref ta, .ref tq, .int qd, .int se, .int go, .int ki, .int nn])), (ta, .inl (gB G, 15625, .inl fs)), (tq, .inl (gI G, 15625, .inl fq))]) [0, 1, 2, 3, 4] rfl)
        have hD9 := (hD.sub (ws' := [(h0, .inr (5, [.ref pad, .ref pp, .ref im, vse, vtr])), (pp, .inr (1, [.int n, .int told, .int sp, .int gr, .ref ac, .ref ak])), (t, .inr (3, [.ref ta, .ref tq, .int qd, .int se, .int go, .int ki, .int nn])), (ta, .inl (gB G, 15625, .inl fs)), (tq, .inl (gI G, 15625, .inl fq))]) [0, 1, 2, 3, 4] (by decide) rfl)
        exact W.iret (v := r6) hx hb hr (fun t ht hW => ⟨⟨r6, (), rfl, trivial, by rw [ht]; exact hP9, hD9⟩, hS.F ht⟩) hS.2.2 dX9_firstNearer_59
    · refine lv_if_eq (tgt := 60) hx hb dX9_firstNearer_39 (by decide) (fun _ => ?_) (fun c17 => False.elim (by revert c17; decide))
      obtain ⟨x18, ex18⟩ : ∃ yy_ : Int32, yy_ = x + 1 := ⟨_, rfl⟩
      refine lv_iinc (v := x18) (lv' := [(5, .int x18), (6, .int r6), (4, .int x3), (0, .ref h0), (1, .ref t), (2, .int p1), (3, .int p2)]) hx hb dX9_firstNearer_60 hl (k := 1) rfl (by rw [ex18]; rfl) (by decide) rfl (fun ls hl => ?_)
      refine lv_goto (tgt := 12) hx hb dX9_firstNearer_63 (by decide) ?_
      have hinc12 := inc_lt hlt12 ex18
      refine ih12 x18 ?_ (by first | omega | (dsimp only; omega)) H locs ls (hP.sub [0, 1, 2, 3, 4] rfl) (hD.sub [0, 1, 2, 3, 4] (by decide) rfl) hS (lv_sub hl [0, 2, 3, 4, 5, 6] rfl)
      try dsimp only
      omega

set_option maxHeartbeats 1000000 in
set_option maxRecDepth 100000 in
theorem c_rowAnswer (l : Launch) (G : Gy) (sz : Nat) (h0 : Nat) (pad : Nat) (pp : Nat) (im : Nat) (vse : Value) (vtr : Value) (ac : Nat) (ak : Nat) (n : Int32) (told : Int32) (sp : Int32) (gr : Int32) (fc : Nat → Int32) (fk : Nat → Int32) (t : Nat) (ta : Nat) (tq : Nat) (qd : Int32) (se : Int32) (go : Int32) (ki : Int32) (nn : Int32) (fs : Nat → Int32) (fq : Nat → Int32) (p1 : Int32) (p2 : Int32) (p3 : Int32) (hq : inR qd 0 15625) (hs : inR se 0 15625) : Ci l G yX9_rowAnswer wsX9_rowAnswer ({ frames := 5, cells := 0, slots := 0, locals := 113 }) [.ref h0, .ref t, .int p1, .int p2, .int p3] ([(h0, .inr (5, [.ref pad, .ref pp, .ref im, vse, vtr])), (pp, .inr (1, [.int n, .int told, .int sp, .int gr, .ref ac, .ref ak])), (ac, .inl (gI G, 6, .inl fc)), (ak, .inl (gI G, 4, .inl fk)), (t, .inr (3, [.ref ta, .ref tq, .int qd, .int se, .int go, .int ki, .int nn])), (ta, .inl (gB G, 15625, .inl fs)), (tq, .inl (gI G, 15625, .inl fq))]) sz (fun (r : Int32) (u : Int32 × Int32 × (Nat → Int32) × (Nat → Int32)) => match u with | (qd1, se1, fs1, fq1) => inR qd1 0 15625 ∧ inR se1 0 15625) (fun (u : Int32 × Int32 × (Nat → Int32) × (Nat → Int32)) => match u with | (qd1, se1, fs1, fq1) => [(h0, .inr (5, [.ref pad, .ref pp, .ref im, vse, vtr])), (pp, .inr (1, [.int n, .int told, .int sp, .int gr, .ref ac, .ref ak])), (ac, .inl (gI G, 6, .inl fc)), (ak, .inl (gI G, 4, .inl fk)), (t, .inr (3, [.ref ta, .ref tq, .int qd1, .int se1, .int go, .int ki, .int nn])), (ta, .inl (gB G, 15625, .inl fs1)), (tq, .inl (gI G, 15625, .inl fq1))]) 0 0 := by
  refine Met.ofW (cc := cX9_rowAnswer) (maxL := 8) (ret := (some .int)) (by decide) rfl ?_
  intro p e s m args below meth c s₁ B hml hv
  obtain ⟨rfl, hsz, hP, hD0, E0⟩ := hv
  have hx := B.exec
  have hb := B.bytes
  have hr := B.returns
  have hts := atoms_spec (ws := wsX9_rowAnswer) B.pre
  have hown : s.vm.findClass RX9 = some m.cls := findClass_of_methodNamed B.named
  have hlocks := B.notSynchronized
  subst hsz
  have hD := hD0.self (sz := s.heap.size)
  generalize hAe : va_A ([(h0, .inr (5, [.ref pad, .ref pp, .ref im, vse, vtr])), (pp, .inr (1, [.int n, .int told, .int sp, .int gr, .ref ac, .ref ak])), (ac, .inl (gI G, 6, .inl fc)), (ak, .inl (gI G, 4, .inl fk)), (t, .inr (3, [.ref ta, .ref tq, .int qd, .int se, .int go, .int ki, .int nn])), (ta, .inl (gB G, 15625, .inl fs)), (tq, .inl (gI G, 15625, .inl fq))]) s.heap.size = A at hD E0 ⊢
  have E : EV G A s s.heap := E0
  have hA : ∀ q : Nat, s.heap.size ≤ q → A q := fun q h => by rw [← hAe]; exact Or.inr h
  have hS : va_S A s.heap s.heap [] := va_S.rf
  have hl := lv_entry ([.ref h0, .ref t, .int p1, .int p2, .int p3]) (n := 8) (Nat.le_of_ble_eq_true rfl)
  rw [lg_entry_eq]
  generalize (lg_sl ([.ref h0, .ref t, .int p1, .int p2, .int p3]) ++ List.replicate (8 - (lg_sl ([.ref h0, .ref t, .int p1, .int p2, .int p3])).length) Slot.unset).toArray = ls at hl ⊢
  have hl : lv_has ls 8 [(0, .ref h0), (1, .ref t), (2, .int p1), (3, .int p2), (4, .int p3)] := hl
  have hP : va_P G.1 vwCl ([(h0, .inr (5, [.ref pad, .ref pp, .ref im, vse, vtr])), (pp, .inr (1, [.int n, .int told, .int sp, .int gr, .ref ac, .ref ak])), (ac, .inl (gI G, 6, .inl fc)), (ak, .inl (gI G, 4, .inl fk)), (t, .inr (3, [.ref ta, .ref tq, .int qd, .int se, .int go, .int ki, .int nn])), (ta, .inl (gB G, 15625, .inl fs)), (tq, .inl (gI G, 15625, .inl fq))]) s.heap := hP
  refine lv_iload hx hb dX9_rowAnswer_0 (lv_at hl 4 rfl) ?_
  refine lv_iconst (v := (-1)) hx hb dX9_rowAnswer_2 (by decide) ?_
  refine lv_icmp_ne (tgt := 12) hx hb dX9_rowAnswer_3 (by decide) (fun c1 => ?_) (fun c1 => ?_)
  · refine lv_iload hx hb dX9_rowAnswer_12 (lv_at hl 4 rfl) ?_
    refine lv_if_lt (tgt := 27) hx hb dX9_rowAnswer_14 (by decide) (fun c2 => ?_) (fun c2 => ?_)
    · refine lv_bipush (v := (-6)) hx hb dX9_rowAnswer_27 (by decide) ?_
      have hP9 := (hP.sub (ws' := [(h0, .inr (5, [.ref pad, .ref pp, .ref im, vse, vtr])), (pp, .inr (1, [.int n, .int told, .int sp, .int gr, .ref ac, .ref ak])), (ac, .inl (gI G, 6, .inl fc)), (ak, .inl (gI G, 4, .inl fk)), (t, .inr (3, [.ref ta, .ref tq, .int qd, .int se, .int go, .int ki, .int nn])), (ta, .inl (gB G, 15625, .inl fs)), (tq, .inl (gI G, 15625, .inl fq))]) [0, 1, 2, 3, 4, 5, 6] rfl)
      have hD9 := (hD.sub (ws' := [(h0, .inr (5, [.ref pad, .ref pp, .ref im, vse, vtr])), (pp, .inr (1, [.int n, .int told, .int sp, .int gr, .ref ac, .ref ak])), (ac, .inl (gI G, 6, .inl fc)), (ak, .inl (gI G, 4, .inl fk)), (t, .inr (3, [.ref ta, .ref tq, .int qd, .int se, .int go, .int ki, .int nn])), (ta, .inl (gB G, 15625, .inl fs)), (tq, .inl (gI G, 15625, .inl fq))]) [0, 1, 2, 3, 4, 5, 6] (by decide) rfl)
      exact W.iret (v := (-6)) hx hb hr (fun t ht hW => ⟨⟨(-6), (qd, se, fs, fq), rfl, ⟨hq, hs⟩, by rw [ht]; exact hP9, hD9⟩, hS.F ht⟩) hS.2.2 dX9_rowAnswer_29
    · refine lv_iload hx hb dX9_rowAnswer_17 (lv_at hl 4 rfl) ?_
      refine lv_aload_n hx hb dX9_rowAnswer_19 rfl (lv_at hl 1 rfl) ?_
      refine lv_iload_n hx hb dX9_rowAnswer_20 rfl (lv_at hl 2 rfl) ?_
      refine ca_i (wr := [(h0, .inr (5, [.ref pad, .ref pp, .ref im, vse, vtr])), (pp, .inr (1, [.int n, .int told, .int sp, .int gr, .ref ac, .ref ak])), (ac, .inl (gI G, 6, .inl fc)), (ak, .inl (gI G, 4, .inl fk))]) (va_runV (As := [.int p1]) (rest := [.int p3]) ⟨hx, hb, hml, hown, hts⟩ (c_slipsFrom l G s.heap.size t ta tq qd se go ki nn fs fq p1 hq hs) (cwV 1 hts gX9_rowAnswer_X7_slipsFrom rfl rfl rfl (by decide +kernel) ⟨by decide +kernel, by decide +kernel⟩) (pre_V E hP hD hS hA [4, 5, 6] (by decide) rfl 4 3 rfl rfl) rfl rfl hl.1 rfl (lv_room (Nat.le_of_ble_eq_true rfl)) dX9_rowAnswer_21 ⟨by decide +kernel, by decide +kernel⟩) hS hP hD hA [4, 5, 6] [0, 1, 2, 3] rfl rfl (by decide) (by decide) (fun r4 u5 H locs w3 hP hD hS => ?_)
      obtain ⟨qd1_6, se1_7, fs1_8, fq1_9⟩ := u5
      try dsimp only at w3 hP hD
      have hP := (hP.sub (ws' := [(h0, .inr (5, [.ref pad, .ref pp, .ref im, vse, vtr])), (pp, .inr (1, [.int n, .int told, .int sp, .int gr, .ref ac, .ref ak])), (ac, .inl (gI G, 6, .inl fc)), (ak, .inl (gI G, 4, .inl fk)), (t, .inr (3, [.ref ta, .ref tq, .int qd1_6, .int se1_7, .int go, .int ki, .int nn])), (ta, .inl (gB G, 15625, .inl fs1_8)), (tq, .inl (gI G, 15625, .inl fq1_9))]) [0, 1, 2, 3, 4, 5, 6] rfl)
      have hD := (hD.sub (ws' := [(h0, .inr (5, [.ref pad, .ref pp, .ref im, vse, vtr])), (pp, .inr (1, [.int n, .int told, .int sp, .int gr, .ref ac, .ref ak])), (ac, .inl (gI G, 6, .inl fc)), (ak, .inl (gI G, 4, .inl fk)), (t, .inr (3, [.ref ta, .ref tq, .int qd1_6, .int se1_7, .int go, .int ki, .int nn])), (ta, .inl (gB G, 15625, .inl fs1_8)), (tq, .inl (gI G, 15625, .inl fq1_9))]) [0, 1, 2, 3, 4, 5, 6] (by decide) rfl)
      refine lv_icmp_lt (tgt := 30) hx hb dX9_rowAnswer_24 (by decide) (fun c10 => ?_) (fun c10 => ?_)
      · have hbig := i3_lt.mp c10
        refine lv_iload_n hx hb dX9_rowAnswer_30 rfl (lv_at hl 2 rfl) ?_
        refine lv_istore (lv' := [(5, .int p1), (0, .ref h0), (1, .ref t), (2, .int p1), (3, .int p2), (4, .int p3)]) hx hb dX9_rowAnswer_31 hl (by decide) rfl (fun ls hl => ?_)
        refine lv_bipush (v := (-6)) hx hb dX9_rowAnswer_33 (by decide) ?_
        refine lv_istore (lv' := [(6, .int (-6)), (5, .int p1), (0, .ref h0), (1, .ref t), (2, .int p1), (3, .int p2), (4, .int p3)]) hx hb dX9_rowAnswer_35 hl (by decide) rfl (fun ls hl => ?_)
        refine lv_iconst (v := 0) hx hb dX9_rowAnswer_37 (by decide) ?_
        refine lv_istore (lv' := [(7, .int 0), (6, .int (-6)), (5, .int p1), (0, .ref h0), (1, .ref t), (2, .int p1), (3, .int p2), (4, .int p3)]) hx hb dX9_rowAnswer_38 hl (by decide) rfl (fun ls hl => ?_)
        refine lp_run (x0 := (0, p1, (-6))) (fun xx_ : Int32 × Int32 × Int32 => match xx_ with | (x, y, z) => [(h0, .inr (5, [.ref pad, .ref pp, .ref im, vse, vtr])), (pp, .inr (1, [.int n, .int told, .int sp, .int gr, .ref ac, .ref ak])), (ac, .inl (gI G, 6, .inl fc)), (ak, .inl (gI G, 4, .inl fk)), (t, .inr (3, [.ref ta, .ref tq, .int qd1_6, .int se1_7, .int go, .int ki, .int nn])), (ta, .inl (gB G, 15625, .inl fs1_8)), (tq, .inl (gI G, 15625, .inl fq1_9))]) (fun xx_ : Int32 × Int32 × Int32 => match xx_ with | (x, y, z) => [(7, .int x), (6, .int z), (5, .int y), (0, .ref h0), (1, .ref t), (2, .int p1), (3, .int p2), (4, .int p3)]) (fun xx_ : Int32 × Int32 × Int32 => match xx_ with | (x, y, z) => (0 ≤ x.toInt)) (fun xx_ : Int32 × Int32 × Int32 => match xx_ with | (x, y, z) => (p3.toInt + 1 - x.toInt).toNat) (hP.sub [0, 1, 2, 3, 4, 5, 6] rfl) (hD.sub [0, 1, 2, 3, 4, 5, 6] (by decide) rfl) hS (lv_sub hl [0, 1, 2, 3, 4, 5, 6, 7] rfl) (show (0 : Int) ≤ (0 : Int32).toInt by decide) ?_
        intro xx_ hI ih40 H locs ls hP hD hS hl
        obtain ⟨x, y, z⟩ := xx_
        dsimp only at hI ih40 hP hD hl
        have hx0 := hI
        have hl : lv_has ls 8 [(7, .int x), (6, .int z), (5, .int y), (0, .ref h0), (1, .ref t), (2, .int p1), (3, .int p2), (4, .int p3)] := hl
        have hP : va_P G.1 vwCl ([(h0, .inr (5, [.ref pad, .ref pp, .ref im, vse, vtr])), (pp, .inr (1, [.int n, .int told, .int sp, .int gr, .ref ac, .ref ak])), (ac, .inl (gI G, 6, .inl fc)), (ak, .inl (gI G, 4, .inl fk)), (t, .inr (3, [.ref ta, .ref tq, .int qd1_6, .int se1_7, .int go, .int ki, .int nn])), (ta, .inl (gB G, 15625, .inl fs1_8)), (tq, .inl (gI G, 15625, .inl fq1_9))]) H := hP
        have hD : va_D A ([(h0, .inr (5, [.ref pad, .ref pp, .ref im, vse, vtr])), (pp, .inr (1, [.int n, .int told, .int sp, .int gr, .ref ac, .ref ak])), (ac, .inl (gI G, 6, .inl fc)), (ak, .inl (gI G, 4, .inl fk)), (t, .inr (3, [.ref ta, .ref tq, .int qd1_6, .int se1_7, .int go, .int ki, .int nn])), (ta, .inl (gB G, 15625, .inl fs1_8)), (tq, .inl (gI G, 15625, .inl fq1_9))]) := hD
        refine lv_iload hx hb dX9_rowAnswer_40 (lv_at hl 0 rfl) ?_
        refine lv_iload hx hb dX9_rowAnswer_42 (lv_at hl 7 rfl) ?_
        refine lv_icmp_gt (tgt := 79) hx hb dX9_rowAnswer_44 (by decide) (fun c11 => ?_) (fun c11 => ?_)
        · refine lv_iload hx hb dX9_rowAnswer_79 (lv_at hl 1 rfl) ?_
          have hP9 := (hP.sub (ws' := [(h0, .inr (5, [.ref pad, .ref pp, .ref im, vse, vtr])), (pp, .inr (1, [.int n, .int told, .int sp, .int gr, .ref ac, .ref ak])), (ac, .inl (gI G, 6, .inl fc)), (ak, .inl (gI G, 4, .inl fk)), (t, .inr (3, [.ref ta, .ref tq, .int qd1_6, .int se1_7, .int go, .int ki, .int nn])), (ta, .inl (gB G, 15625, .inl fs1_8)), (tq, .inl (gI G, 15625, .inl fq1_9))]) [0, 1, 2, 3, 4, 5, 6] rfl)
          have hD9 := (hD.sub (ws' := [(h0, .inr (5, [.ref pad, .ref pp, .ref im, vse, vtr])), (pp, .inr (1, [.int n, .int told, .int sp, .int gr, .ref ac, .ref ak])), (ac, .inl (gI G, 6, .inl fc)), (ak, .inl (gI G, 4, .inl fk)), (t, .inr (3, [.ref ta, .ref tq, .int qd1_6, .int se1_7, .int go, .int ki, .int nn])), (ta, .inl (gB G, 15625, .inl fs1_8)), (tq, .inl (gI G, 15625, .inl fq1_9))]) [0, 1, 2, 3, 4, 5, 6] (by decide) rfl)
          exact W.iret (v := z) hx hb hr (fun t ht hW => ⟨⟨z, (qd1_6, se1_7, fs1_8, fq1_9), rfl, w3, by rw [ht]; exact hP9, hD9⟩, hS.F ht⟩) hS.2.2 dX9_rowAnswer_81
        · have hle : x.toInt ≤ p3.toInt := by ((try simp only [inR, inS, i3_lt, i3_le, i3_eq, i6_lt, i6_le, Int32.toInt_toInt64, lg_cmp_lt, lg_cmp_gt, lg_cmp_ge, lg_cmp_le, Int32.reduceToInt, Int64.reduceToInt] at c11 ⊢); omega)
          have hlt := Int.lt_of_le_of_lt hle hbig
          refine lv_aload_n hx hb dX9_rowAnswer_47 rfl (lv_at hl 3 rfl) ?_
          refine lv_aload_n hx hb dX9_rowAnswer_48 rfl (lv_at hl 4 rfl) ?_
          refine lv_iload hx hb dX9_rowAnswer_49 (lv_at hl 2 rfl) ?_
          refine lv_aload_n hx hb dX9_rowAnswer_51 rfl (lv_at hl 3 rfl) ?_
          refine va_get (D := G.1) (ci := 5) (v := .ref pp) (C := RX9) (T := TX9) (N := 5) hx hb hts (fun _ h => List.mem_cons_of_mem _ (List.mem_append_left _ (List.mem_append_left _ (List.mem_append_right _ h)))) hown E.K hP 0 rfl rfl 1 (by decide) (hts (.fieldLink RX9 19 "LastMap" "papers" "LLastMap$Papers;") (by decide +kernel)) (fun _ h9 => h9) rfl dX9_rowAnswer_52 ?_
          refine lv_iload_n hx hb dX9_rowAnswer_55 rfl (lv_at hl 6 rfl) ?_
          refine ca_iR (va_runV (As := [.int p2]) (rest := [.int y, .ref t, .ref h0]) ⟨hx, hb, hml, hown, hts⟩ (c_kindsOf l G H.size pp ac ak n told sp gr fc fk p2) (cwV 1 hts gX9_rowAnswer_X3_kindsOf rfl rfl rfl (by decide +kernel) ⟨by decide +kernel, by decide +kernel⟩) (pre_V E hP hD hS hA [1, 2, 3] (by decide) rfl 1 1 rfl rfl) rfl rfl hl.1 rfl (lv_room (Nat.le_of_ble_eq_true rfl)) dX9_rowAnswer_56 ⟨by decide +kernel, by decide +kernel⟩) hS hP hD hA [1, 2, 3] rfl (fun r13 _ H locs w12 hP hS => ?_)
          refine ca_iR (va_runV (As := [.ref t, .int y, .int r13]) (rest := []) ⟨hx, hb, hml, hown, hts⟩ (c_firstNearer l G H.size h0 pad pp im vse vtr ac ak n told sp gr t ta tq qd1_6 se1_7 go ki nn fs1_8 fq1_9 y r13) (cwV 3 hts gX9_rowAnswer_X9_firstNearer rfl rfl rfl (by decide +kernel) ⟨by decide +kernel, by decide +kernel⟩) (pre_V E hP hD hS hA [0, 1, 4, 5, 6] (by decide) rfl 0 5 rfl rfl) rfl rfl hl.1 rfl (lv_room (Nat.le_of_ble_eq_true rfl)) dX9_rowAnswer_59 ⟨by decide +kernel, by decide +kernel⟩) hS hP hD hA [0, 1, 4, 5, 6] rfl (fun r15 _ H locs w14 hP hS => ?_)
          refine lv_istore (lv' := [(6, .int r15), (7, .int x), (5, .int y), (0, .ref h0), (1, .ref t), (2, .int p1), (3, .int p2), (4, .int p3)]) hx hb dX9_rowAnswer_62 hl (by decide) rfl (fun ls hl => ?_)
          refine lv_iload hx hb dX9_rowAnswer_64 (lv_at hl 2 rfl) ?_
          refine lv_iload hx hb dX9_rowAnswer_66 (lv_at hl 0 rfl) ?_
          refine ca_iR (va_runS (As := [.int y, .int r15]) (rest := []) ⟨hx, hb, hml, hown, hts⟩ (c_after l G H.size y r15) (va_cwS 2 hts gX9_rowAnswer_X6_after rfl rfl rfl (by decide +kernel) ⟨by decide +kernel, by decide +kernel⟩) (pre_S E hP hD hS hA [] (by decide) rfl) rfl rfl hl.1 rfl (lv_room (Nat.le_of_ble_eq_true rfl)) dX9_rowAnswer_68 ⟨by decide +kernel, by decide +kernel⟩) hS hP hD hA [] rfl (fun r17 _ H locs w16 hP hS => ?_)
          refine lv_istore (lv' := [(5, .int r17), (6, .int r15), (7, .int x), (0, .ref h0), (1, .ref t), (2, .int p1), (3, .int p2), (4, .int p3)]) hx hb dX9_rowAnswer_71 hl (by decide) rfl (fun ls hl => ?_)
          obtain ⟨x18, ex18⟩ : ∃ yy_ : Int32, yy_ = x + 1 := ⟨_, rfl⟩
          refine lv_iinc (v := x18) (lv' := [(7, .int x18), (5, .int r17), (6, .int r15), (0, .ref h0), (1, .ref t), (2, .int p1), (3, .int p2), (4, .int p3)]) hx hb dX9_rowAnswer_73 hl (k := 2) rfl (by rw [ex18]; rfl) (by decide) rfl (fun ls hl => ?_)
          refine lv_goto (tgt := 40) hx hb dX9_rowAnswer_76 (by decide) ?_
          have hinc := inc_lt hlt ex18
          refine ih40 (x18, r17, r15) ?_ (by first | omega | (dsimp only; omega)) H locs ls (hP.sub [0, 1, 2, 3, 4, 5, 6] rfl) (hD.sub [0, 1, 2, 3, 4, 5, 6] (by decide) rfl) hS (lv_sub hl [0, 2, 1, 3, 4, 5, 6, 7] rfl)
          try dsimp only
          omega
      · refine lv_bipush (v := (-6)) hx hb dX9_rowAnswer_27 (by decide) ?_
        have hP9 := (hP.sub (ws' := [(h0, .inr (5, [.ref pad, .ref pp, .ref im, vse, vtr])), (pp, .inr (1, [.int n, .int told, .int sp, .int gr, .ref ac, .ref ak])), (ac, .inl (gI G, 6, .inl fc)), (ak, .inl (gI G, 4, .inl fk)), (t, .inr (3, [.ref ta, .ref tq, .int qd1_6, .int se1_7, .int go, .int ki, .int nn])), (ta, .inl (gB G, 15625, .inl fs1_8)), (tq, .inl (gI G, 15625, .inl fq1_9))]) [0, 1, 2, 3, 4, 5, 6] rfl)
        have hD9 := (hD.sub (ws' := [(h0, .inr (5, [.ref pad, .ref pp, .ref im, vse, vtr])), (pp, .inr (1, [.int n, .int told, .int sp, .int gr, .ref ac, .ref ak])), (ac, .inl (gI G, 6, .inl fc)), (ak, .inl (gI G, 4, .inl fk)), (t, .inr (3, [.ref ta, .ref tq, .int qd1_6, .int se1_7, .int go, .int ki, .int nn])), (ta, .inl (gB G, 15625, .inl fs1_8)), (tq, .inl (gI G, 15625, .inl fq1_9))]) [0, 1, 2, 3, 4, 5, 6] (by decide) rfl)
        exact W.iret (v := (-6)) hx hb hr (fun t ht hW => ⟨⟨(-6), (qd1_6, se1_7, fs1_8, fq1_9), rfl, w3, by rw [ht]; exact hP9, hD9⟩, hS.F ht⟩) hS.2.2 dX9_rowAnswer_29
  · refine lv_aload_n hx hb dX9_rowAnswer_6 rfl (lv_at hl 1 rfl) ?_
    refine lv_iload_n hx hb dX9_rowAnswer_7 rfl (lv_at hl 2 rfl) ?_
    refine ca_i (wr := [(h0, .inr (5, [.ref pad, .ref pp, .ref im, vse, vtr])), (pp, .inr (1, [.int n, .int told, .int sp, .int gr, .ref ac, .ref ak])), (ac, .inl (gI G, 6, .inl fc)), (ak, .inl (gI G, 4, .inl fk))]) (va_runV (As := [.int p1]) (rest := []) ⟨hx, hb, hml, hown, hts⟩ (c_slipsFrom l G s.heap.size t ta tq qd se go ki nn fs fq p1 hq hs) (cwV 1 hts gX9_rowAnswer_X7_slipsFrom rfl rfl rfl (by decide +kernel) ⟨by decide +kernel, by decide +kernel⟩) (pre_V E hP hD hS hA [4, 5, 6] (by decide) rfl 4 3 rfl rfl) rfl rfl hl.1 rfl (lv_room (Nat.le_of_ble_eq_true rfl)) dX9_rowAnswer_8 ⟨by decide +kernel, by decide +kernel⟩) hS hP hD hA [4, 5, 6] [0, 1, 2, 3] rfl rfl (by decide) (by decide) (fun r20 u21 H locs w19 hP hD hS => ?_)
    obtain ⟨qd1_22, se1_23, fs1_24, fq1_25⟩ := u21
    try dsimp only at w19 hP hD
    have hP := (hP.sub (ws' := [(h0, .inr (5, [.ref pad, .ref pp, .ref im, vse, vtr])), (pp, .inr (1, [.int n, .int told, .int sp, .int gr, .ref ac, .ref ak])), (ac, .inl (gI G, 6, .inl fc)), (ak, .inl (gI G, 4, .inl fk)), (t, .inr (3, [.ref ta, .ref tq, .int qd1_22, .int se1_23, .int go, .int ki, .int nn])), (ta, .inl (gB G, 15625, .inl fs1_24)), (tq, .inl (gI G, 15625, .inl fq1_25))]) [0, 1, 2, 3, 4, 5, 6] rfl)
    have hD := (hD.sub (ws' := [(h0, .inr (5, [.ref pad, .ref pp, .ref im, vse, vtr])), (pp, .inr (1, [.int n, .int told, .int sp, .int gr, .ref ac, .ref ak])), (ac, .inl (gI G, 6, .inl fc)), (ak, .inl (gI G, 4, .inl fk)), (t, .inr (3, [.ref ta, .ref tq, .int qd1_22, .int se1_23, .int go, .int ki, .int nn])), (ta, .inl (gB G, 15625, .inl fs1_24)), (tq, .inl (gI G, 15625, .inl fq1_25))]) [0, 1, 2, 3, 4, 5, 6] (by decide) rfl)
    have hP9 := (hP.sub (ws' := [(h0, .inr (5, [.ref pad, .ref pp, .ref im, vse, vtr])), (pp, .inr (1, [.int n, .int told, .int sp, .int gr, .ref ac, .ref ak])), (ac, .inl (gI G, 6, .inl fc)), (ak, .inl (gI G, 4, .inl fk)), (t, .inr (3, [.ref ta, .ref tq, .int qd1_22, .int se1_23, .int go, .int ki, .int nn])), (ta, .inl (gB G, 15625, .inl fs1_24)), (tq, .inl (gI G, 15625, .inl fq1_25))]) [0, 1, 2, 3, 4, 5, 6] rfl)
    have hD9 := (hD.sub (ws' := [(h0, .inr (5, [.ref pad, .ref pp, .ref im, vse, vtr])), (pp, .inr (1, [.int n, .int told, .int sp, .int gr, .ref ac, .ref ak])), (ac, .inl (gI G, 6, .inl fc)), (ak, .inl (gI G, 4, .inl fk)), (t, .inr (3, [.ref ta, .ref tq, .int qd1_22, .int se1_23, .int go, .int ki, .int nn])), (ta, .inl (gB G, 15625, .inl fs1_24)), (tq, .inl (gI G, 15625, .inl fq1_25))]) [0, 1, 2, 3, 4, 5, 6] (by decide) rfl)
    exact W.iret (v := r20) hx hb hr (fun t ht hW => ⟨⟨r20, (qd1_22, se1_23, fs1_24, fq1_25), rfl, w19, by rw [ht]; exact hP9, hD9⟩, hS.F ht⟩) hS.2.2 dX9_rowAnswer_11
