theorem n_isMade (l : Launch) (G : Gy) (sz : Nat) (k : Nat) (i : Nat) (ki : Int32) (hk2 : 2 ≤ k) (hk6 : k ≤ 6) (hi : i < 40) : Ci l G yX6_isMade wsX6_isMade ({ frames := 1, cells := 0, slots := 0, locals := 21 }) [.int (nI (sv40 i)), .int ki, .int (nI k)] ([]) sz (fun (r : Int32) (_ : Unit) => (r = 1 ∧ (okB k i = true ∧ bK ki (mv40 i).1 = true)) ∨ (r = 0 ∧ ¬ (okB k i = true ∧ bK ki (mv40 i).1 = true))) (fun (_ : Unit) => []) 0 0 := by
  have h := c_isMade l G sz (nI (sv40 i)) ki (nI k)
  rw [show mdP (nI (sv40 i)) ki (nI k) = (okB k i = true ∧ bK ki (mv40 i).1 = true) from propext (md40 hk2 hk6 hi)] at h
  exact h

set_option maxHeartbeats 1000000 in
set_option maxRecDepth 100000 in
theorem n_firstNearer (l : Launch) (G : Gy) (sz : Nat) (h0 : Nat) (pad : Nat) (pp : Nat) (im : Nat) (vse : Value) (vtr : Value) (ac : Nat) (ak : Nat) (told : Int32) (sp : Int32) (gr : Int32) (t : Nat) (ta : Nat) (tq : Nat) (k : Nat) (cq : Nat) (yq : Nat) (go : Int32) (ki : Int32) (fs : Nat → Int32) (fq : Nat → Int32) (S : Nat → Prop) (u : Nat) (Dm : Nat) (hk2 : 2 ≤ k) (hk6 : k ≤ 6) (hbk : BK k (bK ki) S yq cq fs fq) (hu : u < 5 ^ k) (hfu : fS k fs u = nI (Dm + 1)) (hDm : Dm ≤ 72) (hmin : ∀ d, d < Dm + 1 → ¬ pS k (bK ki) S d u) (hpu : pS k (bK ki) S (Dm + 1) u) (hne : ∀ z d, z < 5 ^ k → d < Dm + 1 → pS k (bK ki) S d z → ¬ fS k fs z < 0) : Ci l G yX9_firstNearer wsX9_firstNearer ({ frames := 4, cells := 0, slots := 0, locals := 87 }) [.ref h0, .ref t, .int (nI (sc k u)), .int ki] ([(h0, .inr (5, [.ref pad, .ref pp, .ref im, vse, vtr])), (pp, .inr (1, [.int (nI k), .int told, .int sp, .int gr, .ref ac, .ref ak])), (t, .inr (3, [.ref ta, .ref tq, .int (nI cq), .int (nI yq), .int go, .int ki, .int (nI k)])), (ta, .inl (gB G, 15625, .inl fs)), (tq, .inl (gI G, 15625, .inl fq))]) sz (fun (r : Int32) (_ : Unit) => ∃ t, r = nI (slv k t) ∧ stp k (bK ki) t u (slN k u (mvAt k t)) ∧ pS k (bK ki) S Dm (slN k u (mvAt k t)) ∧ ∀ t2 v2, t2 < t → stp k (bK ki) t2 u v2 → ¬ pS k (bK ki) S Dm v2) (fun (_ : Unit) => [(h0, .inr (5, [.ref pad, .ref pp, .ref im, vse, vtr])), (pp, .inr (1, [.int (nI k), .int told, .int sp, .int gr, .ref ac, .ref ak])), (t, .inr (3, [.ref ta, .ref tq, .int (nI cq), .int (nI yq), .int go, .int ki, .int (nI k)])), (ta, .inl (gB G, 15625, .inl fs)), (tq, .inl (gI G, 15625, .inl fq))]) 0 0 := by
  refine Met.ofW (cc := cX9_firstNearer) (maxL := 7) (ret := (some .int)) (by decide) rfl ?_
  intro p e s m args below meth c s₁ B hml hv
  obtain ⟨rfl, hsz, hP, hD0, E0⟩ := hv
  have hx := B.exec
  have hb := B.bytes
  have hr := B.returns
  have hts := atoms_spec (ws := wsX9_firstNearer) B.pre
  have hown : s.vm.findClass RX9 = some m.cls := findClass_of_methodNamed B.named
  have hlocks := B.notSynchronized
  subst hsz
  have hD := hD0.self (sz := s.heap.size)
  generalize hAe : va_A ([(h0, .inr (5, [.ref pad, .ref pp, .ref im, vse, vtr])), (pp, .inr (1, [.int (nI k), .int told, .int sp, .int gr, .ref ac, .ref ak])), (t, .inr (3, [.ref ta, .ref tq, .int (nI cq), .int (nI yq), .int go, .int ki, .int (nI k)])), (ta, .inl (gB G, 15625, .inl fs)), (tq, .inl (gI G, 15625, .inl fq))]) s.heap.size = A at hD E0 ⊢
  have E : EV G A s s.heap := E0
  have hA : ∀ q : Nat, s.heap.size ≤ q → A q := fun q h => by rw [← hAe]; exact Or.inr h
  have hS : va_S A s.heap s.heap [] := va_S.rf
  have hl := lv_entry ([.ref h0, .ref t, .int (nI (sc k u)), .int ki]) (n := 7) (Nat.le_of_ble_eq_true rfl)
  rw [lg_entry_eq]
  generalize (lg_sl ([.ref h0, .ref t, .int (nI (sc k u)), .int ki]) ++ List.replicate (7 - (lg_sl ([.ref h0, .ref t, .int (nI (sc k u)), .int ki])).length) Slot.unset).toArray = ls at hl ⊢
  have hl : lv_has ls 7 [(0, .ref h0), (1, .ref t), (2, .int (nI (sc k u))), (3, .int ki)] := hl
  have hP : va_P G.1 vwCl ([(h0, .inr (5, [.ref pad, .ref pp, .ref im, vse, vtr])), (pp, .inr (1, [.int (nI k), .int told, .int sp, .int gr, .ref ac, .ref ak])), (t, .inr (3, [.ref ta, .ref tq, .int (nI cq), .int (nI yq), .int go, .int ki, .int (nI k)])), (ta, .inl (gB G, 15625, .inl fs)), (tq, .inl (gI G, 15625, .inl fq))]) s.heap := hP
  refine lv_aload_n hx hb dX9_firstNearer_0 rfl (lv_at hl 1 rfl) ?_
  refine lv_iload_n hx hb dX9_firstNearer_1 rfl (lv_at hl 2 rfl) ?_
  refine ca_iR (va_runV (As := [.int (nI (sc k u))]) (rest := []) ⟨hx, hb, hml, hown, hts⟩ (n_known l G s.heap.size t ta tq k cq (nI yq) go ki fs fq u hk6 hu) (cwV 1 hts gX9_firstNearer_X7_known rfl rfl rfl (by decide +kernel) ⟨by decide +kernel, by decide +kernel⟩) (pre_V E hP hD hS hA [2, 3, 4] (by decide) rfl 2 3 rfl rfl) rfl rfl hl.1 rfl (lv_room (Nat.le_of_ble_eq_true rfl)) dX9_firstNearer_2 ⟨by decide +kernel, by decide +kernel⟩) hS hP hD hA [2, 3, 4] rfl (fun r2 _ H locs w1 hP hS => ?_)
  obtain rfl : r2 = nI (Dm + 1) := by rw [w1]; exact hfu
  refine lv_iconst (v := 1) hx hb dX9_firstNearer_5 (by decide) ?_
  refine lv_isub hx hb dX9_firstNearer_6 ?_
  refine lv_topi (fun x3 ex3 => ?_)
  obtain rfl : x3 = nI ((Dm + 1) - 1) := by rw [ex3]; exact pk_sub (show 1 ≤ (Dm + 1) by omega)
  refine lv_istore (lv' := [(4, .int (nI ((Dm + 1) - 1))), (0, .ref h0), (1, .ref t), (2, .int (nI (sc k u))), (3, .int ki)]) hx hb dX9_firstNearer_7 hl (by decide) rfl (fun ls hl => ?_)
  refine lv_iconst (v := 0) hx hb dX9_firstNearer_9 (by decide) ?_
  refine lv_istore (lv' := [(5, .int 0), (4, .int (nI ((Dm + 1) - 1))), (0, .ref h0), (1, .ref t), (2, .int (nI (sc k u))), (3, .int ki)]) hx hb dX9_firstNearer_10 hl (by decide) rfl (fun ls hl => ?_)
  refine lp_run (x0 := 0) (fun x : Nat => [(h0, .inr (5, [.ref pad, .ref pp, .ref im, vse, vtr])), (pp, .inr (1, [.int (nI k), .int told, .int sp, .int gr, .ref ac, .ref ak])), (t, .inr (3, [.ref ta, .ref tq, .int (nI cq), .int (nI yq), .int go, .int ki, .int (nI k)])), (ta, .inl (gB G, 15625, .inl fs)), (tq, .inl (gI G, 15625, .inl fq))]) (fun x : Nat => [(5, .int (nI x)), (4, .int (nI ((Dm + 1) - 1))), (0, .ref h0), (1, .ref t), (2, .int (nI (sc k u))), (3, .int ki)]) (fun x : Nat => (x ≤ 40) ∧ (∀ j, j < x → ¬ (okB k j = true ∧ bK ki (mv40 j).1 = true ∧ pS k (bK ki) S Dm (slN k u (mv40 j))))) (fun x : Nat => 40 - x) (hP.sub [0, 1, 2, 3, 4] rfl) (hD.sub [0, 1, 2, 3, 4] (by decide) rfl) hS (lv_sub hl [0, 1, 2, 3, 4, 5] rfl) ⟨(by omega), by intro j9 h9; omega⟩ ?_
  intro xx_ hI ih12 H locs ls hP hD hS hl
  obtain ⟨x, rfl⟩ : ∃ zz_, zz_ = xx_ := ⟨_, rfl⟩
  obtain ⟨hx0, hno⟩ := hI
  have hl : lv_has ls 7 [(5, .int (nI x)), (4, .int (nI ((Dm + 1) - 1))), (0, .ref h0), (1, .ref t), (2, .int (nI (sc k u))), (3, .int ki)] := hl
  have hP : va_P G.1 vwCl ([(h0, .inr (5, [.ref pad, .ref pp, .ref im, vse, vtr])), (pp, .inr (1, [.int (nI k), .int told, .int sp, .int gr, .ref ac, .ref ak])), (t, .inr (3, [.ref ta, .ref tq, .int (nI cq), .int (nI yq), .int go, .int ki, .int (nI k)])), (ta, .inl (gB G, 15625, .inl fs)), (tq, .inl (gI G, 15625, .inl fq))]) H := hP
  have hD : va_D A ([(h0, .inr (5, [.ref pad, .ref pp, .ref im, vse, vtr])), (pp, .inr (1, [.int (nI k), .int told, .int sp, .int gr, .ref ac, .ref ak])), (t, .inr (3, [.ref ta, .ref tq, .int (nI cq), .int (nI yq), .int go, .int ki, .int (nI k)])), (ta, .inl (gB G, 15625, .inl fs)), (tq, .inl (gI G, 15625, .inl fq))]) := hD
  refine lv_iload hx hb dX9_firstNearer_12 (lv_at hl 0 rfl) ?_
  refine lv_bipush (v := 40) hx hb dX9_firstNearer_14 (by decide) ?_
  refine lv_icmp_ge (tgt := 66) hx hb dX9_firstNearer_16 (by decide) (fun c4 => ?_) (fun c4 => ?_)
  · have c4 : 40 ≤ x := (nI_leI (a := 40) (b := x) (by omega) (by omega)).mp c4
    refine lv_bipush (v := (-6)) hx hb dX9_firstNearer_66 (by decide) ?_
    have hP9 := (hP.sub (ws' := [(h0, .inr (5, [.ref pad, .ref pp, .ref im, vse, vtr])), (pp, .inr (1, [.int (nI k), .int told, .int sp, .int gr, .ref ac, .ref ak])), (t, .inr (3, [.ref ta, .ref tq, .int (nI cq), .int (nI yq), .int go, .int ki, .int (nI k)])), (ta, .inl (gB G, 15625, .inl fs)), (tq, .inl (gI G, 15625, .inl fq))]) [0, 1, 2, 3, 4] rfl)
    have hD9 := (hD.sub (ws' := [(h0, .inr (5, [.ref pad, .ref pp, .ref im, vse, vtr])), (pp, .inr (1, [.int (nI k), .int told, .int sp, .int gr, .ref ac, .ref ak])), (t, .inr (3, [.ref ta, .ref tq, .int (nI cq), .int (nI yq), .int go, .int ki, .int (nI k)])), (ta, .inl (gB G, 15625, .inl fs)), (tq, .inl (gI G, 15625, .inl fq))]) [0, 1, 2, 3, 4] (by decide) rfl)
    exact W.iret (v := (-6)) hx hb hr (fun t9_ ht9_ hW9_ => ⟨⟨(-6), (), rfl, by exfalso; obtain ⟨t9, y9, g1, g2, g3⟩ := pS_first hu hpu; exact none_40 (b := bK ki) (R := pS k (bK ki) S Dm) hk2 hk6 (fun j9 h9 => hno j9 (by omega)) t9 y9 g2 g3, by rw [ht9_]; exact hP9, hD9⟩, hS.F ht9_⟩) hS.2.2 dX9_firstNearer_68
  · have c4 : ¬ 40 ≤ x := fun h9_ => c4 ((nI_leI (a := 40) (b := x) (by omega) (by omega)).mpr h9_)
    have hx40 : x < 40 := by omega
    refine lv_iload hx hb dX9_firstNearer_19 (lv_at hl 0 rfl) ?_
    refine ca_iR (va_runS (As := [.int (nI x)]) (rest := []) ⟨hx, hb, hml, hown, hts⟩ (n_inOrder l G H.size x (by omega)) (va_cwS 1 hts gX9_firstNearer_X6_inOrder rfl rfl rfl (by decide +kernel) ⟨by decide +kernel, by decide +kernel⟩) (pre_S E hP hD hS hA [] (by decide) rfl) rfl rfl hl.1 rfl (lv_room (Nat.le_of_ble_eq_true rfl)) dX9_firstNearer_21 ⟨by decide +kernel, by decide +kernel⟩) hS hP hD hA [] rfl (fun r6 _ H locs w5 hP hS => ?_)
    rw [w5]
    refine lv_istore (lv' := [(6, .int (nI (sv40 x))), (5, .int (nI x)), (4, .int (nI ((Dm + 1) - 1))), (0, .ref h0), (1, .ref t), (2, .int (nI (sc k u))), (3, .int ki)]) hx hb dX9_firstNearer_24 hl (by decide) rfl (fun ls hl => ?_)
    refine lv_iload hx hb dX9_firstNearer_26 (lv_at hl 0 rfl) ?_
    refine lv_iload_n hx hb dX9_firstNearer_28 rfl (lv_at hl 6 rfl) ?_
    refine lv_aload_n hx hb dX9_firstNearer_29 rfl (lv_at hl 3 rfl) ?_
    refine va_get (D := G.1) (ci := 5) (v := .ref pp) (C := RX9) (T := TX9) (N := 5) hx hb hts (fun _ h => List.mem_cons_of_mem _ (List.mem_append_left _ (List.mem_append_left _ (List.mem_append_right _ h)))) hown E.K hP 0 rfl rfl 1 (by decide) (hts (.fieldLink RX9 19 "LastMap" "papers" "LLastMap$Papers;") (by decide +kernel)) (fun _ h9 => h9) rfl dX9_firstNearer_30 ?_
    refine va_get (D := G.1) (ci := 1) (v := .int (nI k)) (C := RX3) (T := TX3) (N := 6) hx hb hts (fun _ h => List.mem_cons_of_mem _ (List.mem_append_left _ (List.mem_append_right _ h))) hown E.K hP 1 rfl rfl 0 (by decide) (hts (.fieldLink RX9 27 "LastMap$Papers" "siteCount" "I") (by decide +kernel)) (fun _ h9 => h9) rfl dX9_firstNearer_33 ?_
    refine ca_iR (va_runS (As := [.int (nI (sv40 x)), .int ki, .int (nI k)]) (rest := []) ⟨hx, hb, hml, hown, hts⟩ (n_isMade l G H.size k x ki hk2 hk6 hx40) (va_cwS 3 hts gX9_firstNearer_X6_isMade rfl rfl rfl (by decide +kernel) ⟨by decide +kernel, by decide +kernel⟩) (pre_S E hP hD hS hA [] (by decide) rfl) rfl rfl hl.1 rfl (lv_room (Nat.le_of_ble_eq_true rfl)) dX9_firstNearer_36 ⟨by decide +kernel, by decide +kernel⟩) hS hP hD hA [] rfl (fun r8 _ H locs w7 hP hS => ?_)
    rcases w7 with ⟨rfl, b9⟩ | ⟨rfl, b9⟩
    · refine lv_if_eq (tgt := 60) hx hb dX9_firstNearer_39 (by decide) (fun c10 => False.elim (by revert c10; decide)) (fun _ => ?_)
      have hmd := b9
      have hst := stp_40 (u := u) (b := bK ki) hk2 hk6 hx40 hmd.1 hmd.2
      have hni := near_iff hbk hu hmin hne hst (by omega)
      refine lv_aload_n hx hb dX9_firstNearer_42 rfl (lv_at hl 4 rfl) ?_
      refine lv_iload_n hx hb dX9_firstNearer_43 rfl (lv_at hl 5 rfl) ?_
      refine lv_iload hx hb dX9_firstNearer_44 (lv_at hl 0 rfl) ?_
      refine ca_iR (va_runS (As := [.int (nI (sc k u)), .int (nI (sv40 x))]) (rest := [.ref t]) ⟨hx, hb, hml, hown, hts⟩ (n_after l G H.size (sc k u) (sv40 x) ((mv40 x).1) ((mv40 x).2.1) ((mv40 x).2.2) (sc_lt hk6 hu) (okV_six hk6 (ok40 hx40 hmd.1)) rfl) (va_cwS 2 hts gX9_firstNearer_X6_after rfl rfl rfl (by decide +kernel) ⟨by decide +kernel, by decide +kernel⟩) (pre_S E hP hD hS hA [] (by decide) rfl) rfl rfl hl.1 rfl (lv_room (Nat.le_of_ble_eq_true rfl)) dX9_firstNearer_46 ⟨by decide +kernel, by decide +kernel⟩) hS hP hD hA [] rfl (fun r12 _ H locs w11 hP hS => ?_)
      rw [w11]
      refine W.eq (g2 := F0 m 49 ls [.int (nI (sc k (slN k u ((mv40 x).1, (mv40 x).2.1, (mv40 x).2.2)))), .ref t]) (by rw [slN_sc hk6 (ok40 hx40 hmd.1)]) ?_
      refine ca_iR (va_runV (As := [.int (nI (sc k (slN k u ((mv40 x).1, (mv40 x).2.1, (mv40 x).2.2))))]) (rest := []) ⟨hx, hb, hml, hown, hts⟩ (n_known l G H.size t ta tq k cq (nI yq) go ki fs fq (slN k u ((mv40 x).1, (mv40 x).2.1, (mv40 x).2.2)) hk6 (slN_lt hu (ok40 hx40 hmd.1))) (cwV 1 hts gX9_firstNearer_X7_known rfl rfl rfl (by decide +kernel) ⟨by decide +kernel, by decide +kernel⟩) (pre_V E hP hD hS hA [2, 3, 4] (by decide) rfl 2 3 rfl rfl) rfl rfl hl.1 rfl (lv_room (Nat.le_of_ble_eq_true rfl)) dX9_firstNearer_49 ⟨by decide +kernel, by decide +kernel⟩) hS hP hD hA [2, 3, 4] rfl (fun r14 _ H locs w13 hP hS => ?_)
      refine lv_iload hx hb dX9_firstNearer_52 (lv_at hl 2 rfl) ?_
      refine lv_icmp_ne (tgt := 60) hx hb dX9_firstNearer_54 (by decide) (fun c15 => ?_) (fun c15 => ?_)
      · obtain ⟨x16, ex16⟩ : ∃ yy_ : Int32, yy_ = (nI x) + 1 := ⟨_, rfl⟩
        refine lv_iinc (v := x16) (lv' := [(5, .int x16), (6, .int (nI (sv40 x))), (4, .int (nI ((Dm + 1) - 1))), (0, .ref h0), (1, .ref t), (2, .int (nI (sc k u))), (3, .int ki)]) hx hb dX9_firstNearer_60 hl (k := 1) rfl (by rw [ex16]; rfl) (by decide) rfl (fun ls hl => ?_)
        obtain rfl : x16 = nI (x + 1) := by rw [ex16]; exact nI_add x 1
        refine lv_goto (tgt := 12) hx hb dX9_firstNearer_63 (by decide) ?_
        refine ih12 (x + 1) ⟨?_, ?_⟩ (by first | omega | (dsimp only; omega)) H locs ls (hP.sub [0, 1, 2, 3, 4] rfl) (hD.sub [0, 1, 2, 3, 4] (by decide) rfl) hS (lv_sub hl [0, 2, 3, 4, 5, 6] rfl)
        · try dsimp only
          omega
        · try dsimp only
          intro j9 h9; by_cases e9 : j9 = x
          · rw [e9]; exact fun q9 => c15 (by rw [w13, show Dm + 1 - 1 = Dm by omega]; exact hni.mpr q9.2.2)
          · exact hno j9 (by omega)
      · refine lv_iload hx hb dX9_firstNearer_57 (lv_at hl 0 rfl) ?_
        have hP9 := (hP.sub (ws' := [(h0, .inr (5, [.ref pad, .ref pp, .ref im, vse, vtr])), (pp, .inr (1, [.int (nI k), .int told, .int sp, .int gr, .ref ac, .ref ak])), (t, .inr (3, [.ref ta, .ref tq, .int (nI cq), .int (nI yq), .int go, .int ki, .int (nI k)])), (ta, .inl (gB G, 15625, .inl fs)), (tq, .inl (gI G, 15625, .inl fq))]) [0, 1, 2, 3, 4] rfl)
        have hD9 := (hD.sub (ws' := [(h0, .inr (5, [.ref pad, .ref pp, .ref im, vse, vtr])), (pp, .inr (1, [.int (nI k), .int told, .int sp, .int gr, .ref ac, .ref ak])), (t, .inr (3, [.ref ta, .ref tq, .int (nI cq), .int (nI yq), .int go, .int ki, .int (nI k)])), (ta, .inl (gB G, 15625, .inl fs)), (tq, .inl (gI G, 15625, .inl fq))]) [0, 1, 2, 3, 4] (by decide) rfl)
        exact W.iret (v := (nI (sv40 x))) hx hb hr (fun t9_ ht9_ hW9_ => ⟨⟨nI (sv40 x), (), rfl, ⟨vN k x, by rw [slv_40 hk2 hk6 hx40 hmd.1], by rw [(vN_t k (by omega) hk2 x hx40 hmd.1).2.1]; exact hst, by rw [(vN_t k (by omega) hk2 x hx40 hmd.1).2.1]; exact hni.mp (by have q9 := c15; rw [w13, show Dm + 1 - 1 = Dm by omega] at q9; exact q9), first_40 hk2 hk6 hx40 hmd.1 hno⟩, by rw [ht9_]; exact hP9, hD9⟩, hS.F ht9_⟩) hS.2.2 dX9_firstNearer_59
    · refine lv_if_eq (tgt := 60) hx hb dX9_firstNearer_39 (by decide) (fun _ => ?_) (fun c17 => False.elim (by revert c17; decide))
      have hmn := b9
      obtain ⟨x18, ex18⟩ : ∃ yy_ : Int32, yy_ = (nI x) + 1 := ⟨_, rfl⟩
      refine lv_iinc (v := x18) (lv' := [(5, .int x18), (6, .int (nI (sv40 x))), (4, .int (nI ((Dm + 1) - 1))), (0, .ref h0), (1, .ref t), (2, .int (nI (sc k u))), (3, .int ki)]) hx hb dX9_firstNearer_60 hl (k := 1) rfl (by rw [ex18]; rfl) (by decide) rfl (fun ls hl => ?_)
      obtain rfl : x18 = nI (x + 1) := by rw [ex18]; exact nI_add x 1
      refine lv_goto (tgt := 12) hx hb dX9_firstNearer_63 (by decide) ?_
      refine ih12 (x + 1) ⟨?_, ?_⟩ (by first | omega | (dsimp only; omega)) H locs ls (hP.sub [0, 1, 2, 3, 4] rfl) (hD.sub [0, 1, 2, 3, 4] (by decide) rfl) hS (lv_sub hl [0, 2, 3, 4, 5, 6] rfl)
      · try dsimp only
        omega
      · try dsimp only
        intro j9 h9; by_cases e9 : j9 = x
        · rw [e9]; exact fun q9 => hmn ⟨q9.1, q9.2.1⟩
        · exact hno j9 (by omega)

set_option maxHeartbeats 1000000 in
set_option maxRecDepth 100000 in
theorem n_rowAnswer (l : Launch) (G : Gy) (sz : Nat) (h0 : Nat) (pad : Nat) (pp : Nat) (im : Nat) (vse : Value) (vtr : Value) (ac : Nat) (ak : Nat) (told : Int32) (sp : Int32) (gr : Int32) (fc : Nat → Int32) (fk : Nat → Int32) (t : Nat) (ta : Nat) (tq : Nat) (k : Nat) (cq : Nat) (yq : Nat) (go : Int32) (ki : Int32) (fs : Nat → Int32) (fq : Nat → Int32) (S : Nat → Prop) (a : Nat) (jh : Nat) (p3 : Int32) (hk2 : 2 ≤ k) (hk6 : k ≤ 6) (hbk : BK k (bK ki) S yq cq fs fq) (ha : a < 5 ^ k) (hjh : jh < 4) (hki : fk jh = ki) : Ci l G yX9_rowAnswer wsX9_rowAnswer ({ frames := 5, cells := 0, slots := 0, locals := 113 }) [.ref h0, .ref t, .int (nI (sc k a)), .int (nI jh), .int p3] ([(h0, .inr (5, [.ref pad, .ref pp, .ref im, vse, vtr])), (pp, .inr (1, [.int (nI k), .int told, .int sp, .int gr, .ref ac, .ref ak])), (ac, .inl (gI G, 6, .inl fc)), (ak, .inl (gI G, 4, .inl fk)), (t, .inr (3, [.ref ta, .ref tq, .int (nI cq), .int (nI yq), .int go, .int ki, .int (nI k)])), (ta, .inl (gB G, 15625, .inl fs)), (tq, .inl (gI G, 15625, .inl fq))]) sz (fun (r : Int32) (u : Nat × Nat × (Nat → Int32) × (Nat → Int32)) => match u with | (cq1, yq1, fs1, fq1) => BK k (bK ki) S yq1 cq1 fs1 fq1 ∧ rwA k (bK ki) S a p3 r) (fun (u : Nat × Nat × (Nat → Int32) × (Nat → Int32)) => match u with | (cq1, yq1, fs1, fq1) => [(h0, .inr (5, [.ref pad, .ref pp, .ref im, vse, vtr])), (pp, .inr (1, [.int (nI k), .int told, .int sp, .int gr, .ref ac, .ref ak])), (ac, .inl (gI G, 6, .inl fc)), (ak, .inl (gI G, 4, .inl fk)), (t, .inr (3, [.ref ta, .ref tq, .int (nI cq1), .int (nI yq1), .int go, .int ki, .int (nI k)])), (ta, .inl (gB G, 15625, .inl fs1)), (tq, .inl (gI G, 15625, .inl fq1))]) 0 0 := by
  refine Met.ofW (cc := cX9_rowAnswer) (maxL := 8) (ret := (some .int)) (by decide) rfl ?_
  intro p e s m args below meth c s₁ B hml hv
  obtain ⟨rfl, hsz, hP, hD0, E0⟩ := hv
  have hx := B.exec
  have hb := B.bytes
  have hr := B.returns
  have hts := atoms_spec (ws := wsX9_rowAnswer) B.pre
  have hown : s.vm.findClass RX9 = some m.cls := findClass_of_methodNamed B.named
  have hlocks := B.notSynchronized
  subst hsz
  have hD := hD0.self (sz := s.heap.size)
  generalize hAe : va_A ([(h0, .inr (5, [.ref pad, .ref pp, .ref im, vse, vtr])), (pp, .inr (1, [.int (nI k), .int told, .int sp, .int gr, .ref ac, .ref ak])), (ac, .inl (gI G, 6, .inl fc)), (ak, .inl (gI G, 4, .inl fk)), (t, .inr (3, [.ref ta, .ref tq, .int (nI cq), .int (nI yq), .int go, .int ki, .int (nI k)])), (ta, .inl (gB G, 15625, .inl fs)), (tq, .inl (gI G, 15625, .inl fq))]) s.heap.size = A at hD E0 ⊢
  have E : EV G A s s.heap := E0
  have hA : ∀ q : Nat, s.heap.size ≤ q → A q := fun q h => by rw [← hAe]; exact Or.inr h
  have hS : va_S A s.heap s.heap [] := va_S.rf
  have hl := lv_entry ([.ref h0, .ref t, .int (nI (sc k a)), .int (nI jh), .int p3]) (n := 8) (Nat.le_of_ble_eq_true rfl)
  rw [lg_entry_eq]
  generalize (lg_sl ([.ref h0, .ref t, .int (nI (sc k a)), .int (nI jh), .int p3]) ++ List.replicate (8 - (lg_sl ([.ref h0, .ref t, .int (nI (sc k a)), .int (nI jh), .int p3])).length) Slot.unset).toArray = ls at hl ⊢
  have hl : lv_has ls 8 [(0, .ref h0), (1, .ref t), (2, .int (nI (sc k a))), (3, .int (nI jh)), (4, .int p3)] := hl
  have hP : va_P G.1 vwCl ([(h0, .inr (5, [.ref pad, .ref pp, .ref im, vse, vtr])), (pp, .inr (1, [.int (nI k), .int told, .int sp, .int gr, .ref ac, .ref ak])), (ac, .inl (gI G, 6, .inl fc)), (ak, .inl (gI G, 4, .inl fk)), (t, .inr (3, [.ref ta, .ref tq, .int (nI cq), .int (nI yq), .int go, .int ki, .int (nI k)])), (ta, .inl (gB G, 15625, .inl fs)), (tq, .inl (gI G, 15625, .inl fq))]) s.heap := hP
  refine lv_iload hx hb dX9_rowAnswer_0 (lv_at hl 4 rfl) ?_
  refine lv_iconst (v := (-1)) hx hb dX9_rowAnswer_2 (by decide) ?_
  refine lv_icmp_ne (tgt := 12) hx hb dX9_rowAnswer_3 (by decide) (fun c1 => ?_) (fun c1 => ?_)
  · refine lv_iload hx hb dX9_rowAnswer_12 (lv_at hl 4 rfl) ?_
    refine lv_if_lt (tgt := 27) hx hb dX9_rowAnswer_14 (by decide) (fun c2 => ?_) (fun c2 => ?_)
    · refine lv_bipush (v := (-6)) hx hb dX9_rowAnswer_27 (by decide) ?_
      have hP9 := (hP.sub (ws' := [(h0, .inr (5, [.ref pad, .ref pp, .ref im, vse, vtr])), (pp, .inr (1, [.int (nI k), .int told, .int sp, .int gr, .ref ac, .ref ak])), (ac, .inl (gI G, 6, .inl fc)), (ak, .inl (gI G, 4, .inl fk)), (t, .inr (3, [.ref ta, .ref tq, .int (nI cq), .int (nI yq), .int go, .int ki, .int (nI k)])), (ta, .inl (gB G, 15625, .inl fs)), (tq, .inl (gI G, 15625, .inl fq))]) [0, 1, 2, 3, 4, 5, 6] rfl)
      have hD9 := (hD.sub (ws' := [(h0, .inr (5, [.ref pad, .ref pp, .ref im, vse, vtr])), (pp, .inr (1, [.int (nI k), .int told, .int sp, .int gr, .ref ac, .ref ak])), (ac, .inl (gI G, 6, .inl fc)), (ak, .inl (gI G, 4, .inl fk)), (t, .inr (3, [.ref ta, .ref tq, .int (nI cq), .int (nI yq), .int go, .int ki, .int (nI k)])), (ta, .inl (gB G, 15625, .inl fs)), (tq, .inl (gI G, 15625, .inl fq))]) [0, 1, 2, 3, 4, 5, 6] (by decide) rfl)
      exact W.iret (v := (-6)) hx hb hr (fun t9_ ht9_ hW9_ => ⟨⟨(-6), (cq, yq, fs, fq), rfl, ⟨hbk, rw_neg hk6 ha c1 c2⟩, by rw [ht9_]; exact hP9, hD9⟩, hS.F ht9_⟩) hS.2.2 dX9_rowAnswer_29
    · refine lv_iload hx hb dX9_rowAnswer_17 (lv_at hl 4 rfl) ?_
      refine lv_aload_n hx hb dX9_rowAnswer_19 rfl (lv_at hl 1 rfl) ?_
      refine lv_iload_n hx hb dX9_rowAnswer_20 rfl (lv_at hl 2 rfl) ?_
      refine ca_i (wr := [(h0, .inr (5, [.ref pad, .ref pp, .ref im, vse, vtr])), (pp, .inr (1, [.int (nI k), .int told, .int sp, .int gr, .ref ac, .ref ak])), (ac, .inl (gI G, 6, .inl fc)), (ak, .inl (gI G, 4, .inl fk))]) (va_runV (As := [.int (nI (sc k a))]) (rest := [.int p3]) ⟨hx, hb, hml, hown, hts⟩ (n_slipsFrom l G s.heap.size t ta tq k cq yq go ki fs fq S (nI (sc k a)) hk2 hk6 hbk) (cwV 1 hts gX9_rowAnswer_X7_slipsFrom rfl rfl rfl (by decide +kernel) ⟨by decide +kernel, by decide +kernel⟩) (pre_V E hP hD hS hA [4, 5, 6] (by decide) rfl 4 3 rfl rfl) rfl rfl hl.1 rfl (lv_room (Nat.le_of_ble_eq_true rfl)) dX9_rowAnswer_21 ⟨by decide +kernel, by decide +kernel⟩) hS hP hD hA [4, 5, 6] [0, 1, 2, 3] rfl rfl (by decide) (by decide) (fun r4 u5 H locs w3 hP hD hS => ?_)
      obtain ⟨cq1_6, yq1_7, fs1_8, fq1_9⟩ := u5
      try dsimp only at w3 hP hD
      have hP := (hP.sub (ws' := [(h0, .inr (5, [.ref pad, .ref pp, .ref im, vse, vtr])), (pp, .inr (1, [.int (nI k), .int told, .int sp, .int gr, .ref ac, .ref ak])), (ac, .inl (gI G, 6, .inl fc)), (ak, .inl (gI G, 4, .inl fk)), (t, .inr (3, [.ref ta, .ref tq, .int (nI cq1_6), .int (nI yq1_7), .int go, .int ki, .int (nI k)])), (ta, .inl (gB G, 15625, .inl fs1_8)), (tq, .inl (gI G, 15625, .inl fq1_9))]) [0, 1, 2, 3, 4, 5, 6] rfl)
      have hD := (hD.sub (ws' := [(h0, .inr (5, [.ref pad, .ref pp, .ref im, vse, vtr])), (pp, .inr (1, [.int (nI k), .int told, .int sp, .int gr, .ref ac, .ref ak])), (ac, .inl (gI G, 6, .inl fc)), (ak, .inl (gI G, 4, .inl fk)), (t, .inr (3, [.ref ta, .ref tq, .int (nI cq1_6), .int (nI yq1_7), .int go, .int ki, .int (nI k)])), (ta, .inl (gB G, 15625, .inl fs1_8)), (tq, .inl (gI G, 15625, .inl fq1_9))]) [0, 1, 2, 3, 4, 5, 6] (by decide) rfl)
      have hask := w3.2 a ha rfl
      refine lv_icmp_lt (tgt := 30) hx hb dX9_rowAnswer_24 (by decide) (fun c10 => ?_) (fun c10 => ?_)
      · obtain ⟨iv, D, hiD, ei, eD, h72, hpD, hmD, hnD⟩ := rw_in hask c2 c10
        obtain ⟨C, hC⟩ := lstC_ex hpD
        have hl : lv_has ls 8 [(0, .ref h0), (1, .ref t), (2, .int (nI (sc k a))), (3, .int (nI jh)), (4, .int (nI iv))] := by have q := hl; rw [ei] at q; exact q
        refine lv_iload_n hx hb dX9_rowAnswer_30 rfl (lv_at hl 2 rfl) ?_
        refine lv_istore (lv' := [(5, .int (nI (sc k a))), (0, .ref h0), (1, .ref t), (2, .int (nI (sc k a))), (3, .int (nI jh)), (4, .int (nI iv))]) hx hb dX9_rowAnswer_31 hl (by decide) rfl (fun ls hl => ?_)
        refine lv_bipush (v := (-6)) hx hb dX9_rowAnswer_33 (by decide) ?_
        refine lv_istore (lv' := [(6, .int (-6)), (5, .int (nI (sc k a))), (0, .ref h0), (1, .ref t), (2, .int (nI (sc k a))), (3, .int (nI jh)), (4, .int (nI iv))]) hx hb dX9_rowAnswer_35 hl (by decide) rfl (fun ls hl => ?_)
        have hbk1 := w3.1
        refine lv_iconst (v := 0) hx hb dX9_rowAnswer_37 (by decide) ?_
        refine lv_istore (lv' := [(7, .int 0), (6, .int (-6)), (5, .int (nI (sc k a))), (0, .ref h0), (1, .ref t), (2, .int (nI (sc k a))), (3, .int (nI jh)), (4, .int (nI iv))]) hx hb dX9_rowAnswer_38 hl (by decide) rfl (fun ls hl => ?_)
        refine lp_run (x0 := (0, a, (-6))) (fun xx_ : Nat × Nat × Int32 => match xx_ with | (x, u, sl) => [(h0, .inr (5, [.ref pad, .ref pp, .ref im, vse, vtr])), (pp, .inr (1, [.int (nI k), .int told, .int sp, .int gr, .ref ac, .ref ak])), (ac, .inl (gI G, 6, .inl fc)), (ak, .inl (gI G, 4, .inl fk)), (t, .inr (3, [.ref ta, .ref tq, .int (nI cq1_6), .int (nI yq1_7), .int go, .int ki, .int (nI k)])), (ta, .inl (gB G, 15625, .inl fs1_8)), (tq, .inl (gI G, 15625, .inl fq1_9))]) (fun xx_ : Nat × Nat × Int32 => match xx_ with | (x, u, sl) => [(7, .int (nI x)), (6, .int sl), (5, .int (nI (sc k u))), (0, .ref h0), (1, .ref t), (2, .int (nI (sc k a))), (3, .int (nI jh)), (4, .int (nI iv))]) (fun xx_ : Nat × Nat × Int32 => match xx_ with | (x, u, sl) => (x ≤ iv + 1) ∧ (u < 5 ^ k) ∧ (pcd k (bK ki) a x (C / 64 ^ (D - x)) u) ∧ (pS k (bK ki) S (D - x) u) ∧ (fS k fs1_8 u = nI (D - x)) ∧ (1 ≤ x → sl = nI (slv k (dgC D C (x - 1))))) (fun xx_ : Nat × Nat × Int32 => match xx_ with | (x, u, sl) => iv + 1 - x) (hP.sub [0, 1, 2, 3, 4, 5, 6] rfl) (hD.sub [0, 1, 2, 3, 4, 5, 6] (by decide) rfl) hS (lv_sub hl [0, 1, 2, 3, 4, 5, 6, 7] rfl) ⟨by omega, ha, row_0 hk6 hC, hpD, eD, by intro q9; omega⟩ ?_
        intro xx_ hI ih40 H locs ls hP hD hS hl
        obtain ⟨x, u, sl⟩ := xx_
        dsimp only at hI ih40 hP hD hl
        obtain ⟨hx0, hu, hpc, hd, hfu, hsl⟩ := hI
        have hl : lv_has ls 8 [(7, .int (nI x)), (6, .int sl), (5, .int (nI (sc k u))), (0, .ref h0), (1, .ref t), (2, .int (nI (sc k a))), (3, .int (nI jh)), (4, .int (nI iv))] := hl
        have hP : va_P G.1 vwCl ([(h0, .inr (5, [.ref pad, .ref pp, .ref im, vse, vtr])), (pp, .inr (1, [.int (nI k), .int told, .int sp, .int gr, .ref ac, .ref ak])), (ac, .inl (gI G, 6, .inl fc)), (ak, .inl (gI G, 4, .inl fk)), (t, .inr (3, [.ref ta, .ref tq, .int (nI cq1_6), .int (nI yq1_7), .int go, .int ki, .int (nI k)])), (ta, .inl (gB G, 15625, .inl fs1_8)), (tq, .inl (gI G, 15625, .inl fq1_9))]) H := hP
        have hD : va_D A ([(h0, .inr (5, [.ref pad, .ref pp, .ref im, vse, vtr])), (pp, .inr (1, [.int (nI k), .int told, .int sp, .int gr, .ref ac, .ref ak])), (ac, .inl (gI G, 6, .inl fc)), (ak, .inl (gI G, 4, .inl fk)), (t, .inr (3, [.ref ta, .ref tq, .int (nI cq1_6), .int (nI yq1_7), .int go, .int ki, .int (nI k)])), (ta, .inl (gB G, 15625, .inl fs1_8)), (tq, .inl (gI G, 15625, .inl fq1_9))]) := hD
        refine lv_iload hx hb dX9_rowAnswer_40 (lv_at hl 0 rfl) ?_
        refine lv_iload hx hb dX9_rowAnswer_42 (lv_at hl 7 rfl) ?_
        refine lv_icmp_gt (tgt := 79) hx hb dX9_rowAnswer_44 (by decide) (fun c11 => ?_) (fun c11 => ?_)
        · have c11 : iv < x := (nI_ltI (a := iv) (b := x) (by omega) (by omega)).mp c11
          refine lv_iload hx hb dX9_rowAnswer_79 (lv_at hl 1 rfl) ?_
          have hP9 := (hP.sub (ws' := [(h0, .inr (5, [.ref pad, .ref pp, .ref im, vse, vtr])), (pp, .inr (1, [.int (nI k), .int told, .int sp, .int gr, .ref ac, .ref ak])), (ac, .inl (gI G, 6, .inl fc)), (ak, .inl (gI G, 4, .inl fk)), (t, .inr (3, [.ref ta, .ref tq, .int (nI cq1_6), .int (nI yq1_7), .int go, .int ki, .int (nI k)])), (ta, .inl (gB G, 15625, .inl fs1_8)), (tq, .inl (gI G, 15625, .inl fq1_9))]) [0, 1, 2, 3, 4, 5, 6] rfl)
          have hD9 := (hD.sub (ws' := [(h0, .inr (5, [.ref pad, .ref pp, .ref im, vse, vtr])), (pp, .inr (1, [.int (nI k), .int told, .int sp, .int gr, .ref ac, .ref ak])), (ac, .inl (gI G, 6, .inl fc)), (ak, .inl (gI G, 4, .inl fk)), (t, .inr (3, [.ref ta, .ref tq, .int (nI cq1_6), .int (nI yq1_7), .int go, .int ki, .int (nI k)])), (ta, .inl (gB G, 15625, .inl fs1_8)), (tq, .inl (gI G, 15625, .inl fq1_9))]) [0, 1, 2, 3, 4, 5, 6] (by decide) rfl)
          exact W.iret (v := sl) hx hb hr (fun t9_ ht9_ hW9_ => ⟨⟨sl, (cq1_6, yq1_7, fs1_8, fq1_9), rfl, ⟨hbk1, Or.inr ⟨D, h72, hpD, hmD, Or.inr (Or.inr ⟨iv, C, hiD, ei, hC, by rw [hsl (by omega), show x - 1 = iv by omega]⟩)⟩⟩, by rw [ht9_]; exact hP9, hD9⟩, hS.F ht9_⟩) hS.2.2 dX9_rowAnswer_81
        · have c11 : ¬ iv < x := fun h9_ => c11 ((nI_ltI (a := iv) (b := x) (by omega) (by omega)).mpr h9_)
          have hxD : x < D := by omega
          have hmin9 : ∀ d, d < D - 1 - x + 1 → ¬ pS k (bK ki) S d u := fun d9 h9 q9 => hmD (x + d9) (by omega) (pS_app (pcd_pth _ _ _ hpc) q9)
          have hne9 : ∀ z d, z < 5 ^ k → d < D - 1 - x + 1 → pS k (bK ki) S d z → ¬ fS k fs1_8 z < 0 := fun z9 d9 g1 g2 g3 => hnD z9 d9 g1 (by omega) g3
          refine lv_aload_n hx hb dX9_rowAnswer_47 rfl (lv_at hl 3 rfl) ?_
          refine lv_aload_n hx hb dX9_rowAnswer_48 rfl (lv_at hl 4 rfl) ?_
          refine lv_iload hx hb dX9_rowAnswer_49 (lv_at hl 2 rfl) ?_
          refine lv_aload_n hx hb dX9_rowAnswer_51 rfl (lv_at hl 3 rfl) ?_
          refine va_get (D := G.1) (ci := 5) (v := .ref pp) (C := RX9) (T := TX9) (N := 5) hx hb hts (fun _ h => List.mem_cons_of_mem _ (List.mem_append_left _ (List.mem_append_left _ (List.mem_append_right _ h)))) hown E.K hP 0 rfl rfl 1 (by decide) (hts (.fieldLink RX9 19 "LastMap" "papers" "LLastMap$Papers;") (by decide +kernel)) (fun _ h9 => h9) rfl dX9_rowAnswer_52 ?_
          refine lv_iload_n hx hb dX9_rowAnswer_55 rfl (lv_at hl 6 rfl) ?_
          refine ca_iR (va_runV (As := [.int (nI jh)]) (rest := [.int (nI (sc k u)), .ref t, .ref h0]) ⟨hx, hb, hml, hown, hts⟩ (n_kindsOf l G H.size pp ac ak (nI k) told sp gr fc fk jh hjh) (cwV 1 hts gX9_rowAnswer_X3_kindsOf rfl rfl rfl (by decide +kernel) ⟨by decide +kernel, by decide +kernel⟩) (pre_V E hP hD hS hA [1, 2, 3] (by decide) rfl 1 1 rfl rfl) rfl rfl hl.1 rfl (lv_room (Nat.le_of_ble_eq_true rfl)) dX9_rowAnswer_56 ⟨by decide +kernel, by decide +kernel⟩) hS hP hD hA [1, 2, 3] rfl (fun r13 _ H locs w12 hP hS => ?_)
          refine W.eq (g2 := F0 m 59 ls [.int ki, .int (nI (sc k u)), .ref t, .ref h0]) (by rw [w12, hki]) ?_
          refine ca_iR (va_runV (As := [.ref t, .int (nI (sc k u)), .int ki]) (rest := []) ⟨hx, hb, hml, hown, hts⟩ (n_firstNearer l G H.size h0 pad pp im vse vtr ac ak told sp gr t ta tq k cq1_6 yq1_7 go ki fs1_8 fq1_9 S u (D - 1 - x) hk2 hk6 hbk1 hu (by rw [show D - 1 - x + 1 = D - x by omega]; exact hfu) (by omega) hmin9 (by rw [show D - 1 - x + 1 = D - x by omega]; exact hd) hne9) (cwV 3 hts gX9_rowAnswer_X9_firstNearer rfl rfl rfl (by decide +kernel) ⟨by decide +kernel, by decide +kernel⟩) (pre_V E hP hD hS hA [0, 1, 4, 5, 6] (by decide) rfl 0 5 rfl rfl) rfl rfl hl.1 rfl (lv_room (Nat.le_of_ble_eq_true rfl)) dX9_rowAnswer_59 ⟨by decide +kernel, by decide +kernel⟩) hS hP hD hA [0, 1, 4, 5, 6] rfl (fun r15 _ H locs w14 hP hS => ?_)
          obtain ⟨t9, er9, hst9, hps9, hfi9⟩ := w14
          have hu2 := slN_lt hu (mvAt_ok hst9.1)
          have hnf := near_first hk6 ha hC hxD hpc hst9 hps9 hfi9
          obtain rfl : r15 = nI (slv k t9) := er9
          refine lv_istore (lv' := [(6, .int (nI (slv k t9))), (7, .int (nI x)), (5, .int (nI (sc k u))), (0, .ref h0), (1, .ref t), (2, .int (nI (sc k a))), (3, .int (nI jh)), (4, .int (nI iv))]) hx hb dX9_rowAnswer_62 hl (by decide) rfl (fun ls hl => ?_)
          refine lv_iload hx hb dX9_rowAnswer_64 (lv_at hl 2 rfl) ?_
          refine lv_iload hx hb dX9_rowAnswer_66 (lv_at hl 0 rfl) ?_
          refine ca_iR (va_runS (As := [.int (nI (sc k u)), .int (nI (slv k t9))]) (rest := []) ⟨hx, hb, hml, hown, hts⟩ (n_after l G H.size (sc k u) (slv k t9) ((mvAt k t9).1) ((mvAt k t9).2.1) ((mvAt k t9).2.2) (sc_lt hk6 hu) (okV_six hk6 (mvAt_ok hst9.1)) rfl) (va_cwS 2 hts gX9_rowAnswer_X6_after rfl rfl rfl (by decide +kernel) ⟨by decide +kernel, by decide +kernel⟩) (pre_S E hP hD hS hA [] (by decide) rfl) rfl rfl hl.1 rfl (lv_room (Nat.le_of_ble_eq_true rfl)) dX9_rowAnswer_68 ⟨by decide +kernel, by decide +kernel⟩) hS hP hD hA [] rfl (fun r17 _ H locs w16 hP hS => ?_)
          rw [w16]
          refine W.eq (g2 := F0 m 71 ls [.int (nI (sc k (slN k u ((mvAt k t9).1, (mvAt k t9).2.1, (mvAt k t9).2.2))))]) (by rw [slN_sc hk6 (mvAt_ok hst9.1)]) ?_
          refine lv_istore (lv' := [(5, .int (nI (sc k (slN k u ((mvAt k t9).1, (mvAt k t9).2.1, (mvAt k t9).2.2))))), (6, .int (nI (slv k t9))), (7, .int (nI x)), (0, .ref h0), (1, .ref t), (2, .int (nI (sc k a))), (3, .int (nI jh)), (4, .int (nI iv))]) hx hb dX9_rowAnswer_71 hl (by decide) rfl (fun ls hl => ?_)
          obtain ⟨x18, ex18⟩ : ∃ yy_ : Int32, yy_ = (nI x) + 1 := ⟨_, rfl⟩
          refine lv_iinc (v := x18) (lv' := [(7, .int x18), (5, .int (nI (sc k (slN k u ((mvAt k t9).1, (mvAt k t9).2.1, (mvAt k t9).2.2))))), (6, .int (nI (slv k t9))), (0, .ref h0), (1, .ref t), (2, .int (nI (sc k a))), (3, .int (nI jh)), (4, .int (nI iv))]) hx hb dX9_rowAnswer_73 hl (k := 2) rfl (by rw [ex18]; rfl) (by decide) rfl (fun ls hl => ?_)
          obtain rfl : x18 = nI (x + 1) := by rw [ex18]; exact nI_add x 1
          refine lv_goto (tgt := 40) hx hb dX9_rowAnswer_76 (by decide) ?_
          refine ih40 ((x + 1), (slN k u ((mvAt k t9).1, (mvAt k t9).2.1, (mvAt k t9).2.2)), nI (slv k t9)) ⟨?_, ?_, ?_, ?_, ?_, ?_⟩ (by first | omega | (dsimp only; omega)) H locs ls (hP.sub [0, 1, 2, 3, 4, 5, 6] rfl) (hD.sub [0, 1, 2, 3, 4, 5, 6] (by decide) rfl) hS (lv_sub hl [0, 2, 1, 3, 4, 5, 6, 7] rfl)
          · try dsimp only
            omega
          · try dsimp only
            exact hu2
          · try dsimp only
            exact hnf.2
          · try dsimp only
            rw [show D - (x + 1) = D - 1 - x by omega]; exact hps9
          · try dsimp only
            rw [show D - (x + 1) = D - 1 - x by omega]; exact (near_iff hbk1 hu hmin9 hne9 hst9 (by omega)).mpr hps9
          · try dsimp only
            exact fun _ => by rw [show x + 1 - 1 = x by omega, ← hnf.1]
      · refine lv_bipush (v := (-6)) hx hb dX9_rowAnswer_27 (by decide) ?_
        have hP9 := (hP.sub (ws' := [(h0, .inr (5, [.ref pad, .ref pp, .ref im, vse, vtr])), (pp, .inr (1, [.int (nI k), .int told, .int sp, .int gr, .ref ac, .ref ak])), (ac, .inl (gI G, 6, .inl fc)), (ak, .inl (gI G, 4, .inl fk)), (t, .inr (3, [.ref ta, .ref tq, .int (nI cq1_6), .int (nI yq1_7), .int go, .int ki, .int (nI k)])), (ta, .inl (gB G, 15625, .inl fs1_8)), (tq, .inl (gI G, 15625, .inl fq1_9))]) [0, 1, 2, 3, 4, 5, 6] rfl)
        have hD9 := (hD.sub (ws' := [(h0, .inr (5, [.ref pad, .ref pp, .ref im, vse, vtr])), (pp, .inr (1, [.int (nI k), .int told, .int sp, .int gr, .ref ac, .ref ak])), (ac, .inl (gI G, 6, .inl fc)), (ak, .inl (gI G, 4, .inl fk)), (t, .inr (3, [.ref ta, .ref tq, .int (nI cq1_6), .int (nI yq1_7), .int go, .int ki, .int (nI k)])), (ta, .inl (gB G, 15625, .inl fs1_8)), (tq, .inl (gI G, 15625, .inl fq1_9))]) [0, 1, 2, 3, 4, 5, 6] (by decide) rfl)
        exact W.iret (v := (-6)) hx hb hr (fun t9_ ht9_ hW9_ => ⟨⟨(-6), (cq1_6, yq1_7, fs1_8, fq1_9), rfl, ⟨w3.1, rw_big hask c1 c10⟩, by rw [ht9_]; exact hP9, hD9⟩, hS.F ht9_⟩) hS.2.2 dX9_rowAnswer_29
  · refine lv_aload_n hx hb dX9_rowAnswer_6 rfl (lv_at hl 1 rfl) ?_
    refine lv_iload_n hx hb dX9_rowAnswer_7 rfl (lv_at hl 2 rfl) ?_
    refine ca_i (wr := [(h0, .inr (5, [.ref pad, .ref pp, .ref im, vse, vtr])), (pp, .inr (1, [.int (nI k), .int told, .int sp, .int gr, .ref ac, .ref ak])), (ac, .inl (gI G, 6, .inl fc)), (ak, .inl (gI G, 4, .inl fk))]) (va_runV (As := [.int (nI (sc k a))]) (rest := []) ⟨hx, hb, hml, hown, hts⟩ (n_slipsFrom l G s.heap.size t ta tq k cq yq go ki fs fq S (nI (sc k a)) hk2 hk6 hbk) (cwV 1 hts gX9_rowAnswer_X7_slipsFrom rfl rfl rfl (by decide +kernel) ⟨by decide +kernel, by decide +kernel⟩) (pre_V E hP hD hS hA [4, 5, 6] (by decide) rfl 4 3 rfl rfl) rfl rfl hl.1 rfl (lv_room (Nat.le_of_ble_eq_true rfl)) dX9_rowAnswer_8 ⟨by decide +kernel, by decide +kernel⟩) hS hP hD hA [4, 5, 6] [0, 1, 2, 3] rfl rfl (by decide) (by decide) (fun r20 u21 H locs w19 hP hD hS => ?_)
    obtain ⟨cq1_22, yq1_23, fs1_24, fq1_25⟩ := u21
    try dsimp only at w19 hP hD
    have hP := (hP.sub (ws' := [(h0, .inr (5, [.ref pad, .ref pp, .ref im, vse, vtr])), (pp, .inr (1, [.int (nI k), .int told, .int sp, .int gr, .ref ac, .ref ak])), (ac, .inl (gI G, 6, .inl fc)), (ak, .inl (gI G, 4, .inl fk)), (t, .inr (3, [.ref ta, .ref tq, .int (nI cq1_22), .int (nI yq1_23), .int go, .int ki, .int (nI k)])), (ta, .inl (gB G, 15625, .inl fs1_24)), (tq, .inl (gI G, 15625, .inl fq1_25))]) [0, 1, 2, 3, 4, 5, 6] rfl)
    have hD := (hD.sub (ws' := [(h0, .inr (5, [.ref pad, .ref pp, .ref im, vse, vtr])), (pp, .inr (1, [.int (nI k), .int told, .int sp, .int gr, .ref ac, .ref ak])), (ac, .inl (gI G, 6, .inl fc)), (ak, .inl (gI G, 4, .inl fk)), (t, .inr (3, [.ref ta, .ref tq, .int (nI cq1_22), .int (nI yq1_23), .int go, .int ki, .int (nI k)])), (ta, .inl (gB G, 15625, .inl fs1_24)), (tq, .inl (gI G, 15625, .inl fq1_25))]) [0, 1, 2, 3, 4, 5, 6] (by decide) rfl)
    have hask := w19.2 a ha rfl
    have hP9 := (hP.sub (ws' := [(h0, .inr (5, [.ref pad, .ref pp, .ref im, vse, vtr])), (pp, .inr (1, [.int (nI k), .int told, .int sp, .int gr, .ref ac, .ref ak])), (ac, .inl (gI G, 6, .inl fc)), (ak, .inl (gI G, 4, .inl fk)), (t, .inr (3, [.ref ta, .ref tq, .int (nI cq1_22), .int (nI yq1_23), .int go, .int ki, .int (nI k)])), (ta, .inl (gB G, 15625, .inl fs1_24)), (tq, .inl (gI G, 15625, .inl fq1_25))]) [0, 1, 2, 3, 4, 5, 6] rfl)
    have hD9 := (hD.sub (ws' := [(h0, .inr (5, [.ref pad, .ref pp, .ref im, vse, vtr])), (pp, .inr (1, [.int (nI k), .int told, .int sp, .int gr, .ref ac, .ref ak])), (ac, .inl (gI G, 6, .inl fc)), (ak, .inl (gI G, 4, .inl fk)), (t, .inr (3, [.ref ta, .ref tq, .int (nI cq1_22), .int (nI yq1_23), .int go, .int ki, .int (nI k)])), (ta, .inl (gB G, 15625, .inl fs1_24)), (tq, .inl (gI G, 15625, .inl fq1_25))]) [0, 1, 2, 3, 4, 5, 6] (by decide) rfl)
    exact W.iret (v := r20) hx hb hr (fun t9_ ht9_ hW9_ => ⟨⟨r20, (cq1_22, yq1_23, fs1_24, fq1_25), rfl, ⟨w19.1, rw_m1 hask c1⟩, by rw [ht9_]; exact hP9, hD9⟩, hS.F ht9_⟩) hS.2.2 dX9_rowAnswer_11
