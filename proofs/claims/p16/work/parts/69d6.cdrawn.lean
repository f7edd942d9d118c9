theorem n_inOrder (l : Launch) (G : Gy) (sz : Nat) (i : Nat) (hi : i < 40) : Ci l G yX6_inOrder wsX6_inOrder ({ frames := 0, cells := 0, slots := 0, locals := 0 }) [.int (nI i)] ([]) sz (fun (r : Int32) (_ : Unit) => r = nI (sv40 i)) (fun (_ : Unit) => []) 0 0 := by
  have h := c_inOrder l G sz (nI i)
  rw [ord_40 hi] at h
  exact h

theorem n_isSome (l : Launch) (G : Gy) (sz : Nat) (h0 : Nat) (pad : Nat) (pp : Nat) (im : Nat) (vse : Value) (vtr : Value) (ac : Nat) (ak : Nat) (k : Nat) (a : Nat) (i : Nat) (told : Int32) (sp : Int32) (gr : Int32) (p2 : Int32) (hk2 : 2 ≤ k) (hk6 : k ≤ 6) (ha : a < 5 ^ k) (hi : i < 40) : Ci l G yX9_isSome wsX9_isSome ({ frames := 4, cells := 0, slots := 0, locals := 87 }) [.ref h0, .int (nI (sc k a)), .int (nI (sv40 i)), .int p2] ([(h0, .inr (5, [.ref pad, .ref pp, .ref im, vse, vtr])), (pp, .inr (1, [.int (nI k), .int told, .int sp, .int gr, .ref ac, .ref ak]))]) sz (fun (r : Int32) (_ : Unit) => (r = 1 ∧ some40 k (bK p2) a i) ∨ (r = 0 ∧ ¬ some40 k (bK p2) a i)) (fun (_ : Unit) => [(h0, .inr (5, [.ref pad, .ref pp, .ref im, vse, vtr])), (pp, .inr (1, [.int (nI k), .int told, .int sp, .int gr, .ref ac, .ref ak]))]) 0 0 := by
  have h := c_isSome l G sz h0 pad pp im vse vtr ac ak (nI k) told sp gr (nI (sc k a)) (nI (sv40 i)) p2
  rw [some_eq hk2 hk6 ha hi] at h
  exact h

set_option maxHeartbeats 1000000 in
set_option maxRecDepth 100000 in
theorem n_afterDraw (l : Launch) (G : Gy) (sz : Nat) (h0 : Nat) (pad : Nat) (pp : Nat) (im : Nat) (vse : Value) (vtr : Value) (ac : Nat) (ak : Nat) (k : Nat) (a : Nat) (xv : Nat) (told : Int32) (sp : Int32) (gr : Int32) (p2 : Int32) (hk2 : 2 ≤ k) (hk6 : k ≤ 6) (ha : a < 5 ^ k) (hxv : xv ≤ 65536) : Ci l G yX9_afterDraw wsX9_afterDraw ({ frames := 5, cells := 0, slots := 0, locals := 110 }) [.ref h0, .int (nI (sc k a)), .int (nI xv), .int p2] ([(h0, .inr (5, [.ref pad, .ref pp, .ref im, vse, vtr])), (pp, .inr (1, [.int (nI k), .int told, .int sp, .int gr, .ref ac, .ref ak]))]) sz (fun (r : Int32) (_ : Unit) => r = nI (sc k (dwN k (bK p2) a xv))) (fun (_ : Unit) => [(h0, .inr (5, [.ref pad, .ref pp, .ref im, vse, vtr])), (pp, .inr (1, [.int (nI k), .int told, .int sp, .int gr, .ref ac, .ref ak]))]) 0 0 := by
  refine Met.ofW (cc := cX9_afterDraw) (maxL := 8) (ret := (some .int)) (by decide) rfl ?_
  intro p e s m args below meth c s₁ B hml hv
  obtain ⟨rfl, hsz, hP, hD0, E0⟩ := hv
  have hx := B.exec
  have hb := B.bytes
  have hr := B.returns
  have hts := atoms_spec (ws := wsX9_afterDraw) B.pre
  have hown : s.vm.findClass RX9 = some m.cls := findClass_of_methodNamed B.named
  have hlocks := B.notSynchronized
  subst hsz
  have hD := hD0.self (sz := s.heap.size)
  generalize hAe : va_A ([(h0, .inr (5, [.ref pad, .ref pp, .ref im, vse, vtr])), (pp, .inr (1, [.int (nI k), .int told, .int sp, .int gr, .ref ac, .ref ak]))]) s.heap.size = A at hD E0 ⊢
  have E : EV G A s s.heap := E0
  have hA : ∀ q : Nat, s.heap.size ≤ q → A q := fun q h => by rw [← hAe]; exact Or.inr h
  have hS : va_S A s.heap s.heap [] := va_S.rf
  have hl := lv_entry ([.ref h0, .int (nI (sc k a)), .int (nI xv), .int p2]) (n := 8) (Nat.le_of_ble_eq_true rfl)
  rw [lg_entry_eq]
  generalize (lg_sl ([.ref h0, .int (nI (sc k a)), .int (nI xv), .int p2]) ++ List.replicate (8 - (lg_sl ([.ref h0, .int (nI (sc k a)), .int (nI xv), .int p2])).length) Slot.unset).toArray = ls at hl ⊢
  have hl : lv_has ls 8 [(0, .ref h0), (1, .int (nI (sc k a))), (2, .int (nI xv)), (3, .int p2)] := hl
  have hP : va_P G.1 vwCl ([(h0, .inr (5, [.ref pad, .ref pp, .ref im, vse, vtr])), (pp, .inr (1, [.int (nI k), .int told, .int sp, .int gr, .ref ac, .ref ak]))]) s.heap := hP
  refine lv_iconst (v := 0) hx hb dX9_afterDraw_0 (by decide) ?_
  refine lv_istore (lv' := [(4, .int 0), (0, .ref h0), (1, .int (nI (sc k a))), (2, .int (nI xv)), (3, .int p2)]) hx hb dX9_afterDraw_1 hl (by decide) rfl (fun ls hl => ?_)
  refine lv_iconst (v := 0) hx hb dX9_afterDraw_3 (by decide) ?_
  refine lv_istore (lv' := [(5, .int 0), (4, .int 0), (0, .ref h0), (1, .int (nI (sc k a))), (2, .int (nI xv)), (3, .int p2)]) hx hb dX9_afterDraw_4 hl (by decide) rfl (fun ls hl => ?_)
  refine lp_run (x0 := (0, 0)) (fun xx_ : Nat × Nat => match xx_ with | (x, u) => [(h0, .inr (5, [.ref pad, .ref pp, .ref im, vse, vtr])), (pp, .inr (1, [.int (nI k), .int told, .int sp, .int gr, .ref ac, .ref ak]))]) (fun xx_ : Nat × Nat => match xx_ with | (x, u) => [(5, .int (nI x)), (4, .int (nI u)), (0, .ref h0), (1, .int (nI (sc k a))), (2, .int (nI xv)), (3, .int p2)]) (fun xx_ : Nat × Nat => match xx_ with | (x, u) => (x ≤ 40) ∧ (u = cC k (bK p2) a x) ∧ (u ≤ x)) (fun xx_ : Nat × Nat => match xx_ with | (x, u) => 40 - x) (hP.sub [0, 1] rfl) (hD.sub [0, 1] (by decide) rfl) hS (lv_sub hl [0, 1, 2, 3, 4, 5] rfl) ⟨(by omega), rfl, by omega⟩ ?_
  intro xx_ hI ih6 H locs ls hP hD hS hl
  obtain ⟨x, u⟩ := xx_
  dsimp only at hI ih6 hP hD hl
  obtain ⟨hx0, hu, hu9⟩ := hI
  have hl : lv_has ls 8 [(5, .int (nI x)), (4, .int (nI u)), (0, .ref h0), (1, .int (nI (sc k a))), (2, .int (nI xv)), (3, .int p2)] := hl
  have hP : va_P G.1 vwCl ([(h0, .inr (5, [.ref pad, .ref pp, .ref im, vse, vtr])), (pp, .inr (1, [.int (nI k), .int told, .int sp, .int gr, .ref ac, .ref ak]))]) H := hP
  have hD : va_D A ([(h0, .inr (5, [.ref pad, .ref pp, .ref im, vse, vtr])), (pp, .inr (1, [.int (nI k), .int told, .int sp, .int gr, .ref ac, .ref ak]))]) := hD
  refine lv_iload hx hb dX9_afterDraw_6 (lv_at hl 0 rfl) ?_
  refine lv_bipush (v := 40) hx hb dX9_afterDraw_8 (by decide) ?_
  refine lv_icmp_ge (tgt := 36) hx hb dX9_afterDraw_10 (by decide) (fun c1 => ?_) (fun c1 => ?_)
  · have c1 : 40 ≤ x := (nI_leI (a := 40) (b := x) (by omega) (by omega)).mp c1
    have hu4 : u = cSl k (bK p2) a (manyS k) := by rw [hu, show x = 40 by omega]; exact cC_40 hk2 hk6
    refine lv_iload hx hb dX9_afterDraw_36 (lv_at hl 1 rfl) ?_
    refine lv_if_ne (tgt := 43) hx hb dX9_afterDraw_38 (by decide) (fun c2 => ?_) (fun c2 => ?_)
    · have c2 : ¬ u = 0 := fun h9_ => c2 ((nI_eq (a := u) (b := 0) (by omega) (by omega)).mpr h9_)
      refine lv_iload_n hx hb dX9_afterDraw_43 rfl (lv_at hl 4 rfl) ?_
      refine lv_iload hx hb dX9_afterDraw_44 (lv_at hl 1 rfl) ?_
      refine lv_irem hx hb dX9_afterDraw_46 (nI_ne0 (by omega) (by omega)) ?_
      refine lv_topi (fun x3 ex3 => ?_)
      obtain rfl : x3 = nI (xv % u) := by rw [ex3]; exact pk_rem (by omega) (by omega) (by omega)
      refine lv_istore (lv' := [(5, .int (nI (xv % u))), (4, .int (nI u)), (0, .ref h0), (1, .int (nI (sc k a))), (2, .int (nI xv)), (3, .int p2)]) hx hb dX9_afterDraw_47 hl (by decide) rfl (fun ls hl => ?_)
      have hql : xv % u < u := Nat.mod_lt _ (by omega)
      refine lv_iconst (v := 0) hx hb dX9_afterDraw_49 (by decide) ?_
      refine lv_istore (lv' := [(6, .int 0), (5, .int (nI (xv % u))), (4, .int (nI u)), (0, .ref h0), (1, .int (nI (sc k a))), (2, .int (nI xv)), (3, .int p2)]) hx hb dX9_afterDraw_50 hl (by decide) rfl (fun ls hl => ?_)
      refine lp_run (x0 := (0, (xv % u))) (fun xx_ : Nat × Nat => match xx_ with | (z, le) => [(h0, .inr (5, [.ref pad, .ref pp, .ref im, vse, vtr])), (pp, .inr (1, [.int (nI k), .int told, .int sp, .int gr, .ref ac, .ref ak]))]) (fun xx_ : Nat × Nat => match xx_ with | (z, le) => [(6, .int (nI z)), (5, .int (nI le)), (4, .int (nI u)), (0, .ref h0), (1, .int (nI (sc k a))), (2, .int (nI xv)), (3, .int p2)]) (fun xx_ : Nat × Nat => match xx_ with | (z, le) => (z ≤ 40) ∧ (le + cC k (bK p2) a z = xv % u) ∧ (le ≤ 65536)) (fun xx_ : Nat × Nat => match xx_ with | (z, le) => 40 - z) (hP.sub [0, 1] rfl) (hD.sub [0, 1] (by decide) rfl) hS (lv_sub hl [0, 1, 2, 3, 4, 5, 6] rfl) ⟨(by omega), by rfl, by omega⟩ ?_
      intro xx_ hI ih52 H locs ls hP hD hS hl
      obtain ⟨z, le⟩ := xx_
      dsimp only at hI ih52 hP hD hl
      obtain ⟨hz0, hle, hle9⟩ := hI
      have hl : lv_has ls 8 [(6, .int (nI z)), (5, .int (nI le)), (4, .int (nI u)), (0, .ref h0), (1, .int (nI (sc k a))), (2, .int (nI xv)), (3, .int p2)] := hl
      have hP : va_P G.1 vwCl ([(h0, .inr (5, [.ref pad, .ref pp, .ref im, vse, vtr])), (pp, .inr (1, [.int (nI k), .int told, .int sp, .int gr, .ref ac, .ref ak]))]) H := hP
      have hD : va_D A ([(h0, .inr (5, [.ref pad, .ref pp, .ref im, vse, vtr])), (pp, .inr (1, [.int (nI k), .int told, .int sp, .int gr, .ref ac, .ref ak]))]) := hD
      refine lv_iload hx hb dX9_afterDraw_52 (lv_at hl 0 rfl) ?_
      refine lv_bipush (v := 40) hx hb dX9_afterDraw_54 (by decide) ?_
      refine lv_icmp_ge (tgt := 98) hx hb dX9_afterDraw_56 (by decide) (fun c4 => ?_) (fun c4 => ?_)
      · have c4 : 40 ≤ z := (nI_leI (a := 40) (b := z) (by omega) (by omega)).mp c4
        refine lv_iload_n hx hb dX9_afterDraw_98 rfl (lv_at hl 4 rfl) ?_
        have hP9 := (hP.sub (ws' := [(h0, .inr (5, [.ref pad, .ref pp, .ref im, vse, vtr])), (pp, .inr (1, [.int (nI k), .int told, .int sp, .int gr, .ref ac, .ref ak]))]) [0, 1] rfl)
        have hD9 := (hD.sub (ws' := [(h0, .inr (5, [.ref pad, .ref pp, .ref im, vse, vtr])), (pp, .inr (1, [.int (nI k), .int told, .int sp, .int gr, .ref ac, .ref ak]))]) [0, 1] (by decide) rfl)
        exact W.iret (v := (nI (sc k a))) hx hb hr (fun t9_ ht9_ hW9_ => ⟨⟨nI (sc k a), (), rfl, by exfalso; have q9 := cC_40 (a := a) (b := bK p2) hk2 hk6; rw [show z = 40 by omega, q9] at hle; omega, by rw [ht9_]; exact hP9, hD9⟩, hS.F ht9_⟩) hS.2.2 dX9_afterDraw_99
      · have c4 : ¬ 40 ≤ z := fun h9_ => c4 ((nI_leI (a := 40) (b := z) (by omega) (by omega)).mpr h9_)
        have hz40 : z < 40 := by omega
        refine lv_iload hx hb dX9_afterDraw_59 (lv_at hl 0 rfl) ?_
        refine ca_iR (va_runS (As := [.int (nI z)]) (rest := []) ⟨hx, hb, hml, hown, hts⟩ (n_inOrder l G H.size z (by omega)) (va_cwS 1 hts gX9_afterDraw_X6_inOrder rfl rfl rfl (by decide +kernel) ⟨by decide +kernel, by decide +kernel⟩) (pre_S E hP hD hS hA [] (by decide) rfl) rfl rfl hl.1 rfl (lv_room (Nat.le_of_ble_eq_true rfl)) dX9_afterDraw_61 ⟨by decide +kernel, by decide +kernel⟩) hS hP hD hA [] rfl (fun r6 _ H locs w5 hP hS => ?_)
        rw [w5]
        refine lv_istore (lv' := [(7, .int (nI (sv40 z))), (6, .int (nI z)), (5, .int (nI le)), (4, .int (nI u)), (0, .ref h0), (1, .int (nI (sc k a))), (2, .int (nI xv)), (3, .int p2)]) hx hb dX9_afterDraw_64 hl (by decide) rfl (fun ls hl => ?_)
        refine lv_aload_n hx hb dX9_afterDraw_66 rfl (lv_at hl 4 rfl) ?_
        refine lv_iload_n hx hb dX9_afterDraw_67 rfl (lv_at hl 5 rfl) ?_
        refine lv_iload hx hb dX9_afterDraw_68 (lv_at hl 0 rfl) ?_
        refine lv_iload_n hx hb dX9_afterDraw_70 rfl (lv_at hl 7 rfl) ?_
        refine ca_iR (va_runV (As := [.int (nI (sc k a)), .int (nI (sv40 z)), .int p2]) (rest := []) ⟨hx, hb, hml, hown, hts⟩ (n_isSome l G H.size h0 pad pp im vse vtr ac ak k a z told sp gr p2 hk2 hk6 ha (by omega)) (cwV 3 hts gX9_afterDraw_X9_isSome rfl rfl rfl (by decide +kernel) ⟨by decide +kernel, by decide +kernel⟩) (pre_V E hP hD hS hA [0, 1] (by decide) rfl 0 5 rfl rfl) rfl rfl hl.1 rfl (lv_room (Nat.le_of_ble_eq_true rfl)) dX9_afterDraw_71 ⟨by decide +kernel, by decide +kernel⟩) hS hP hD hA [0, 1] rfl (fun r8 _ H locs w7 hP hS => ?_)
        rcases w7 with ⟨rfl, b9⟩ | ⟨rfl, b9⟩
        · refine lv_if_eq (tgt := 92) hx hb dX9_afterDraw_74 (by decide) (fun c10 => False.elim (by revert c10; decide)) (fun _ => ?_)
          refine lv_iload hx hb dX9_afterDraw_77 (lv_at hl 2 rfl) ?_
          refine lv_if_ne (tgt := 89) hx hb dX9_afterDraw_79 (by decide) (fun c11 => ?_) (fun c11 => ?_)
          · have c11 : ¬ le = 0 := fun h9_ => c11 ((nI_eq (a := le) (b := 0) (by omega) (by omega)).mpr h9_)
            obtain ⟨x12, ex12⟩ : ∃ yy_ : Int32, yy_ = (nI le) + (-1) := ⟨_, rfl⟩
            refine lv_iinc (v := x12) (lv' := [(5, .int x12), (7, .int (nI (sv40 z))), (6, .int (nI z)), (4, .int (nI u)), (0, .ref h0), (1, .int (nI (sc k a))), (2, .int (nI xv)), (3, .int p2)]) hx hb dX9_afterDraw_89 hl (k := 2) rfl (by rw [ex12]; rfl) (by decide) rfl (fun ls hl => ?_)
            have hl : lv_has ls 8 [(5, .int (nI (le - 1))), (7, .int (nI (sv40 z))), (6, .int (nI z)), (4, .int (nI u)), (0, .ref h0), (1, .int (nI (sc k a))), (2, .int (nI xv)), (3, .int p2)] := by have q := hl; rw [(show x12 = nI (le - 1) by rw [ex12]; exact dec_nI (by omega))] at q; exact q
            obtain ⟨x13, ex13⟩ : ∃ yy_ : Int32, yy_ = (nI z) + 1 := ⟨_, rfl⟩
            refine lv_iinc (v := x13) (lv' := [(6, .int x13), (5, .int (nI (le - 1))), (7, .int (nI (sv40 z))), (4, .int (nI u)), (0, .ref h0), (1, .int (nI (sc k a))), (2, .int (nI xv)), (3, .int p2)]) hx hb dX9_afterDraw_92 hl (k := 2) rfl (by rw [ex13]; rfl) (by decide) rfl (fun ls hl => ?_)
            obtain rfl : x13 = nI (z + 1) := by rw [ex13]; exact nI_add z 1
            refine lv_goto (tgt := 52) hx hb dX9_afterDraw_95 (by decide) ?_
            refine ih52 ((z + 1), (le - 1)) ⟨?_, ?_, ?_⟩ (by first | omega | (dsimp only; omega)) H locs ls (hP.sub [0, 1] rfl) (hD.sub [0, 1] (by decide) rfl) hS (lv_sub hl [0, 1, 3, 4, 5, 6, 7] rfl)
            · try dsimp only
              omega
            · try dsimp only
              rw [cC_t b9]; omega
            · try dsimp only
              omega
          · have c11 : le = 0 := (nI_eq (a := le) (b := 0) (by omega) (by omega)).mp c11
            refine lv_iload_n hx hb dX9_afterDraw_82 rfl (lv_at hl 5 rfl) ?_
            refine lv_iload hx hb dX9_afterDraw_83 (lv_at hl 0 rfl) ?_
            refine ca_iR (va_runS (As := [.int (nI (sc k a)), .int (nI (sv40 z))]) (rest := []) ⟨hx, hb, hml, hown, hts⟩ (n_after l G H.size (sc k a) (sv40 z) ((mv40 z).1) ((mv40 z).2.1) ((mv40 z).2.2) (sc_lt hk6 ha) (okV_six hk6 (ok40 hz40 b9.1)) rfl) (va_cwS 2 hts gX9_afterDraw_X6_after rfl rfl rfl (by decide +kernel) ⟨by decide +kernel, by decide +kernel⟩) (pre_S E hP hD hS hA [] (by decide) rfl) rfl rfl hl.1 rfl (lv_room (Nat.le_of_ble_eq_true rfl)) dX9_afterDraw_85 ⟨by decide +kernel, by decide +kernel⟩) hS hP hD hA [] rfl (fun r15 _ H locs w14 hP hS => ?_)
            rw [w14]
            have hP9 := (hP.sub (ws' := [(h0, .inr (5, [.ref pad, .ref pp, .ref im, vse, vtr])), (pp, .inr (1, [.int (nI k), .int told, .int sp, .int gr, .ref ac, .ref ak]))]) [0, 1] rfl)
            have hD9 := (hD.sub (ws' := [(h0, .inr (5, [.ref pad, .ref pp, .ref im, vse, vtr])), (pp, .inr (1, [.int (nI k), .int told, .int sp, .int gr, .ref ac, .ref ak]))]) [0, 1] (by decide) rfl)
            exact W.iret (v := (nI (slN 6 (sc k a) (((mv40 z).1), ((mv40 z).2.1), ((mv40 z).2.2))))) hx hb hr (fun t9_ ht9_ hW9_ => ⟨⟨nI (slN 6 (sc k a) (((mv40 z).1), ((mv40 z).2.1), ((mv40 z).2.2))), (), rfl, by rw [dwN_s (by omega), ← hu4, draw_hit hk2 hk6 hz40 b9 (show cC k (bK p2) a z = xv % u by omega), slN_sc hk6 (ok40 hz40 b9.1)], by rw [ht9_]; exact hP9, hD9⟩, hS.F ht9_⟩) hS.2.2 dX9_afterDraw_88
        · refine lv_if_eq (tgt := 92) hx hb dX9_afterDraw_74 (by decide) (fun _ => ?_) (fun c16 => False.elim (by revert c16; decide))
          obtain ⟨x17, ex17⟩ : ∃ yy_ : Int32, yy_ = (nI z) + 1 := ⟨_, rfl⟩
          refine lv_iinc (v := x17) (lv' := [(6, .int x17), (7, .int (nI (sv40 z))), (5, .int (nI le)), (4, .int (nI u)), (0, .ref h0), (1, .int (nI (sc k a))), (2, .int (nI xv)), (3, .int p2)]) hx hb dX9_afterDraw_92 hl (k := 1) rfl (by rw [ex17]; rfl) (by decide) rfl (fun ls hl => ?_)
          obtain rfl : x17 = nI (z + 1) := by rw [ex17]; exact nI_add z 1
          refine lv_goto (tgt := 52) hx hb dX9_afterDraw_95 (by decide) ?_
          refine ih52 ((z + 1), le) ⟨?_, ?_, ?_⟩ (by first | omega | (dsimp only; omega)) H locs ls (hP.sub [0, 1] rfl) (hD.sub [0, 1] (by decide) rfl) hS (lv_sub hl [0, 2, 3, 4, 5, 6, 7] rfl)
          · try dsimp only
            omega
          · try dsimp only
            rw [cC_f b9]; exact hle
          · try dsimp only
            omega
    · have c2 : u = 0 := (nI_eq (a := u) (b := 0) (by omega) (by omega)).mp c2
      refine lv_iload_n hx hb dX9_afterDraw_41 rfl (lv_at hl 3 rfl) ?_
      have hP9 := (hP.sub (ws' := [(h0, .inr (5, [.ref pad, .ref pp, .ref im, vse, vtr])), (pp, .inr (1, [.int (nI k), .int told, .int sp, .int gr, .ref ac, .ref ak]))]) [0, 1] rfl)
      have hD9 := (hD.sub (ws' := [(h0, .inr (5, [.ref pad, .ref pp, .ref im, vse, vtr])), (pp, .inr (1, [.int (nI k), .int told, .int sp, .int gr, .ref ac, .ref ak]))]) [0, 1] (by decide) rfl)
      exact W.iret (v := (nI (sc k a))) hx hb hr (fun t9_ ht9_ hW9_ => ⟨⟨nI (sc k a), (), rfl, by rw [dwN_0 (by omega)], by rw [ht9_]; exact hP9, hD9⟩, hS.F ht9_⟩) hS.2.2 dX9_afterDraw_42
  · have c1 : ¬ 40 ≤ x := fun h9_ => c1 ((nI_leI (a := 40) (b := x) (by omega) (by omega)).mpr h9_)
    refine lv_aload_n hx hb dX9_afterDraw_13 rfl (lv_at hl 2 rfl) ?_
    refine lv_iload_n hx hb dX9_afterDraw_14 rfl (lv_at hl 3 rfl) ?_
    refine lv_iload hx hb dX9_afterDraw_15 (lv_at hl 0 rfl) ?_
    refine ca_iR (va_runS (As := [.int (nI x)]) (rest := [.int (nI (sc k a)), .ref h0]) ⟨hx, hb, hml, hown, hts⟩ (n_inOrder l G H.size x (by omega)) (va_cwS 1 hts gX9_afterDraw_X6_inOrder rfl rfl rfl (by decide +kernel) ⟨by decide +kernel, by decide +kernel⟩) (pre_S E hP hD hS hA [] (by decide) rfl) rfl rfl hl.1 rfl (lv_room (Nat.le_of_ble_eq_true rfl)) dX9_afterDraw_17 ⟨by decide +kernel, by decide +kernel⟩) hS hP hD hA [] rfl (fun r19 _ H locs w18 hP hS => ?_)
    rw [w18]
    refine lv_iload_n hx hb dX9_afterDraw_20 rfl (lv_at hl 5 rfl) ?_
    refine ca_iR (va_runV (As := [.int (nI (sc k a)), .int (nI (sv40 x)), .int p2]) (rest := []) ⟨hx, hb, hml, hown, hts⟩ (n_isSome l G H.size h0 pad pp im vse vtr ac ak k a x told sp gr p2 hk2 hk6 ha (by omega)) (cwV 3 hts gX9_afterDraw_X9_isSome rfl rfl rfl (by decide +kernel) ⟨by decide +kernel, by decide +kernel⟩) (pre_V E hP hD hS hA [0, 1] (by decide) rfl 0 5 rfl rfl) rfl rfl hl.1 rfl (lv_room (Nat.le_of_ble_eq_true rfl)) dX9_afterDraw_21 ⟨by decide +kernel, by decide +kernel⟩) hS hP hD hA [0, 1] rfl (fun r21 _ H locs w20 hP hS => ?_)
    rcases w20 with ⟨rfl, b22⟩ | ⟨rfl, b22⟩
    · refine lv_if_eq (tgt := 30) hx hb dX9_afterDraw_24 (by decide) (fun c23 => False.elim (by revert c23; decide)) (fun _ => ?_)
      obtain ⟨x24, ex24⟩ : ∃ yy_ : Int32, yy_ = (nI u) + 1 := ⟨_, rfl⟩
      refine lv_iinc (v := x24) (lv' := [(4, .int x24), (5, .int (nI x)), (0, .ref h0), (1, .int (nI (sc k a))), (2, .int (nI xv)), (3, .int p2)]) hx hb dX9_afterDraw_27 hl (k := 1) rfl (by rw [ex24]; rfl) (by decide) rfl (fun ls hl => ?_)
      obtain rfl : x24 = nI (u + 1) := by rw [ex24]; exact nI_add u 1
      obtain ⟨x25, ex25⟩ : ∃ yy_ : Int32, yy_ = (nI x) + 1 := ⟨_, rfl⟩
      refine lv_iinc (v := x25) (lv' := [(5, .int x25), (4, .int (nI (u + 1))), (0, .ref h0), (1, .int (nI (sc k a))), (2, .int (nI xv)), (3, .int p2)]) hx hb dX9_afterDraw_30 hl (k := 1) rfl (by rw [ex25]; rfl) (by decide) rfl (fun ls hl => ?_)
      obtain rfl : x25 = nI (x + 1) := by rw [ex25]; exact nI_add x 1
      refine lv_goto (tgt := 6) hx hb dX9_afterDraw_33 (by decide) ?_
      refine ih6 ((x + 1), (u + 1)) ⟨?_, ?_, ?_⟩ (by first | omega | (dsimp only; omega)) H locs ls (hP.sub [0, 1] rfl) (hD.sub [0, 1] (by decide) rfl) hS (lv_sub hl [0, 1, 2, 3, 4, 5] rfl)
      · try dsimp only
        omega
      · try dsimp only
        rw [cC_t b22]; omega
      · try dsimp only
        omega
    · refine lv_if_eq (tgt := 30) hx hb dX9_afterDraw_24 (by decide) (fun _ => ?_) (fun c26 => False.elim (by revert c26; decide))
      obtain ⟨x27, ex27⟩ : ∃ yy_ : Int32, yy_ = (nI x) + 1 := ⟨_, rfl⟩
      refine lv_iinc (v := x27) (lv' := [(5, .int x27), (4, .int (nI u)), (0, .ref h0), (1, .int (nI (sc k a))), (2, .int (nI xv)), (3, .int p2)]) hx hb dX9_afterDraw_30 hl (k := 0) rfl (by rw [ex27]; rfl) (by decide) rfl (fun ls hl => ?_)
      obtain rfl : x27 = nI (x + 1) := by rw [ex27]; exact nI_add x 1
      refine lv_goto (tgt := 6) hx hb dX9_afterDraw_33 (by decide) ?_
      refine ih6 ((x + 1), u) ⟨?_, ?_, ?_⟩ (by first | omega | (dsimp only; omega)) H locs ls (hP.sub [0, 1] rfl) (hD.sub [0, 1] (by decide) rfl) hS (lv_sub hl [0, 1, 2, 3, 4, 5] rfl)
      · try dsimp only
        omega
      · try dsimp only
        rw [cC_f b22]; exact hu
      · try dsimp only
        omega

set_option maxHeartbeats 1000000 in
set_option maxRecDepth 100000 in
theorem g_drawn (l : Launch) (G : Gy) (sz : Nat) (h0 : Nat) (pad : Nat) (pp : Nat) (im : Nat) (vse : Value) (vtr : Value) (ac : Nat) (ak : Nat) (sg : Nat) (sl : Nat) (k : Nat) (pm : Nat) (la : Nat) (told : Int32) (sp : Int32) (fc : Nat → Int32) (fk : Nat → Int32) (fsg : Nat → Int32) (fsl : Nat → Int32) (ma : Nat → Nat) (p0 : Int32) (p1 : Int32) (p2 : Int32) (p3 : Int32) (p4 : Int32) (hk2 : 2 ≤ k) (hk6 : k ≤ 6) (hpm : pm ≤ 40) (hla : la < 5 ^ k) (hcr : CR k told fc ma) (hsp : inR sp 1 6) : Ci l G yX9_drawn wsX9_drawn ({ frames := 6, cells := 0, slots := 0, locals := 137 }) [.ref h0, .int p0, .int p1, .int p2, .int p3, .int p4] ([(h0, .inr (5, [.ref pad, .ref pp, .ref im, vse, vtr])), (pad, .inr (0, [.ref sg, .ref sl, .int (nI pm)])), (sg, .inl (gI G, 40, .inl fsg)), (sl, .inl (gI G, 10, .inl fsl)), (pp, .inr (1, [.int (nI k), .int told, .int sp, .int (nI (sc k la)), .ref ac, .ref ak])), (ac, .inl (gI G, 6, .inl fc)), (ak, .inl (gI G, 4, .inl fk))]) sz (fun (r : Int32) (_ : Unit) => r = dwA k told ma fk p0 p1 p2 p3 p4) (fun (_ : Unit) => [(h0, .inr (5, [.ref pad, .ref pp, .ref im, vse, vtr])), (pad, .inr (0, [.ref sg, .ref sl, .int (nI pm)])), (sg, .inl (gI G, 40, .inl fsg)), (sl, .inl (gI G, 10, .inl fsl)), (pp, .inr (1, [.int (nI k), .int told, .int sp, .int (nI (sc k la)), .ref ac, .ref ak])), (ac, .inl (gI G, 6, .inl fc)), (ak, .inl (gI G, 4, .inl fk))]) 0 0 := by
  refine Met.ofW (cc := cX9_drawn) (maxL := 10) (ret := (some .int)) (by decide) rfl ?_
  intro p e s m args below meth c s₁ B hml hv
  obtain ⟨rfl, hsz, hP, hD0, E0⟩ := hv
  have hx := B.exec
  have hb := B.bytes
  have hr := B.returns
  have hts := atoms_spec (ws := wsX9_drawn) B.pre
  have hown : s.vm.findClass RX9 = some m.cls := findClass_of_methodNamed B.named
  have hlocks := B.notSynchronized
  subst hsz
  have hD := hD0.self (sz := s.heap.size)
  generalize hAe : va_A ([(h0, .inr (5, [.ref pad, .ref pp, .ref im, vse, vtr])), (pad, .inr (0, [.ref sg, .ref sl, .int (nI pm)])), (sg, .inl (gI G, 40, .inl fsg)), (sl, .inl (gI G, 10, .inl fsl)), (pp, .inr (1, [.int (nI k), .int told, .int sp, .int (nI (sc k la)), .ref ac, .ref ak])), (ac, .inl (gI G, 6, .inl fc)), (ak, .inl (gI G, 4, .inl fk))]) s.heap.size = A at hD E0 ⊢
  have E : EV G A s s.heap := E0
  have hA : ∀ q : Nat, s.heap.size ≤ q → A q := fun q h => by rw [← hAe]; exact Or.inr h
  have hS : va_S A s.heap s.heap [] := va_S.rf
  have hl := lv_entry ([.ref h0, .int p0, .int p1, .int p2, .int p3, .int p4]) (n := 10) (Nat.le_of_ble_eq_true rfl)
  rw [lg_entry_eq]
  generalize (lg_sl ([.ref h0, .int p0, .int p1, .int p2, .int p3, .int p4]) ++ List.replicate (10 - (lg_sl ([.ref h0, .int p0, .int p1, .int p2, .int p3, .int p4])).length) Slot.unset).toArray = ls at hl ⊢
  have hl : lv_has ls 10 [(0, .ref h0), (1, .int p0), (2, .int p1), (3, .int p2), (4, .int p3), (5, .int p4)] := hl
  have hP : va_P G.1 vwCl ([(h0, .inr (5, [.ref pad, .ref pp, .ref im, vse, vtr])), (pad, .inr (0, [.ref sg, .ref sl, .int (nI pm)])), (sg, .inl (gI G, 40, .inl fsg)), (sl, .inl (gI G, 10, .inl fsl)), (pp, .inr (1, [.int (nI k), .int told, .int sp, .int (nI (sc k la)), .ref ac, .ref ak])), (ac, .inl (gI G, 6, .inl fc)), (ak, .inl (gI G, 4, .inl fk))]) s.heap := hP
  refine lv_iload_n hx hb dX9_drawn_0 rfl (lv_at hl 2 rfl) ?_
  refine ca_iR (va_runS (As := [.int p1]) (rest := []) ⟨hx, hb, hml, hown, hts⟩ (c_isMap l G s.heap.size p1) (va_cwS 1 hts gX9_drawn_X9_isMap rfl rfl rfl (by decide +kernel) ⟨by decide +kernel, by decide +kernel⟩) (pre_S E hP hD hS hA [] (by decide) rfl) rfl rfl hl.1 rfl (lv_room (Nat.le_of_ble_eq_true rfl)) dX9_drawn_1 ⟨by decide +kernel, by decide +kernel⟩) hS hP hD hA [] rfl (fun r2 _ H locs w1 hP hS => ?_)
  rcases w1 with ⟨rfl, b3⟩ | ⟨rfl, b3⟩
  · refine lv_if_eq (tgt := 29) hx hb dX9_drawn_4 (by decide) (fun c4 => False.elim (by revert c4; decide)) (fun _ => ?_)
    refine lv_iload_n hx hb dX9_drawn_7 rfl (lv_at hl 3 rfl) ?_
    refine ca_iR (va_runS (As := [.int p2]) (rest := []) ⟨hx, hb, hml, hown, hts⟩ (c_isHand l G H.size p2) (va_cwS 1 hts gX9_drawn_X9_isHand rfl rfl rfl (by decide +kernel) ⟨by decide +kernel, by decide +kernel⟩) (pre_S E hP hD hS hA [] (by decide) rfl) rfl rfl hl.1 rfl (lv_room (Nat.le_of_ble_eq_true rfl)) dX9_drawn_8 ⟨by decide +kernel, by decide +kernel⟩) hS hP hD hA [] rfl (fun r6 _ H locs w5 hP hS => ?_)
    rcases w5 with ⟨rfl, b7⟩ | ⟨rfl, b7⟩
    · refine lv_if_eq (tgt := 29) hx hb dX9_drawn_11 (by decide) (fun c8 => False.elim (by revert c8; decide)) (fun _ => ?_)
      refine lv_iload hx hb dX9_drawn_14 (lv_at hl 5 rfl) ?_
      refine lv_iconst (v := (-1)) hx hb dX9_drawn_16 (by decide) ?_
      refine lv_icmp_eq (tgt := 31) hx hb dX9_drawn_17 (by decide) (fun c9 => ?_) (fun c9 => ?_)
      · refine lv_iload_n hx hb dX9_drawn_31 rfl (lv_at hl 1 rfl) ?_
        refine lv_if_lt (tgt := 54) hx hb dX9_drawn_32 (by decide) (fun c10 => ?_) (fun c10 => ?_)
        · refine lv_bipush (v := (-2)) hx hb dX9_drawn_54 (by decide) ?_
          have hP9 := (hP.sub (ws' := [(h0, .inr (5, [.ref pad, .ref pp, .ref im, vse, vtr])), (pad, .inr (0, [.ref sg, .ref sl, .int (nI pm)])), (sg, .inl (gI G, 40, .inl fsg)), (sl, .inl (gI G, 10, .inl fsl)), (pp, .inr (1, [.int (nI k), .int told, .int sp, .int (nI (sc k la)), .ref ac, .ref ak])), (ac, .inl (gI G, 6, .inl fc)), (ak, .inl (gI G, 4, .inl fk))]) [0, 1, 2, 3, 4, 5, 6] rfl)
          have hD9 := (hD.sub (ws' := [(h0, .inr (5, [.ref pad, .ref pp, .ref im, vse, vtr])), (pad, .inr (0, [.ref sg, .ref sl, .int (nI pm)])), (sg, .inl (gI G, 40, .inl fsg)), (sl, .inl (gI G, 10, .inl fsl)), (pp, .inr (1, [.int (nI k), .int told, .int sp, .int (nI (sc k la)), .ref ac, .ref ak])), (ac, .inl (gI G, 6, .inl fc)), (ak, .inl (gI G, 4, .inl fk))]) [0, 1, 2, 3, 4, 5, 6] (by decide) rfl)
          exact W.iret (v := (-2)) hx hb hr (fun t9_ ht9_ hW9_ => ⟨⟨(-2), (), rfl, dwA_2 ⟨b3, b7, Or.inl c9⟩ (fun q9 => by have q8 := q9.1; have q7 := q9.2; ((try simp only [inR, inS, i3_lt, i3_le, i3_eq, i6_lt, i6_le, Int32.toInt_toInt64, lg_cmp_lt, lg_cmp_gt, lg_cmp_ge, lg_cmp_le, Int32.reduceToInt, Int64.reduceToInt] at c9 c10 q8 q7); omega)), by rw [ht9_]; exact hP9, hD9⟩, hS.F ht9_⟩) hS.2.2 dX9_drawn_56
        · refine lv_iload_n hx hb dX9_drawn_35 rfl (lv_at hl 1 rfl) ?_
          refine lv_sipush (v := 9999) hx hb dX9_drawn_36 (by decide) ?_
          refine lv_icmp_gt (tgt := 54) hx hb dX9_drawn_39 (by decide) (fun c11 => ?_) (fun c11 => ?_)
          · refine lv_bipush (v := (-2)) hx hb dX9_drawn_54 (by decide) ?_
            have hP9 := (hP.sub (ws' := [(h0, .inr (5, [.ref pad, .ref pp, .ref im, vse, vtr])), (pad, .inr (0, [.ref sg, .ref sl, .int (nI pm)])), (sg, .inl (gI G, 40, .inl fsg)), (sl, .inl (gI G, 10, .inl fsl)), (pp, .inr (1, [.int (nI k), .int told, .int sp, .int (nI (sc k la)), .ref ac, .ref ak])), (ac, .inl (gI G, 6, .inl fc)), (ak, .inl (gI G, 4, .inl fk))]) [0, 1, 2, 3, 4, 5, 6] rfl)
            have hD9 := (hD.sub (ws' := [(h0, .inr (5, [.ref pad, .ref pp, .ref im, vse, vtr])), (pad, .inr (0, [.ref sg, .ref sl, .int (nI pm)])), (sg, .inl (gI G, 40, .inl fsg)), (sl, .inl (gI G, 10, .inl fsl)), (pp, .inr (1, [.int (nI k), .int told, .int sp, .int (nI (sc k la)), .ref ac, .ref ak])), (ac, .inl (gI G, 6, .inl fc)), (ak, .inl (gI G, 4, .inl fk))]) [0, 1, 2, 3, 4, 5, 6] (by decide) rfl)
            exact W.iret (v := (-2)) hx hb hr (fun t9_ ht9_ hW9_ => ⟨⟨(-2), (), rfl, dwA_2 ⟨b3, b7, Or.inl c9⟩ (fun q9 => by have q8 := q9.1; have q7 := q9.2; ((try simp only [inR, inS, i3_lt, i3_le, i3_eq, i6_lt, i6_le, Int32.toInt_toInt64, lg_cmp_lt, lg_cmp_gt, lg_cmp_ge, lg_cmp_le, Int32.reduceToInt, Int64.reduceToInt] at c9 c10 c11 q8 q7); omega)), by rw [ht9_]; exact hP9, hD9⟩, hS.F ht9_⟩) hS.2.2 dX9_drawn_56
          · refine lv_iload hx hb dX9_drawn_42 (lv_at hl 4 rfl) ?_
            refine lv_if_lt (tgt := 54) hx hb dX9_drawn_44 (by decide) (fun c12 => ?_) (fun c12 => ?_)
            · refine lv_bipush (v := (-2)) hx hb dX9_drawn_54 (by decide) ?_
              have hP9 := (hP.sub (ws' := [(h0, .inr (5, [.ref pad, .ref pp, .ref im, vse, vtr])), (pad, .inr (0, [.ref sg, .ref sl, .int (nI pm)])), (sg, .inl (gI G, 40, .inl fsg)), (sl, .inl (gI G, 10, .inl fsl)), (pp, .inr (1, [.int (nI k), .int told, .int sp, .int (nI (sc k la)), .ref ac, .ref ak])), (ac, .inl (gI G, 6, .inl fc)), (ak, .inl (gI G, 4, .inl fk))]) [0, 1, 2, 3, 4, 5, 6] rfl)
              have hD9 := (hD.sub (ws' := [(h0, .inr (5, [.ref pad, .ref pp, .ref im, vse, vtr])), (pad, .inr (0, [.ref sg, .ref sl, .int (nI pm)])), (sg, .inl (gI G, 40, .inl fsg)), (sl, .inl (gI G, 10, .inl fsl)), (pp, .inr (1, [.int (nI k), .int told, .int sp, .int (nI (sc k la)), .ref ac, .ref ak])), (ac, .inl (gI G, 6, .inl fc)), (ak, .inl (gI G, 4, .inl fk))]) [0, 1, 2, 3, 4, 5, 6] (by decide) rfl)
              exact W.iret (v := (-2)) hx hb hr (fun t9_ ht9_ hW9_ => ⟨⟨(-2), (), rfl, dwA_2 ⟨b3, b7, Or.inl c9⟩ (fun q9 => by have q8 := q9.1; have q7 := q9.2; ((try simp only [inR, inS, i3_lt, i3_le, i3_eq, i6_lt, i6_le, Int32.toInt_toInt64, lg_cmp_lt, lg_cmp_gt, lg_cmp_ge, lg_cmp_le, Int32.reduceToInt, Int64.reduceToInt] at c9 c10 c11 c12 q8 q7); omega)), by rw [ht9_]; exact hP9, hD9⟩, hS.F ht9_⟩) hS.2.2 dX9_drawn_56
            · refine lv_iload hx hb dX9_drawn_47 (lv_at hl 4 rfl) ?_
              refine lv_bipush (v := 60) hx hb dX9_drawn_49 (by decide) ?_
              refine lv_icmp_le (tgt := 57) hx hb dX9_drawn_51 (by decide) (fun c13 => ?_) (fun c13 => ?_)
              · refine lv_aload_n hx hb dX9_drawn_57 rfl (lv_at hl 0 rfl) ?_
                refine lv_iload_n hx hb dX9_drawn_58 rfl (lv_at hl 2 rfl) ?_
                refine ca_iR (va_runV (As := [.int p1]) (rest := []) ⟨hx, hb, hml, hown, hts⟩ (n_isTold l G H.size h0 pad pp im vse vtr ac ak (nI k) told sp (nI (sc k la)) p1) (cwV 1 hts gX9_drawn_X9_isTold rfl rfl rfl (by decide +kernel) ⟨by decide +kernel, by decide +kernel⟩) (pre_V E hP hD hS hA [0, 4] (by decide) rfl 0 5 rfl rfl) rfl rfl hl.1 rfl (lv_room (Nat.le_of_ble_eq_true rfl)) dX9_drawn_59 ⟨by decide +kernel, by decide +kernel⟩) hS hP hD hA [0, 4] rfl (fun r15 _ H locs w14 hP hS => ?_)
                rcases w14 with ⟨rfl, b16⟩ | ⟨rfl, b16⟩
                · refine lv_if_ne (tgt := 68) hx hb dX9_drawn_62 (by decide) (fun _ => ?_) (fun c17 => False.elim (by revert c17; decide))
                  have htd := b16.2
                  obtain ⟨j_p1, hj_p1, ej_p1⟩ := inR6 b3
                  have hl : lv_has ls 10 [(0, .ref h0), (1, .int p0), (2, .int (nI j_p1)), (3, .int p2), (4, .int p3), (5, .int p4)] := by have q := hl; rw [ej_p1] at q; exact q
                  obtain ⟨j_p2, hj_p2, ej_p2⟩ := inR4 b7
                  have hl : lv_has ls 10 [(0, .ref h0), (1, .int p0), (2, .int (nI j_p1)), (3, .int (nI j_p2)), (4, .int p3), (5, .int p4)] := by have q := hl; rw [ej_p2] at q; exact q
                  obtain ⟨j_p0, hj_p0, ej_p0⟩ := inRn (n := 9999) (x := p0) (by decide) (show inR p0 0 9999 by ((try simp only [inR, inS, i3_lt, i3_le, i3_eq, i6_lt, i6_le, Int32.toInt_toInt64, lg_cmp_lt, lg_cmp_gt, lg_cmp_ge, lg_cmp_le, Int32.reduceToInt, Int64.reduceToInt] at c9 c10 c11 c12 c13 ⊢); omega))
                  have hl : lv_has ls 10 [(0, .ref h0), (1, .int (nI j_p0)), (2, .int (nI j_p1)), (3, .int (nI j_p2)), (4, .int p3), (5, .int p4)] := by have q := hl; rw [ej_p0] at q; exact q
                  obtain ⟨j_p3, hj_p3, ej_p3⟩ := inRn (n := 60) (x := p3) (by decide) (show inR p3 0 60 by ((try simp only [inR, inS, i3_lt, i3_le, i3_eq, i6_lt, i6_le, Int32.toInt_toInt64, lg_cmp_lt, lg_cmp_gt, lg_cmp_ge, lg_cmp_le, Int32.reduceToInt, Int64.reduceToInt] at c9 c10 c11 c12 c13 ⊢); omega))
                  have hl : lv_has ls 10 [(0, .ref h0), (1, .int (nI j_p0)), (2, .int (nI j_p1)), (3, .int (nI j_p2)), (4, .int (nI j_p3)), (5, .int p4)] := by have q := hl; rw [ej_p3] at q; exact q
                  have hcj := hcr j_p1 hj_p1 (by rw [← ej_p1]; exact htd)
                  have hc6 := sc_lt hk6 hcj.1
                  refine lv_aload_n hx hb dX9_drawn_68 rfl (lv_at hl 0 rfl) ?_
                  refine va_get (D := G.1) (ci := 5) (v := .ref pp) (C := RX9) (T := TX9) (N := 5) hx hb hts (fun _ h => List.mem_cons_of_mem _ (List.mem_append_left _ (List.mem_append_right _ h))) hown E.K hP 0 rfl rfl 1 (by decide) (hts (.fieldLink RX9 19 "LastMap" "papers" "LLastMap$Papers;") (by decide +kernel)) (fun _ h9 => h9) rfl dX9_drawn_69 ?_
                  refine lv_iload_n hx hb dX9_drawn_72 rfl (lv_at hl 2 rfl) ?_
                  refine ca_iR (va_runV (As := [.int (nI j_p1)]) (rest := []) ⟨hx, hb, hml, hown, hts⟩ (n_codeOf l G H.size pp ac ak (nI k) told sp (nI (sc k la)) fc fk j_p1 (by omega)) (cwV 1 hts gX9_drawn_X3_codeOf rfl rfl rfl (by decide +kernel) ⟨by decide +kernel, by decide +kernel⟩) (pre_V E hP hD hS hA [4, 5, 6] (by decide) rfl 4 1 rfl rfl) rfl rfl hl.1 rfl (lv_room (Nat.le_of_ble_eq_true rfl)) dX9_drawn_73 ⟨by decide +kernel, by decide +kernel⟩) hS hP hD hA [4, 5, 6] rfl (fun r19 _ H locs w18 hP hS => ?_)
                  obtain rfl : r19 = nI (sc k (ma j_p1)) := by rw [w18]; exact hcj.2
                  refine lv_istore (lv' := [(6, .int (nI (sc k (ma j_p1)))), (0, .ref h0), (1, .int (nI j_p0)), (2, .int (nI j_p1)), (3, .int (nI j_p2)), (4, .int (nI j_p3)), (5, .int p4)]) hx hb dX9_drawn_76 hl (by decide) rfl (fun ls hl => ?_)
                  refine lv_iload hx hb dX9_drawn_78 (lv_at hl 0 rfl) ?_
                  refine lv_istore (lv' := [(7, .int (nI (sc k (ma j_p1)))), (6, .int (nI (sc k (ma j_p1)))), (0, .ref h0), (1, .int (nI j_p0)), (2, .int (nI j_p1)), (3, .int (nI j_p2)), (4, .int (nI j_p3)), (5, .int p4)]) hx hb dX9_drawn_80 hl (by decide) rfl (fun ls hl => ?_)
                  refine lv_iload_n hx hb dX9_drawn_82 rfl (lv_at hl 3 rfl) ?_
                  refine lv_istore (lv' := [(8, .int (nI j_p0)), (7, .int (nI (sc k (ma j_p1)))), (6, .int (nI (sc k (ma j_p1)))), (0, .ref h0), (1, .int (nI j_p0)), (2, .int (nI j_p1)), (3, .int (nI j_p2)), (4, .int (nI j_p3)), (5, .int p4)]) hx hb dX9_drawn_83 hl (by decide) rfl (fun ls hl => ?_)
                  refine lv_iconst (v := 0) hx hb dX9_drawn_85 (by decide) ?_
                  refine lv_istore (lv' := [(9, .int 0), (8, .int (nI j_p0)), (7, .int (nI (sc k (ma j_p1)))), (6, .int (nI (sc k (ma j_p1)))), (0, .ref h0), (1, .int (nI j_p0)), (2, .int (nI j_p1)), (3, .int (nI j_p2)), (4, .int (nI j_p3)), (5, .int p4)]) hx hb dX9_drawn_86 hl (by decide) rfl (fun ls hl => ?_)
                  refine lp_run (x0 := (0, (ma j_p1), j_p0)) (fun xx_ : Nat × Nat × Nat => match xx_ with | (x, aa, xx) => [(h0, .inr (5, [.ref pad, .ref pp, .ref im, vse, vtr])), (pad, .inr (0, [.ref sg, .ref sl, .int (nI pm)])), (sg, .inl (gI G, 40, .inl fsg)), (sl, .inl (gI G, 10, .inl fsl)), (pp, .inr (1, [.int (nI k), .int told, .int sp, .int (nI (sc k la)), .ref ac, .ref ak])), (ac, .inl (gI G, 6, .inl fc)), (ak, .inl (gI G, 4, .inl fk))]) (fun xx_ : Nat × Nat × Nat => match xx_ with | (x, aa, xx) => [(9, .int (nI x)), (8, .int (nI xx)), (7, .int (nI (sc k aa))), (6, .int (nI (sc k (ma j_p1)))), (0, .ref h0), (1, .int (nI j_p0)), (2, .int (nI j_p1)), (3, .int (nI j_p2)), (4, .int (nI j_p3)), (5, .int p4)]) (fun xx_ : Nat × Nat × Nat => match xx_ with | (x, aa, xx) => (x ≤ j_p3) ∧ (aa < 5 ^ k ∧ xx ≤ 65536 ∧ drN k (bK (fk j_p2)) j_p3 j_p0 (ma j_p1) = drN k (bK (fk j_p2)) (j_p3 - x) xx aa)) (fun xx_ : Nat × Nat × Nat => match xx_ with | (x, aa, xx) => j_p3 - x) (hP.sub [0, 1, 2, 3, 4, 5, 6] rfl) (hD.sub [0, 1, 2, 3, 4, 5, 6] (by decide) rfl) hS (lv_sub hl [0, 1, 2, 3, 4, 5, 6, 7, 8, 9] rfl) ⟨by omega, ⟨hcj.1, by omega, by rw [Nat.sub_zero]⟩⟩ ?_
                  intro xx_ hI ih88 H locs ls hP hD hS hl
                  obtain ⟨x, aa, xx⟩ := xx_
                  dsimp only at hI ih88 hP hD hl
                  obtain ⟨hx0, haa⟩ := hI
                  have hl : lv_has ls 10 [(9, .int (nI x)), (8, .int (nI xx)), (7, .int (nI (sc k aa))), (6, .int (nI (sc k (ma j_p1)))), (0, .ref h0), (1, .int (nI j_p0)), (2, .int (nI j_p1)), (3, .int (nI j_p2)), (4, .int (nI j_p3)), (5, .int p4)] := hl
                  have hP : va_P G.1 vwCl ([(h0, .inr (5, [.ref pad, .ref pp, .ref im, vse, vtr])), (pad, .inr (0, [.ref sg, .ref sl, .int (nI pm)])), (sg, .inl (gI G, 40, .inl fsg)), (sl, .inl (gI G, 10, .inl fsl)), (pp, .inr (1, [.int (nI k), .int told, .int sp, .int (nI (sc k la)), .ref ac, .ref ak])), (ac, .inl (gI G, 6, .inl fc)), (ak, .inl (gI G, 4, .inl fk))]) H := hP
                  have hD : va_D A ([(h0, .inr (5, [.ref pad, .ref pp, .ref im, vse, vtr])), (pad, .inr (0, [.ref sg, .ref sl, .int (nI pm)])), (sg, .inl (gI G, 40, .inl fsg)), (sl, .inl (gI G, 10, .inl fsl)), (pp, .inr (1, [.int (nI k), .int told, .int sp, .int (nI (sc k la)), .ref ac, .ref ak])), (ac, .inl (gI G, 6, .inl fc)), (ak, .inl (gI G, 4, .inl fk))]) := hD
                  refine lv_iload hx hb dX9_drawn_88 (lv_at hl 0 rfl) ?_
                  refine lv_iload hx hb dX9_drawn_90 (lv_at hl 8 rfl) ?_
                  refine lv_icmp_ge (tgt := 132) hx hb dX9_drawn_92 (by decide) (fun c20 => ?_) (fun c20 => ?_)
                  · have c20 : j_p3 ≤ x := (nI_leI (a := j_p3) (b := x) (by omega) (by omega)).mp c20
                    have hfin : aa = drN k (bK (fk j_p2)) j_p3 j_p0 (ma j_p1) := by rw [haa.2.2, show j_p3 - x = 0 by omega]; rfl
                    refine lv_iload hx hb dX9_drawn_132 (lv_at hl 9 rfl) ?_
                    refine lv_iconst (v := (-1)) hx hb dX9_drawn_134 (by decide) ?_
                    refine lv_icmp_ne (tgt := 148) hx hb dX9_drawn_135 (by decide) (fun c21 => absurd c9 c21) (fun c21 => ?_)
                    refine lv_iload hx hb dX9_drawn_138 (lv_at hl 2 rfl) ?_
                    refine lv_iload hx hb dX9_drawn_140 (lv_at hl 3 rfl) ?_
                    refine ca_iR (va_runS (As := [.int (nI (sc k aa)), .int (nI (sc k (ma j_p1)))]) (rest := []) ⟨hx, hb, hml, hown, hts⟩ (n_unlike l G H.size (sc k aa) (sc k (ma j_p1)) (sc_lt hk6 haa.1) hc6) (va_cwS 2 hts gX9_drawn_X1_unlike rfl rfl rfl (by decide +kernel) ⟨by decide +kernel, by decide +kernel⟩) (pre_S E hP hD hS hA [] (by decide) rfl) rfl rfl hl.1 rfl (lv_room (Nat.le_of_ble_eq_true rfl)) dX9_drawn_142 ⟨by decide +kernel, by decide +kernel⟩) hS hP hD hA [] rfl (fun r23 _ H locs w22 hP hS => ?_)
                    rw [w22]
                    refine lv_goto (tgt := 158) hx hb dX9_drawn_145 (by decide) ?_
                    have hP9 := (hP.sub (ws' := [(h0, .inr (5, [.ref pad, .ref pp, .ref im, vse, vtr])), (pad, .inr (0, [.ref sg, .ref sl, .int (nI pm)])), (sg, .inl (gI G, 40, .inl fsg)), (sl, .inl (gI G, 10, .inl fsl)), (pp, .inr (1, [.int (nI k), .int told, .int sp, .int (nI (sc k la)), .ref ac, .ref ak])), (ac, .inl (gI G, 6, .inl fc)), (ak, .inl (gI G, 4, .inl fk))]) [0, 1, 2, 3, 4, 5, 6] rfl)
                    have hD9 := (hD.sub (ws' := [(h0, .inr (5, [.ref pad, .ref pp, .ref im, vse, vtr])), (pad, .inr (0, [.ref sg, .ref sl, .int (nI pm)])), (sg, .inl (gI G, 40, .inl fsg)), (sl, .inl (gI G, 10, .inl fsl)), (pp, .inr (1, [.int (nI k), .int told, .int sp, .int (nI (sc k la)), .ref ac, .ref ak])), (ac, .inl (gI G, 6, .inl fc)), (ak, .inl (gI G, 4, .inl fk))]) [0, 1, 2, 3, 4, 5, 6] (by decide) rfl)
                    exact W.iret (v := (nI (unl 6 (sc k aa) (sc k (ma j_p1)) 6))) hx hb hr (fun t9_ ht9_ hW9_ => ⟨⟨nI (unl 6 (sc k aa) (sc k (ma j_p1)) 6), (), rfl, by rw [unl_six hk6, hfin]; exact dwA_4 hj_p1 ej_p1 hj_p2 ej_p2 hj_p0 ej_p0 hj_p3 ej_p3 c9 htd, by rw [ht9_]; exact hP9, hD9⟩, hS.F ht9_⟩) hS.2.2 dX9_drawn_158
                  · have c20 : ¬ j_p3 ≤ x := fun h9_ => c20 ((nI_leI (a := j_p3) (b := x) (by omega) (by omega)).mpr h9_)
                    have hxx := haa.2.1
                    refine lv_bipush (v := 75) hx hb dX9_drawn_95 (by decide) ?_
                    refine lv_iload hx hb dX9_drawn_97 (lv_at hl 1 rfl) ?_
                    refine lv_imul hx hb dX9_drawn_99 ?_
                    refine lv_topi (fun x24 ex24 => ?_)
                    obtain rfl : x24 = nI (75 * xx) := by rw [ex24]; exact pk_mul 75 xx
                    refine lv_bipush (v := 74) hx hb dX9_drawn_100 (by decide) ?_
                    refine lv_iadd hx hb dX9_drawn_102 ?_
                    refine lv_topi (fun x25 ex25 => ?_)
                    obtain rfl : x25 = nI ((75 * xx) + 74) := by rw [ex25]; exact nI_add (75 * xx) 74
                    refine lv_ldc (v := 65537) hx hb hown (hts (.constant RX9 198 (65537)) (by decide +kernel)) dX9_drawn_103 ?_
                    refine lv_irem hx hb dX9_drawn_105 (by decide) ?_
                    refine lv_topi (fun x26 ex26 => ?_)
                    obtain rfl : x26 = nI (((75 * xx) + 74) % 65537) := by rw [ex26]; exact pk_rem (show ((75 * xx) + 74) < 2 ^ 31 by omega) (show 0 < 65537 by decide) (by decide)
                    refine lv_istore (lv' := [(8, .int (nI (((75 * xx) + 74) % 65537))), (9, .int (nI x)), (7, .int (nI (sc k aa))), (6, .int (nI (sc k (ma j_p1)))), (0, .ref h0), (1, .int (nI j_p0)), (2, .int (nI j_p1)), (3, .int (nI j_p2)), (4, .int (nI j_p3)), (5, .int p4)]) hx hb dX9_drawn_106 hl (by decide) rfl (fun ls hl => ?_)
                    refine lv_aload_n hx hb dX9_drawn_108 rfl (lv_at hl 4 rfl) ?_
                    refine lv_iload hx hb dX9_drawn_109 (lv_at hl 2 rfl) ?_
                    refine lv_iload hx hb dX9_drawn_111 (lv_at hl 0 rfl) ?_
                    refine lv_aload_n hx hb dX9_drawn_113 rfl (lv_at hl 4 rfl) ?_
                    refine va_get (D := G.1) (ci := 5) (v := .ref pp) (C := RX9) (T := TX9) (N := 5) hx hb hts (fun _ h => List.mem_cons_of_mem _ (List.mem_append_left _ (List.mem_append_right _ h))) hown E.K hP 0 rfl rfl 1 (by decide) (hts (.fieldLink RX9 19 "LastMap" "papers" "LLastMap$Papers;") (by decide +kernel)) (fun _ h9 => h9) rfl dX9_drawn_114 ?_
                    refine lv_iload_n hx hb dX9_drawn_117 rfl (lv_at hl 7 rfl) ?_
                    refine ca_iR (va_runV (As := [.int (nI j_p2)]) (rest := [.int (nI (((75 * xx) + 74) % 65537)), .int (nI (sc k aa)), .ref h0]) ⟨hx, hb, hml, hown, hts⟩ (n_kindsOf l G H.size pp ac ak (nI k) told sp (nI (sc k la)) fc fk j_p2 (by omega)) (cwV 1 hts gX9_drawn_X3_kindsOf rfl rfl rfl (by decide +kernel) ⟨by decide +kernel, by decide +kernel⟩) (pre_V E hP hD hS hA [4, 5, 6] (by decide) rfl 4 1 rfl rfl) rfl rfl hl.1 rfl (lv_room (Nat.le_of_ble_eq_true rfl)) dX9_drawn_118 ⟨by decide +kernel, by decide +kernel⟩) hS hP hD hA [4, 5, 6] rfl (fun r28 _ H locs w27 hP hS => ?_)
                    refine W.eq (g2 := F0 m 121 ls [.int (fk j_p2), .int (nI (((75 * xx) + 74) % 65537)), .int (nI (sc k aa)), .ref h0]) (by rw [w27]) ?_
                    refine ca_iR (va_runV (As := [.int (nI (sc k aa)), .int (nI (((75 * xx) + 74) % 65537)), .int (fk j_p2)]) (rest := []) ⟨hx, hb, hml, hown, hts⟩ (n_afterDraw l G H.size h0 pad pp im vse vtr ac ak k aa (((75 * xx) + 74) % 65537) told sp (nI (sc k la)) (fk j_p2) hk2 hk6 haa.1 (by omega)) (cwV 3 hts gX9_drawn_X9_afterDraw rfl rfl rfl (by decide +kernel) ⟨by decide +kernel, by decide +kernel⟩) (pre_V E hP hD hS hA [0, 4] (by decide) rfl 0 5 rfl rfl) rfl rfl hl.1 rfl (lv_room (Nat.le_of_ble_eq_true rfl)) dX9_drawn_121 ⟨by decide +kernel, by decide +kernel⟩) hS hP hD hA [0, 4] rfl (fun r30 _ H locs w29 hP hS => ?_)
                    rw [w29]
                    refine lv_istore (lv' := [(7, .int (nI (sc k (dwN k (bK (fk j_p2)) aa (((75 * xx) + 74) % 65537))))), (8, .int (nI (((75 * xx) + 74) % 65537))), (9, .int (nI x)), (6, .int (nI (sc k (ma j_p1)))), (0, .ref h0), (1, .int (nI j_p0)), (2, .int (nI j_p1)), (3, .int (nI j_p2)), (4, .int (nI j_p3)), (5, .int p4)]) hx hb dX9_drawn_124 hl (by decide) rfl (fun ls hl => ?_)
                    obtain ⟨x31, ex31⟩ : ∃ yy_ : Int32, yy_ = (nI x) + 1 := ⟨_, rfl⟩
                    refine lv_iinc (v := x31) (lv' := [(9, .int x31), (7, .int (nI (sc k (dwN k (bK (fk j_p2)) aa (((75 * xx) + 74) % 65537))))), (8, .int (nI (((75 * xx) + 74) % 65537))), (6, .int (nI (sc k (ma j_p1)))), (0, .ref h0), (1, .int (nI j_p0)), (2, .int (nI j_p1)), (3, .int (nI j_p2)), (4, .int (nI j_p3)), (5, .int p4)]) hx hb dX9_drawn_126 hl (k := 2) rfl (by rw [ex31]; rfl) (by decide) rfl (fun ls hl => ?_)
                    obtain rfl : x31 = nI (x + 1) := by rw [ex31]; exact nI_add x 1
                    refine lv_goto (tgt := 88) hx hb dX9_drawn_129 (by decide) ?_
                    have hnew : dwN k (bK (fk j_p2)) aa ((75 * xx + 74) % 65537) < 5 ^ k ∧ (75 * xx + 74) % 65537 ≤ 65536 ∧ drN k (bK (fk j_p2)) j_p3 j_p0 (ma j_p1) = drN k (bK (fk j_p2)) (j_p3 - (x + 1)) ((75 * xx + 74) % 65537) (dwN k (bK (fk j_p2)) aa ((75 * xx + 74) % 65537)) := ⟨dwN_lt haa.1, by omega, by rw [haa.2.2, show j_p3 - x = (j_p3 - (x + 1)) + 1 by omega]; rfl⟩
                    refine ih88 (x + 1, dwN k (bK (fk j_p2)) aa ((75 * xx + 74) % 65537), (75 * xx + 74) % 65537) ⟨?_, ?_⟩ (by first | omega | (dsimp only; omega)) H locs ls (hP.sub [0, 1, 2, 3, 4, 5, 6] rfl) (hD.sub [0, 1, 2, 3, 4, 5, 6] (by decide) rfl) hS (lv_sub hl [0, 2, 1, 3, 4, 5, 6, 7, 8, 9] rfl)
                    · try dsimp only
                      omega
                    · try dsimp only
                      exact hnew
                · refine lv_if_ne (tgt := 68) hx hb dX9_drawn_62 (by decide) (fun c32 => False.elim (by revert c32; decide)) (fun _ => ?_)
                  refine lv_bipush (v := (-3)) hx hb dX9_drawn_65 (by decide) ?_
                  have hP9 := (hP.sub (ws' := [(h0, .inr (5, [.ref pad, .ref pp, .ref im, vse, vtr])), (pad, .inr (0, [.ref sg, .ref sl, .int (nI pm)])), (sg, .inl (gI G, 40, .inl fsg)), (sl, .inl (gI G, 10, .inl fsl)), (pp, .inr (1, [.int (nI k), .int told, .int sp, .int (nI (sc k la)), .ref ac, .ref ak])), (ac, .inl (gI G, 6, .inl fc)), (ak, .inl (gI G, 4, .inl fk))]) [0, 1, 2, 3, 4, 5, 6] rfl)
                  have hD9 := (hD.sub (ws' := [(h0, .inr (5, [.ref pad, .ref pp, .ref im, vse, vtr])), (pad, .inr (0, [.ref sg, .ref sl, .int (nI pm)])), (sg, .inl (gI G, 40, .inl fsg)), (sl, .inl (gI G, 10, .inl fsl)), (pp, .inr (1, [.int (nI k), .int told, .int sp, .int (nI (sc k la)), .ref ac, .ref ak])), (ac, .inl (gI G, 6, .inl fc)), (ak, .inl (gI G, 4, .inl fk))]) [0, 1, 2, 3, 4, 5, 6] (by decide) rfl)
                  exact W.iret (v := (-3)) hx hb hr (fun t9_ ht9_ hW9_ => ⟨⟨(-3), (), rfl, dwA_3 ⟨b3, b7, Or.inl c9⟩ ⟨by ((try simp only [inR, inS, i3_lt, i3_le, i3_eq, i6_lt, i6_le, Int32.toInt_toInt64, lg_cmp_lt, lg_cmp_gt, lg_cmp_ge, lg_cmp_le, Int32.reduceToInt, Int64.reduceToInt] at c9 c10 c11 c12 c13 ⊢); omega), by ((try simp only [inR, inS, i3_lt, i3_le, i3_eq, i6_lt, i6_le, Int32.toInt_toInt64, lg_cmp_lt, lg_cmp_gt, lg_cmp_ge, lg_cmp_le, Int32.reduceToInt, Int64.reduceToInt] at c9 c10 c11 c12 c13 ⊢); omega)⟩ (fun q9 => b16 ⟨b3, q9⟩), by rw [ht9_]; exact hP9, hD9⟩, hS.F ht9_⟩) hS.2.2 dX9_drawn_67
              · refine lv_bipush (v := (-2)) hx hb dX9_drawn_54 (by decide) ?_
                have hP9 := (hP.sub (ws' := [(h0, .inr (5, [.ref pad, .ref pp, .ref im, vse, vtr])), (pad, .inr (0, [.ref sg, .ref sl, .int (nI pm)])), (sg, .inl (gI G, 40, .inl fsg)), (sl, .inl (gI G, 10, .inl fsl)), (pp, .inr (1, [.int (nI k), .int told, .int sp, .int (nI (sc k la)), .ref ac, .ref ak])), (ac, .inl (gI G, 6, .inl fc)), (ak, .inl (gI G, 4, .inl fk))]) [0, 1, 2, 3, 4, 5, 6] rfl)
                have hD9 := (hD.sub (ws' := [(h0, .inr (5, [.ref pad, .ref pp, .ref im, vse, vtr])), (pad, .inr (0, [.ref sg, .ref sl, .int (nI pm)])), (sg, .inl (gI G, 40, .inl fsg)), (sl, .inl (gI G, 10, .inl fsl)), (pp, .inr (1, [.int (nI k), .int told, .int sp, .int (nI (sc k la)), .ref ac, .ref ak])), (ac, .inl (gI G, 6, .inl fc)), (ak, .inl (gI G, 4, .inl fk))]) [0, 1, 2, 3, 4, 5, 6] (by decide) rfl)
                exact W.iret (v := (-2)) hx hb hr (fun t9_ ht9_ hW9_ => ⟨⟨(-2), (), rfl, dwA_2 ⟨b3, b7, Or.inl c9⟩ (fun q9 => by have q8 := q9.1; have q7 := q9.2; ((try simp only [inR, inS, i3_lt, i3_le, i3_eq, i6_lt, i6_le, Int32.toInt_toInt64, lg_cmp_lt, lg_cmp_gt, lg_cmp_ge, lg_cmp_le, Int32.reduceToInt, Int64.reduceToInt] at c9 c10 c11 c12 c13 q8 q7); omega)), by rw [ht9_]; exact hP9, hD9⟩, hS.F ht9_⟩) hS.2.2 dX9_drawn_56
      · refine lv_aload_n hx hb dX9_drawn_20 rfl (lv_at hl 0 rfl) ?_
        refine lv_iload hx hb dX9_drawn_21 (lv_at hl 5 rfl) ?_
        refine ca_iR (va_runV (As := [.int p4]) (rest := []) ⟨hx, hb, hml, hown, hts⟩ (n_isSite l G H.size h0 pad pp im vse vtr ac ak k told sp (nI (sc k la)) p4 hk6) (cwV 1 hts gX9_drawn_X9_isSite rfl rfl rfl (by decide +kernel) ⟨by decide +kernel, by decide +kernel⟩) (pre_V E hP hD hS hA [0, 4] (by decide) rfl 0 5 rfl rfl) rfl rfl hl.1 rfl (lv_room (Nat.le_of_ble_eq_true rfl)) dX9_drawn_23 ⟨by decide +kernel, by decide +kernel⟩) hS hP hD hA [0, 4] rfl (fun r34 _ H locs w33 hP hS => ?_)
        rcases w33 with ⟨rfl, b35⟩ | ⟨rfl, b35⟩
        · refine lv_if_ne (tgt := 31) hx hb dX9_drawn_26 (by decide) (fun _ => ?_) (fun c36 => False.elim (by revert c36; decide))
          refine lv_iload_n hx hb dX9_drawn_31 rfl (lv_at hl 1 rfl) ?_
          refine lv_if_lt (tgt := 54) hx hb dX9_drawn_32 (by decide) (fun c37 => ?_) (fun c37 => ?_)
          · refine lv_bipush (v := (-2)) hx hb dX9_drawn_54 (by decide) ?_
            have hP9 := (hP.sub (ws' := [(h0, .inr (5, [.ref pad, .ref pp, .ref im, vse, vtr])), (pad, .inr (0, [.ref sg, .ref sl, .int (nI pm)])), (sg, .inl (gI G, 40, .inl fsg)), (sl, .inl (gI G, 10, .inl fsl)), (pp, .inr (1, [.int (nI k), .int told, .int sp, .int (nI (sc k la)), .ref ac, .ref ak])), (ac, .inl (gI G, 6, .inl fc)), (ak, .inl (gI G, 4, .inl fk))]) [0, 1, 2, 3, 4, 5, 6] rfl)
            have hD9 := (hD.sub (ws' := [(h0, .inr (5, [.ref pad, .ref pp, .ref im, vse, vtr])), (pad, .inr (0, [.ref sg, .ref sl, .int (nI pm)])), (sg, .inl (gI G, 40, .inl fsg)), (sl, .inl (gI G, 10, .inl fsl)), (pp, .inr (1, [.int (nI k), .int told, .int sp, .int (nI (sc k la)), .ref ac, .ref ak])), (ac, .inl (gI G, 6, .inl fc)), (ak, .inl (gI G, 4, .inl fk))]) [0, 1, 2, 3, 4, 5, 6] (by decide) rfl)
            exact W.iret (v := (-2)) hx hb hr (fun t9_ ht9_ hW9_ => ⟨⟨(-2), (), rfl, dwA_2 ⟨b3, b7, Or.inr b35⟩ (fun q9 => by have q8 := q9.1; have q7 := q9.2; ((try simp only [inR, inS, i3_lt, i3_le, i3_eq, i6_lt, i6_le, Int32.toInt_toInt64, lg_cmp_lt, lg_cmp_gt, lg_cmp_ge, lg_cmp_le, Int32.reduceToInt, Int64.reduceToInt] at c9 c37 q8 q7); omega)), by rw [ht9_]; exact hP9, hD9⟩, hS.F ht9_⟩) hS.2.2 dX9_drawn_56
          · refine lv_iload_n hx hb dX9_drawn_35 rfl (lv_at hl 1 rfl) ?_
            refine lv_sipush (v := 9999) hx hb dX9_drawn_36 (by decide) ?_
            refine lv_icmp_gt (tgt := 54) hx hb dX9_drawn_39 (by decide) (fun c38 => ?_) (fun c38 => ?_)
            · refine lv_bipush (v := (-2)) hx hb dX9_drawn_54 (by decide) ?_
              have hP9 := (hP.sub (ws' := [(h0, .inr (5, [.ref pad, .ref pp, .ref im, vse, vtr])), (pad, .inr (0, [.ref sg, .ref sl, .int (nI pm)])), (sg, .inl (gI G, 40, .inl fsg)), (sl, .inl (gI G, 10, .inl fsl)), (pp, .inr (1, [.int (nI k), .int told, .int sp, .int (nI (sc k la)), .ref ac, .ref ak])), (ac, .inl (gI G, 6, .inl fc)), (ak, .inl (gI G, 4, .inl fk))]) [0, 1, 2, 3, 4, 5, 6] rfl)
              have hD9 := (hD.sub (ws' := [(h0, .inr (5, [.ref pad, .ref pp, .ref im, vse, vtr])), (pad, .inr (0, [.ref sg, .ref sl, .int (nI pm)])), (sg, .inl (gI G, 40, .inl fsg)), (sl, .inl (gI G, 10, .inl fsl)), (pp, .inr (1, [.int (nI k), .int told, .int sp, .int (nI (sc k la)), .ref ac, .ref ak])), (ac, .inl (gI G, 6, .inl fc)), (ak, .inl (gI G, 4, .inl fk))]) [0, 1, 2, 3, 4, 5, 6] (by decide) rfl)
              exact W.iret (v := (-2)) hx hb hr (fun t9_ ht9_ hW9_ => ⟨⟨(-2), (), rfl, dwA_2 ⟨b3, b7, Or.inr b35⟩ (fun q9 => by have q8 := q9.1; have q7 := q9.2; ((try simp only [inR, inS, i3_lt, i3_le, i3_eq, i6_lt, i6_le, Int32.toInt_toInt64, lg_cmp_lt, lg_cmp_gt, lg_cmp_ge, lg_cmp_le, Int32.reduceToInt, Int64.reduceToInt] at c9 c37 c38 q8 q7); omega)), by rw [ht9_]; exact hP9, hD9⟩, hS.F ht9_⟩) hS.2.2 dX9_drawn_56
            · refine lv_iload hx hb dX9_drawn_42 (lv_at hl 4 rfl) ?_
              refine lv_if_lt (tgt := 54) hx hb dX9_drawn_44 (by decide) (fun c39 => ?_) (fun c39 => ?_)
              · refine lv_bipush (v := (-2)) hx hb dX9_drawn_54 (by decide) ?_
                have hP9 := (hP.sub (ws' := [(h0, .inr (5, [.ref pad, .ref pp, .ref im, vse, vtr])), (pad, .inr (0, [.ref sg, .ref sl, .int (nI pm)])), (sg, .inl (gI G, 40, .inl fsg)), (sl, .inl (gI G, 10, .inl fsl)), (pp, .inr (1, [.int (nI k), .int told, .int sp, .int (nI (sc k la)), .ref ac, .ref ak])), (ac, .inl (gI G, 6, .inl fc)), (ak, .inl (gI G, 4, .inl fk))]) [0, 1, 2, 3, 4, 5, 6] rfl)
                have hD9 := (hD.sub (ws' := [(h0, .inr (5, [.ref pad, .ref pp, .ref im, vse, vtr])), (pad, .inr (0, [.ref sg, .ref sl, .int (nI pm)])), (sg, .inl (gI G, 40, .inl fsg)), (sl, .inl (gI G, 10, .inl fsl)), (pp, .inr (1, [.int (nI k), .int told, .int sp, .int (nI (sc k la)), .ref ac, .ref ak])), (ac, .inl (gI G, 6, .inl fc)), (ak, .inl (gI G, 4, .inl fk))]) [0, 1, 2, 3, 4, 5, 6] (by decide) rfl)
                exact W.iret (v := (-2)) hx hb hr (fun t9_ ht9_ hW9_ => ⟨⟨(-2), (), rfl, dwA_2 ⟨b3, b7, Or.inr b35⟩ (fun q9 => by have q8 := q9.1; have q7 := q9.2; ((try simp only [inR, inS, i3_lt, i3_le, i3_eq, i6_lt, i6_le, Int32.toInt_toInt64, lg_cmp_lt, lg_cmp_gt, lg_cmp_ge, lg_cmp_le, Int32.reduceToInt, Int64.reduceToInt] at c9 c37 c38 c39 q8 q7); omega)), by rw [ht9_]; exact hP9, hD9⟩, hS.F ht9_⟩) hS.2.2 dX9_drawn_56
              · refine lv_iload hx hb dX9_drawn_47 (lv_at hl 4 rfl) ?_
                refine lv_bipush (v := 60) hx hb dX9_drawn_49 (by decide) ?_
                refine lv_icmp_le (tgt := 57) hx hb dX9_drawn_51 (by decide) (fun c40 => ?_) (fun c40 => ?_)
                · refine lv_aload_n hx hb dX9_drawn_57 rfl (lv_at hl 0 rfl) ?_
                  refine lv_iload_n hx hb dX9_drawn_58 rfl (lv_at hl 2 rfl) ?_
                  refine ca_iR (va_runV (As := [.int p1]) (rest := []) ⟨hx, hb, hml, hown, hts⟩ (n_isTold l G H.size h0 pad pp im vse vtr ac ak (nI k) told sp (nI (sc k la)) p1) (cwV 1 hts gX9_drawn_X9_isTold rfl rfl rfl (by decide +kernel) ⟨by decide +kernel, by decide +kernel⟩) (pre_V E hP hD hS hA [0, 4] (by decide) rfl 0 5 rfl rfl) rfl rfl hl.1 rfl (lv_room (Nat.le_of_ble_eq_true rfl)) dX9_drawn_59 ⟨by decide +kernel, by decide +kernel⟩) hS hP hD hA [0, 4] rfl (fun r42 _ H locs w41 hP hS => ?_)
                  rcases w41 with ⟨rfl, b43⟩ | ⟨rfl, b43⟩
                  · refine lv_if_ne (tgt := 68) hx hb dX9_drawn_62 (by decide) (fun _ => ?_) (fun c44 => False.elim (by revert c44; decide))
                    have htd := b43.2
                    obtain ⟨j_p1, hj_p1, ej_p1⟩ := inR6 b3
                    have hl : lv_has ls 10 [(0, .ref h0), (1, .int p0), (2, .int (nI j_p1)), (3, .int p2), (4, .int p3), (5, .int p4)] := by have q := hl; rw [ej_p1] at q; exact q
                    obtain ⟨j_p2, hj_p2, ej_p2⟩ := inR4 b7
                    have hl : lv_has ls 10 [(0, .ref h0), (1, .int p0), (2, .int (nI j_p1)), (3, .int (nI j_p2)), (4, .int p3), (5, .int p4)] := by have q := hl; rw [ej_p2] at q; exact q
                    obtain ⟨j_p0, hj_p0, ej_p0⟩ := inRn (n := 9999) (x := p0) (by decide) (show inR p0 0 9999 by ((try simp only [inR, inS, i3_lt, i3_le, i3_eq, i6_lt, i6_le, Int32.toInt_toInt64, lg_cmp_lt, lg_cmp_gt, lg_cmp_ge, lg_cmp_le, Int32.reduceToInt, Int64.reduceToInt] at c9 c37 c38 c39 c40 ⊢); omega))
                    have hl : lv_has ls 10 [(0, .ref h0), (1, .int (nI j_p0)), (2, .int (nI j_p1)), (3, .int (nI j_p2)), (4, .int p3), (5, .int p4)] := by have q := hl; rw [ej_p0] at q; exact q
                    obtain ⟨j_p3, hj_p3, ej_p3⟩ := inRn (n := 60) (x := p3) (by decide) (show inR p3 0 60 by ((try simp only [inR, inS, i3_lt, i3_le, i3_eq, i6_lt, i6_le, Int32.toInt_toInt64, lg_cmp_lt, lg_cmp_gt, lg_cmp_ge, lg_cmp_le, Int32.reduceToInt, Int64.reduceToInt] at c9 c37 c38 c39 c40 ⊢); omega))
                    have hl : lv_has ls 10 [(0, .ref h0), (1, .int (nI j_p0)), (2, .int (nI j_p1)), (3, .int (nI j_p2)), (4, .int (nI j_p3)), (5, .int p4)] := by have q := hl; rw [ej_p3] at q; exact q
                    obtain ⟨j_p4, hj_p4, ej_p4⟩ := b35
                    have hl : lv_has ls 10 [(0, .ref h0), (1, .int (nI j_p0)), (2, .int (nI j_p1)), (3, .int (nI j_p2)), (4, .int (nI j_p3)), (5, .int (nI j_p4))] := by have q := hl; rw [ej_p4] at q; exact q
                    have hcj := hcr j_p1 hj_p1 (by rw [← ej_p1]; exact htd)
                    have hc6 := sc_lt hk6 hcj.1
                    refine lv_aload_n hx hb dX9_drawn_68 rfl (lv_at hl 0 rfl) ?_
                    refine va_get (D := G.1) (ci := 5) (v := .ref pp) (C := RX9) (T := TX9) (N := 5) hx hb hts (fun _ h => List.mem_cons_of_mem _ (List.mem_append_left _ (List.mem_append_right _ h))) hown E.K hP 0 rfl rfl 1 (by decide) (hts (.fieldLink RX9 19 "LastMap" "papers" "LLastMap$Papers;") (by decide +kernel)) (fun _ h9 => h9) rfl dX9_drawn_69 ?_
                    refine lv_iload_n hx hb dX9_drawn_72 rfl (lv_at hl 2 rfl) ?_
                    refine ca_iR (va_runV (As := [.int (nI j_p1)]) (rest := []) ⟨hx, hb, hml, hown, hts⟩ (n_codeOf l G H.size pp ac ak (nI k) told sp (nI (sc k la)) fc fk j_p1 (by omega)) (cwV 1 hts gX9_drawn_X3_codeOf rfl rfl rfl (by decide +kernel) ⟨by decide +kernel, by decide +kernel⟩) (pre_V E hP hD hS hA [4, 5, 6] (by decide) rfl 4 1 rfl rfl) rfl rfl hl.1 rfl (lv_room (Nat.le_of_ble_eq_true rfl)) dX9_drawn_73 ⟨by decide +kernel, by decide +kernel⟩) hS hP hD hA [4, 5, 6] rfl (fun r46 _ H locs w45 hP hS => ?_)
                    obtain rfl : r46 = nI (sc k (ma j_p1)) := by rw [w45]; exact hcj.2
                    refine lv_istore (lv' := [(6, .int (nI (sc k (ma j_p1)))), (0, .ref h0), (1, .int (nI j_p0)), (2, .int (nI j_p1)), (3, .int (nI j_p2)), (4, .int (nI j_p3)), (5, .int (nI j_p4))]) hx hb dX9_drawn_76 hl (by decide) rfl (fun ls hl => ?_)
                    refine lv_iload hx hb dX9_drawn_78 (lv_at hl 0 rfl) ?_
                    refine lv_istore (lv' := [(7, .int (nI (sc k (ma j_p1)))), (6, .int (nI (sc k (ma j_p1)))), (0, .ref h0), (1, .int (nI j_p0)), (2, .int (nI j_p1)), (3, .int (nI j_p2)), (4, .int (nI j_p3)), (5, .int (nI j_p4))]) hx hb dX9_drawn_80 hl (by decide) rfl (fun ls hl => ?_)
                    refine lv_iload_n hx hb dX9_drawn_82 rfl (lv_at hl 3 rfl) ?_
                    refine lv_istore (lv' := [(8, .int (nI j_p0)), (7, .int (nI (sc k (ma j_p1)))), (6, .int (nI (sc k (ma j_p1)))), (0, .ref h0), (1, .int (nI j_p0)), (2, .int (nI j_p1)), (3, .int (nI j_p2)), (4, .int (nI j_p3)), (5, .int (nI j_p4))]) hx hb dX9_drawn_83 hl (by decide) rfl (fun ls hl => ?_)
                    refine lv_iconst (v := 0) hx hb dX9_drawn_85 (by decide) ?_
                    refine lv_istore (lv' := [(9, .int 0), (8, .int (nI j_p0)), (7, .int (nI (sc k (ma j_p1)))), (6, .int (nI (sc k (ma j_p1)))), (0, .ref h0), (1, .int (nI j_p0)), (2, .int (nI j_p1)), (3, .int (nI j_p2)), (4, .int (nI j_p3)), (5, .int (nI j_p4))]) hx hb dX9_drawn_86 hl (by decide) rfl (fun ls hl => ?_)
                    refine lp_run (x0 := (0, (ma j_p1), j_p0)) (fun xx_ : Nat × Nat × Nat => match xx_ with | (x, aa, xx) => [(h0, .inr (5, [.ref pad, .ref pp, .ref im, vse, vtr])), (pad, .inr (0, [.ref sg, .ref sl, .int (nI pm)])), (sg, .inl (gI G, 40, .inl fsg)), (sl, .inl (gI G, 10, .inl fsl)), (pp, .inr (1, [.int (nI k), .int told, .int sp, .int (nI (sc k la)), .ref ac, .ref ak])), (ac, .inl (gI G, 6, .inl fc)), (ak, .inl (gI G, 4, .inl fk))]) (fun xx_ : Nat × Nat × Nat => match xx_ with | (x, aa, xx) => [(9, .int (nI x)), (8, .int (nI xx)), (7, .int (nI (sc k aa))), (6, .int (nI (sc k (ma j_p1)))), (0, .ref h0), (1, .int (nI j_p0)), (2, .int (nI j_p1)), (3, .int (nI j_p2)), (4, .int (nI j_p3)), (5, .int (nI j_p4))]) (fun xx_ : Nat × Nat × Nat => match xx_ with | (x, aa, xx) => (x ≤ j_p3) ∧ (aa < 5 ^ k ∧ xx ≤ 65536 ∧ drN k (bK (fk j_p2)) j_p3 j_p0 (ma j_p1) = drN k (bK (fk j_p2)) (j_p3 - x) xx aa)) (fun xx_ : Nat × Nat × Nat => match xx_ with | (x, aa, xx) => j_p3 - x) (hP.sub [0, 1, 2, 3, 4, 5, 6] rfl) (hD.sub [0, 1, 2, 3, 4, 5, 6] (by decide) rfl) hS (lv_sub hl [0, 1, 2, 3, 4, 5, 6, 7, 8, 9] rfl) ⟨by omega, ⟨hcj.1, by omega, by rw [Nat.sub_zero]⟩⟩ ?_
                    intro xx_ hI ih88 H locs ls hP hD hS hl
                    obtain ⟨x, aa, xx⟩ := xx_
                    dsimp only at hI ih88 hP hD hl
                    obtain ⟨hx0, haa⟩ := hI
                    have hl : lv_has ls 10 [(9, .int (nI x)), (8, .int (nI xx)), (7, .int (nI (sc k aa))), (6, .int (nI (sc k (ma j_p1)))), (0, .ref h0), (1, .int (nI j_p0)), (2, .int (nI j_p1)), (3, .int (nI j_p2)), (4, .int (nI j_p3)), (5, .int (nI j_p4))] := hl
                    have hP : va_P G.1 vwCl ([(h0, .inr (5, [.ref pad, .ref pp, .ref im, vse, vtr])), (pad, .inr (0, [.ref sg, .ref sl, .int (nI pm)])), (sg, .inl (gI G, 40, .inl fsg)), (sl, .inl (gI G, 10, .inl fsl)), (pp, .inr (1, [.int (nI k), .int told, .int sp, .int (nI (sc k la)), .ref ac, .ref ak])), (ac, .inl (gI G, 6, .inl fc)), (ak, .inl (gI G, 4, .inl fk))]) H := hP
                    have hD : va_D A ([(h0, .inr (5, [.ref pad, .ref pp, .ref im, vse, vtr])), (pad, .inr (0, [.ref sg, .ref sl, .int (nI pm)])), (sg, .inl (gI G, 40, .inl fsg)), (sl, .inl (gI G, 10, .inl fsl)), (pp, .inr (1, [.int (nI k), .int told, .int sp, .int (nI (sc k la)), .ref ac, .ref ak])), (ac, .inl (gI G, 6, .inl fc)), (ak, .inl (gI G, 4, .inl fk))]) := hD
                    refine lv_iload hx hb dX9_drawn_88 (lv_at hl 0 rfl) ?_
                    refine lv_iload hx hb dX9_drawn_90 (lv_at hl 8 rfl) ?_
                    refine lv_icmp_ge (tgt := 132) hx hb dX9_drawn_92 (by decide) (fun c47 => ?_) (fun c47 => ?_)
                    · have c47 : j_p3 ≤ x := (nI_leI (a := j_p3) (b := x) (by omega) (by omega)).mp c47
                      have hfin : aa = drN k (bK (fk j_p2)) j_p3 j_p0 (ma j_p1) := by rw [haa.2.2, show j_p3 - x = 0 by omega]; rfl
                      refine lv_iload hx hb dX9_drawn_132 (lv_at hl 9 rfl) ?_
                      refine lv_iconst (v := (-1)) hx hb dX9_drawn_134 (by decide) ?_
                      refine lv_icmp_ne (tgt := 148) hx hb dX9_drawn_135 (by decide) (fun c48 => ?_) (fun c48 => absurd c48 (by intro q9; have q8 := congrArg Int32.toInt q9; rw [nI_toInt (by omega)] at q8; simp only [Int32.reduceToInt] at q8; omega))
                      refine lv_iload hx hb dX9_drawn_148 (lv_at hl 2 rfl) ?_
                      refine lv_iload hx hb dX9_drawn_150 (lv_at hl 9 rfl) ?_
                      refine ca_iR (va_runS (As := [.int (nI (sc k aa)), .int (nI j_p4)]) (rest := []) ⟨hx, hb, hml, hown, hts⟩ (n_signAt l G H.size (sc k aa) j_p4 (sc_lt hk6 haa.1) (by omega)) (va_cwS 2 hts gX9_drawn_X1_signAt rfl rfl rfl (by decide +kernel) ⟨by decide +kernel, by decide +kernel⟩) (pre_S E hP hD hS hA [] (by decide) rfl) rfl rfl hl.1 rfl (lv_room (Nat.le_of_ble_eq_true rfl)) dX9_drawn_152 ⟨by decide +kernel, by decide +kernel⟩) hS hP hD hA [] rfl (fun r50 _ H locs w49 hP hS => ?_)
                      rw [w49]
                      refine ca_iR (va_runS (As := [.int (nI (dg 6 (sc k aa) j_p4))]) (rest := []) ⟨hx, hb, hml, hown, hts⟩ (n_written l G H.size (dg 6 (sc k aa) j_p4) (dg_lt _ _ _)) (va_cwS 1 hts gX9_drawn_X5_written rfl rfl rfl (by decide +kernel) ⟨by decide +kernel, by decide +kernel⟩) (pre_S E hP hD hS hA [] (by decide) rfl) rfl rfl hl.1 rfl (lv_room (Nat.le_of_ble_eq_true rfl)) dX9_drawn_155 ⟨by decide +kernel, by decide +kernel⟩) hS hP hD hA [] rfl (fun r52 _ H locs w51 hP hS => ?_)
                      have hP9 := (hP.sub (ws' := [(h0, .inr (5, [.ref pad, .ref pp, .ref im, vse, vtr])), (pad, .inr (0, [.ref sg, .ref sl, .int (nI pm)])), (sg, .inl (gI G, 40, .inl fsg)), (sl, .inl (gI G, 10, .inl fsl)), (pp, .inr (1, [.int (nI k), .int told, .int sp, .int (nI (sc k la)), .ref ac, .ref ak])), (ac, .inl (gI G, 6, .inl fc)), (ak, .inl (gI G, 4, .inl fk))]) [0, 1, 2, 3, 4, 5, 6] rfl)
                      have hD9 := (hD.sub (ws' := [(h0, .inr (5, [.ref pad, .ref pp, .ref im, vse, vtr])), (pad, .inr (0, [.ref sg, .ref sl, .int (nI pm)])), (sg, .inl (gI G, 40, .inl fsg)), (sl, .inl (gI G, 10, .inl fsl)), (pp, .inr (1, [.int (nI k), .int told, .int sp, .int (nI (sc k la)), .ref ac, .ref ak])), (ac, .inl (gI G, 6, .inl fc)), (ak, .inl (gI G, 4, .inl fk))]) [0, 1, 2, 3, 4, 5, 6] (by decide) rfl)
                      exact W.iret (v := r52) hx hb hr (fun t9_ ht9_ hW9_ => ⟨⟨r52, (), rfl, by rw [w51, dg_sc hk6 hj_p4, hfin]; exact dwA_5 hk6 hj_p1 ej_p1 hj_p2 ej_p2 hj_p0 ej_p0 hj_p3 ej_p3 hj_p4 ej_p4 htd, by rw [ht9_]; exact hP9, hD9⟩, hS.F ht9_⟩) hS.2.2 dX9_drawn_158
                    · have c47 : ¬ j_p3 ≤ x := fun h9_ => c47 ((nI_leI (a := j_p3) (b := x) (by omega) (by omega)).mpr h9_)
                      have hxx := haa.2.1
                      refine lv_bipush (v := 75) hx hb dX9_drawn_95 (by decide) ?_
                      refine lv_iload hx hb dX9_drawn_97 (lv_at hl 1 rfl) ?_
                      refine lv_imul hx hb dX9_drawn_99 ?_
                      refine lv_topi (fun x53 ex53 => ?_)
                      obtain rfl : x53 = nI (75 * xx) := by rw [ex53]; exact pk_mul 75 xx
                      refine lv_bipush (v := 74) hx hb dX9_drawn_100 (by decide) ?_
                      refine lv_iadd hx hb dX9_drawn_102 ?_
                      refine lv_topi (fun x54 ex54 => ?_)
                      obtain rfl : x54 = nI ((75 * xx) + 74) := by rw [ex54]; exact nI_add (75 * xx) 74
                      refine lv_ldc (v := 65537) hx hb hown (hts (.constant RX9 198 (65537)) (by decide +kernel)) dX9_drawn_103 ?_
                      refine lv_irem hx hb dX9_drawn_105 (by decide) ?_
                      refine lv_topi (fun x55 ex55 => ?_)
                      obtain rfl : x55 = nI (((75 * xx) + 74) % 65537) := by rw [ex55]; exact pk_rem (show ((75 * xx) + 74) < 2 ^ 31 by omega) (show 0 < 65537 by decide) (by decide)
                      refine lv_istore (lv' := [(8, .int (nI (((75 * xx) + 74) % 65537))), (9, .int (nI x)), (7, .int (nI (sc k aa))), (6, .int (nI (sc k (ma j_p1)))), (0, .ref h0), (1, .int (nI j_p0)), (2, .int (nI j_p1)), (3, .int (nI j_p2)), (4, .int (nI j_p3)), (5, .int (nI j_p4))]) hx hb dX9_drawn_106 hl (by decide) rfl (fun ls hl => ?_)
                      refine lv_aload_n hx hb dX9_drawn_108 rfl (lv_at hl 4 rfl) ?_
                      refine lv_iload hx hb dX9_drawn_109 (lv_at hl 2 rfl) ?_
                      refine lv_iload hx hb dX9_drawn_111 (lv_at hl 0 rfl) ?_
                      refine lv_aload_n hx hb dX9_drawn_113 rfl (lv_at hl 4 rfl) ?_
                      refine va_get (D := G.1) (ci := 5) (v := .ref pp) (C := RX9) (T := TX9) (N := 5) hx hb hts (fun _ h => List.mem_cons_of_mem _ (List.mem_append_left _ (List.mem_append_right _ h))) hown E.K hP 0 rfl rfl 1 (by decide) (hts (.fieldLink RX9 19 "LastMap" "papers" "LLastMap$Papers;") (by decide +kernel)) (fun _ h9 => h9) rfl dX9_drawn_114 ?_
                      refine lv_iload_n hx hb dX9_drawn_117 rfl (lv_at hl 7 rfl) ?_
                      refine ca_iR (va_runV (As := [.int (nI j_p2)]) (rest := [.int (nI (((75 * xx) + 74) % 65537)), .int (nI (sc k aa)), .ref h0]) ⟨hx, hb, hml, hown, hts⟩ (n_kindsOf l G H.size pp ac ak (nI k) told sp (nI (sc k la)) fc fk j_p2 (by omega)) (cwV 1 hts gX9_drawn_X3_kindsOf rfl rfl rfl (by decide +kernel) ⟨by decide +kernel, by decide +kernel⟩) (pre_V E hP hD hS hA [4, 5, 6] (by decide) rfl 4 1 rfl rfl) rfl rfl hl.1 rfl (lv_room (Nat.le_of_ble_eq_true rfl)) dX9_drawn_118 ⟨by decide +kernel, by decide +kernel⟩) hS hP hD hA [4, 5, 6] rfl (fun r57 _ H locs w56 hP hS => ?_)
                      refine W.eq (g2 := F0 m 121 ls [.int (fk j_p2), .int (nI (((75 * xx) + 74) % 65537)), .int (nI (sc k aa)), .ref h0]) (by rw [w56]) ?_
                      refine ca_iR (va_runV (As := [.int (nI (sc k aa)), .int (nI (((75 * xx) + 74) % 65537)), .int (fk j_p2)]) (rest := []) ⟨hx, hb, hml, hown, hts⟩ (n_afterDraw l G H.size h0 pad pp im vse vtr ac ak k aa (((75 * xx) + 74) % 65537) told sp (nI (sc k la)) (fk j_p2) hk2 hk6 haa.1 (by omega)) (cwV 3 hts gX9_drawn_X9_afterDraw rfl rfl rfl (by decide +kernel) ⟨by decide +kernel, by decide +kernel⟩) (pre_V E hP hD hS hA [0, 4] (by decide) rfl 0 5 rfl rfl) rfl rfl hl.1 rfl (lv_room (Nat.le_of_ble_eq_true rfl)) dX9_drawn_121 ⟨by decide +kernel, by decide +kernel⟩) hS hP hD hA [0, 4] rfl (fun r59 _ H locs w58 hP hS => ?_)
                      rw [w58]
                      refine lv_istore (lv' := [(7, .int (nI (sc k (dwN k (bK (fk j_p2)) aa (((75 * xx) + 74) % 65537))))), (8, .int (nI (((75 * xx) + 74) % 65537))), (9, .int (nI x)), (6, .int (nI (sc k (ma j_p1)))), (0, .ref h0), (1, .int (nI j_p0)), (2, .int (nI j_p1)), (3, .int (nI j_p2)), (4, .int (nI j_p3)), (5, .int (nI j_p4))]) hx hb dX9_drawn_124 hl (by decide) rfl (fun ls hl => ?_)
                      obtain ⟨x60, ex60⟩ : ∃ yy_ : Int32, yy_ = (nI x) + 1 := ⟨_, rfl⟩
                      refine lv_iinc (v := x60) (lv' := [(9, .int x60), (7, .int (nI (sc k (dwN k (bK (fk j_p2)) aa (((75 * xx) + 74) % 65537))))), (8, .int (nI (((75 * xx) + 74) % 65537))), (6, .int (nI (sc k (ma j_p1)))), (0, .ref h0), (1, .int (nI j_p0)), (2, .int (nI j_p1)), (3, .int (nI j_p2)), (4, .int (nI j_p3)), (5, .int (nI j_p4))]) hx hb dX9_drawn_126 hl (k := 2) rfl (by rw [ex60]; rfl) (by decide) rfl (fun ls hl => ?_)
                      obtain rfl : x60 = nI (x + 1) := by rw [ex60]; exact nI_add x 1
                      refine lv_goto (tgt := 88) hx hb dX9_drawn_129 (by decide) ?_
                      have hnew : dwN k (bK (fk j_p2)) aa ((75 * xx + 74) % 65537) < 5 ^ k ∧ (75 * xx + 74) % 65537 ≤ 65536 ∧ drN k (bK (fk j_p2)) j_p3 j_p0 (ma j_p1) = drN k (bK (fk j_p2)) (j_p3 - (x + 1)) ((75 * xx + 74) % 65537) (dwN k (bK (fk j_p2)) aa ((75 * xx + 74) % 65537)) := ⟨dwN_lt haa.1, by omega, by rw [haa.2.2, show j_p3 - x = (j_p3 - (x + 1)) + 1 by omega]; rfl⟩
                      refine ih88 (x + 1, dwN k (bK (fk j_p2)) aa ((75 * xx + 74) % 65537), (75 * xx + 74) % 65537) ⟨?_, ?_⟩ (by first | omega | (dsimp only; omega)) H locs ls (hP.sub [0, 1, 2, 3, 4, 5, 6] rfl) (hD.sub [0, 1, 2, 3, 4, 5, 6] (by decide) rfl) hS (lv_sub hl [0, 2, 1, 3, 4, 5, 6, 7, 8, 9] rfl)
                      · try dsimp only
                        omega
                      · try dsimp only
                        exact hnew
                  · refine lv_if_ne (tgt := 68) hx hb dX9_drawn_62 (by decide) (fun c61 => False.elim (by revert c61; decide)) (fun _ => ?_)
                    refine lv_bipush (v := (-3)) hx hb dX9_drawn_65 (by decide) ?_
                    have hP9 := (hP.sub (ws' := [(h0, .inr (5, [.ref pad, .ref pp, .ref im, vse, vtr])), (pad, .inr (0, [.ref sg, .ref sl, .int (nI pm)])), (sg, .inl (gI G, 40, .inl fsg)), (sl, .inl (gI G, 10, .inl fsl)), (pp, .inr (1, [.int (nI k), .int told, .int sp, .int (nI (sc k la)), .ref ac, .ref ak])), (ac, .inl (gI G, 6, .inl fc)), (ak, .inl (gI G, 4, .inl fk))]) [0, 1, 2, 3, 4, 5, 6] rfl)
                    have hD9 := (hD.sub (ws' := [(h0, .inr (5, [.ref pad, .ref pp, .ref im, vse, vtr])), (pad, .inr (0, [.ref sg, .ref sl, .int (nI pm)])), (sg, .inl (gI G, 40, .inl fsg)), (sl, .inl (gI G, 10, .inl fsl)), (pp, .inr (1, [.int (nI k), .int told, .int sp, .int (nI (sc k la)), .ref ac, .ref ak])), (ac, .inl (gI G, 6, .inl fc)), (ak, .inl (gI G, 4, .inl fk))]) [0, 1, 2, 3, 4, 5, 6] (by decide) rfl)
                    exact W.iret (v := (-3)) hx hb hr (fun t9_ ht9_ hW9_ => ⟨⟨(-3), (), rfl, dwA_3 ⟨b3, b7, Or.inr b35⟩ ⟨by ((try simp only [inR, inS, i3_lt, i3_le, i3_eq, i6_lt, i6_le, Int32.toInt_toInt64, lg_cmp_lt, lg_cmp_gt, lg_cmp_ge, lg_cmp_le, Int32.reduceToInt, Int64.reduceToInt] at c9 c37 c38 c39 c40 ⊢); omega), by ((try simp only [inR, inS, i3_lt, i3_le, i3_eq, i6_lt, i6_le, Int32.toInt_toInt64, lg_cmp_lt, lg_cmp_gt, lg_cmp_ge, lg_cmp_le, Int32.reduceToInt, Int64.reduceToInt] at c9 c37 c38 c39 c40 ⊢); omega)⟩ (fun q9 => b43 ⟨b3, q9⟩), by rw [ht9_]; exact hP9, hD9⟩, hS.F ht9_⟩) hS.2.2 dX9_drawn_67
                · refine lv_bipush (v := (-2)) hx hb dX9_drawn_54 (by decide) ?_
                  have hP9 := (hP.sub (ws' := [(h0, .inr (5, [.ref pad, .ref pp, .ref im, vse, vtr])), (pad, .inr (0, [.ref sg, .ref sl, .int (nI pm)])), (sg, .inl (gI G, 40, .inl fsg)), (sl, .inl (gI G, 10, .inl fsl)), (pp, .inr (1, [.int (nI k), .int told, .int sp, .int (nI (sc k la)), .ref ac, .ref ak])), (ac, .inl (gI G, 6, .inl fc)), (ak, .inl (gI G, 4, .inl fk))]) [0, 1, 2, 3, 4, 5, 6] rfl)
                  have hD9 := (hD.sub (ws' := [(h0, .inr (5, [.ref pad, .ref pp, .ref im, vse, vtr])), (pad, .inr (0, [.ref sg, .ref sl, .int (nI pm)])), (sg, .inl (gI G, 40, .inl fsg)), (sl, .inl (gI G, 10, .inl fsl)), (pp, .inr (1, [.int (nI k), .int told, .int sp, .int (nI (sc k la)), .ref ac, .ref ak])), (ac, .inl (gI G, 6, .inl fc)), (ak, .inl (gI G, 4, .inl fk))]) [0, 1, 2, 3, 4, 5, 6] (by decide) rfl)
                  exact W.iret (v := (-2)) hx hb hr (fun t9_ ht9_ hW9_ => ⟨⟨(-2), (), rfl, dwA_2 ⟨b3, b7, Or.inr b35⟩ (fun q9 => by have q8 := q9.1; have q7 := q9.2; ((try simp only [inR, inS, i3_lt, i3_le, i3_eq, i6_lt, i6_le, Int32.toInt_toInt64, lg_cmp_lt, lg_cmp_gt, lg_cmp_ge, lg_cmp_le, Int32.reduceToInt, Int64.reduceToInt] at c9 c37 c38 c39 c40 q8 q7); omega)), by rw [ht9_]; exact hP9, hD9⟩, hS.F ht9_⟩) hS.2.2 dX9_drawn_56
        · refine lv_if_ne (tgt := 31) hx hb dX9_drawn_26 (by decide) (fun c62 => False.elim (by revert c62; decide)) (fun _ => ?_)
          refine lv_iconst (v := (-1)) hx hb dX9_drawn_29 (by decide) ?_
          have hP9 := (hP.sub (ws' := [(h0, .inr (5, [.ref pad, .ref pp, .ref im, vse, vtr])), (pad, .inr (0, [.ref sg, .ref sl, .int (nI pm)])), (sg, .inl (gI G, 40, .inl fsg)), (sl, .inl (gI G, 10, .inl fsl)), (pp, .inr (1, [.int (nI k), .int told, .int sp, .int (nI (sc k la)), .ref ac, .ref ak])), (ac, .inl (gI G, 6, .inl fc)), (ak, .inl (gI G, 4, .inl fk))]) [0, 1, 2, 3, 4, 5, 6] rfl)
          have hD9 := (hD.sub (ws' := [(h0, .inr (5, [.ref pad, .ref pp, .ref im, vse, vtr])), (pad, .inr (0, [.ref sg, .ref sl, .int (nI pm)])), (sg, .inl (gI G, 40, .inl fsg)), (sl, .inl (gI G, 10, .inl fsl)), (pp, .inr (1, [.int (nI k), .int told, .int sp, .int (nI (sc k la)), .ref ac, .ref ak])), (ac, .inl (gI G, 6, .inl fc)), (ak, .inl (gI G, 4, .inl fk))]) [0, 1, 2, 3, 4, 5, 6] (by decide) rfl)
          exact W.iret (v := (-1)) hx hb hr (fun t9_ ht9_ hW9_ => ⟨⟨(-1), (), rfl, dwA_1 (fun q9 => q9.2.2.elim c9 b35), by rw [ht9_]; exact hP9, hD9⟩, hS.F ht9_⟩) hS.2.2 dX9_drawn_30
    · refine lv_if_eq (tgt := 29) hx hb dX9_drawn_11 (by decide) (fun _ => ?_) (fun c63 => False.elim (by revert c63; decide))
      refine lv_iconst (v := (-1)) hx hb dX9_drawn_29 (by decide) ?_
      have hP9 := (hP.sub (ws' := [(h0, .inr (5, [.ref pad, .ref pp, .ref im, vse, vtr])), (pad, .inr (0, [.ref sg, .ref sl, .int (nI pm)])), (sg, .inl (gI G, 40, .inl fsg)), (sl, .inl (gI G, 10, .inl fsl)), (pp, .inr (1, [.int (nI k), .int told, .int sp, .int (nI (sc k la)), .ref ac, .ref ak])), (ac, .inl (gI G, 6, .inl fc)), (ak, .inl (gI G, 4, .inl fk))]) [0, 1, 2, 3, 4, 5, 6] rfl)
      have hD9 := (hD.sub (ws' := [(h0, .inr (5, [.ref pad, .ref pp, .ref im, vse, vtr])), (pad, .inr (0, [.ref sg, .ref sl, .int (nI pm)])), (sg, .inl (gI G, 40, .inl fsg)), (sl, .inl (gI G, 10, .inl fsl)), (pp, .inr (1, [.int (nI k), .int told, .int sp, .int (nI (sc k la)), .ref ac, .ref ak])), (ac, .inl (gI G, 6, .inl fc)), (ak, .inl (gI G, 4, .inl fk))]) [0, 1, 2, 3, 4, 5, 6] (by decide) rfl)
      exact W.iret (v := (-1)) hx hb hr (fun t9_ ht9_ hW9_ => ⟨⟨(-1), (), rfl, dwA_1 (fun q9 => b7 q9.2.1), by rw [ht9_]; exact hP9, hD9⟩, hS.F ht9_⟩) hS.2.2 dX9_drawn_30
  · refine lv_if_eq (tgt := 29) hx hb dX9_drawn_4 (by decide) (fun _ => ?_) (fun c64 => False.elim (by revert c64; decide))
    refine lv_iconst (v := (-1)) hx hb dX9_drawn_29 (by decide) ?_
    have hP9 := (hP.sub (ws' := [(h0, .inr (5, [.ref pad, .ref pp, .ref im, vse, vtr])), (pad, .inr (0, [.ref sg, .ref sl, .int (nI pm)])), (sg, .inl (gI G, 40, .inl fsg)), (sl, .inl (gI G, 10, .inl fsl)), (pp, .inr (1, [.int (nI k), .int told, .int sp, .int (nI (sc k la)), .ref ac, .ref ak])), (ac, .inl (gI G, 6, .inl fc)), (ak, .inl (gI G, 4, .inl fk))]) [0, 1, 2, 3, 4, 5, 6] rfl)
    have hD9 := (hD.sub (ws' := [(h0, .inr (5, [.ref pad, .ref pp, .ref im, vse, vtr])), (pad, .inr (0, [.ref sg, .ref sl, .int (nI pm)])), (sg, .inl (gI G, 40, .inl fsg)), (sl, .inl (gI G, 10, .inl fsl)), (pp, .inr (1, [.int (nI k), .int told, .int sp, .int (nI (sc k la)), .ref ac, .ref ak])), (ac, .inl (gI G, 6, .inl fc)), (ak, .inl (gI G, 4, .inl fk))]) [0, 1, 2, 3, 4, 5, 6] (by decide) rfl)
    exact W.iret (v := (-1)) hx hb hr (fun t9_ ht9_ hW9_ => ⟨⟨(-1), (), rfl, dwA_1 (fun q9 => b3 q9.1), by rw [ht9_]; exact hP9, hD9⟩, hS.F ht9_⟩) hS.2.2 dX9_drawn_30
