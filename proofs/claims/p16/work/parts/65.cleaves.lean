theorem inR05 {j : Nat} (h : j < 6) : inR (nI j) 0 5 := by have e := nI_toInt (n := j) (by omega); simp only [inR, i3_le, e, Int32.reduceToInt]; omega
theorem inR03 {j : Nat} (h : j < 4) : inR (nI j) 0 3 := by have e := nI_toInt (n := j) (by omega); simp only [inR, i3_le, e, Int32.reduceToInt]; omega
theorem inR09 {j : Nat} (h : j < 10) : inR (nI j) 0 9 := by have e := nI_toInt (n := j) (by omega); simp only [inR, i3_le, e, Int32.reduceToInt]; omega
theorem cod_nI {f : Nat → Int32} {j : Nat} (h : j < 6) : cIf (inR (nI j) 0 5) (f (nI j).toNatClampNeg) 0 = f j := by rw [cIf_t (inR05 h), nI_clamp (by omega)]
theorem kin_nI {f : Nat → Int32} {j : Nat} (h : j < 4) : cIf (inR (nI j) 0 3) (f (nI j).toNatClampNeg) 0 = f j := by rw [cIf_t (inR03 h), nI_clamp (by omega)]
theorem sla_nI {f : Nat → Int32} {j : Nat} (h : j < 10) : cIf (inR (nI j) 0 9) (f (nI j).toNatClampNeg) (-6) = f j := by rw [cIf_t (inR09 h), nI_clamp (by omega)]
theorem psg_nI {f : Nat → Int32} {pm i : Nat} (hp : pm ≤ 40) (h : i < pm) : psg f (nI pm) (nI i) = f i := by
  unfold psg
  rw [cIf_t (nI_pos' (by omega)), cIf_t (nI_lt h (by omega)), cIf_t (show nI i < 40 from nI_lt (b := 40) (by omega) (by decide)), nI_clamp (by omega)]
theorem lsl_nI {f : Nat → Int32} {pm i : Nat} (hp : pm ≤ 40) (h : i < pm) : lsl f (nI pm) (nI i) = nI (lenS f i) := by
  unfold lsl
  rw [psg_nI hp h]
  unfold lenS
  by_cases e : f i = 99
  · rw [if_pos e, cIf_t (by unfold knd; rw [cIf_t e])]; rfl
  · rw [if_neg e, cIf_f (by unfold knd; rw [cIf_f e]; intro q; by_cases a : f i = 111; (rw [cIf_t a] at q; exact absurd q (by decide)); rw [cIf_f a] at q; by_cases b : f i = 115; (rw [cIf_t b] at q; exact absurd q (by decide)); rw [cIf_f b] at q; by_cases c : f i = 116; (rw [cIf_t c] at q; exact absurd q (by decide)); rw [cIf_f c] at q; exact absurd q (by decide))]; rfl

theorem n_signAt (l : Launch) (G : Gy) (sz : Nat) (a : Nat) (j : Nat) (ha : a < 5 ^ 6) (hj : j < 6) : Ci l G yX1_signAt wsX1_signAt ({ frames := 1, cells := 0, slots := 0, locals := 21 }) [.int (nI a), .int (nI j)] ([]) sz (fun (r : Int32) (_ : Unit) => r = nI (dg 6 a j)) (fun (_ : Unit) => []) 0 0 := by
  have h := c_signAt l G sz (nI a) (nI j)
  rw [sgn_nI ha hj] at h
  exact h

theorem n_with (l : Launch) (G : Gy) (sz : Nat) (a : Nat) (j : Nat) (g : Nat) (ha : a < 5 ^ 6) (hj : j < 6) : Ci l G yX1_with wsX1_with ({ frames := 2, cells := 0, slots := 0, locals := 42 }) [.int (nI a), .int (nI j), .int (nI g)] ([]) sz (fun (r : Int32) (_ : Unit) => r = nI (wN 6 a j g)) (fun (_ : Unit) => []) 0 0 := by
  have h := c_with l G sz (nI a) (nI j) (nI g)
  rw [wth_nI ha hj] at h
  exact h

theorem n_after (l : Launch) (G : Gy) (sz : Nat) (a : Nat) (sv : Nat) (m0 : Nat) (mj : Nat) (mg : Nat) (ha : a < 5 ^ 6) (hok : okV 6 m0 mj mg) (hsv : sv = 100 * m0 + 10 * mj + mg) : Ci l G yX6_after wsX6_after ({ frames := 3, cells := 0, slots := 0, locals := 64 }) [.int (nI a), .int (nI sv)] ([]) sz (fun (r : Int32) (_ : Unit) => r = nI (slN 6 a (m0, mj, mg))) (fun (_ : Unit) => []) 0 0 := by
  have h := c_after l G sz (nI a) (nI sv)
  rw [aft_nI ha hok hsv] at h
  exact h

theorem n_written (l : Launch) (G : Gy) (sz : Nat) (d : Nat) (hd : d < 5) : Ci l G yX5_written wsX5_written ({ frames := 0, cells := 0, slots := 0, locals := 0 }) [.int (nI d)] ([]) sz (fun (r : Int32) (_ : Unit) => r = cIf (nI d = 4) 45 (97 + nI d)) (fun (_ : Unit) => []) 0 0 := by
  have h := c_written l G sz (nI d)
  rw [wri_nI hd] at h
  exact h

theorem n_codeOf (l : Launch) (G : Gy) (sz : Nat) (pp : Nat) (ac : Nat) (ak : Nat) (n : Int32) (told : Int32) (sp : Int32) (gr : Int32) (fc : Nat → Int32) (fk : Nat → Int32) (j : Nat) (hj : j < 6) : Ci l G yX3_codeOf wsX3_codeOf ({ frames := 0, cells := 0, slots := 0, locals := 0 }) [.ref pp, .int (nI j)] ([(pp, .inr (1, [.int n, .int told, .int sp, .int gr, .ref ac, .ref ak])), (ac, .inl (gI G, 6, .inl fc)), (ak, .inl (gI G, 4, .inl fk))]) sz (fun (r : Int32) (_ : Unit) => r = fc j) (fun (_ : Unit) => [(pp, .inr (1, [.int n, .int told, .int sp, .int gr, .ref ac, .ref ak])), (ac, .inl (gI G, 6, .inl fc)), (ak, .inl (gI G, 4, .inl fk))]) 0 0 := by
  have h := c_codeOf l G sz pp ac ak n told sp gr fc fk (nI j)
  rw [cod_nI hj] at h
  exact h

theorem n_kindsOf (l : Launch) (G : Gy) (sz : Nat) (pp : Nat) (ac : Nat) (ak : Nat) (n : Int32) (told : Int32) (sp : Int32) (gr : Int32) (fc : Nat → Int32) (fk : Nat → Int32) (j : Nat) (hj : j < 4) : Ci l G yX3_kindsOf wsX3_kindsOf ({ frames := 0, cells := 0, slots := 0, locals := 0 }) [.ref pp, .int (nI j)] ([(pp, .inr (1, [.int n, .int told, .int sp, .int gr, .ref ac, .ref ak])), (ac, .inl (gI G, 6, .inl fc)), (ak, .inl (gI G, 4, .inl fk))]) sz (fun (r : Int32) (_ : Unit) => r = fk j) (fun (_ : Unit) => [(pp, .inr (1, [.int n, .int told, .int sp, .int gr, .ref ac, .ref ak])), (ac, .inl (gI G, 6, .inl fc)), (ak, .inl (gI G, 4, .inl fk))]) 0 0 := by
  have h := c_kindsOf l G sz pp ac ak n told sp gr fc fk (nI j)
  rw [kin_nI hj] at h
  exact h

theorem n_padSign (l : Launch) (G : Gy) (sz : Nat) (pad : Nat) (sg : Nat) (sl : Nat) (pm : Nat) (fsg : Nat → Int32) (fsl : Nat → Int32) (i : Nat) (hpm : pm ≤ 40) (hi : i < pm) : Ci l G yX2_signAt wsX2_signAt ({ frames := 0, cells := 0, slots := 0, locals := 0 }) [.ref pad, .int (nI i)] ([(pad, .inr (0, [.ref sg, .ref sl, .int (nI pm)])), (sg, .inl (gI G, 40, .inl fsg)), (sl, .inl (gI G, 10, .inl fsl))]) sz (fun (r : Int32) (_ : Unit) => r = fsg i) (fun (_ : Unit) => [(pad, .inr (0, [.ref sg, .ref sl, .int (nI pm)])), (sg, .inl (gI G, 40, .inl fsg)), (sl, .inl (gI G, 10, .inl fsl))]) 0 0 := by
  have h := c_padSign l G sz pad sg sl (nI pm) fsg fsl (nI i)
  rw [psg_nI hpm hi] at h
  exact h

theorem n_padMark (l : Launch) (G : Gy) (sz : Nat) (pad : Nat) (sg : Nat) (sl : Nat) (pm : Nat) (fsg : Nat → Int32) (fsl : Nat → Int32) (i : Nat) (hpm : pm ≤ 40) (hi : i < pm) : Ci l G yX2_markAt wsX2_markAt ({ frames := 1, cells := 0, slots := 0, locals := 21 }) [.ref pad, .int (nI i)] ([(pad, .inr (0, [.ref sg, .ref sl, .int (nI pm)])), (sg, .inl (gI G, 40, .inl fsg)), (sl, .inl (gI G, 10, .inl fsl))]) sz (fun (r : Int32) (_ : Unit) => r = num (fsg i)) (fun (_ : Unit) => [(pad, .inr (0, [.ref sg, .ref sl, .int (nI pm)])), (sg, .inl (gI G, 40, .inl fsg)), (sl, .inl (gI G, 10, .inl fsl))]) 0 0 := by
  have h := c_padMark l G sz pad sg sl (nI pm) fsg fsl (nI i)
  rw [psg_nI hpm hi] at h
  exact h

theorem n_kindAt (l : Launch) (G : Gy) (sz : Nat) (pad : Nat) (sg : Nat) (sl : Nat) (pm : Nat) (fsg : Nat → Int32) (fsl : Nat → Int32) (i : Nat) (hpm : pm ≤ 40) (hi : i < pm) : Ci l G yX2_kindAt wsX2_kindAt ({ frames := 1, cells := 0, slots := 0, locals := 21 }) [.ref pad, .int (nI i)] ([(pad, .inr (0, [.ref sg, .ref sl, .int (nI pm)])), (sg, .inl (gI G, 40, .inl fsg)), (sl, .inl (gI G, 10, .inl fsl))]) sz (fun (r : Int32) (_ : Unit) => r = knd (fsg i)) (fun (_ : Unit) => [(pad, .inr (0, [.ref sg, .ref sl, .int (nI pm)])), (sg, .inl (gI G, 40, .inl fsg)), (sl, .inl (gI G, 10, .inl fsl))]) 0 0 := by
  have h := c_kindAt l G sz pad sg sl (nI pm) fsg fsl (nI i)
  rw [psg_nI hpm hi] at h
  exact h

theorem n_lengthOfSlip (l : Launch) (G : Gy) (sz : Nat) (pad : Nat) (sg : Nat) (sl : Nat) (pm : Nat) (fsg : Nat → Int32) (fsl : Nat → Int32) (i : Nat) (hpm : pm ≤ 40) (hi : i < pm) : Ci l G yX2_lengthOfSlip wsX2_lengthOfSlip ({ frames := 2, cells := 0, slots := 0, locals := 42 }) [.ref pad, .int (nI i)] ([(pad, .inr (0, [.ref sg, .ref sl, .int (nI pm)])), (sg, .inl (gI G, 40, .inl fsg)), (sl, .inl (gI G, 10, .inl fsl))]) sz (fun (r : Int32) (_ : Unit) => r = nI (lenS fsg i)) (fun (_ : Unit) => [(pad, .inr (0, [.ref sg, .ref sl, .int (nI pm)])), (sg, .inl (gI G, 40, .inl fsg)), (sl, .inl (gI G, 10, .inl fsl))]) 0 0 := by
  have h := c_lengthOfSlip l G sz pad sg sl (nI pm) fsg fsl (nI i)
  rw [lsl_nI hpm hi] at h
  exact h

theorem n_slipAt (l : Launch) (G : Gy) (sz : Nat) (pad : Nat) (sg : Nat) (sl : Nat) (len : Int32) (fsg : Nat → Int32) (fsl : Nat → Int32) (i : Nat) (hi : i < 10) : Ci l G yX2_slipAt wsX2_slipAt ({ frames := 0, cells := 0, slots := 0, locals := 0 }) [.ref pad, .int (nI i)] ([(pad, .inr (0, [.ref sg, .ref sl, .int len])), (sg, .inl (gI G, 40, .inl fsg)), (sl, .inl (gI G, 10, .inl fsl))]) sz (fun (r : Int32) (_ : Unit) => r = fsl i) (fun (_ : Unit) => [(pad, .inr (0, [.ref sg, .ref sl, .int len])), (sg, .inl (gI G, 40, .inl fsg)), (sl, .inl (gI G, 10, .inl fsl))]) 0 0 := by
  have h := c_slipAt l G sz pad sg sl len fsg fsl (nI i)
  rw [sla_nI hi] at h
  exact h

set_option maxHeartbeats 1000000 in
set_option maxRecDepth 100000 in
theorem n_unlike (l : Launch) (G : Gy) (sz : Nat) (a : Nat) (b2 : Nat) (ha : a < 5 ^ 6) (hb2 : b2 < 5 ^ 6) : Ci l G yX1_unlike wsX1_unlike ({ frames := 2, cells := 0, slots := 0, locals := 42 }) [.int (nI a), .int (nI b2)] ([]) sz (fun (r : Int32) (_ : Unit) => r = nI (unl 6 a b2 6)) (fun (_ : Unit) => []) 0 0 := by
  refine Met.ofW (cc := cX1_unlike) (maxL := 4) (ret := (some .int)) (by decide) rfl ?_
  intro p e s m args below meth c s₁ B hml hv
  obtain ⟨rfl, hsz, hP, hD0, E0⟩ := hv
  have hx := B.exec
  have hb := B.bytes
  have hr := B.returns
  have hts := atoms_spec (ws := wsX1_unlike) B.pre
  have hown : s.vm.findClass RX1 = some m.cls := findClass_of_methodNamed B.named
  have hlocks := B.notSynchronized
  subst hsz
  have hD := hD0.self (sz := s.heap.size)
  generalize hAe : va_A ([]) s.heap.size = A at hD E0 ⊢
  have E : EV G A s s.heap := E0
  have hA : ∀ q : Nat, s.heap.size ≤ q → A q := fun q h => by rw [← hAe]; exact Or.inr h
  have hS : va_S A s.heap s.heap [] := va_S.rf
  have hl := lv_entry ([.int (nI a), .int (nI b2)]) (n := 4) (Nat.le_of_ble_eq_true rfl)
  rw [lg_entry_eq]
  generalize (lg_sl ([.int (nI a), .int (nI b2)]) ++ List.replicate (4 - (lg_sl ([.int (nI a), .int (nI b2)])).length) Slot.unset).toArray = ls at hl ⊢
  have hl : lv_has ls 4 [(0, .int (nI a)), (1, .int (nI b2))] := hl
  have hP : va_P G.1 vwCl ([]) s.heap := hP
  refine lv_iconst (v := 0) hx hb dX1_unlike_0 (by decide) ?_
  refine lv_istore_n (lv' := [(2, .int 0), (0, .int (nI a)), (1, .int (nI b2))]) hx hb dX1_unlike_1 rfl hl (by decide) rfl (fun ls hl => ?_)
  refine lv_iconst (v := 0) hx hb dX1_unlike_2 (by decide) ?_
  refine lv_istore_n (lv' := [(3, .int 0), (2, .int 0), (0, .int (nI a)), (1, .int (nI b2))]) hx hb dX1_unlike_3 rfl hl (by decide) rfl (fun ls hl => ?_)
  refine lp_run (x0 := (0, 0)) (fun xx_ : Nat × Nat => match xx_ with | (x, u) => []) (fun xx_ : Nat × Nat => match xx_ with | (x, u) => [(3, .int (nI x)), (2, .int (nI u)), (0, .int (nI a)), (1, .int (nI b2))]) (fun xx_ : Nat × Nat => match xx_ with | (x, u) => (x ≤ 6) ∧ (u = unl 6 a b2 x)) (fun xx_ : Nat × Nat => match xx_ with | (x, u) => 6 - x) (hP.sub [] rfl) (hD.sub [] (by decide) rfl) hS (lv_sub hl [0, 1, 2, 3] rfl) ⟨(by omega), rfl⟩ ?_
  intro xx_ hI ih4 H locs ls hP hD hS hl
  obtain ⟨x, u⟩ := xx_
  dsimp only at hI ih4 hP hD hl
  obtain ⟨hx0, hu⟩ := hI
  have hl : lv_has ls 4 [(3, .int (nI x)), (2, .int (nI u)), (0, .int (nI a)), (1, .int (nI b2))] := hl
  have hP : va_P G.1 vwCl ([]) H := hP
  have hD : va_D A ([]) := hD
  refine lv_iload_n hx hb dX1_unlike_4 rfl (lv_at hl 0 rfl) ?_
  refine lv_bipush (v := 6) hx hb dX1_unlike_5 (by decide) ?_
  refine lv_icmp_ge (tgt := 32) hx hb dX1_unlike_7 (by decide) (fun c1 => ?_) (fun c1 => ?_)
  · have c1 : 6 ≤ x := (nI_leI (a := 6) (b := x) (by omega) (by omega)).mp c1
    refine lv_iload_n hx hb dX1_unlike_32 rfl (lv_at hl 1 rfl) ?_
    have hP9 := (hP.sub (ws' := []) [] rfl)
    have hD9 := (hD.sub (ws' := []) [] (by decide) rfl)
    exact W.iret (v := (nI u)) hx hb hr (fun t9_ ht9_ hW9_ => ⟨⟨nI u, (), rfl, by rw [hu, show x = 6 by omega], by rw [ht9_]; exact hP9, hD9⟩, hS.F ht9_⟩) hS.2.2 dX1_unlike_33
  · have c1 : ¬ 6 ≤ x := fun h9_ => c1 ((nI_leI (a := 6) (b := x) (by omega) (by omega)).mpr h9_)
    refine lv_iload_n hx hb dX1_unlike_10 rfl (lv_at hl 2 rfl) ?_
    refine lv_iload_n hx hb dX1_unlike_11 rfl (lv_at hl 0 rfl) ?_
    refine ca_iR (va_runS (As := [.int (nI a), .int (nI x)]) (rest := []) ⟨hx, hb, hml, hown, hts⟩ (n_signAt l G H.size a x (by omega) (by omega)) (va_cwS 2 hts gX1_unlike_X1_signAt rfl rfl rfl (by decide +kernel) ⟨by decide +kernel, by decide +kernel⟩) (pre_S E hP hD hS hA [] (by decide) rfl) rfl rfl hl.1 rfl (lv_room (Nat.le_of_ble_eq_true rfl)) dX1_unlike_12 ⟨by decide +kernel, by decide +kernel⟩) hS hP hD hA [] rfl (fun r3 _ H locs w2 hP hS => ?_)
    rw [w2]
    have hdg8 : (dg 6 a x) < 5 := dg_lt _ _ _
    refine lv_iload_n hx hb dX1_unlike_15 rfl (lv_at hl 3 rfl) ?_
    refine lv_iload_n hx hb dX1_unlike_16 rfl (lv_at hl 0 rfl) ?_
    refine ca_iR (va_runS (As := [.int (nI b2), .int (nI x)]) (rest := [.int (nI (dg 6 a x))]) ⟨hx, hb, hml, hown, hts⟩ (n_signAt l G H.size b2 x (by omega) (by omega)) (va_cwS 2 hts gX1_unlike_X1_signAt rfl rfl rfl (by decide +kernel) ⟨by decide +kernel, by decide +kernel⟩) (pre_S E hP hD hS hA [] (by decide) rfl) rfl rfl hl.1 rfl (lv_room (Nat.le_of_ble_eq_true rfl)) dX1_unlike_17 ⟨by decide +kernel, by decide +kernel⟩) hS hP hD hA [] rfl (fun r5 _ H locs w4 hP hS => ?_)
    rw [w4]
    have hdg9 : (dg 6 b2 x) < 5 := dg_lt _ _ _
    refine lv_icmp_eq (tgt := 26) hx hb dX1_unlike_20 (by decide) (fun c6 => ?_) (fun c6 => ?_)
    · have c6 : (dg 6 a x) = (dg 6 b2 x) := (nI_eq (a := (dg 6 a x)) (b := (dg 6 b2 x)) (by omega) (by omega)).mp c6
      obtain ⟨x7, ex7⟩ : ∃ yy_ : Int32, yy_ = (nI x) + 1 := ⟨_, rfl⟩
      refine lv_iinc (v := x7) (lv' := [(3, .int x7), (2, .int (nI u)), (0, .int (nI a)), (1, .int (nI b2))]) hx hb dX1_unlike_26 hl (k := 0) rfl (by rw [ex7]; rfl) (by decide) rfl (fun ls hl => ?_)
      obtain rfl : x7 = nI (x + 1) := by rw [ex7]; exact nI_add x 1
      refine lv_goto (tgt := 4) hx hb dX1_unlike_29 (by decide) ?_
      refine ih4 ((x + 1), u) ⟨?_, ?_⟩ (by first | omega | (dsimp only; omega)) H locs ls (hP.sub [] rfl) (hD.sub [] (by decide) rfl) hS (lv_sub hl [0, 1, 2, 3] rfl)
      · try dsimp only
        omega
      · try dsimp only
        rw [unl_t c6]; exact hu
    · have c6 : ¬ (dg 6 a x) = (dg 6 b2 x) := fun h9_ => c6 ((nI_eq (a := (dg 6 a x)) (b := (dg 6 b2 x)) (by omega) (by omega)).mpr h9_)
      obtain ⟨x8, ex8⟩ : ∃ yy_ : Int32, yy_ = (nI u) + 1 := ⟨_, rfl⟩
      refine lv_iinc (v := x8) (lv' := [(2, .int x8), (3, .int (nI x)), (0, .int (nI a)), (1, .int (nI b2))]) hx hb dX1_unlike_23 hl (k := 1) rfl (by rw [ex8]; rfl) (by decide) rfl (fun ls hl => ?_)
      obtain rfl : x8 = nI (u + 1) := by rw [ex8]; exact nI_add u 1
      obtain ⟨x9, ex9⟩ : ∃ yy_ : Int32, yy_ = (nI x) + 1 := ⟨_, rfl⟩
      refine lv_iinc (v := x9) (lv' := [(3, .int x9), (2, .int (nI (u + 1))), (0, .int (nI a)), (1, .int (nI b2))]) hx hb dX1_unlike_26 hl (k := 1) rfl (by rw [ex9]; rfl) (by decide) rfl (fun ls hl => ?_)
      obtain rfl : x9 = nI (x + 1) := by rw [ex9]; exact nI_add x 1
      refine lv_goto (tgt := 4) hx hb dX1_unlike_29 (by decide) ?_
      refine ih4 ((x + 1), (u + 1)) ⟨?_, ?_⟩ (by first | omega | (dsimp only; omega)) H locs ls (hP.sub [] rfl) (hD.sub [] (by decide) rfl) hS (lv_sub hl [0, 1, 2, 3] rfl)
      · try dsimp only
        omega
      · try dsimp only
        rw [unl_f c6]; omega
