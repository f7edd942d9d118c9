set_option maxHeartbeats 1000000 in
set_option maxRecDepth 100000 in
theorem n_mapCode (l : Launch) (G : Gy) (sz : Nat) (pad : Nat) (sg : Nat) (sl : Nat) (k : Nat) (fsg : Nat → Int32) (fsl : Nat → Int32) (hk2 : 2 ≤ k) (hk6 : k ≤ 6) (hcan : ∀ i : Nat, i < k → 0 ≤ sgO (fsg i)) : Ci l G yX2_mapCode wsX2_mapCode ({ frames := 3, cells := 0, slots := 0, locals := 64 }) [.ref pad] ([(pad, .inr (0, [.ref sg, .ref sl, .int (nI k)])), (sg, .inl (gI G, 40, .inl fsg)), (sl, .inl (gI G, 10, .inl fsl))]) sz (fun (r : Int32) (_ : Unit) => ∃ q, r = nI q ∧ q < 5 ^ 6 ∧ (∀ j : Nat, j < k → nI (dg 6 q j) = sgO (fsg j)) ∧ ∀ j : Nat, k ≤ j → j < 6 → dg 6 q j = 0) (fun (_ : Unit) => [(pad, .inr (0, [.ref sg, .ref sl, .int (nI k)])), (sg, .inl (gI G, 40, .inl fsg)), (sl, .inl (gI G, 10, .inl fsl))]) 0 0 := by
  refine Met.ofW (cc := cX2_mapCode) (maxL := 3) (ret := (some .int)) (by decide) rfl ?_
  intro p e s m args below meth c s₁ B hml hv
  obtain ⟨rfl, hsz, hP, hD0, E0⟩ := hv
  have hx := B.exec
  have hb := B.bytes
  have hr := B.returns
  have hts := atoms_spec (ws := wsX2_mapCode) B.pre
  have hown : s.vm.findClass RX2 = some m.cls := findClass_of_methodNamed B.named
  have hlocks := B.notSynchronized
  subst hsz
  have hD := hD0.self (sz := s.heap.size)
  generalize hAe : va_A ([(pad, .inr (0, [.ref sg, .ref sl, .int (nI k)])), (sg, .inl (gI G, 40, .inl fsg)), (sl, .inl (gI G, 10, .inl fsl))]) s.heap.size = A at hD E0 ⊢
  have E : EV G A s s.heap := E0
  have hA : ∀ q : Nat, s.heap.size ≤ q → A q := fun q h => by rw [← hAe]; exact Or.inr h
  have hS : va_S A s.heap s.heap [] := va_S.rf
  have hl := lv_entry ([.ref pad]) (n := 3) (Nat.le_of_ble_eq_true rfl)
  rw [lg_entry_eq]
  generalize (lg_sl ([.ref pad]) ++ List.replicate (3 - (lg_sl ([.ref pad])).length) Slot.unset).toArray = ls at hl ⊢
  have hl : lv_has ls 3 [(0, .ref pad)] := hl
  have hP : va_P G.1 vwCl ([(pad, .inr (0, [.ref sg, .ref sl, .int (nI k)])), (sg, .inl (gI G, 40, .inl fsg)), (sl, .inl (gI G, 10, .inl fsl))]) s.heap := hP
  refine lv_iconst (v := 0) hx hb dX2_mapCode_0 (by decide) ?_
  refine lv_istore_n (lv' := [(1, .int 0), (0, .ref pad)]) hx hb dX2_mapCode_1 rfl hl (by decide) rfl (fun ls hl => ?_)
  refine lv_iconst (v := 0) hx hb dX2_mapCode_2 (by decide) ?_
  refine lv_istore_n (lv' := [(2, .int 0), (1, .int 0), (0, .ref pad)]) hx hb dX2_mapCode_3 rfl hl (by decide) rfl (fun ls hl => ?_)
  refine lp_run (x0 := (0, 0)) (fun xx_ : Nat × Nat => match xx_ with | (x, q) => [(pad, .inr (0, [.ref sg, .ref sl, .int (nI k)])), (sg, .inl (gI G, 40, .inl fsg)), (sl, .inl (gI G, 10, .inl fsl))]) (fun xx_ : Nat × Nat => match xx_ with | (x, q) => [(2, .int (nI x)), (1, .int (nI q)), (0, .ref pad)]) (fun xx_ : Nat × Nat => match xx_ with | (x, q) => (x ≤ k) ∧ (q < 5 ^ 6) ∧ (∀ j : Nat, j < x → nI (dg 6 q j) = sgO (fsg j)) ∧ (∀ j : Nat, x ≤ j → j < 6 → dg 6 q j = 0)) (fun xx_ : Nat × Nat => match xx_ with | (x, q) => k - x) (hP.sub [0, 1, 2] rfl) (hD.sub [0, 1, 2] (by decide) rfl) hS (lv_sub hl [0, 1, 2] rfl) ⟨(by omega), by decide, by intro j hj; omega, by intro j h1 h2; unfold dg; rw [Nat.zero_div]⟩ ?_
  intro xx_ hI ih4 H locs ls hP hD hS hl
  obtain ⟨x, q⟩ := xx_
  dsimp only at hI ih4 hP hD hl
  obtain ⟨hx0, hq, hqd, hq0⟩ := hI
  have hl : lv_has ls 3 [(2, .int (nI x)), (1, .int (nI q)), (0, .ref pad)] := hl
  have hP : va_P G.1 vwCl ([(pad, .inr (0, [.ref sg, .ref sl, .int (nI k)])), (sg, .inl (gI G, 40, .inl fsg)), (sl, .inl (gI G, 10, .inl fsl))]) H := hP
  have hD : va_D A ([(pad, .inr (0, [.ref sg, .ref sl, .int (nI k)])), (sg, .inl (gI G, 40, .inl fsg)), (sl, .inl (gI G, 10, .inl fsl))]) := hD
  refine lv_iload_n hx hb dX2_mapCode_4 rfl (lv_at hl 0 rfl) ?_
  refine lv_aload_n hx hb dX2_mapCode_5 rfl (lv_at hl 2 rfl) ?_
  refine va_get (D := G.1) (ci := 0) (v := .int (nI k)) (C := RX2) (T := TX2) (N := 3) hx hb hts (fun _ h => List.mem_cons_of_mem _ (List.mem_append_right _ h)) hown E.K hP 0 rfl rfl 2 (by decide) (hts (.fieldLink RX2 18 "LastMap$Pad" "length" "I") (by decide +kernel)) (fun _ h9 => h9) rfl dX2_mapCode_6 ?_
  refine lv_icmp_ge (tgt := 35) hx hb dX2_mapCode_9 (by decide) (fun c1 => ?_) (fun c1 => ?_)
  · have c1 : k ≤ x := (nI_leI (a := k) (b := x) (by omega) (by omega)).mp c1
    refine lv_iload_n hx hb dX2_mapCode_35 rfl (lv_at hl 1 rfl) ?_
    have hP9 := (hP.sub (ws' := [(pad, .inr (0, [.ref sg, .ref sl, .int (nI k)])), (sg, .inl (gI G, 40, .inl fsg)), (sl, .inl (gI G, 10, .inl fsl))]) [0, 1, 2] rfl)
    have hD9 := (hD.sub (ws' := [(pad, .inr (0, [.ref sg, .ref sl, .int (nI k)])), (sg, .inl (gI G, 40, .inl fsg)), (sl, .inl (gI G, 10, .inl fsl))]) [0, 1, 2] (by decide) rfl)
    exact W.iret (v := (nI q)) hx hb hr (fun t9_ ht9_ hW9_ => ⟨⟨nI q, (), rfl, ⟨q, rfl, hq, fun j hj => hqd j (by omega), fun j h1 h2 => hq0 j (by omega) h2⟩, by rw [ht9_]; exact hP9, hD9⟩, hS.F ht9_⟩) hS.2.2 dX2_mapCode_36
  · have c1 : ¬ k ≤ x := fun h9_ => c1 ((nI_leI (a := k) (b := x) (by omega) (by omega)).mpr h9_)
    refine lv_iload_n hx hb dX2_mapCode_12 rfl (lv_at hl 0 rfl) ?_
    refine lv_bipush (v := 6) hx hb dX2_mapCode_13 (by decide) ?_
    refine lv_icmp_ge (tgt := 35) hx hb dX2_mapCode_15 (by decide) (fun c2 => False.elim (by have q9 := (nI_leI (a := 6) (b := x) (by omega) (by omega)).mp c2; omega)) (fun c2 => ?_)
    refine lv_iload_n hx hb dX2_mapCode_18 rfl (lv_at hl 1 rfl) ?_
    refine lv_iload_n hx hb dX2_mapCode_19 rfl (lv_at hl 0 rfl) ?_
    refine lv_aload_n hx hb dX2_mapCode_20 rfl (lv_at hl 2 rfl) ?_
    refine lv_iload_n hx hb dX2_mapCode_21 rfl (lv_at hl 0 rfl) ?_
    refine ca_iR (va_runV (As := [.int (nI x)]) (rest := [.int (nI x), .int (nI q)]) ⟨hx, hb, hml, hown, hts⟩ (n_padMark l G H.size pad sg sl k fsg fsl x (by omega) (by omega)) (cwV 1 hts gX2_mapCode_X2_markAt rfl rfl rfl (by decide +kernel) ⟨by decide +kernel, by decide +kernel⟩) (pre_V E hP hD hS hA [0, 1, 2] (by decide) rfl 0 0 rfl rfl) rfl rfl hl.1 rfl (lv_room (Nat.le_of_ble_eq_true rfl)) dX2_mapCode_22 ⟨by decide +kernel, by decide +kernel⟩) hS hP hD hA [0, 1, 2] rfl (fun r4 _ H locs w3 hP hS => ?_)
    obtain ⟨g9, hg9, eg9⟩ := sgO_nat (hcan x (by omega))
    obtain rfl : r4 = nI g9 := by rw [w3, mark_sgO.2.1 (hcan x (by omega)), eg9]
    have hq9 := wN_lt (k := 6) (j := x) (g := g9) hq (by omega) hg9
    refine ca_iR (va_runS (As := [.int (nI q), .int (nI x), .int (nI g9)]) (rest := []) ⟨hx, hb, hml, hown, hts⟩ (n_with l G H.size q x g9 (by omega) (by omega)) (va_cwS 3 hts gX2_mapCode_X1_with rfl rfl rfl (by decide +kernel) ⟨by decide +kernel, by decide +kernel⟩) (pre_S E hP hD hS hA [] (by decide) rfl) rfl rfl hl.1 rfl (lv_room (Nat.le_of_ble_eq_true rfl)) dX2_mapCode_25 ⟨by decide +kernel, by decide +kernel⟩) hS hP hD hA [] rfl (fun r6 _ H locs w5 hP hS => ?_)
    rw [w5]
    refine lv_istore_n (lv' := [(1, .int (nI (wN 6 q x g9))), (2, .int (nI x)), (0, .ref pad)]) hx hb dX2_mapCode_28 rfl hl (by decide) rfl (fun ls hl => ?_)
    obtain ⟨x7, ex7⟩ : ∃ yy_ : Int32, yy_ = (nI x) + 1 := ⟨_, rfl⟩
    refine lv_iinc (v := x7) (lv' := [(2, .int x7), (1, .int (nI (wN 6 q x g9))), (0, .ref pad)]) hx hb dX2_mapCode_29 hl (k := 1) rfl (by rw [ex7]; rfl) (by decide) rfl (fun ls hl => ?_)
    obtain rfl : x7 = nI (x + 1) := by rw [ex7]; exact nI_add x 1
    refine lv_goto (tgt := 4) hx hb dX2_mapCode_32 (by decide) ?_
    refine ih4 ((x + 1), (wN 6 q x g9)) ⟨?_, ?_, ?_, ?_⟩ (by first | omega | (dsimp only; omega)) H locs ls (hP.sub [0, 1, 2] rfl) (hD.sub [0, 1, 2] (by decide) rfl) hS (lv_sub hl [0, 1, 2] rfl)
    · try dsimp only
      omega
    · try dsimp only
      exact hq9
    · try dsimp only
      intro j hj; rw [dg_wN (by omega) (by omega) hg9]
      by_cases e9 : j = x
      · rw [if_pos e9, e9]; exact eg9.symm
      · rw [if_neg e9]; exact hqd j (by omega)
    · try dsimp only
      intro j h1 h2; rw [dg_wN (by omega) h2 hg9, if_neg (by omega)]; exact hq0 j (by omega) h2

theorem slp_cls {f : Nat → Int32} {pm k i : Nat} (h : w1 f pm k i = none) : 100 * knd (f i) + 10 * (f (i + 1) - 48) + (if f i = 99 then num (f (i + 2)) else 0) = slp f i := by
  have hk : ¬ kdO (f i) < 0 := by
    intro q
    unfold w1 at h
    rw [pIf_t q] at h
    cases h
  unfold slp
  rw [kdO_knd.2 hk]
  by_cases a4 : f i = 99
  · rw [if_pos a4, pIf_t a4]
    have hl : inR (f (i + 2)) 97 100 := by
      unfold w1 at h
      rw [pIf_f hk] at h
      by_cases a2 : pm ≤ i + 1
      · rw [pIf_t a2] at h; cases h
      rw [pIf_f a2] at h
      by_cases a3 : dgt f k i
      · rw [pIf_t a3, pIf_t a4] at h
        by_cases a5 : pm ≤ i + 2
        · rw [pIf_t a5] at h; cases h
        rw [pIf_f a5] at h
        by_cases a6 : inR (f (i + 2)) 97 100
        · exact a6
        · rw [pIf_f a6] at h; cases h
      · rw [pIf_f a3] at h; cases h
    have h0 : sgO (f (i + 2)) = f (i + 2) - 97 := by
      unfold sgO
      rw [cIf_f (by intro q; rw [q] at hl; exact absurd hl (by unfold inR; decide)), cIf_t hl]
    have h1 : 0 ≤ sgO (f (i + 2)) := by
      obtain ⟨g, hg, e⟩ := sub97 hl
      rw [h0, e]; exact nI_pos' (by omega)
    rw [mark_sgO.2.1 h1, h0]
  · rw [if_neg a4, pIf_f a4]

set_option maxHeartbeats 1000000 in
set_option maxRecDepth 100000 in
theorem n_readSlips (l : Launch) (G : Gy) (sz : Nat) (pad : Nat) (sg : Nat) (sl : Nat) (pm : Nat) (fsg : Nat → Int32) (fsl : Nat → Int32) (k : Nat) (nn : Nat) (hk2 : 2 ≤ k) (hk6 : k ≤ 6) (hpm : pm ≤ 40) (hnn : nn ≤ 10) (hpl : pl fsg nn = pm) (hno : ∀ t : Nat, t < nn → w1 fsg pm k (pl fsg t) = none) : Ci l G yX2_readSlips wsX2_readSlips ({ frames := 3, cells := 0, slots := 0, locals := 63 }) [.ref pad] ([(pad, .inr (0, [.ref sg, .ref sl, .int (nI pm)])), (sg, .inl (gI G, 40, .inl fsg)), (sl, .inl (gI G, 10, .inl fsl))]) sz (fun (r : Int32) (fsl1 : Nat → Int32) => r = nI nn ∧ ∀ t : Nat, t < nn → fsl1 t = slp fsg (pl fsg t)) (fun (fsl1 : Nat → Int32) => [(pad, .inr (0, [.ref sg, .ref sl, .int (nI pm)])), (sg, .inl (gI G, 40, .inl fsg)), (sl, .inl (gI G, 10, .inl fsl1))]) 0 0 := by
  refine Met.ofW (cc := cX2_readSlips) (maxL := 5) (ret := (some .int)) (by decide) rfl ?_
  intro p e s m args below meth c s₁ B hml hv
  obtain ⟨rfl, hsz, hP, hD0, E0⟩ := hv
  have hx := B.exec
  have hb := B.bytes
  have hr := B.returns
  have hts := atoms_spec (ws := wsX2_readSlips) B.pre
  have hown : s.vm.findClass RX2 = some m.cls := findClass_of_methodNamed B.named
  have hlocks := B.notSynchronized
  subst hsz
  have hD := hD0.self (sz := s.heap.size)
  generalize hAe : va_A ([(pad, .inr (0, [.ref sg, .ref sl, .int (nI pm)])), (sg, .inl (gI G, 40, .inl fsg)), (sl, .inl (gI G, 10, .inl fsl))]) s.heap.size = A at hD E0 ⊢
  have E : EV G A s s.heap := E0
  have hA : ∀ q : Nat, s.heap.size ≤ q → A q := fun q h => by rw [← hAe]; exact Or.inr h
  have hS : va_S A s.heap s.heap [] := va_S.rf
  have hl := lv_entry ([.ref pad]) (n := 5) (Nat.le_of_ble_eq_true rfl)
  rw [lg_entry_eq]
  generalize (lg_sl ([.ref pad]) ++ List.replicate (5 - (lg_sl ([.ref pad])).length) Slot.unset).toArray = ls at hl ⊢
  have hl : lv_has ls 5 [(0, .ref pad)] := hl
  have hP : va_P G.1 vwCl ([(pad, .inr (0, [.ref sg, .ref sl, .int (nI pm)])), (sg, .inl (gI G, 40, .inl fsg)), (sl, .inl (gI G, 10, .inl fsl))]) s.heap := hP
  refine lv_iconst (v := 0) hx hb dX2_readSlips_0 (by decide) ?_
  refine lv_istore_n (lv' := [(1, .int 0), (0, .ref pad)]) hx hb dX2_readSlips_1 rfl hl (by decide) rfl (fun ls hl => ?_)
  refine lv_iconst (v := 0) hx hb dX2_readSlips_2 (by decide) ?_
  refine lv_istore_n (lv' := [(2, .int 0), (1, .int 0), (0, .ref pad)]) hx hb dX2_readSlips_3 rfl hl (by decide) rfl (fun ls hl => ?_)
  refine lp_run (x0 := (0, fsl)) (fun xx_ : Nat × (Nat → Int32) => match xx_ with | (x, g) => [(pad, .inr (0, [.ref sg, .ref sl, .int (nI pm)])), (sg, .inl (gI G, 40, .inl fsg)), (sl, .inl (gI G, 10, .inl g))]) (fun xx_ : Nat × (Nat → Int32) => match xx_ with | (x, g) => [(2, .int (nI (pl fsg x))), (1, .int (nI x)), (0, .ref pad)]) (fun xx_ : Nat × (Nat → Int32) => match xx_ with | (x, g) => (x ≤ nn) ∧ (pl fsg x ≤ pm) ∧ (∀ t : Nat, t < x → g t = slp fsg (pl fsg t))) (fun xx_ : Nat × (Nat → Int32) => match xx_ with | (x, g) => nn - x) (hP.sub [0, 1, 2] rfl) (hD.sub [0, 1, 2] (by decide) rfl) hS (lv_sub hl [0, 1, 2] rfl) ⟨by omega, by exact Nat.zero_le _, by intro t9 h9; omega⟩ ?_
  intro xx_ hI ih4 H locs ls hP hD hS hl
  obtain ⟨x, g⟩ := xx_
  dsimp only at hI ih4 hP hD hl
  obtain ⟨hx0, hple, hg⟩ := hI
  have hl : lv_has ls 5 [(2, .int (nI (pl fsg x))), (1, .int (nI x)), (0, .ref pad)] := hl
  have hP : va_P G.1 vwCl ([(pad, .inr (0, [.ref sg, .ref sl, .int (nI pm)])), (sg, .inl (gI G, 40, .inl fsg)), (sl, .inl (gI G, 10, .inl g))]) H := hP
  have hD : va_D A ([(pad, .inr (0, [.ref sg, .ref sl, .int (nI pm)])), (sg, .inl (gI G, 40, .inl fsg)), (sl, .inl (gI G, 10, .inl g))]) := hD
  refine lv_iload_n hx hb dX2_readSlips_4 rfl (lv_at hl 1 rfl) ?_
  refine lv_aload_n hx hb dX2_readSlips_5 rfl (lv_at hl 2 rfl) ?_
  refine va_get (D := G.1) (ci := 0) (v := .ref sl) (C := RX2) (T := TX2) (N := 3) hx hb hts (fun _ h => List.mem_cons_of_mem _ (List.mem_append_right _ h)) hown E.K hP 0 rfl rfl 1 (by decide) (hts (.fieldLink RX2 15 "LastMap$Pad" "slips" "[I") (by decide +kernel)) (fun _ h9 => h9) rfl dX2_readSlips_6 ?_
  refine va_alen (v := 10) hx hb E.K hP 2 1 rfl rfl rfl dX2_readSlips_9 ?_
  refine lv_icmp_ge (tgt := 80) hx hb dX2_readSlips_10 (by decide) (fun c1 => ?_) (fun c1 => ?_)
  · have c1 : 10 ≤ x := (nI_leI (a := 10) (b := x) (by omega) (by omega)).mp c1
    refine lv_iload_n hx hb dX2_readSlips_80 rfl (lv_at hl 1 rfl) ?_
    have hP9 := (hP.sub (ws' := [(pad, .inr (0, [.ref sg, .ref sl, .int (nI pm)])), (sg, .inl (gI G, 40, .inl fsg)), (sl, .inl (gI G, 10, .inl g))]) [0, 1, 2] rfl)
    have hD9 := (hD.sub (ws' := [(pad, .inr (0, [.ref sg, .ref sl, .int (nI pm)])), (sg, .inl (gI G, 40, .inl fsg)), (sl, .inl (gI G, 10, .inl g))]) [0, 1, 2] (by decide) rfl)
    exact W.iret (v := (nI x)) hx hb hr (fun t9_ ht9_ hW9_ => ⟨⟨nI x, g, rfl, ⟨by congr 1; first | omega | (rcases Nat.lt_or_ge x nn with q9 | q9; (have q8 := (w1_ok hk2 hk6 (hno x q9)).2.1; have q7 : 2 ≤ lenS fsg (pl fsg x) := by (unfold lenS; split <;> omega)); omega; omega), fun t9 h9 => hg t9 (by first | omega | (rcases Nat.lt_or_ge x nn with q9 | q9; (have q8 := (w1_ok hk2 hk6 (hno x q9)).2.1; have q7 : 2 ≤ lenS fsg (pl fsg x) := by (unfold lenS; split <;> omega)); omega; omega))⟩, by rw [ht9_]; exact hP9, hD9⟩, hS.F ht9_⟩) hS.2.2 dX2_readSlips_81
  · have c1 : ¬ 10 ≤ x := fun h9_ => c1 ((nI_leI (a := 10) (b := x) (by omega) (by omega)).mpr h9_)
    refine lv_iload_n hx hb dX2_readSlips_13 rfl (lv_at hl 0 rfl) ?_
    refine lv_aload_n hx hb dX2_readSlips_14 rfl (lv_at hl 2 rfl) ?_
    refine va_get (D := G.1) (ci := 0) (v := .int (nI pm)) (C := RX2) (T := TX2) (N := 3) hx hb hts (fun _ h => List.mem_cons_of_mem _ (List.mem_append_right _ h)) hown E.K hP 0 rfl rfl 2 (by decide) (hts (.fieldLink RX2 18 "LastMap$Pad" "length" "I") (by decide +kernel)) (fun _ h9 => h9) rfl dX2_readSlips_15 ?_
    refine lv_icmp_ge (tgt := 80) hx hb dX2_readSlips_18 (by decide) (fun c2 => ?_) (fun c2 => ?_)
    · have c2 : pm ≤ (pl fsg x) := (nI_leI (a := pm) (b := (pl fsg x)) (by omega) (by omega)).mp c2
      refine lv_iload_n hx hb dX2_readSlips_80 rfl (lv_at hl 1 rfl) ?_
      have hP9 := (hP.sub (ws' := [(pad, .inr (0, [.ref sg, .ref sl, .int (nI pm)])), (sg, .inl (gI G, 40, .inl fsg)), (sl, .inl (gI G, 10, .inl g))]) [0, 1, 2] rfl)
      have hD9 := (hD.sub (ws' := [(pad, .inr (0, [.ref sg, .ref sl, .int (nI pm)])), (sg, .inl (gI G, 40, .inl fsg)), (sl, .inl (gI G, 10, .inl g))]) [0, 1, 2] (by decide) rfl)
      exact W.iret (v := (nI x)) hx hb hr (fun t9_ ht9_ hW9_ => ⟨⟨nI x, g, rfl, ⟨by congr 1; first | omega | (rcases Nat.lt_or_ge x nn with q9 | q9; (have q8 := (w1_ok hk2 hk6 (hno x q9)).2.1; have q7 : 2 ≤ lenS fsg (pl fsg x) := by (unfold lenS; split <;> omega)); omega; omega), fun t9 h9 => hg t9 (by first | omega | (rcases Nat.lt_or_ge x nn with q9 | q9; (have q8 := (w1_ok hk2 hk6 (hno x q9)).2.1; have q7 : 2 ≤ lenS fsg (pl fsg x) := by (unfold lenS; split <;> omega)); omega; omega))⟩, by rw [ht9_]; exact hP9, hD9⟩, hS.F ht9_⟩) hS.2.2 dX2_readSlips_81
    · have c2 : ¬ pm ≤ (pl fsg x) := fun h9_ => c2 ((nI_leI (a := pm) (b := (pl fsg x)) (by omega) (by omega)).mpr h9_)
      have hxn : x < nn := Nat.lt_of_le_of_ne hx0 (fun q8 => by have q7 := c2; rw [q8, hpl] at q7; omega)
      have hok9 := w1_ok hk2 hk6 (hno x hxn)
      have hl2 : 2 ≤ lenS fsg (pl fsg x) := by unfold lenS; split <;> omega
      refine lv_aload_n hx hb dX2_readSlips_21 rfl (lv_at hl 2 rfl) ?_
      refine lv_iload_n hx hb dX2_readSlips_22 rfl (lv_at hl 0 rfl) ?_
      refine ca_iR (va_runV (As := [.int (nI (pl fsg x))]) (rest := []) ⟨hx, hb, hml, hown, hts⟩ (n_kindAt l G H.size pad sg sl pm fsg g (pl fsg x) (by omega) (by omega)) (cwV 1 hts gX2_readSlips_X2_kindAt rfl rfl rfl (by decide +kernel) ⟨by decide +kernel, by decide +kernel⟩) (pre_V E hP hD hS hA [0, 1, 2] (by decide) rfl 0 0 rfl rfl) rfl rfl hl.1 rfl (lv_room (Nat.le_of_ble_eq_true rfl)) dX2_readSlips_23 ⟨by decide +kernel, by decide +kernel⟩) hS hP hD hA [0, 1, 2] rfl (fun r4 _ H locs w3 hP hS => ?_)
      refine lv_istore_n (lv' := [(3, .int r4), (2, .int (nI (pl fsg x))), (1, .int (nI x)), (0, .ref pad)]) hx hb dX2_readSlips_26 rfl hl (by decide) rfl (fun ls hl => ?_)
      refine lv_iload_n hx hb dX2_readSlips_27 rfl (lv_at hl 0 rfl) ?_
      refine lv_if_ne (tgt := 41) hx hb dX2_readSlips_28 (by decide) (fun c5 => ?_) (fun c5 => ?_)
      · have h99 : ¬ fsg (pl fsg x) = 99 := fun q9 => c5 (by rw [w3]; exact knd_0.mpr q9)
        refine lv_iconst (v := 0) hx hb dX2_readSlips_41 (by decide) ?_
        refine lv_istore (lv' := [(4, .int 0), (3, .int r4), (2, .int (nI (pl fsg x))), (1, .int (nI x)), (0, .ref pad)]) hx hb dX2_readSlips_42 hl (by decide) rfl (fun ls hl => ?_)
        refine lv_aload_n hx hb dX2_readSlips_44 rfl (lv_at hl 4 rfl) ?_
        refine va_get (D := G.1) (ci := 0) (v := .ref sl) (C := RX2) (T := TX2) (N := 3) hx hb hts (fun _ h => List.mem_cons_of_mem _ (List.mem_append_right _ h)) hown E.K hP 0 rfl rfl 1 (by decide) (hts (.fieldLink RX2 15 "LastMap$Pad" "slips" "[I") (by decide +kernel)) (fun _ h9 => h9) rfl dX2_readSlips_45 ?_
        refine lv_iload_n hx hb dX2_readSlips_48 rfl (lv_at hl 3 rfl) ?_
        refine lv_iload_n hx hb dX2_readSlips_49 rfl (lv_at hl 1 rfl) ?_
        refine lv_aload_n hx hb dX2_readSlips_50 rfl (lv_at hl 4 rfl) ?_
        refine lv_iload_n hx hb dX2_readSlips_51 rfl (lv_at hl 2 rfl) ?_
        refine lv_iconst (v := 1) hx hb dX2_readSlips_52 (by decide) ?_
        refine lv_iadd hx hb dX2_readSlips_53 ?_
        refine lv_topi (fun x6 ex6 => ?_)
        obtain rfl : x6 = nI ((pl fsg x) + 1) := by rw [ex6]; exact nI_add (pl fsg x) 1
        refine ca_iR (va_runV (As := [.int (nI ((pl fsg x) + 1))]) (rest := [.int r4, .int (nI x), .ref sl]) ⟨hx, hb, hml, hown, hts⟩ (n_padSign l G H.size pad sg sl pm fsg g ((pl fsg x) + 1) (by omega) (by omega)) (cwV 1 hts gX2_readSlips_X2_signAt rfl rfl rfl (by decide +kernel) ⟨by decide +kernel, by decide +kernel⟩) (pre_V E hP hD hS hA [0, 1, 2] (by decide) rfl 0 0 rfl rfl) rfl rfl hl.1 rfl (lv_room (Nat.le_of_ble_eq_true rfl)) dX2_readSlips_54 ⟨by decide +kernel, by decide +kernel⟩) hS hP hD hA [0, 1, 2] rfl (fun r8 _ H locs w7 hP hS => ?_)
        refine lv_bipush (v := 48) hx hb dX2_readSlips_57 (by decide) ?_
        refine lv_isub hx hb dX2_readSlips_59 ?_
        refine lv_topi (fun x9 ex9 => ?_)
        refine lv_iload hx hb dX2_readSlips_60 (lv_at hl 0 rfl) ?_
        refine ca_iR (va_runS (As := [.int r4, .int x9, .int 0]) (rest := [.int (nI x), .ref sl]) ⟨hx, hb, hml, hown, hts⟩ (c_slipNumber l G H.size r4 x9 0) (va_cwS 3 hts gX2_readSlips_X6_number rfl rfl rfl (by decide +kernel) ⟨by decide +kernel, by decide +kernel⟩) (pre_S E hP hD hS hA [] (by decide) rfl) rfl rfl hl.1 rfl (lv_room (Nat.le_of_ble_eq_true rfl)) dX2_readSlips_62 ⟨by decide +kernel, by decide +kernel⟩) hS hP hD hA [] rfl (fun r11 _ H locs w10 hP hS => ?_)
        have hput : r11 = slp fsg (pl fsg x) := by rw [w10, w3, ex9, w7, ← slp_cls (hno x hxn), if_neg h99]
        refine va_iast hx hb E.K hP hD hS 2 1 rfl rfl (i := nI x) (vp_in_nI (by omega) (by decide)) dX2_readSlips_65 (fun H locs hP hD hS => ?_)
        obtain ⟨f12, ef12⟩ : ∃ yy_ : Nat → Int32, yy_ = upd g (nI x).toNatClampNeg r11 := ⟨_, rfl⟩
        have hP : va_P G.1 vwCl ([(pad, .inr (0, [.ref sg, .ref sl, .int (nI pm)])), (sg, .inl (gI G, 40, .inl fsg)), (sl, .inl (gI G, 10, .inl f12))]) H := by rw [ef12]; exact hP
        have hD : va_D A ([(pad, .inr (0, [.ref sg, .ref sl, .int (nI pm)])), (sg, .inl (gI G, 40, .inl fsg)), (sl, .inl (gI G, 10, .inl f12))]) := by rw [ef12]; exact hD
        obtain ⟨x13, ex13⟩ : ∃ yy_ : Int32, yy_ = (nI x) + 1 := ⟨_, rfl⟩
        refine lv_iinc (v := x13) (lv' := [(1, .int x13), (4, .int 0), (3, .int r4), (2, .int (nI (pl fsg x))), (0, .ref pad)]) hx hb dX2_readSlips_66 hl (k := 3) rfl (by rw [ex13]; rfl) (by decide) rfl (fun ls hl => ?_)
        obtain rfl : x13 = nI (x + 1) := by rw [ex13]; exact nI_add x 1
        refine lv_iload_n hx hb dX2_readSlips_69 rfl (lv_at hl 3 rfl) ?_
        refine lv_aload_n hx hb dX2_readSlips_70 rfl (lv_at hl 4 rfl) ?_
        refine lv_iload_n hx hb dX2_readSlips_71 rfl (lv_at hl 3 rfl) ?_
        refine ca_iR (va_runV (As := [.int (nI (pl fsg x))]) (rest := [.int (nI (pl fsg x))]) ⟨hx, hb, hml, hown, hts⟩ (n_lengthOfSlip l G H.size pad sg sl pm fsg f12 (pl fsg x) (by omega) (by omega)) (cwV 1 hts gX2_readSlips_X2_lengthOfSlip rfl rfl rfl (by decide +kernel) ⟨by decide +kernel, by decide +kernel⟩) (pre_V E hP hD hS hA [0, 1, 2] (by decide) rfl 0 0 rfl rfl) rfl rfl hl.1 rfl (lv_room (Nat.le_of_ble_eq_true rfl)) dX2_readSlips_72 ⟨by decide +kernel, by decide +kernel⟩) hS hP hD hA [0, 1, 2] rfl (fun r15 _ H locs w14 hP hS => ?_)
        rw [w14]
        refine lv_iadd hx hb dX2_readSlips_75 ?_
        refine lv_topi (fun x16 ex16 => ?_)
        obtain rfl : x16 = nI ((pl fsg x) + (lenS fsg (pl fsg x))) := by rw [ex16]; exact nI_add (pl fsg x) (lenS fsg (pl fsg x))
        refine lv_istore_n (lv' := [(2, .int (nI ((pl fsg x) + (lenS fsg (pl fsg x))))), (1, .int (nI (x + 1))), (4, .int 0), (3, .int r4), (0, .ref pad)]) hx hb dX2_readSlips_76 rfl hl (by decide) rfl (fun ls hl => ?_)
        refine lv_goto (tgt := 4) hx hb dX2_readSlips_77 (by decide) ?_
        refine ih4 ((x + 1), f12) ⟨?_, ?_, ?_⟩ (by first | omega | (dsimp only; omega)) H locs ls (hP.sub [0, 1, 2] rfl) (hD.sub [0, 1, 2] (by decide) rfl) hS (lv_sub hl [0, 1, 4] rfl)
        · try dsimp only
          omega
        · try dsimp only
          exact hok9.2.1
        · try dsimp only
          intro t9 h9; rw [ef12, nI_clamp (by omega)]
          by_cases e9 : t9 = x
          · subst e9; rw [pk_us]; exact hput
          · rw [pk_un e9]; exact hg t9 (by omega)
      · have h99 : fsg (pl fsg x) = 99 := knd_0.mp (by rw [← w3]; exact c5)
        have hl3 : lenS fsg (pl fsg x) = 3 := if_pos h99
        refine lv_aload_n hx hb dX2_readSlips_31 rfl (lv_at hl 3 rfl) ?_
        refine lv_iload_n hx hb dX2_readSlips_32 rfl (lv_at hl 1 rfl) ?_
        refine lv_iconst (v := 2) hx hb dX2_readSlips_33 (by decide) ?_
        refine lv_iadd hx hb dX2_readSlips_34 ?_
        refine lv_topi (fun x17 ex17 => ?_)
        obtain rfl : x17 = nI ((pl fsg x) + 2) := by rw [ex17]; exact nI_add (pl fsg x) 2
        refine ca_iR (va_runV (As := [.int (nI ((pl fsg x) + 2))]) (rest := []) ⟨hx, hb, hml, hown, hts⟩ (n_padMark l G H.size pad sg sl pm fsg g ((pl fsg x) + 2) (by omega) (by omega)) (cwV 1 hts gX2_readSlips_X2_markAt rfl rfl rfl (by decide +kernel) ⟨by decide +kernel, by decide +kernel⟩) (pre_V E hP hD hS hA [0, 1, 2] (by decide) rfl 0 0 rfl rfl) rfl rfl hl.1 rfl (lv_room (Nat.le_of_ble_eq_true rfl)) dX2_readSlips_35 ⟨by decide +kernel, by decide +kernel⟩) hS hP hD hA [0, 1, 2] rfl (fun r19 _ H locs w18 hP hS => ?_)
        refine lv_goto (tgt := 42) hx hb dX2_readSlips_38 (by decide) ?_
        refine lv_istore (lv' := [(4, .int r19), (3, .int r4), (2, .int (nI (pl fsg x))), (1, .int (nI x)), (0, .ref pad)]) hx hb dX2_readSlips_42 hl (by decide) rfl (fun ls hl => ?_)
        refine lv_aload_n hx hb dX2_readSlips_44 rfl (lv_at hl 4 rfl) ?_
        refine va_get (D := G.1) (ci := 0) (v := .ref sl) (C := RX2) (T := TX2) (N := 3) hx hb hts (fun _ h => List.mem_cons_of_mem _ (List.mem_append_right _ h)) hown E.K hP 0 rfl rfl 1 (by decide) (hts (.fieldLink RX2 15 "LastMap$Pad" "slips" "[I") (by decide +kernel)) (fun _ h9 => h9) rfl dX2_readSlips_45 ?_
        refine lv_iload_n hx hb dX2_readSlips_48 rfl (lv_at hl 3 rfl) ?_
        refine lv_iload_n hx hb dX2_readSlips_49 rfl (lv_at hl 1 rfl) ?_
        refine lv_aload_n hx hb dX2_readSlips_50 rfl (lv_at hl 4 rfl) ?_
        refine lv_iload_n hx hb dX2_readSlips_51 rfl (lv_at hl 2 rfl) ?_
        refine lv_iconst (v := 1) hx hb dX2_readSlips_52 (by decide) ?_
        refine lv_iadd hx hb dX2_readSlips_53 ?_
        refine lv_topi (fun x20 ex20 => ?_)
        obtain rfl : x20 = nI ((pl fsg x) + 1) := by rw [ex20]; exact nI_add (pl fsg x) 1
        refine ca_iR (va_runV (As := [.int (nI ((pl fsg x) + 1))]) (rest := [.int r4, .int (nI x), .ref sl]) ⟨hx, hb, hml, hown, hts⟩ (n_padSign l G H.size pad sg sl pm fsg g ((pl fsg x) + 1) (by omega) (by omega)) (cwV 1 hts gX2_readSlips_X2_signAt rfl rfl rfl (by decide +kernel) ⟨by decide +kernel, by decide +kernel⟩) (pre_V E hP hD hS hA [0, 1, 2] (by decide) rfl 0 0 rfl rfl) rfl rfl hl.1 rfl (lv_room (Nat.le_of_ble_eq_true rfl)) dX2_readSlips_54 ⟨by decide +kernel, by decide +kernel⟩) hS hP hD hA [0, 1, 2] rfl (fun r22 _ H locs w21 hP hS => ?_)
        refine lv_bipush (v := 48) hx hb dX2_readSlips_57 (by decide) ?_
        refine lv_isub hx hb dX2_readSlips_59 ?_
        refine lv_topi (fun x23 ex23 => ?_)
        refine lv_iload hx hb dX2_readSlips_60 (lv_at hl 0 rfl) ?_
        refine ca_iR (va_runS (As := [.int r4, .int x23, .int r19]) (rest := [.int (nI x), .ref sl]) ⟨hx, hb, hml, hown, hts⟩ (c_slipNumber l G H.size r4 x23 r19) (va_cwS 3 hts gX2_readSlips_X6_number rfl rfl rfl (by decide +kernel) ⟨by decide +kernel, by decide +kernel⟩) (pre_S E hP hD hS hA [] (by decide) rfl) rfl rfl hl.1 rfl (lv_room (Nat.le_of_ble_eq_true rfl)) dX2_readSlips_62 ⟨by decide +kernel, by decide +kernel⟩) hS hP hD hA [] rfl (fun r25 _ H locs w24 hP hS => ?_)
        have hput : r25 = slp fsg (pl fsg x) := by rw [w24, w3, ex23, w21, w18, ← slp_cls (hno x hxn), if_pos h99]
        refine va_iast hx hb E.K hP hD hS 2 1 rfl rfl (i := nI x) (vp_in_nI (by omega) (by decide)) dX2_readSlips_65 (fun H locs hP hD hS => ?_)
        obtain ⟨f26, ef26⟩ : ∃ yy_ : Nat → Int32, yy_ = upd g (nI x).toNatClampNeg r25 := ⟨_, rfl⟩
        have hP : va_P G.1 vwCl ([(pad, .inr (0, [.ref sg, .ref sl, .int (nI pm)])), (sg, .inl (gI G, 40, .inl fsg)), (sl, .inl (gI G, 10, .inl f26))]) H := by rw [ef26]; exact hP
        have hD : va_D A ([(pad, .inr (0, [.ref sg, .ref sl, .int (nI pm)])), (sg, .inl (gI G, 40, .inl fsg)), (sl, .inl (gI G, 10, .inl f26))]) := by rw [ef26]; exact hD
        obtain ⟨x27, ex27⟩ : ∃ yy_ : Int32, yy_ = (nI x) + 1 := ⟨_, rfl⟩
        refine lv_iinc (v := x27) (lv' := [(1, .int x27), (4, .int r19), (3, .int r4), (2, .int (nI (pl fsg x))), (0, .ref pad)]) hx hb dX2_readSlips_66 hl (k := 3) rfl (by rw [ex27]; rfl) (by decide) rfl (fun ls hl => ?_)
        obtain rfl : x27 = nI (x + 1) := by rw [ex27]; exact nI_add x 1
        refine lv_iload_n hx hb dX2_readSlips_69 rfl (lv_at hl 3 rfl) ?_
        refine lv_aload_n hx hb dX2_readSlips_70 rfl (lv_at hl 4 rfl) ?_
        refine lv_iload_n hx hb dX2_readSlips_71 rfl (lv_at hl 3 rfl) ?_
        refine ca_iR (va_runV (As := [.int (nI (pl fsg x))]) (rest := [.int (nI (pl fsg x))]) ⟨hx, hb, hml, hown, hts⟩ (n_lengthOfSlip l G H.size pad sg sl pm fsg f26 (pl fsg x) (by omega) (by omega)) (cwV 1 hts gX2_readSlips_X2_lengthOfSlip rfl rfl rfl (by decide +kernel) ⟨by decide +kernel, by decide +kernel⟩) (pre_V E hP hD hS hA [0, 1, 2] (by decide) rfl 0 0 rfl rfl) rfl rfl hl.1 rfl (lv_room (Nat.le_of_ble_eq_true rfl)) dX2_readSlips_72 ⟨by decide +kernel, by decide +kernel⟩) hS hP hD hA [0, 1, 2] rfl (fun r29 _ H locs w28 hP hS => ?_)
        rw [w28]
        refine lv_iadd hx hb dX2_readSlips_75 ?_
        refine lv_topi (fun x30 ex30 => ?_)
        obtain rfl : x30 = nI ((pl fsg x) + (lenS fsg (pl fsg x))) := by rw [ex30]; exact nI_add (pl fsg x) (lenS fsg (pl fsg x))
        refine lv_istore_n (lv' := [(2, .int (nI ((pl fsg x) + (lenS fsg (pl fsg x))))), (1, .int (nI (x + 1))), (4, .int r19), (3, .int r4), (0, .ref pad)]) hx hb dX2_readSlips_76 rfl hl (by decide) rfl (fun ls hl => ?_)
        refine lv_goto (tgt := 4) hx hb dX2_readSlips_77 (by decide) ?_
        refine ih4 ((x + 1), f26) ⟨?_, ?_, ?_⟩ (by first | omega | (dsimp only; omega)) H locs ls (hP.sub [0, 1, 2] rfl) (hD.sub [0, 1, 2] (by decide) rfl) hS (lv_sub hl [0, 1, 4] rfl)
        · try dsimp only
          omega
        · try dsimp only
          exact hok9.2.1
        · try dsimp only
          intro t9 h9; rw [ef26, nI_clamp (by omega)]
          by_cases e9 : t9 = x
          · subst e9; rw [pk_us]; exact hput
          · rw [pk_un e9]; exact hg t9 (by omega)
