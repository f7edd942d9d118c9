noncomputable def w1r (f : Nat → Int32) (pm k i : Nat) : Int32 := match w1 f pm k i with
  | some j => nI j
  | none => (-6)
theorem w1r_s {f : Nat → Int32} {pm k i j : Nat} (h : w1 f pm k i = some j) : w1r f pm k i = nI j := by unfold w1r; rw [h]
theorem w1r_n {f : Nat → Int32} {pm k i : Nat} (h : w1 f pm k i = none) : w1r f pm k i = (-6) := by unfold w1r; rw [h]
theorem w1_le {f : Nat → Int32} {pm k i j : Nat} (hi : i < pm) (h : w1 f pm k i = some j) : j ≤ pm := by
  unfold w1 at h
  by_cases a1 : kdO (f i) < 0
  · rw [pIf_t a1] at h; cases h; omega
  rw [pIf_f a1] at h
  by_cases a2 : pm ≤ i + 1
  · rw [pIf_t a2] at h; cases h; omega
  rw [pIf_f a2] at h
  by_cases a3 : dgt f k i
  · rw [pIf_t a3] at h
    by_cases a4 : f i = 99
    · rw [pIf_t a4] at h
      by_cases a5 : pm ≤ i + 2
      · rw [pIf_t a5] at h; cases h; omega
      · rw [pIf_f a5] at h
        by_cases a6 : inR (f (i + 2)) 97 100
        · rw [pIf_t a6] at h; cases h
        · rw [pIf_f a6] at h; cases h; omega
    · rw [pIf_f a4] at h; cases h
  · rw [pIf_f a3] at h; cases h; omega
theorem nI_ne6 {j : Nat} (h : j ≤ 40) : ¬ nI j = (-6) := fun q => by
  have q2 := congrArg Int32.toInt q
  rw [nI_toInt (by omega)] at q2
  simp only [Int32.reduceToInt] at q2
  omega
theorem w1r_go {f : Nat → Int32} {pm k i : Nat} (hp : pm ≤ 40) (hi : i < pm) (h : w1r f pm k i = (-6)) : w1 f pm k i = none := by
  cases e : w1 f pm k i with
  | none => rfl
  | some j => exact absurd ((w1r_s e).symm.trans h) (nI_ne6 (Nat.le_trans (w1_le hi e) hp))
theorem psl_w1r {f : Nat → Int32} {pm k r i : Nat} (hi : i < pm) (h : ¬ w1r f pm k i = (-6)) : psl f pm k (r + 1) i = w1r f pm k i := by
  cases e : w1 f pm k i with
  | none => exact absurd (w1r_n e) h
  | some j => rw [psl_bad hi e, w1r_s e]

set_option maxHeartbeats 1000000 in
set_option maxRecDepth 100000 in
theorem n_fwSlip (l : Launch) (G : Gy) (sz : Nat) (pad : Nat) (sg : Nat) (sl : Nat) (pm : Nat) (fsg : Nat → Int32) (fsl : Nat → Int32) (k : Nat) (i0 : Nat) (hk2 : 2 ≤ k) (hk6 : k ≤ 6) (hpm : pm ≤ 40) (hi0 : i0 < pm) : Ci l G yX2_firstWrongOfSlip wsX2_firstWrongOfSlip ({ frames := 2, cells := 0, slots := 0, locals := 42 }) [.ref pad, .int (nI i0), .int (nI k)] ([(pad, .inr (0, [.ref sg, .ref sl, .int (nI pm)])), (sg, .inl (gI G, 40, .inl fsg)), (sl, .inl (gI G, 10, .inl fsl))]) sz (fun (r : Int32) (_ : Unit) => r = w1r fsg pm k i0) (fun (_ : Unit) => [(pad, .inr (0, [.ref sg, .ref sl, .int (nI pm)])), (sg, .inl (gI G, 40, .inl fsg)), (sl, .inl (gI G, 10, .inl fsl))]) 0 0 := by
  refine Met.ofW (cc := cX2_firstWrongOfSlip) (maxL := 6) (ret := (some .int)) (by decide) rfl ?_
  intro p e s m args below meth c s₁ B hml hv
  obtain ⟨rfl, hsz, hP, hD0, E0⟩ := hv
  have hx := B.exec
  have hb := B.bytes
  have hr := B.returns
  have hts := atoms_spec (ws := wsX2_firstWrongOfSlip) B.pre
  have hown : s.vm.findClass RX2 = some m.cls := findClass_of_methodNamed B.named
  have hlocks := B.notSynchronized
  subst hsz
  have hD := hD0.self (sz := s.heap.size)
  generalize hAe : va_A ([(pad, .inr (0, [.ref sg, .ref sl, .int (nI pm)])), (sg, .inl (gI G, 40, .inl fsg)), (sl, .inl (gI G, 10, .inl fsl))]) s.heap.size = A at hD E0 ⊢
  have E : EV G A s s.heap := E0
  have hA : ∀ q : Nat, s.heap.size ≤ q → A q := fun q h => by rw [← hAe]; exact Or.inr h
  have hS : va_S A s.heap s.heap [] := va_S.rf
  have hl := lv_entry ([.ref pad, .int (nI i0), .int (nI k)]) (n := 6) (Nat.le_of_ble_eq_true rfl)
  rw [lg_entry_eq]
  generalize (lg_sl ([.ref pad, .int (nI i0), .int (nI k)]) ++ List.replicate (6 - (lg_sl ([.ref pad, .int (nI i0), .int (nI k)])).length) Slot.unset).toArray = ls at hl ⊢
  have hl : lv_has ls 6 [(0, .ref pad), (1, .int (nI i0)), (2, .int (nI k))] := hl
  have hP : va_P G.1 vwCl ([(pad, .inr (0, [.ref sg, .ref sl, .int (nI pm)])), (sg, .inl (gI G, 40, .inl fsg)), (sl, .inl (gI G, 10, .inl fsl))]) s.heap := hP
  refine lv_aload_n hx hb dX2_firstWrongOfSlip_0 rfl (lv_at hl 0 rfl) ?_
  refine lv_iload_n hx hb dX2_firstWrongOfSlip_1 rfl (lv_at hl 1 rfl) ?_
  refine ca_iR (va_runV (As := [.int (nI i0)]) (rest := []) ⟨hx, hb, hml, hown, hts⟩ (n_kindAt l G s.heap.size pad sg sl pm fsg fsl i0 (by omega) (by omega)) (cwV 1 hts gX2_firstWrongOfSlip_X2_kindAt rfl rfl rfl (by decide +kernel) ⟨by decide +kernel, by decide +kernel⟩) (pre_V E hP hD hS hA [0, 1, 2] (by decide) rfl 0 0 rfl rfl) rfl rfl hl.1 rfl (lv_room (Nat.le_of_ble_eq_true rfl)) dX2_firstWrongOfSlip_2 ⟨by decide +kernel, by decide +kernel⟩) hS hP hD hA [0, 1, 2] rfl (fun r2 _ H locs w1 hP hS => ?_)
  refine lv_istore_n (lv' := [(3, .int r2), (0, .ref pad), (1, .int (nI i0)), (2, .int (nI k))]) hx hb dX2_firstWrongOfSlip_5 rfl hl (by decide) rfl (fun ls hl => ?_)
  refine lv_iload_n hx hb dX2_firstWrongOfSlip_6 rfl (lv_at hl 0 rfl) ?_
  refine lv_if_ge (tgt := 12) hx hb dX2_firstWrongOfSlip_7 (by decide) (fun c3 => ?_) (fun c3 => ?_)
  · have hkd : ¬ kdO (fsg i0) < 0 := fun q9 => by have q8 := kdO_knd.1.mp q9; rw [← w1] at q8; have q7 := c3; simp only [i3_le, i3_lt, Int32.reduceToInt] at q7 q8; omega
    refine lv_iload_n hx hb dX2_firstWrongOfSlip_12 rfl (lv_at hl 2 rfl) ?_
    refine lv_iconst (v := 1) hx hb dX2_firstWrongOfSlip_13 (by decide) ?_
    refine lv_iadd hx hb dX2_firstWrongOfSlip_14 ?_
    refine lv_topi (fun x4 ex4 => ?_)
    obtain rfl : x4 = nI (i0 + 1) := by rw [ex4]; exact nI_add i0 1
    refine lv_aload_n hx hb dX2_firstWrongOfSlip_15 rfl (lv_at hl 1 rfl) ?_
    refine va_get (D := G.1) (ci := 0) (v := .int (nI pm)) (C := RX2) (T := TX2) (N := 3) hx hb hts (fun _ h => List.mem_cons_of_mem _ (List.mem_append_right _ h)) hown E.K hP 0 rfl rfl 2 (by decide) (hts (.fieldLink RX2 18 "LastMap$Pad" "length" "I") (by decide +kernel)) (fun _ h9 => h9) rfl dX2_firstWrongOfSlip_16 ?_
    refine lv_icmp_lt (tgt := 27) hx hb dX2_firstWrongOfSlip_19 (by decide) (fun c5 => ?_) (fun c5 => ?_)
    · have c5 : (i0 + 1) < pm := (nI_ltI (a := (i0 + 1)) (b := pm) (by omega) (by omega)).mp c5
      refine lv_aload_n hx hb dX2_firstWrongOfSlip_27 rfl (lv_at hl 1 rfl) ?_
      refine lv_iload_n hx hb dX2_firstWrongOfSlip_28 rfl (lv_at hl 2 rfl) ?_
      refine lv_iconst (v := 1) hx hb dX2_firstWrongOfSlip_29 (by decide) ?_
      refine lv_iadd hx hb dX2_firstWrongOfSlip_30 ?_
      refine lv_topi (fun x6 ex6 => ?_)
      obtain rfl : x6 = nI (i0 + 1) := by rw [ex6]; exact nI_add i0 1
      refine ca_iR (va_runV (As := [.int (nI (i0 + 1))]) (rest := []) ⟨hx, hb, hml, hown, hts⟩ (n_padSign l G H.size pad sg sl pm fsg fsl (i0 + 1) (by omega) (by omega)) (cwV 1 hts gX2_firstWrongOfSlip_X2_signAt rfl rfl rfl (by decide +kernel) ⟨by decide +kernel, by decide +kernel⟩) (pre_V E hP hD hS hA [0, 1, 2] (by decide) rfl 0 0 rfl rfl) rfl rfl hl.1 rfl (lv_room (Nat.le_of_ble_eq_true rfl)) dX2_firstWrongOfSlip_31 ⟨by decide +kernel, by decide +kernel⟩) hS hP hD hA [0, 1, 2] rfl (fun r8 _ H locs w7 hP hS => ?_)
      refine lv_bipush (v := 48) hx hb dX2_firstWrongOfSlip_34 (by decide) ?_
      refine lv_isub hx hb dX2_firstWrongOfSlip_36 ?_
      refine lv_topi (fun x9 ex9 => ?_)
      refine lv_istore (lv' := [(4, .int x9), (3, .int r2), (0, .ref pad), (1, .int (nI i0)), (2, .int (nI k))]) hx hb dX2_firstWrongOfSlip_37 hl (by decide) rfl (fun ls hl => ?_)
      have hsx : x9 = fsg (i0 + 1) - 48 := by rw [ex9, w7]
      refine lv_iload hx hb dX2_firstWrongOfSlip_39 (lv_at hl 0 rfl) ?_
      refine lv_if_lt (tgt := 54) hx hb dX2_firstWrongOfSlip_41 (by decide) (fun c10 => ?_) (fun c10 => ?_)
      · refine lv_iload_n hx hb dX2_firstWrongOfSlip_54 rfl (lv_at hl 3 rfl) ?_
        refine lv_iconst (v := 1) hx hb dX2_firstWrongOfSlip_55 (by decide) ?_
        refine lv_iadd hx hb dX2_firstWrongOfSlip_56 ?_
        refine lv_topi (fun x11 ex11 => ?_)
        obtain rfl : x11 = nI (i0 + 1) := by rw [ex11]; exact nI_add i0 1
        have hP9 := (hP.sub (ws' := [(pad, .inr (0, [.ref sg, .ref sl, .int (nI pm)])), (sg, .inl (gI G, 40, .inl fsg)), (sl, .inl (gI G, 10, .inl fsl))]) [0, 1, 2] rfl)
        have hD9 := (hD.sub (ws' := [(pad, .inr (0, [.ref sg, .ref sl, .int (nI pm)])), (sg, .inl (gI G, 40, .inl fsg)), (sl, .inl (gI G, 10, .inl fsl))]) [0, 1, 2] (by decide) rfl)
        exact W.iret (v := (nI (i0 + 1))) hx hb hr (fun t9_ ht9_ hW9_ => ⟨⟨nI (i0 + 1), (), rfl, (w1r_s (w1_c hkd (by omega) (fun q9 => ((dgt_cls hk2 hk6 hkd).mp q9).1 (by rw [← hsx]; exact c10)))).symm, by rw [ht9_]; exact hP9, hD9⟩, hS.F ht9_⟩) hS.2.2 dX2_firstWrongOfSlip_57
      · refine lv_iload hx hb dX2_firstWrongOfSlip_44 (lv_at hl 0 rfl) ?_
        refine lv_iload_n hx hb dX2_firstWrongOfSlip_46 rfl (lv_at hl 1 rfl) ?_
        refine lv_iload_n hx hb dX2_firstWrongOfSlip_47 rfl (lv_at hl 4 rfl) ?_
        refine ca_iR (va_runS (As := [.int r2, .int (nI k)]) (rest := [.int x9]) ⟨hx, hb, hml, hown, hts⟩ (c_sitesFor l G H.size r2 (nI k)) (va_cwS 2 hts gX2_firstWrongOfSlip_X6_sitesFor rfl rfl rfl (by decide +kernel) ⟨by decide +kernel, by decide +kernel⟩) (pre_S E hP hD hS hA [] (by decide) rfl) rfl rfl hl.1 rfl (lv_room (Nat.le_of_ble_eq_true rfl)) dX2_firstWrongOfSlip_48 ⟨by decide +kernel, by decide +kernel⟩) hS hP hD hA [] rfl (fun r13 _ H locs w12 hP hS => ?_)
        refine lv_icmp_lt (tgt := 58) hx hb dX2_firstWrongOfSlip_51 (by decide) (fun c14 => ?_) (fun c14 => ?_)
        · have hdg : dgt fsg k i0 := (dgt_cls hk2 hk6 hkd).mpr ⟨by rw [← hsx]; exact c10, by rw [← hsx, ← w1, ← w12]; exact c14⟩
          refine lv_iload_n hx hb dX2_firstWrongOfSlip_58 rfl (lv_at hl 1 rfl) ?_
          refine lv_if_eq (tgt := 65) hx hb dX2_firstWrongOfSlip_59 (by decide) (fun c15 => ?_) (fun c15 => ?_)
          · have h99 : fsg i0 = 99 := knd_0.mp (by rw [← w1]; exact c15)
            refine lv_iload_n hx hb dX2_firstWrongOfSlip_65 rfl (lv_at hl 3 rfl) ?_
            refine lv_iconst (v := 2) hx hb dX2_firstWrongOfSlip_66 (by decide) ?_
            refine lv_iadd hx hb dX2_firstWrongOfSlip_67 ?_
            refine lv_topi (fun x16 ex16 => ?_)
            obtain rfl : x16 = nI (i0 + 2) := by rw [ex16]; exact nI_add i0 2
            refine lv_aload_n hx hb dX2_firstWrongOfSlip_68 rfl (lv_at hl 2 rfl) ?_
            refine va_get (D := G.1) (ci := 0) (v := .int (nI pm)) (C := RX2) (T := TX2) (N := 3) hx hb hts (fun _ h => List.mem_cons_of_mem _ (List.mem_append_right _ h)) hown E.K hP 0 rfl rfl 2 (by decide) (hts (.fieldLink RX2 18 "LastMap$Pad" "length" "I") (by decide +kernel)) (fun _ h9 => h9) rfl dX2_firstWrongOfSlip_69 ?_
            refine lv_icmp_lt (tgt := 80) hx hb dX2_firstWrongOfSlip_72 (by decide) (fun c17 => ?_) (fun c17 => ?_)
            · have c17 : (i0 + 2) < pm := (nI_ltI (a := (i0 + 2)) (b := pm) (by omega) (by omega)).mp c17
              refine lv_aload_n hx hb dX2_firstWrongOfSlip_80 rfl (lv_at hl 2 rfl) ?_
              refine lv_iload_n hx hb dX2_firstWrongOfSlip_81 rfl (lv_at hl 3 rfl) ?_
              refine lv_iconst (v := 2) hx hb dX2_firstWrongOfSlip_82 (by decide) ?_
              refine lv_iadd hx hb dX2_firstWrongOfSlip_83 ?_
              refine lv_topi (fun x18 ex18 => ?_)
              obtain rfl : x18 = nI (i0 + 2) := by rw [ex18]; exact nI_add i0 2
              refine ca_iR (va_runV (As := [.int (nI (i0 + 2))]) (rest := []) ⟨hx, hb, hml, hown, hts⟩ (n_padMark l G H.size pad sg sl pm fsg fsl (i0 + 2) (by omega) (by omega)) (cwV 1 hts gX2_firstWrongOfSlip_X2_markAt rfl rfl rfl (by decide +kernel) ⟨by decide +kernel, by decide +kernel⟩) (pre_V E hP hD hS hA [0, 1, 2] (by decide) rfl 0 0 rfl rfl) rfl rfl hl.1 rfl (lv_room (Nat.le_of_ble_eq_true rfl)) dX2_firstWrongOfSlip_84 ⟨by decide +kernel, by decide +kernel⟩) hS hP hD hA [0, 1, 2] rfl (fun r20 _ H locs w19 hP hS => ?_)
              refine lv_istore (lv' := [(5, .int r20), (4, .int x9), (3, .int r2), (0, .ref pad), (1, .int (nI i0)), (2, .int (nI k))]) hx hb dX2_firstWrongOfSlip_87 hl (by decide) rfl (fun ls hl => ?_)
              refine lv_iload hx hb dX2_firstWrongOfSlip_89 (lv_at hl 0 rfl) ?_
              refine lv_if_lt (tgt := 100) hx hb dX2_firstWrongOfSlip_91 (by decide) (fun c21 => ?_) (fun c21 => ?_)
              · refine lv_iload_n hx hb dX2_firstWrongOfSlip_100 rfl (lv_at hl 4 rfl) ?_
                refine lv_iconst (v := 2) hx hb dX2_firstWrongOfSlip_101 (by decide) ?_
                refine lv_iadd hx hb dX2_firstWrongOfSlip_102 ?_
                refine lv_topi (fun x22 ex22 => ?_)
                obtain rfl : x22 = nI (i0 + 2) := by rw [ex22]; exact nI_add i0 2
                refine lv_goto (tgt := 108) hx hb dX2_firstWrongOfSlip_103 (by decide) ?_
                have hP9 := (hP.sub (ws' := [(pad, .inr (0, [.ref sg, .ref sl, .int (nI pm)])), (sg, .inl (gI G, 40, .inl fsg)), (sl, .inl (gI G, 10, .inl fsl))]) [0, 1, 2] rfl)
                have hD9 := (hD.sub (ws' := [(pad, .inr (0, [.ref sg, .ref sl, .int (nI pm)])), (sg, .inl (gI G, 40, .inl fsg)), (sl, .inl (gI G, 10, .inl fsl))]) [0, 1, 2] (by decide) rfl)
                exact W.iret (v := (nI (i0 + 2))) hx hb hr (fun t9_ ht9_ hW9_ => ⟨⟨nI (i0 + 2), (), rfl, (w1r_s (w1_f hkd (by omega) hdg h99 (by omega) (fun q9 => by have q8 := letter_cls.mp q9; rw [← w19] at q8; have q7 := c21; simp only [i3_le, i3_lt, Int32.reduceToInt] at q7 q8; omega))).symm, by rw [ht9_]; exact hP9, hD9⟩, hS.F ht9_⟩) hS.2.2 dX2_firstWrongOfSlip_108
              · refine lv_iload hx hb dX2_firstWrongOfSlip_94 (lv_at hl 0 rfl) ?_
                refine lv_iconst (v := 4) hx hb dX2_firstWrongOfSlip_96 (by decide) ?_
                refine lv_icmp_lt (tgt := 106) hx hb dX2_firstWrongOfSlip_97 (by decide) (fun c23 => ?_) (fun c23 => ?_)
                · refine lv_bipush (v := (-6)) hx hb dX2_firstWrongOfSlip_106 (by decide) ?_
                  have hP9 := (hP.sub (ws' := [(pad, .inr (0, [.ref sg, .ref sl, .int (nI pm)])), (sg, .inl (gI G, 40, .inl fsg)), (sl, .inl (gI G, 10, .inl fsl))]) [0, 1, 2] rfl)
                  have hD9 := (hD.sub (ws' := [(pad, .inr (0, [.ref sg, .ref sl, .int (nI pm)])), (sg, .inl (gI G, 40, .inl fsg)), (sl, .inl (gI G, 10, .inl fsl))]) [0, 1, 2] (by decide) rfl)
                  exact W.iret (v := (-6)) hx hb hr (fun t9_ ht9_ hW9_ => ⟨⟨(-6), (), rfl, (w1r_n (w1_g hkd (by omega) hdg h99 (by omega) (letter_cls.mpr ⟨by rw [← w19]; exact c21, by rw [← w19]; exact c23⟩))).symm, by rw [ht9_]; exact hP9, hD9⟩, hS.F ht9_⟩) hS.2.2 dX2_firstWrongOfSlip_108
                · refine lv_iload_n hx hb dX2_firstWrongOfSlip_100 rfl (lv_at hl 4 rfl) ?_
                  refine lv_iconst (v := 2) hx hb dX2_firstWrongOfSlip_101 (by decide) ?_
                  refine lv_iadd hx hb dX2_firstWrongOfSlip_102 ?_
                  refine lv_topi (fun x24 ex24 => ?_)
                  obtain rfl : x24 = nI (i0 + 2) := by rw [ex24]; exact nI_add i0 2
                  refine lv_goto (tgt := 108) hx hb dX2_firstWrongOfSlip_103 (by decide) ?_
                  have hP9 := (hP.sub (ws' := [(pad, .inr (0, [.ref sg, .ref sl, .int (nI pm)])), (sg, .inl (gI G, 40, .inl fsg)), (sl, .inl (gI G, 10, .inl fsl))]) [0, 1, 2] rfl)
                  have hD9 := (hD.sub (ws' := [(pad, .inr (0, [.ref sg, .ref sl, .int (nI pm)])), (sg, .inl (gI G, 40, .inl fsg)), (sl, .inl (gI G, 10, .inl fsl))]) [0, 1, 2] (by decide) rfl)
                  exact W.iret (v := (nI (i0 + 2))) hx hb hr (fun t9_ ht9_ hW9_ => ⟨⟨nI (i0 + 2), (), rfl, (w1r_s (w1_f hkd (by omega) hdg h99 (by omega) (fun q9 => by have q8 := letter_cls.mp q9; rw [← w19] at q8; have q7 := c23; simp only [i3_le, i3_lt, Int32.reduceToInt] at q7 q8; omega))).symm, by rw [ht9_]; exact hP9, hD9⟩, hS.F ht9_⟩) hS.2.2 dX2_firstWrongOfSlip_108
            · have c17 : ¬ (i0 + 2) < pm := fun h9_ => c17 ((nI_ltI (a := (i0 + 2)) (b := pm) (by omega) (by omega)).mpr h9_)
              refine lv_aload_n hx hb dX2_firstWrongOfSlip_75 rfl (lv_at hl 2 rfl) ?_
              refine va_get (D := G.1) (ci := 0) (v := .int (nI pm)) (C := RX2) (T := TX2) (N := 3) hx hb hts (fun _ h => List.mem_cons_of_mem _ (List.mem_append_right _ h)) hown E.K hP 0 rfl rfl 2 (by decide) (hts (.fieldLink RX2 18 "LastMap$Pad" "length" "I") (by decide +kernel)) (fun _ h9 => h9) rfl dX2_firstWrongOfSlip_76 ?_
              have hP9 := (hP.sub (ws' := [(pad, .inr (0, [.ref sg, .ref sl, .int (nI pm)])), (sg, .inl (gI G, 40, .inl fsg)), (sl, .inl (gI G, 10, .inl fsl))]) [0, 1, 2] rfl)
              have hD9 := (hD.sub (ws' := [(pad, .inr (0, [.ref sg, .ref sl, .int (nI pm)])), (sg, .inl (gI G, 40, .inl fsg)), (sl, .inl (gI G, 10, .inl fsl))]) [0, 1, 2] (by decide) rfl)
              exact W.iret (v := (nI pm)) hx hb hr (fun t9_ ht9_ hW9_ => ⟨⟨nI pm, (), rfl, (w1r_s (w1_e hkd (by omega) hdg h99 (by omega))).symm, by rw [ht9_]; exact hP9, hD9⟩, hS.F ht9_⟩) hS.2.2 dX2_firstWrongOfSlip_79
          · refine lv_bipush (v := (-6)) hx hb dX2_firstWrongOfSlip_62 (by decide) ?_
            have hP9 := (hP.sub (ws' := [(pad, .inr (0, [.ref sg, .ref sl, .int (nI pm)])), (sg, .inl (gI G, 40, .inl fsg)), (sl, .inl (gI G, 10, .inl fsl))]) [0, 1, 2] rfl)
            have hD9 := (hD.sub (ws' := [(pad, .inr (0, [.ref sg, .ref sl, .int (nI pm)])), (sg, .inl (gI G, 40, .inl fsg)), (sl, .inl (gI G, 10, .inl fsl))]) [0, 1, 2] (by decide) rfl)
            exact W.iret (v := (-6)) hx hb hr (fun t9_ ht9_ hW9_ => ⟨⟨(-6), (), rfl, (w1r_n (w1_d hkd (by omega) hdg (fun q9 => c15 (by rw [w1]; exact knd_0.mpr q9)))).symm, by rw [ht9_]; exact hP9, hD9⟩, hS.F ht9_⟩) hS.2.2 dX2_firstWrongOfSlip_64
        · refine lv_iload_n hx hb dX2_firstWrongOfSlip_54 rfl (lv_at hl 3 rfl) ?_
          refine lv_iconst (v := 1) hx hb dX2_firstWrongOfSlip_55 (by decide) ?_
          refine lv_iadd hx hb dX2_firstWrongOfSlip_56 ?_
          refine lv_topi (fun x25 ex25 => ?_)
          obtain rfl : x25 = nI (i0 + 1) := by rw [ex25]; exact nI_add i0 1
          have hP9 := (hP.sub (ws' := [(pad, .inr (0, [.ref sg, .ref sl, .int (nI pm)])), (sg, .inl (gI G, 40, .inl fsg)), (sl, .inl (gI G, 10, .inl fsl))]) [0, 1, 2] rfl)
          have hD9 := (hD.sub (ws' := [(pad, .inr (0, [.ref sg, .ref sl, .int (nI pm)])), (sg, .inl (gI G, 40, .inl fsg)), (sl, .inl (gI G, 10, .inl fsl))]) [0, 1, 2] (by decide) rfl)
          exact W.iret (v := (nI (i0 + 1))) hx hb hr (fun t9_ ht9_ hW9_ => ⟨⟨nI (i0 + 1), (), rfl, (w1r_s (w1_c hkd (by omega) (fun q9 => c14 (by rw [hsx, w12, w1]; exact ((dgt_cls hk2 hk6 hkd).mp q9).2)))).symm, by rw [ht9_]; exact hP9, hD9⟩, hS.F ht9_⟩) hS.2.2 dX2_firstWrongOfSlip_57
    · have c5 : ¬ (i0 + 1) < pm := fun h9_ => c5 ((nI_ltI (a := (i0 + 1)) (b := pm) (by omega) (by omega)).mpr h9_)
      refine lv_aload_n hx hb dX2_firstWrongOfSlip_22 rfl (lv_at hl 1 rfl) ?_
      refine va_get (D := G.1) (ci := 0) (v := .int (nI pm)) (C := RX2) (T := TX2) (N := 3) hx hb hts (fun _ h => List.mem_cons_of_mem _ (List.mem_append_right _ h)) hown E.K hP 0 rfl rfl 2 (by decide) (hts (.fieldLink RX2 18 "LastMap$Pad" "length" "I") (by decide +kernel)) (fun _ h9 => h9) rfl dX2_firstWrongOfSlip_23 ?_
      have hP9 := (hP.sub (ws' := [(pad, .inr (0, [.ref sg, .ref sl, .int (nI pm)])), (sg, .inl (gI G, 40, .inl fsg)), (sl, .inl (gI G, 10, .inl fsl))]) [0, 1, 2] rfl)
      have hD9 := (hD.sub (ws' := [(pad, .inr (0, [.ref sg, .ref sl, .int (nI pm)])), (sg, .inl (gI G, 40, .inl fsg)), (sl, .inl (gI G, 10, .inl fsl))]) [0, 1, 2] (by decide) rfl)
      exact W.iret (v := (nI pm)) hx hb hr (fun t9_ ht9_ hW9_ => ⟨⟨nI pm, (), rfl, (w1r_s (w1_b hkd (by omega))).symm, by rw [ht9_]; exact hP9, hD9⟩, hS.F ht9_⟩) hS.2.2 dX2_firstWrongOfSlip_26
  · refine lv_iload_n hx hb dX2_firstWrongOfSlip_10 rfl (lv_at hl 2 rfl) ?_
    have hP9 := (hP.sub (ws' := [(pad, .inr (0, [.ref sg, .ref sl, .int (nI pm)])), (sg, .inl (gI G, 40, .inl fsg)), (sl, .inl (gI G, 10, .inl fsl))]) [0, 1, 2] rfl)
    have hD9 := (hD.sub (ws' := [(pad, .inr (0, [.ref sg, .ref sl, .int (nI pm)])), (sg, .inl (gI G, 40, .inl fsg)), (sl, .inl (gI G, 10, .inl fsl))]) [0, 1, 2] (by decide) rfl)
    exact W.iret (v := (nI i0)) hx hb hr (fun t9_ ht9_ hW9_ => ⟨⟨nI i0, (), rfl, (w1r_s (w1_a (kdO_knd.1.mpr (by rw [← w1]; have q7 := c3; simp only [i3_le, i3_lt, Int32.reduceToInt] at q7 ⊢; omega)))).symm, by rw [ht9_]; exact hP9, hD9⟩, hS.F ht9_⟩) hS.2.2 dX2_firstWrongOfSlip_11

set_option maxHeartbeats 1000000 in
set_option maxRecDepth 100000 in
theorem n_fwSlips (l : Launch) (G : Gy) (sz : Nat) (pad : Nat) (sg : Nat) (sl : Nat) (pm : Nat) (fsg : Nat → Int32) (fsl : Nat → Int32) (k : Nat) (hk2 : 2 ≤ k) (hk6 : k ≤ 6) (hpm : pm ≤ 40) : Ci l G yX2_firstWrongOfSlips wsX2_firstWrongOfSlips ({ frames := 3, cells := 0, slots := 0, locals := 67 }) [.ref pad, .int (nI k)] ([(pad, .inr (0, [.ref sg, .ref sl, .int (nI pm)])), (sg, .inl (gI G, 40, .inl fsg)), (sl, .inl (gI G, 10, .inl fsl))]) sz (fun (r : Int32) (_ : Unit) => r = psl fsg pm k 10 0) (fun (_ : Unit) => [(pad, .inr (0, [.ref sg, .ref sl, .int (nI pm)])), (sg, .inl (gI G, 40, .inl fsg)), (sl, .inl (gI G, 10, .inl fsl))]) 0 0 := by
  refine Met.ofW (cc := cX2_firstWrongOfSlips) (maxL := 5) (ret := (some .int)) (by decide) rfl ?_
  intro p e s m args below meth c s₁ B hml hv
  obtain ⟨rfl, hsz, hP, hD0, E0⟩ := hv
  have hx := B.exec
  have hb := B.bytes
  have hr := B.returns
  have hts := atoms_spec (ws := wsX2_firstWrongOfSlips) B.pre
  have hown : s.vm.findClass RX2 = some m.cls := findClass_of_methodNamed B.named
  have hlocks := B.notSynchronized
  subst hsz
  have hD := hD0.self (sz := s.heap.size)
  generalize hAe : va_A ([(pad, .inr (0, [.ref sg, .ref sl, .int (nI pm)])), (sg, .inl (gI G, 40, .inl fsg)), (sl, .inl (gI G, 10, .inl fsl))]) s.heap.size = A at hD E0 ⊢
  have E : EV G A s s.heap := E0
  have hA : ∀ q : Nat, s.heap.size ≤ q → A q := fun q h => by rw [← hAe]; exact Or.inr h
  have hS : va_S A s.heap s.heap [] := va_S.rf
  have hl := lv_entry ([.ref pad, .int (nI k)]) (n := 5) (Nat.le_of_ble_eq_true rfl)
  rw [lg_entry_eq]
  generalize (lg_sl ([.ref pad, .int (nI k)]) ++ List.replicate (5 - (lg_sl ([.ref pad, .int (nI k)])).length) Slot.unset).toArray = ls at hl ⊢
  have hl : lv_has ls 5 [(0, .ref pad), (1, .int (nI k))] := hl
  have hP : va_P G.1 vwCl ([(pad, .inr (0, [.ref sg, .ref sl, .int (nI pm)])), (sg, .inl (gI G, 40, .inl fsg)), (sl, .inl (gI G, 10, .inl fsl))]) s.heap := hP
  refine lv_iconst (v := 0) hx hb dX2_firstWrongOfSlips_0 (by decide) ?_
  refine lv_istore_n (lv' := [(2, .int 0), (0, .ref pad), (1, .int (nI k))]) hx hb dX2_firstWrongOfSlips_1 rfl hl (by decide) rfl (fun ls hl => ?_)
  refine lv_iconst (v := 0) hx hb dX2_firstWrongOfSlips_2 (by decide) ?_
  refine lv_istore_n (lv' := [(3, .int 0), (2, .int 0), (0, .ref pad), (1, .int (nI k))]) hx hb dX2_firstWrongOfSlips_3 rfl hl (by decide) rfl (fun ls hl => ?_)
  refine lp_run (x0 := (0, 0)) (fun xx_ : Nat × Nat => match xx_ with | (x, pq) => [(pad, .inr (0, [.ref sg, .ref sl, .int (nI pm)])), (sg, .inl (gI G, 40, .inl fsg)), (sl, .inl (gI G, 10, .inl fsl))]) (fun xx_ : Nat × Nat => match xx_ with | (x, pq) => [(3, .int (nI x)), (2, .int (nI pq)), (0, .ref pad), (1, .int (nI k))]) (fun xx_ : Nat × Nat => match xx_ with | (x, pq) => (x ≤ 10) ∧ (psl fsg pm k 10 0 = psl fsg pm k (10 - x) pq) ∧ (pq ≤ pm)) (fun xx_ : Nat × Nat => match xx_ with | (x, pq) => 10 - x) (hP.sub [0, 1, 2] rfl) (hD.sub [0, 1, 2] (by decide) rfl) hS (lv_sub hl [0, 1, 2, 3] rfl) ⟨(by omega), rfl, by omega⟩ ?_
  intro xx_ hI ih4 H locs ls hP hD hS hl
  obtain ⟨x, pq⟩ := xx_
  dsimp only at hI ih4 hP hD hl
  obtain ⟨hx0, hps, hpq⟩ := hI
  have hl : lv_has ls 5 [(3, .int (nI x)), (2, .int (nI pq)), (0, .ref pad), (1, .int (nI k))] := hl
  have hP : va_P G.1 vwCl ([(pad, .inr (0, [.ref sg, .ref sl, .int (nI pm)])), (sg, .inl (gI G, 40, .inl fsg)), (sl, .inl (gI G, 10, .inl fsl))]) H := hP
  have hD : va_D A ([(pad, .inr (0, [.ref sg, .ref sl, .int (nI pm)])), (sg, .inl (gI G, 40, .inl fsg)), (sl, .inl (gI G, 10, .inl fsl))]) := hD
  refine lv_iload_n hx hb dX2_firstWrongOfSlips_4 rfl (lv_at hl 0 rfl) ?_
  refine lv_bipush (v := 10) hx hb dX2_firstWrongOfSlips_5 (by decide) ?_
  refine lv_icmp_ge (tgt := 50) hx hb dX2_firstWrongOfSlips_7 (by decide) (fun c1 => ?_) (fun c1 => ?_)
  · have c1 : 10 ≤ x := (nI_leI (a := 10) (b := x) (by omega) (by omega)).mp c1
    refine lv_iload_n hx hb dX2_firstWrongOfSlips_50 rfl (lv_at hl 1 rfl) ?_
    refine lv_aload_n hx hb dX2_firstWrongOfSlips_51 rfl (lv_at hl 2 rfl) ?_
    refine va_get (D := G.1) (ci := 0) (v := .int (nI pm)) (C := RX2) (T := TX2) (N := 3) hx hb hts (fun _ h => List.mem_cons_of_mem _ (List.mem_append_right _ h)) hown E.K hP 0 rfl rfl 2 (by decide) (hts (.fieldLink RX2 18 "LastMap$Pad" "length" "I") (by decide +kernel)) (fun _ h9 => h9) rfl dX2_firstWrongOfSlips_52 ?_
    refine lv_icmp_ge (tgt := 62) hx hb dX2_firstWrongOfSlips_55 (by decide) (fun c2 => ?_) (fun c2 => ?_)
    · have c2 : pm ≤ pq := (nI_leI (a := pm) (b := pq) (by omega) (by omega)).mp c2
      refine lv_bipush (v := (-6)) hx hb dX2_firstWrongOfSlips_62 (by decide) ?_
      have hP9 := (hP.sub (ws' := [(pad, .inr (0, [.ref sg, .ref sl, .int (nI pm)])), (sg, .inl (gI G, 40, .inl fsg)), (sl, .inl (gI G, 10, .inl fsl))]) [0, 1, 2] rfl)
      have hD9 := (hD.sub (ws' := [(pad, .inr (0, [.ref sg, .ref sl, .int (nI pm)])), (sg, .inl (gI G, 40, .inl fsg)), (sl, .inl (gI G, 10, .inl fsl))]) [0, 1, 2] (by decide) rfl)
      exact W.iret (v := (-6)) hx hb hr (fun t9_ ht9_ hW9_ => ⟨⟨(-6), (), rfl, by rw [hps]; exact (psl_end (by omega)).symm, by rw [ht9_]; exact hP9, hD9⟩, hS.F ht9_⟩) hS.2.2 dX2_firstWrongOfSlips_64
    · have c2 : ¬ pm ≤ pq := fun h9_ => c2 ((nI_leI (a := pm) (b := pq) (by omega) (by omega)).mpr h9_)
      refine lv_iload_n hx hb dX2_firstWrongOfSlips_58 rfl (lv_at hl 1 rfl) ?_
      refine lv_goto (tgt := 64) hx hb dX2_firstWrongOfSlips_59 (by decide) ?_
      have hP9 := (hP.sub (ws' := [(pad, .inr (0, [.ref sg, .ref sl, .int (nI pm)])), (sg, .inl (gI G, 40, .inl fsg)), (sl, .inl (gI G, 10, .inl fsl))]) [0, 1, 2] rfl)
      have hD9 := (hD.sub (ws' := [(pad, .inr (0, [.ref sg, .ref sl, .int (nI pm)])), (sg, .inl (gI G, 40, .inl fsg)), (sl, .inl (gI G, 10, .inl fsl))]) [0, 1, 2] (by decide) rfl)
      exact W.iret (v := (nI pq)) hx hb hr (fun t9_ ht9_ hW9_ => ⟨⟨nI pq, (), rfl, by rw [hps]; first | (rw [show 10 - x = 0 by omega]; exact (psl_full (by omega)).symm) | (exfalso; omega), by rw [ht9_]; exact hP9, hD9⟩, hS.F ht9_⟩) hS.2.2 dX2_firstWrongOfSlips_64
  · have c1 : ¬ 10 ≤ x := fun h9_ => c1 ((nI_leI (a := 10) (b := x) (by omega) (by omega)).mpr h9_)
    refine lv_iload_n hx hb dX2_firstWrongOfSlips_10 rfl (lv_at hl 1 rfl) ?_
    refine lv_aload_n hx hb dX2_firstWrongOfSlips_11 rfl (lv_at hl 2 rfl) ?_
    refine va_get (D := G.1) (ci := 0) (v := .int (nI pm)) (C := RX2) (T := TX2) (N := 3) hx hb hts (fun _ h => List.mem_cons_of_mem _ (List.mem_append_right _ h)) hown E.K hP 0 rfl rfl 2 (by decide) (hts (.fieldLink RX2 18 "LastMap$Pad" "length" "I") (by decide +kernel)) (fun _ h9 => h9) rfl dX2_firstWrongOfSlips_12 ?_
    refine lv_icmp_ge (tgt := 50) hx hb dX2_firstWrongOfSlips_15 (by decide) (fun c3 => ?_) (fun c3 => ?_)
    · have c3 : pm ≤ pq := (nI_leI (a := pm) (b := pq) (by omega) (by omega)).mp c3
      refine lv_iload_n hx hb dX2_firstWrongOfSlips_50 rfl (lv_at hl 1 rfl) ?_
      refine lv_aload_n hx hb dX2_firstWrongOfSlips_51 rfl (lv_at hl 2 rfl) ?_
      refine va_get (D := G.1) (ci := 0) (v := .int (nI pm)) (C := RX2) (T := TX2) (N := 3) hx hb hts (fun _ h => List.mem_cons_of_mem _ (List.mem_append_right _ h)) hown E.K hP 0 rfl rfl 2 (by decide) (hts (.fieldLink RX2 18 "LastMap$Pad" "length" "I") (by decide +kernel)) (fun _ h9 => h9) rfl dX2_firstWrongOfSlips_52 ?_
      refine lv_icmp_ge (tgt := 62) hx hb dX2_firstWrongOfSlips_55 (by decide) (fun c4 => ?_) (fun c4 => ?_)
      · have c4 : pm ≤ pq := (nI_leI (a := pm) (b := pq) (by omega) (by omega)).mp c4
        refine lv_bipush (v := (-6)) hx hb dX2_firstWrongOfSlips_62 (by decide) ?_
        have hP9 := (hP.sub (ws' := [(pad, .inr (0, [.ref sg, .ref sl, .int (nI pm)])), (sg, .inl (gI G, 40, .inl fsg)), (sl, .inl (gI G, 10, .inl fsl))]) [0, 1, 2] rfl)
        have hD9 := (hD.sub (ws' := [(pad, .inr (0, [.ref sg, .ref sl, .int (nI pm)])), (sg, .inl (gI G, 40, .inl fsg)), (sl, .inl (gI G, 10, .inl fsl))]) [0, 1, 2] (by decide) rfl)
        exact W.iret (v := (-6)) hx hb hr (fun t9_ ht9_ hW9_ => ⟨⟨(-6), (), rfl, by rw [hps]; exact (psl_end (by omega)).symm, by rw [ht9_]; exact hP9, hD9⟩, hS.F ht9_⟩) hS.2.2 dX2_firstWrongOfSlips_64
      · have c4 : ¬ pm ≤ pq := fun h9_ => c4 ((nI_leI (a := pm) (b := pq) (by omega) (by omega)).mpr h9_)
        refine lv_iload_n hx hb dX2_firstWrongOfSlips_58 rfl (lv_at hl 1 rfl) ?_
        refine lv_goto (tgt := 64) hx hb dX2_firstWrongOfSlips_59 (by decide) ?_
        have hP9 := (hP.sub (ws' := [(pad, .inr (0, [.ref sg, .ref sl, .int (nI pm)])), (sg, .inl (gI G, 40, .inl fsg)), (sl, .inl (gI G, 10, .inl fsl))]) [0, 1, 2] rfl)
        have hD9 := (hD.sub (ws' := [(pad, .inr (0, [.ref sg, .ref sl, .int (nI pm)])), (sg, .inl (gI G, 40, .inl fsg)), (sl, .inl (gI G, 10, .inl fsl))]) [0, 1, 2] (by decide) rfl)
        exact W.iret (v := (nI pq)) hx hb hr (fun t9_ ht9_ hW9_ => ⟨⟨nI pq, (), rfl, by rw [hps]; first | (rw [show 10 - x = 0 by omega]; exact (psl_full (by omega)).symm) | (exfalso; omega), by rw [ht9_]; exact hP9, hD9⟩, hS.F ht9_⟩) hS.2.2 dX2_firstWrongOfSlips_64
    · have c3 : ¬ pm ≤ pq := fun h9_ => c3 ((nI_leI (a := pm) (b := pq) (by omega) (by omega)).mpr h9_)
      refine lv_aload_n hx hb dX2_firstWrongOfSlips_18 rfl (lv_at hl 2 rfl) ?_
      refine lv_iload_n hx hb dX2_firstWrongOfSlips_19 rfl (lv_at hl 1 rfl) ?_
      refine lv_iload_n hx hb dX2_firstWrongOfSlips_20 rfl (lv_at hl 3 rfl) ?_
      refine ca_iR (va_runV (As := [.int (nI pq), .int (nI k)]) (rest := []) ⟨hx, hb, hml, hown, hts⟩ (n_fwSlip l G H.size pad sg sl pm fsg fsl k pq hk2 hk6 (by omega) (by omega)) (cwV 2 hts gX2_firstWrongOfSlips_X2_firstWrongOfSlip rfl rfl rfl (by decide +kernel) ⟨by decide +kernel, by decide +kernel⟩) (pre_V E hP hD hS hA [0, 1, 2] (by decide) rfl 0 0 rfl rfl) rfl rfl hl.1 rfl (lv_room (Nat.le_of_ble_eq_true rfl)) dX2_firstWrongOfSlips_21 ⟨by decide +kernel, by decide +kernel⟩) hS hP hD hA [0, 1, 2] rfl (fun r6 _ H locs w5 hP hS => ?_)
      refine lv_istore (lv' := [(4, .int r6), (3, .int (nI x)), (2, .int (nI pq)), (0, .ref pad), (1, .int (nI k))]) hx hb dX2_firstWrongOfSlips_24 hl (by decide) rfl (fun ls hl => ?_)
      refine lv_iload hx hb dX2_firstWrongOfSlips_26 (lv_at hl 0 rfl) ?_
      refine lv_bipush (v := (-6)) hx hb dX2_firstWrongOfSlips_28 (by decide) ?_
      refine lv_icmp_eq (tgt := 36) hx hb dX2_firstWrongOfSlips_30 (by decide) (fun c7 => ?_) (fun c7 => ?_)
      · have hno := w1r_go (f := fsg) (pm := pm) (k := k) (i := pq) hpm (by omega) (by rw [← w5]; exact c7)
        refine lv_iload_n hx hb dX2_firstWrongOfSlips_36 rfl (lv_at hl 2 rfl) ?_
        refine lv_aload_n hx hb dX2_firstWrongOfSlips_37 rfl (lv_at hl 3 rfl) ?_
        refine lv_iload_n hx hb dX2_firstWrongOfSlips_38 rfl (lv_at hl 2 rfl) ?_
        refine ca_iR (va_runV (As := [.int (nI pq)]) (rest := [.int (nI pq)]) ⟨hx, hb, hml, hown, hts⟩ (n_lengthOfSlip l G H.size pad sg sl pm fsg fsl pq (by omega) (by omega)) (cwV 1 hts gX2_firstWrongOfSlips_X2_lengthOfSlip rfl rfl rfl (by decide +kernel) ⟨by decide +kernel, by decide +kernel⟩) (pre_V E hP hD hS hA [0, 1, 2] (by decide) rfl 0 0 rfl rfl) rfl rfl hl.1 rfl (lv_room (Nat.le_of_ble_eq_true rfl)) dX2_firstWrongOfSlips_39 ⟨by decide +kernel, by decide +kernel⟩) hS hP hD hA [0, 1, 2] rfl (fun r9 _ H locs w8 hP hS => ?_)
        rw [w8]
        refine lv_iadd hx hb dX2_firstWrongOfSlips_42 ?_
        refine lv_topi (fun x10 ex10 => ?_)
        obtain rfl : x10 = nI (pq + (lenS fsg pq)) := by rw [ex10]; exact nI_add pq (lenS fsg pq)
        refine lv_istore_n (lv' := [(2, .int (nI (pq + (lenS fsg pq)))), (4, .int r6), (3, .int (nI x)), (0, .ref pad), (1, .int (nI k))]) hx hb dX2_firstWrongOfSlips_43 rfl hl (by decide) rfl (fun ls hl => ?_)
        obtain ⟨x11, ex11⟩ : ∃ yy_ : Int32, yy_ = (nI x) + 1 := ⟨_, rfl⟩
        refine lv_iinc (v := x11) (lv' := [(3, .int x11), (2, .int (nI (pq + (lenS fsg pq)))), (4, .int r6), (0, .ref pad), (1, .int (nI k))]) hx hb dX2_firstWrongOfSlips_44 hl (k := 2) rfl (by rw [ex11]; rfl) (by decide) rfl (fun ls hl => ?_)
        obtain rfl : x11 = nI (x + 1) := by rw [ex11]; exact nI_add x 1
        refine lv_goto (tgt := 4) hx hb dX2_firstWrongOfSlips_47 (by decide) ?_
        refine ih4 ((x + 1), (pq + (lenS fsg pq))) ⟨?_, ?_, ?_⟩ (by first | omega | (dsimp only; omega)) H locs ls (hP.sub [0, 1, 2] rfl) (hD.sub [0, 1, 2] (by decide) rfl) hS (lv_sub hl [0, 1, 3, 4] rfl)
        · try dsimp only
          omega
        · try dsimp only
          rw [hps, show 10 - x = (10 - (x + 1)) + 1 by omega, psl_go (by omega) hno]
        · try dsimp only
          have q9 := (w1_ok hk2 hk6 hno).2.1; omega
      · refine lv_iload hx hb dX2_firstWrongOfSlips_33 (lv_at hl 0 rfl) ?_
        have hP9 := (hP.sub (ws' := [(pad, .inr (0, [.ref sg, .ref sl, .int (nI pm)])), (sg, .inl (gI G, 40, .inl fsg)), (sl, .inl (gI G, 10, .inl fsl))]) [0, 1, 2] rfl)
        have hD9 := (hD.sub (ws' := [(pad, .inr (0, [.ref sg, .ref sl, .int (nI pm)])), (sg, .inl (gI G, 40, .inl fsg)), (sl, .inl (gI G, 10, .inl fsl))]) [0, 1, 2] (by decide) rfl)
        exact W.iret (v := r6) hx hb hr (fun t9_ ht9_ hW9_ => ⟨⟨r6, (), rfl, by rw [hps, show 10 - x = (10 - (x + 1)) + 1 by omega, psl_w1r (by omega) (by rw [← w5]; exact c7)]; exact w5, by rw [ht9_]; exact hP9, hD9⟩, hS.F ht9_⟩) hS.2.2 dX2_firstWrongOfSlips_35

set_option maxHeartbeats 1000000 in
set_option maxRecDepth 100000 in
theorem n_firstWrong (l : Launch) (G : Gy) (sz : Nat) (pad : Nat) (sg : Nat) (sl : Nat) (pm : Nat) (fsg : Nat → Int32) (fsl : Nat → Int32) (k : Nat) (p0 : Int32) (hk2 : 2 ≤ k) (hk6 : k ≤ 6) (hpm : pm ≤ 40) : Ci l G yX2_firstWrong wsX2_firstWrong ({ frames := 4, cells := 0, slots := 0, locals := 91 }) [.ref pad, .int p0, .int (nI k)] ([(pad, .inr (0, [.ref sg, .ref sl, .int (nI pm)])), (sg, .inl (gI G, 40, .inl fsg)), (sl, .inl (gI G, 10, .inl fsl))]) sz (fun (r : Int32) (_ : Unit) => (p0 = 1 → r = psl fsg pm k 10 0) ∧ (¬ p0 = 1 → r = fmF fsg pm k (p0 = 2) pm 0)) (fun (_ : Unit) => [(pad, .inr (0, [.ref sg, .ref sl, .int (nI pm)])), (sg, .inl (gI G, 40, .inl fsg)), (sl, .inl (gI G, 10, .inl fsl))]) 0 0 := by
  refine Met.ofW (cc := cX2_firstWrong) (maxL := 6) (ret := (some .int)) (by decide) rfl ?_
  intro p e s m args below meth c s₁ B hml hv
  obtain ⟨rfl, hsz, hP, hD0, E0⟩ := hv
  have hx := B.exec
  have hb := B.bytes
  have hr := B.returns
  have hts := atoms_spec (ws := wsX2_firstWrong) B.pre
  have hown : s.vm.findClass RX2 = some m.cls := findClass_of_methodNamed B.named
  have hlocks := B.notSynchronized
  subst hsz
  have hD := hD0.self (sz := s.heap.size)
  generalize hAe : va_A ([(pad, .inr (0, [.ref sg, .ref sl, .int (nI pm)])), (sg, .inl (gI G, 40, .inl fsg)), (sl, .inl (gI G, 10, .inl fsl))]) s.heap.size = A at hD E0 ⊢
  have E : EV G A s s.heap := E0
  have hA : ∀ q : Nat, s.heap.size ≤ q → A q := fun q h => by rw [← hAe]; exact Or.inr h
  have hS : va_S A s.heap s.heap [] := va_S.rf
  have hl := lv_entry ([.ref pad, .int p0, .int (nI k)]) (n := 6) (Nat.le_of_ble_eq_true rfl)
  rw [lg_entry_eq]
  generalize (lg_sl ([.ref pad, .int p0, .int (nI k)]) ++ List.replicate (6 - (lg_sl ([.ref pad, .int p0, .int (nI k)])).length) Slot.unset).toArray = ls at hl ⊢
  have hl : lv_has ls 6 [(0, .ref pad), (1, .int p0), (2, .int (nI k))] := hl
  have hP : va_P G.1 vwCl ([(pad, .inr (0, [.ref sg, .ref sl, .int (nI pm)])), (sg, .inl (gI G, 40, .inl fsg)), (sl, .inl (gI G, 10, .inl fsl))]) s.heap := hP
  refine lv_iload_n hx hb dX2_firstWrong_0 rfl (lv_at hl 1 rfl) ?_
  refine lv_iconst (v := 1) hx hb dX2_firstWrong_1 (by decide) ?_
  refine lv_icmp_ne (tgt := 11) hx hb dX2_firstWrong_2 (by decide) (fun c1 => ?_) (fun c1 => ?_)
  · refine lv_iload_n hx hb dX2_firstWrong_11 rfl (lv_at hl 1 rfl) ?_
    refine lv_iconst (v := 2) hx hb dX2_firstWrong_12 (by decide) ?_
    refine lv_icmp_ne (tgt := 20) hx hb dX2_firstWrong_13 (by decide) (fun c2 => ?_) (fun c2 => ?_)
    · refine lv_iconst (v := 4) hx hb dX2_firstWrong_20 (by decide) ?_
      refine lv_istore_n (lv' := [(3, .int 4), (0, .ref pad), (1, .int p0), (2, .int (nI k))]) hx hb dX2_firstWrong_21 rfl hl (by decide) rfl (fun ls hl => ?_)
      refine lv_iconst (v := 0) hx hb dX2_firstWrong_22 (by decide) ?_
      refine lv_istore (lv' := [(4, .int 0), (3, .int 4), (0, .ref pad), (1, .int p0), (2, .int (nI k))]) hx hb dX2_firstWrong_23 hl (by decide) rfl (fun ls hl => ?_)
      refine lp_run (x0 := 0) (fun x : Nat => [(pad, .inr (0, [.ref sg, .ref sl, .int (nI pm)])), (sg, .inl (gI G, 40, .inl fsg)), (sl, .inl (gI G, 10, .inl fsl))]) (fun x : Nat => [(4, .int (nI x)), (3, .int 4), (0, .ref pad), (1, .int p0), (2, .int (nI k))]) (fun x : Nat => (x ≤ pm) ∧ (fmF fsg pm k (p0 = 2) pm 0 = fmF fsg pm k (p0 = 2) (pm - x) x) ∧ (x ≤ k)) (fun x : Nat => pm - x) (hP.sub [0, 1, 2] rfl) (hD.sub [0, 1, 2] (by decide) rfl) hS (lv_sub hl [0, 1, 2, 3, 4] rfl) ⟨(by omega), by rw [Nat.sub_zero], by omega⟩ ?_
      intro xx_ hI ih25 H locs ls hP hD hS hl
      obtain ⟨x, rfl⟩ : ∃ zz_, zz_ = xx_ := ⟨_, rfl⟩
      obtain ⟨hx0, hfm, hxk⟩ := hI
      have hl : lv_has ls 6 [(4, .int (nI x)), (3, .int 4), (0, .ref pad), (1, .int p0), (2, .int (nI k))] := hl
      have hP : va_P G.1 vwCl ([(pad, .inr (0, [.ref sg, .ref sl, .int (nI pm)])), (sg, .inl (gI G, 40, .inl fsg)), (sl, .inl (gI G, 10, .inl fsl))]) H := hP
      have hD : va_D A ([(pad, .inr (0, [.ref sg, .ref sl, .int (nI pm)])), (sg, .inl (gI G, 40, .inl fsg)), (sl, .inl (gI G, 10, .inl fsl))]) := hD
      refine lv_iload hx hb dX2_firstWrong_25 (lv_at hl 0 rfl) ?_
      refine lv_aload_n hx hb dX2_firstWrong_27 rfl (lv_at hl 2 rfl) ?_
      refine va_get (D := G.1) (ci := 0) (v := .int (nI pm)) (C := RX2) (T := TX2) (N := 3) hx hb hts (fun _ h => List.mem_cons_of_mem _ (List.mem_append_right _ h)) hown E.K hP 0 rfl rfl 2 (by decide) (hts (.fieldLink RX2 18 "LastMap$Pad" "length" "I") (by decide +kernel)) (fun _ h9 => h9) rfl dX2_firstWrong_28 ?_
      refine lv_icmp_ge (tgt := 68) hx hb dX2_firstWrong_31 (by decide) (fun c3 => ?_) (fun c3 => ?_)
      · have c3 : pm ≤ x := (nI_leI (a := pm) (b := x) (by omega) (by omega)).mp c3
        refine lv_aload_n hx hb dX2_firstWrong_68 rfl (lv_at hl 2 rfl) ?_
        refine va_get (D := G.1) (ci := 0) (v := .int (nI pm)) (C := RX2) (T := TX2) (N := 3) hx hb hts (fun _ h => List.mem_cons_of_mem _ (List.mem_append_right _ h)) hown E.K hP 0 rfl rfl 2 (by decide) (hts (.fieldLink RX2 18 "LastMap$Pad" "length" "I") (by decide +kernel)) (fun _ h9 => h9) rfl dX2_firstWrong_69 ?_
        refine lv_iload_n hx hb dX2_firstWrong_72 rfl (lv_at hl 4 rfl) ?_
        refine lv_icmp_ge (tgt := 83) hx hb dX2_firstWrong_73 (by decide) (fun c4 => ?_) (fun c4 => ?_)
        · have c4 : k ≤ pm := (nI_leI (a := k) (b := pm) (by omega) (by omega)).mp c4
          refine lv_bipush (v := (-6)) hx hb dX2_firstWrong_83 (by decide) ?_
          have hP9 := (hP.sub (ws' := [(pad, .inr (0, [.ref sg, .ref sl, .int (nI pm)])), (sg, .inl (gI G, 40, .inl fsg)), (sl, .inl (gI G, 10, .inl fsl))]) [0, 1, 2] rfl)
          have hD9 := (hD.sub (ws' := [(pad, .inr (0, [.ref sg, .ref sl, .int (nI pm)])), (sg, .inl (gI G, 40, .inl fsg)), (sl, .inl (gI G, 10, .inl fsl))]) [0, 1, 2] (by decide) rfl)
          exact W.iret (v := (-6)) hx hb hr (fun t9_ ht9_ hW9_ => ⟨⟨(-6), (), rfl, ⟨fun q9 => absurd q9 c1, fun _ => by rw [hfm, show pm - x = 0 by omega]; exact (pIf_f (by omega)).symm⟩, by rw [ht9_]; exact hP9, hD9⟩, hS.F ht9_⟩) hS.2.2 dX2_firstWrong_85
        · have c4 : ¬ k ≤ pm := fun h9_ => c4 ((nI_leI (a := k) (b := pm) (by omega) (by omega)).mpr h9_)
          refine lv_aload_n hx hb dX2_firstWrong_76 rfl (lv_at hl 2 rfl) ?_
          refine va_get (D := G.1) (ci := 0) (v := .int (nI pm)) (C := RX2) (T := TX2) (N := 3) hx hb hts (fun _ h => List.mem_cons_of_mem _ (List.mem_append_right _ h)) hown E.K hP 0 rfl rfl 2 (by decide) (hts (.fieldLink RX2 18 "LastMap$Pad" "length" "I") (by decide +kernel)) (fun _ h9 => h9) rfl dX2_firstWrong_77 ?_
          refine lv_goto (tgt := 85) hx hb dX2_firstWrong_80 (by decide) ?_
          have hP9 := (hP.sub (ws' := [(pad, .inr (0, [.ref sg, .ref sl, .int (nI pm)])), (sg, .inl (gI G, 40, .inl fsg)), (sl, .inl (gI G, 10, .inl fsl))]) [0, 1, 2] rfl)
          have hD9 := (hD.sub (ws' := [(pad, .inr (0, [.ref sg, .ref sl, .int (nI pm)])), (sg, .inl (gI G, 40, .inl fsg)), (sl, .inl (gI G, 10, .inl fsl))]) [0, 1, 2] (by decide) rfl)
          exact W.iret (v := (nI pm)) hx hb hr (fun t9_ ht9_ hW9_ => ⟨⟨nI pm, (), rfl, ⟨fun q9 => absurd q9 c1, fun _ => by rw [hfm, show pm - x = 0 by omega]; exact (pIf_t (by omega)).symm⟩, by rw [ht9_]; exact hP9, hD9⟩, hS.F ht9_⟩) hS.2.2 dX2_firstWrong_85
      · have c3 : ¬ pm ≤ x := fun h9_ => c3 ((nI_leI (a := pm) (b := x) (by omega) (by omega)).mpr h9_)
        refine lv_aload_n hx hb dX2_firstWrong_34 rfl (lv_at hl 2 rfl) ?_
        refine lv_iload hx hb dX2_firstWrong_35 (lv_at hl 0 rfl) ?_
        refine ca_iR (va_runV (As := [.int (nI x)]) (rest := []) ⟨hx, hb, hml, hown, hts⟩ (n_padMark l G H.size pad sg sl pm fsg fsl x (by omega) (by omega)) (cwV 1 hts gX2_firstWrong_X2_markAt rfl rfl rfl (by decide +kernel) ⟨by decide +kernel, by decide +kernel⟩) (pre_V E hP hD hS hA [0, 1, 2] (by decide) rfl 0 0 rfl rfl) rfl rfl hl.1 rfl (lv_room (Nat.le_of_ble_eq_true rfl)) dX2_firstWrong_37 ⟨by decide +kernel, by decide +kernel⟩) hS hP hD hA [0, 1, 2] rfl (fun r6 _ H locs w5 hP hS => ?_)
        refine lv_istore (lv' := [(5, .int r6), (4, .int (nI x)), (3, .int 4), (0, .ref pad), (1, .int p0), (2, .int (nI k))]) hx hb dX2_firstWrong_40 hl (by decide) rfl (fun ls hl => ?_)
        refine lv_iload hx hb dX2_firstWrong_42 (lv_at hl 1 rfl) ?_
        refine lv_iload_n hx hb dX2_firstWrong_44 rfl (lv_at hl 5 rfl) ?_
        refine lv_icmp_ge (tgt := 59) hx hb dX2_firstWrong_45 (by decide) (fun c7 => ?_) (fun c7 => ?_)
        · have c7 : k ≤ x := (nI_leI (a := k) (b := x) (by omega) (by omega)).mp c7
          refine lv_iload hx hb dX2_firstWrong_59 (lv_at hl 1 rfl) ?_
          have hP9 := (hP.sub (ws' := [(pad, .inr (0, [.ref sg, .ref sl, .int (nI pm)])), (sg, .inl (gI G, 40, .inl fsg)), (sl, .inl (gI G, 10, .inl fsl))]) [0, 1, 2] rfl)
          have hD9 := (hD.sub (ws' := [(pad, .inr (0, [.ref sg, .ref sl, .int (nI pm)])), (sg, .inl (gI G, 40, .inl fsg)), (sl, .inl (gI G, 10, .inl fsl))]) [0, 1, 2] (by decide) rfl)
          exact W.iret (v := (nI x)) hx hb hr (fun t9_ ht9_ hW9_ => ⟨⟨nI x, (), rfl, ⟨fun q9 => absurd q9 c1, fun _ => by rw [hfm, show pm - x = (pm - (x + 1)) + 1 by omega]; exact (fmF_stop (Or.inl (by omega))).symm⟩, by rw [ht9_]; exact hP9, hD9⟩, hS.F ht9_⟩) hS.2.2 dX2_firstWrong_61
        · have c7 : ¬ k ≤ x := fun h9_ => c7 ((nI_leI (a := k) (b := x) (by omega) (by omega)).mpr h9_)
          refine lv_iload hx hb dX2_firstWrong_48 (lv_at hl 0 rfl) ?_
          refine lv_if_lt (tgt := 59) hx hb dX2_firstWrong_50 (by decide) (fun c8 => ?_) (fun c8 => ?_)
          · refine lv_iload hx hb dX2_firstWrong_59 (lv_at hl 1 rfl) ?_
            have hP9 := (hP.sub (ws' := [(pad, .inr (0, [.ref sg, .ref sl, .int (nI pm)])), (sg, .inl (gI G, 40, .inl fsg)), (sl, .inl (gI G, 10, .inl fsl))]) [0, 1, 2] rfl)
            have hD9 := (hD.sub (ws' := [(pad, .inr (0, [.ref sg, .ref sl, .int (nI pm)])), (sg, .inl (gI G, 40, .inl fsg)), (sl, .inl (gI G, 10, .inl fsl))]) [0, 1, 2] (by decide) rfl)
            exact W.iret (v := (nI x)) hx hb hr (fun t9_ ht9_ hW9_ => ⟨⟨nI x, (), rfl, ⟨fun q9 => absurd q9 c1, fun _ => by rw [hfm, show pm - x = (pm - (x + 1)) + 1 by omega]; exact (fmF_stop (Or.inr (fun q9 => q9.elim (fun q8 => (mark_sgO.1.mp q8) (Or.inl (by rw [← w5]; exact c8))) (fun q8 => (by have q5 := mark_sgO.2.2.mp q8.2; rw [← w5] at q5; have q6 := c8; simp only [i3_le, i3_lt, i3_eq, Int32.reduceToInt] at q5 q6; omega))))).symm⟩, by rw [ht9_]; exact hP9, hD9⟩, hS.F ht9_⟩) hS.2.2 dX2_firstWrong_61
          · refine lv_iload hx hb dX2_firstWrong_53 (lv_at hl 0 rfl) ?_
            refine lv_iload_n hx hb dX2_firstWrong_55 rfl (lv_at hl 2 rfl) ?_
            refine lv_icmp_le (tgt := 62) hx hb dX2_firstWrong_56 (by decide) (fun c9 => ?_) (fun c9 => ?_)
            · have hcan : canM (p0 = 2) (fsg x) := Or.inl (mark_sgO.1.mpr (fun q8 => by rw [← w5] at q8; have q7 := c9; have q6 := c8; simp only [i3_le, i3_lt, Int32.reduceToInt] at q6 q7 q8; omega))
              obtain ⟨x10, ex10⟩ : ∃ yy_ : Int32, yy_ = (nI x) + 1 := ⟨_, rfl⟩
              refine lv_iinc (v := x10) (lv' := [(4, .int x10), (5, .int r6), (3, .int 4), (0, .ref pad), (1, .int p0), (2, .int (nI k))]) hx hb dX2_firstWrong_62 hl (k := 1) rfl (by rw [ex10]; rfl) (by decide) rfl (fun ls hl => ?_)
              obtain rfl : x10 = nI (x + 1) := by rw [ex10]; exact nI_add x 1
              refine lv_goto (tgt := 25) hx hb dX2_firstWrong_65 (by decide) ?_
              refine ih25 (x + 1) ⟨?_, ?_, ?_⟩ (by first | omega | (dsimp only; omega)) H locs ls (hP.sub [0, 1, 2] rfl) (hD.sub [0, 1, 2] (by decide) rfl) hS (lv_sub hl [0, 2, 3, 4, 5] rfl)
              · try dsimp only
                omega
              · try dsimp only
                rw [hfm, show pm - x = (pm - (x + 1)) + 1 by omega, fmF_go (by omega) hcan]
              · try dsimp only
                omega
            · refine lv_iload hx hb dX2_firstWrong_59 (lv_at hl 1 rfl) ?_
              have hP9 := (hP.sub (ws' := [(pad, .inr (0, [.ref sg, .ref sl, .int (nI pm)])), (sg, .inl (gI G, 40, .inl fsg)), (sl, .inl (gI G, 10, .inl fsl))]) [0, 1, 2] rfl)
              have hD9 := (hD.sub (ws' := [(pad, .inr (0, [.ref sg, .ref sl, .int (nI pm)])), (sg, .inl (gI G, 40, .inl fsg)), (sl, .inl (gI G, 10, .inl fsl))]) [0, 1, 2] (by decide) rfl)
              exact W.iret (v := (nI x)) hx hb hr (fun t9_ ht9_ hW9_ => ⟨⟨nI x, (), rfl, ⟨fun q9 => absurd q9 c1, fun _ => by rw [hfm, show pm - x = (pm - (x + 1)) + 1 by omega]; exact (fmF_stop (Or.inr (fun q9 => q9.elim (fun q8 => (mark_sgO.1.mp q8) (Or.inr (by rw [← w5]; have q6 := c9; simp only [i3_le, i3_lt, Int32.reduceToInt] at q6 ⊢; omega))) (fun q8 => absurd q8.1 c2)))).symm⟩, by rw [ht9_]; exact hP9, hD9⟩, hS.F ht9_⟩) hS.2.2 dX2_firstWrong_61
    · refine lv_iconst (v := 5) hx hb dX2_firstWrong_16 (by decide) ?_
      refine lv_goto (tgt := 21) hx hb dX2_firstWrong_17 (by decide) ?_
      refine lv_istore_n (lv' := [(3, .int 5), (0, .ref pad), (1, .int p0), (2, .int (nI k))]) hx hb dX2_firstWrong_21 rfl hl (by decide) rfl (fun ls hl => ?_)
      refine lv_iconst (v := 0) hx hb dX2_firstWrong_22 (by decide) ?_
      refine lv_istore (lv' := [(4, .int 0), (3, .int 5), (0, .ref pad), (1, .int p0), (2, .int (nI k))]) hx hb dX2_firstWrong_23 hl (by decide) rfl (fun ls hl => ?_)
      refine lp_run (x0 := 0) (fun x : Nat => [(pad, .inr (0, [.ref sg, .ref sl, .int (nI pm)])), (sg, .inl (gI G, 40, .inl fsg)), (sl, .inl (gI G, 10, .inl fsl))]) (fun x : Nat => [(4, .int (nI x)), (3, .int 5), (0, .ref pad), (1, .int p0), (2, .int (nI k))]) (fun x : Nat => (x ≤ pm) ∧ (fmF fsg pm k (p0 = 2) pm 0 = fmF fsg pm k (p0 = 2) (pm - x) x) ∧ (x ≤ k)) (fun x : Nat => pm - x) (hP.sub [0, 1, 2] rfl) (hD.sub [0, 1, 2] (by decide) rfl) hS (lv_sub hl [0, 1, 2, 3, 4] rfl) ⟨(by omega), by rw [Nat.sub_zero], by omega⟩ ?_
      intro xx_ hI ih25 H locs ls hP hD hS hl
      obtain ⟨x, rfl⟩ : ∃ zz_, zz_ = xx_ := ⟨_, rfl⟩
      obtain ⟨hx0, hfm, hxk⟩ := hI
      have hl : lv_has ls 6 [(4, .int (nI x)), (3, .int 5), (0, .ref pad), (1, .int p0), (2, .int (nI k))] := hl
      have hP : va_P G.1 vwCl ([(pad, .inr (0, [.ref sg, .ref sl, .int (nI pm)])), (sg, .inl (gI G, 40, .inl fsg)), (sl, .inl (gI G, 10, .inl fsl))]) H := hP
      have hD : va_D A ([(pad, .inr (0, [.ref sg, .ref sl, .int (nI pm)])), (sg, .inl (gI G, 40, .inl fsg)), (sl, .inl (gI G, 10, .inl fsl))]) := hD
      refine lv_iload hx hb dX2_firstWrong_25 (lv_at hl 0 rfl) ?_
      refine lv_aload_n hx hb dX2_firstWrong_27 rfl (lv_at hl 2 rfl) ?_
      refine va_get (D := G.1) (ci := 0) (v := .int (nI pm)) (C := RX2) (T := TX2) (N := 3) hx hb hts (fun _ h => List.mem_cons_of_mem _ (List.mem_append_right _ h)) hown E.K hP 0 rfl rfl 2 (by decide) (hts (.fieldLink RX2 18 "LastMap$Pad" "length" "I") (by decide +kernel)) (fun _ h9 => h9) rfl dX2_firstWrong_28 ?_
      refine lv_icmp_ge (tgt := 68) hx hb dX2_firstWrong_31 (by decide) (fun c11 => ?_) (fun c11 => ?_)
      · have c11 : pm ≤ x := (nI_leI (a := pm) (b := x) (by omega) (by omega)).mp c11
        refine lv_aload_n hx hb dX2_firstWrong_68 rfl (lv_at hl 2 rfl) ?_
        refine va_get (D := G.1) (ci := 0) (v := .int (nI pm)) (C := RX2) (T := TX2) (N := 3) hx hb hts (fun _ h => List.mem_cons_of_mem _ (List.mem_append_right _ h)) hown E.K hP 0 rfl rfl 2 (by decide) (hts (.fieldLink RX2 18 "LastMap$Pad" "length" "I") (by decide +kernel)) (fun _ h9 => h9) rfl dX2_firstWrong_69 ?_
        refine lv_iload_n hx hb dX2_firstWrong_72 rfl (lv_at hl 4 rfl) ?_
        refine lv_icmp_ge (tgt := 83) hx hb dX2_firstWrong_73 (by decide) (fun c12 => ?_) (fun c12 => ?_)
        · have c12 : k ≤ pm := (nI_leI (a := k) (b := pm) (by omega) (by omega)).mp c12
          refine lv_bipush (v := (-6)) hx hb dX2_firstWrong_83 (by decide) ?_
          have hP9 := (hP.sub (ws' := [(pad, .inr (0, [.ref sg, .ref sl, .int (nI pm)])), (sg, .inl (gI G, 40, .inl fsg)), (sl, .inl (gI G, 10, .inl fsl))]) [0, 1, 2] rfl)
          have hD9 := (hD.sub (ws' := [(pad, .inr (0, [.ref sg, .ref sl, .int (nI pm)])), (sg, .inl (gI G, 40, .inl fsg)), (sl, .inl (gI G, 10, .inl fsl))]) [0, 1, 2] (by decide) rfl)
          exact W.iret (v := (-6)) hx hb hr (fun t9_ ht9_ hW9_ => ⟨⟨(-6), (), rfl, ⟨fun q9 => absurd q9 c1, fun _ => by rw [hfm, show pm - x = 0 by omega]; exact (pIf_f (by omega)).symm⟩, by rw [ht9_]; exact hP9, hD9⟩, hS.F ht9_⟩) hS.2.2 dX2_firstWrong_85
        · have c12 : ¬ k ≤ pm := fun h9_ => c12 ((nI_leI (a := k) (b := pm) (by omega) (by omega)).mpr h9_)
          refine lv_aload_n hx hb dX2_firstWrong_76 rfl (lv_at hl 2 rfl) ?_
          refine va_get (D := G.1) (ci := 0) (v := .int (nI pm)) (C := RX2) (T := TX2) (N := 3) hx hb hts (fun _ h => List.mem_cons_of_mem _ (List.mem_append_right _ h)) hown E.K hP 0 rfl rfl 2 (by decide) (hts (.fieldLink RX2 18 "LastMap$Pad" "length" "I") (by decide +kernel)) (fun _ h9 => h9) rfl dX2_firstWrong_77 ?_
          refine lv_goto (tgt := 85) hx hb dX2_firstWrong_80 (by decide) ?_
          have hP9 := (hP.sub (ws' := [(pad, .inr (0, [.ref sg, .ref sl, .int (nI pm)])), (sg, .inl (gI G, 40, .inl fsg)), (sl, .inl (gI G, 10, .inl fsl))]) [0, 1, 2] rfl)
          have hD9 := (hD.sub (ws' := [(pad, .inr (0, [.ref sg, .ref sl, .int (nI pm)])), (sg, .inl (gI G, 40, .inl fsg)), (sl, .inl (gI G, 10, .inl fsl))]) [0, 1, 2] (by decide) rfl)
          exact W.iret (v := (nI pm)) hx hb hr (fun t9_ ht9_ hW9_ => ⟨⟨nI pm, (), rfl, ⟨fun q9 => absurd q9 c1, fun _ => by rw [hfm, show pm - x = 0 by omega]; exact (pIf_t (by omega)).symm⟩, by rw [ht9_]; exact hP9, hD9⟩, hS.F ht9_⟩) hS.2.2 dX2_firstWrong_85
      · have c11 : ¬ pm ≤ x := fun h9_ => c11 ((nI_leI (a := pm) (b := x) (by omega) (by omega)).mpr h9_)
        refine lv_aload_n hx hb dX2_firstWrong_34 rfl (lv_at hl 2 rfl) ?_
        refine lv_iload hx hb dX2_firstWrong_35 (lv_at hl 0 rfl) ?_
        refine ca_iR (va_runV (As := [.int (nI x)]) (rest := []) ⟨hx, hb, hml, hown, hts⟩ (n_padMark l G H.size pad sg sl pm fsg fsl x (by omega) (by omega)) (cwV 1 hts gX2_firstWrong_X2_markAt rfl rfl rfl (by decide +kernel) ⟨by decide +kernel, by decide +kernel⟩) (pre_V E hP hD hS hA [0, 1, 2] (by decide) rfl 0 0 rfl rfl) rfl rfl hl.1 rfl (lv_room (Nat.le_of_ble_eq_true rfl)) dX2_firstWrong_37 ⟨by decide +kernel, by decide +kernel⟩) hS hP hD hA [0, 1, 2] rfl (fun r14 _ H locs w13 hP hS => ?_)
        refine lv_istore (lv' := [(5, .int r14), (4, .int (nI x)), (3, .int 5), (0, .ref pad), (1, .int p0), (2, .int (nI k))]) hx hb dX2_firstWrong_40 hl (by decide) rfl (fun ls hl => ?_)
        refine lv_iload hx hb dX2_firstWrong_42 (lv_at hl 1 rfl) ?_
        refine lv_iload_n hx hb dX2_firstWrong_44 rfl (lv_at hl 5 rfl) ?_
        refine lv_icmp_ge (tgt := 59) hx hb dX2_firstWrong_45 (by decide) (fun c15 => ?_) (fun c15 => ?_)
        · have c15 : k ≤ x := (nI_leI (a := k) (b := x) (by omega) (by omega)).mp c15
          refine lv_iload hx hb dX2_firstWrong_59 (lv_at hl 1 rfl) ?_
          have hP9 := (hP.sub (ws' := [(pad, .inr (0, [.ref sg, .ref sl, .int (nI pm)])), (sg, .inl (gI G, 40, .inl fsg)), (sl, .inl (gI G, 10, .inl fsl))]) [0, 1, 2] rfl)
          have hD9 := (hD.sub (ws' := [(pad, .inr (0, [.ref sg, .ref sl, .int (nI pm)])), (sg, .inl (gI G, 40, .inl fsg)), (sl, .inl (gI G, 10, .inl fsl))]) [0, 1, 2] (by decide) rfl)
          exact W.iret (v := (nI x)) hx hb hr (fun t9_ ht9_ hW9_ => ⟨⟨nI x, (), rfl, ⟨fun q9 => absurd q9 c1, fun _ => by rw [hfm, show pm - x = (pm - (x + 1)) + 1 by omega]; exact (fmF_stop (Or.inl (by omega))).symm⟩, by rw [ht9_]; exact hP9, hD9⟩, hS.F ht9_⟩) hS.2.2 dX2_firstWrong_61
        · have c15 : ¬ k ≤ x := fun h9_ => c15 ((nI_leI (a := k) (b := x) (by omega) (by omega)).mpr h9_)
          refine lv_iload hx hb dX2_firstWrong_48 (lv_at hl 0 rfl) ?_
          refine lv_if_lt (tgt := 59) hx hb dX2_firstWrong_50 (by decide) (fun c16 => ?_) (fun c16 => ?_)
          · refine lv_iload hx hb dX2_firstWrong_59 (lv_at hl 1 rfl) ?_
            have hP9 := (hP.sub (ws' := [(pad, .inr (0, [.ref sg, .ref sl, .int (nI pm)])), (sg, .inl (gI G, 40, .inl fsg)), (sl, .inl (gI G, 10, .inl fsl))]) [0, 1, 2] rfl)
            have hD9 := (hD.sub (ws' := [(pad, .inr (0, [.ref sg, .ref sl, .int (nI pm)])), (sg, .inl (gI G, 40, .inl fsg)), (sl, .inl (gI G, 10, .inl fsl))]) [0, 1, 2] (by decide) rfl)
            exact W.iret (v := (nI x)) hx hb hr (fun t9_ ht9_ hW9_ => ⟨⟨nI x, (), rfl, ⟨fun q9 => absurd q9 c1, fun _ => by rw [hfm, show pm - x = (pm - (x + 1)) + 1 by omega]; exact (fmF_stop (Or.inr (fun q9 => q9.elim (fun q8 => (mark_sgO.1.mp q8) (Or.inl (by rw [← w13]; exact c16))) (fun q8 => (by have q5 := mark_sgO.2.2.mp q8.2; rw [← w13] at q5; have q6 := c16; simp only [i3_le, i3_lt, i3_eq, Int32.reduceToInt] at q5 q6; omega))))).symm⟩, by rw [ht9_]; exact hP9, hD9⟩, hS.F ht9_⟩) hS.2.2 dX2_firstWrong_61
          · refine lv_iload hx hb dX2_firstWrong_53 (lv_at hl 0 rfl) ?_
            refine lv_iload_n hx hb dX2_firstWrong_55 rfl (lv_at hl 2 rfl) ?_
            refine lv_icmp_le (tgt := 62) hx hb dX2_firstWrong_56 (by decide) (fun c17 => ?_) (fun c17 => ?_)
            · have hcan : canM (p0 = 2) (fsg x) := (Classical.em (num (fsg x) = 5)).elim (fun q9 => Or.inr ⟨c2, mark_sgO.2.2.mpr q9⟩) (fun q9 => Or.inl (mark_sgO.1.mpr (fun q8 => by rw [← w13] at q8 q9; have q7 := c17; have q6 := c16; simp only [i3_le, i3_lt, i3_eq, Int32.reduceToInt] at q6 q7 q8 q9; omega)))
              obtain ⟨x18, ex18⟩ : ∃ yy_ : Int32, yy_ = (nI x) + 1 := ⟨_, rfl⟩
              refine lv_iinc (v := x18) (lv' := [(4, .int x18), (5, .int r14), (3, .int 5), (0, .ref pad), (1, .int p0), (2, .int (nI k))]) hx hb dX2_firstWrong_62 hl (k := 1) rfl (by rw [ex18]; rfl) (by decide) rfl (fun ls hl => ?_)
              obtain rfl : x18 = nI (x + 1) := by rw [ex18]; exact nI_add x 1
              refine lv_goto (tgt := 25) hx hb dX2_firstWrong_65 (by decide) ?_
              refine ih25 (x + 1) ⟨?_, ?_, ?_⟩ (by first | omega | (dsimp only; omega)) H locs ls (hP.sub [0, 1, 2] rfl) (hD.sub [0, 1, 2] (by decide) rfl) hS (lv_sub hl [0, 2, 3, 4, 5] rfl)
              · try dsimp only
                omega
              · try dsimp only
                rw [hfm, show pm - x = (pm - (x + 1)) + 1 by omega, fmF_go (by omega) hcan]
              · try dsimp only
                omega
            · refine lv_iload hx hb dX2_firstWrong_59 (lv_at hl 1 rfl) ?_
              have hP9 := (hP.sub (ws' := [(pad, .inr (0, [.ref sg, .ref sl, .int (nI pm)])), (sg, .inl (gI G, 40, .inl fsg)), (sl, .inl (gI G, 10, .inl fsl))]) [0, 1, 2] rfl)
              have hD9 := (hD.sub (ws' := [(pad, .inr (0, [.ref sg, .ref sl, .int (nI pm)])), (sg, .inl (gI G, 40, .inl fsg)), (sl, .inl (gI G, 10, .inl fsl))]) [0, 1, 2] (by decide) rfl)
              exact W.iret (v := (nI x)) hx hb hr (fun t9_ ht9_ hW9_ => ⟨⟨nI x, (), rfl, ⟨fun q9 => absurd q9 c1, fun _ => by rw [hfm, show pm - x = (pm - (x + 1)) + 1 by omega]; exact (fmF_stop (Or.inr (fun q9 => q9.elim (fun q8 => (mark_sgO.1.mp q8) (Or.inr (by rw [← w13]; have q6 := c17; simp only [i3_le, i3_lt, Int32.reduceToInt] at q6 ⊢; omega))) (fun q8 => (by have q5 := mark_sgO.2.2.mp q8.2; rw [← w13] at q5; have q6 := c17; simp only [i3_le, i3_lt, i3_eq, Int32.reduceToInt] at q5 q6; omega))))).symm⟩, by rw [ht9_]; exact hP9, hD9⟩, hS.F ht9_⟩) hS.2.2 dX2_firstWrong_61
  · refine lv_aload_n hx hb dX2_firstWrong_5 rfl (lv_at hl 0 rfl) ?_
    refine lv_iload_n hx hb dX2_firstWrong_6 rfl (lv_at hl 2 rfl) ?_
    refine ca_iR (va_runV (As := [.int (nI k)]) (rest := []) ⟨hx, hb, hml, hown, hts⟩ (n_fwSlips l G s.heap.size pad sg sl pm fsg fsl k hk2 hk6 (by omega)) (cwV 1 hts gX2_firstWrong_X2_firstWrongOfSlips rfl rfl rfl (by decide +kernel) ⟨by decide +kernel, by decide +kernel⟩) (pre_V E hP hD hS hA [0, 1, 2] (by decide) rfl 0 0 rfl rfl) rfl rfl hl.1 rfl (lv_room (Nat.le_of_ble_eq_true rfl)) dX2_firstWrong_7 ⟨by decide +kernel, by decide +kernel⟩) hS hP hD hA [0, 1, 2] rfl (fun r20 _ H locs w19 hP hS => ?_)
    have hP9 := (hP.sub (ws' := [(pad, .inr (0, [.ref sg, .ref sl, .int (nI pm)])), (sg, .inl (gI G, 40, .inl fsg)), (sl, .inl (gI G, 10, .inl fsl))]) [0, 1, 2] rfl)
    have hD9 := (hD.sub (ws' := [(pad, .inr (0, [.ref sg, .ref sl, .int (nI pm)])), (sg, .inl (gI G, 40, .inl fsg)), (sl, .inl (gI G, 10, .inl fsl))]) [0, 1, 2] (by decide) rfl)
    exact W.iret (v := r20) hx hb hr (fun t9_ ht9_ hW9_ => ⟨⟨r20, (), rfl, ⟨fun _ => w19, fun q9 => absurd c1 q9⟩, by rw [ht9_]; exact hP9, hD9⟩, hS.F ht9_⟩) hS.2.2 dX2_firstWrong_10
