theorem same_upd {k to : Nat} {fs : Nat → Int32} {v : Int32} (h : fS k fs to < 0) : ∀ x, x < 5 ^ k → ¬ fS k fs x < 0 → fS k (upd fs (sc k to) v) x = fS k fs x := fun x _ hx => fS_un (fun e => hx (by rw [e]; exact h))
theorem mono_of {k : Nat} {fs gs : Nat → Int32} (h : ∀ x, x < 5 ^ k → ¬ fS k fs x < 0 → fS k gs x = fS k fs x) : ∀ x, x < 5 ^ k → ¬ fS k fs x < 0 → ¬ fS k gs x < 0 := fun x hx hn => by rw [h x hx hn]; exact hn
theorem met_of {k y c x : Nat} {b : Nat → Bool} {S : Nat → Prop} {fs fq : Nat → Int32} (h : BK k b S y c fs fq) (hx : x < 5 ^ k) (hn : ¬ fS k fs x = (-6)) : ¬ fS k fs x < 0 := by
  rcases h.2.1 x hx with e | ⟨i, hi, ei⟩
  · exact absurd e hn
  · rw [← ei]; exact (h.1 i hi).2.2
theorem metG_of {k c x : Nat} {S : Nat → Prop} {fs fq : Nat → Int32} (h : BG k S c fs fq) (hx : x < 5 ^ k) (hn : ¬ fS k fs x = (-6)) : ¬ fS k fs x < 0 := by
  rcases h.2.1 x hx with ⟨e, -⟩ | ⟨e, -⟩
  · exact absurd e hn
  · rw [e]; decide

set_option maxHeartbeats 1000000 in
set_option maxRecDepth 100000 in
theorem n_reach (l : Launch) (G : Gy) (sz : Nat) (t : Nat) (ta : Nat) (tq : Nat) (k : Nat) (cq : Nat) (se : Int32) (go : Int32) (ki : Int32) (fs : Nat → Int32) (fq : Nat → Int32) (yq : Nat) (to : Nat) (dv : Nat) (b : Nat → Bool) (S : Nat → Prop) (hk6 : k ≤ 6) (hto : to < 5 ^ k) (hbk : BK k b S yq cq fs fq) (hy : yq < cq) (hst : ∃ t, stp k b t to (nQ k fq yq)) (hdv : dv = tN (fS k fs) (nQ k fq yq) + 1) (hd72 : dv ≤ 73) : Cv l G yX7_reach wsX7_reach ({ frames := 0, cells := 0, slots := 0, locals := 0 }) [.ref t, .int (nI (sc k to)), .int (nI dv)] ([(t, .inr (3, [.ref ta, .ref tq, .int (nI cq), .int se, .int go, .int ki, .int (nI k)])), (ta, .inl (gB G, 15625, .inl fs)), (tq, .inl (gI G, 15625, .inl fq))]) sz (fun (u : Nat × (Nat → Int32) × (Nat → Int32)) => match u with | (cq1, fs1, fq1) => BK k b S yq cq1 fs1 fq1 ∧ (∀ x, x < 5 ^ k → ¬ fS k fs x < 0 → fS k fs1 x = fS k fs x) ∧ ¬ fS k fs1 to < 0 ∧ nQ k fq1 yq = nQ k fq yq ∧ cq ≤ cq1) (fun (u : Nat × (Nat → Int32) × (Nat → Int32)) => match u with | (cq1, fs1, fq1) => [(t, .inr (3, [.ref ta, .ref tq, .int (nI cq1), .int se, .int go, .int ki, .int (nI k)])), (ta, .inl (gB G, 15625, .inl fs1)), (tq, .inl (gI G, 15625, .inl fq1))]) 0 0 := by
  refine Met.ofW (cc := cX7_reach) (maxL := 3) (ret := none) (by decide) rfl ?_
  intro p e s m args below meth c s₁ B hml hv
  obtain ⟨rfl, hsz, hP, hD0, E0⟩ := hv
  have hx := B.exec
  have hb := B.bytes
  have hr := B.returns
  have hts := atoms_spec (ws := wsX7_reach) B.pre
  have hown : s.vm.findClass RX7 = some m.cls := findClass_of_methodNamed B.named
  have hlocks := B.notSynchronized
  subst hsz
  have hD := hD0.self (sz := s.heap.size)
  generalize hAe : va_A ([(t, .inr (3, [.ref ta, .ref tq, .int (nI cq), .int se, .int go, .int ki, .int (nI k)])), (ta, .inl (gB G, 15625, .inl fs)), (tq, .inl (gI G, 15625, .inl fq))]) s.heap.size = A at hD E0 ⊢
  have E : EV G A s s.heap := E0
  have hA : ∀ q : Nat, s.heap.size ≤ q → A q := fun q h => by rw [← hAe]; exact Or.inr h
  have hS : va_S A s.heap s.heap [] := va_S.rf
  have hl := lv_entry ([.ref t, .int (nI (sc k to)), .int (nI dv)]) (n := 3) (Nat.le_of_ble_eq_true rfl)
  rw [lg_entry_eq]
  generalize (lg_sl ([.ref t, .int (nI (sc k to)), .int (nI dv)]) ++ List.replicate (3 - (lg_sl ([.ref t, .int (nI (sc k to)), .int (nI dv)])).length) Slot.unset).toArray = ls at hl ⊢
  have hl : lv_has ls 3 [(0, .ref t), (1, .int (nI (sc k to))), (2, .int (nI dv))] := hl
  have hP : va_P G.1 vwCl ([(t, .inr (3, [.ref ta, .ref tq, .int (nI cq), .int se, .int go, .int ki, .int (nI k)])), (ta, .inl (gB G, 15625, .inl fs)), (tq, .inl (gI G, 15625, .inl fq))]) s.heap := hP
  have hsc := sc_lt hk6 hto
  have h15 : (5 : Nat) ^ 6 = 15625 := by decide
  have hal := p5le hk6
  refine lv_iload_n hx hb dX7_reach_0 rfl (lv_at hl 1 rfl) ?_
  refine lv_if_lt (tgt := 24) hx hb dX7_reach_1 (by decide) (fun c1 => absurd c1 (nI_pos (by omega))) (fun c1 => ?_)
  refine lv_iload_n hx hb dX7_reach_4 rfl (lv_at hl 1 rfl) ?_
  refine lv_aload_n hx hb dX7_reach_5 rfl (lv_at hl 0 rfl) ?_
  refine va_get (D := G.1) (ci := 3) (v := .ref ta) (C := RX7) (T := TX7) (N := 7) hx hb hts (fun _ h => List.mem_cons_of_mem _ (List.mem_append_right _ h)) hown E.K hP 0 rfl rfl 0 (by decide) (hts (.fieldLink RX7 11 "LastMap$Table" "slips" "[B") (by decide +kernel)) (fun _ h9 => h9) rfl dX7_reach_6 ?_
  refine va_alen (v := 15625) hx hb E.K hP 1 0 rfl rfl rfl dX7_reach_9 ?_
  refine lv_icmp_ge (tgt := 24) hx hb dX7_reach_10 (by decide) (fun c2 => False.elim (by have q9 := (nI_leI (a := 15625) (b := sc k to) (by omega) (by omega)).mp c2; omega)) (fun c2 => ?_)
  refine lv_aload_n hx hb dX7_reach_13 rfl (lv_at hl 0 rfl) ?_
  refine va_get (D := G.1) (ci := 3) (v := .ref ta) (C := RX7) (T := TX7) (N := 7) hx hb hts (fun _ h => List.mem_cons_of_mem _ (List.mem_append_right _ h)) hown E.K hP 0 rfl rfl 0 (by decide) (hts (.fieldLink RX7 11 "LastMap$Table" "slips" "[B") (by decide +kernel)) (fun _ h9 => h9) rfl dX7_reach_14 ?_
  refine lv_iload_n hx hb dX7_reach_17 rfl (lv_at hl 1 rfl) ?_
  refine va_bald hx hb E.K hP 1 0 rfl rfl (i := nI (sc k to)) (vp_in_nI (by omega) (by decide)) dX7_reach_18 ?_
  refine lv_topi (fun x3 ex3 => ?_)
  refine lv_bipush (v := (-6)) hx hb dX7_reach_19 (by decide) ?_
  refine lv_icmp_eq (tgt := 25) hx hb dX7_reach_21 (by decide) (fun c4 => ?_) (fun c4 => ?_)
  · have hneg : fS k fs to < 0 := by have q9 := c4; rw [ex3, nI_clamp (by omega)] at q9; show fs (sc k to) < 0; rw [q9]; decide
    have hroom : cq < 5 ^ k := BK_room hbk hto hneg
    refine lv_aload_n hx hb dX7_reach_25 rfl (lv_at hl 0 rfl) ?_
    refine va_get (D := G.1) (ci := 3) (v := .int (nI cq)) (C := RX7) (T := TX7) (N := 7) hx hb hts (fun _ h => List.mem_cons_of_mem _ (List.mem_append_right _ h)) hown E.K hP 0 rfl rfl 2 (by decide) (hts (.fieldLink RX7 31 "LastMap$Table" "queued" "I") (by decide +kernel)) (fun _ h9 => h9) rfl dX7_reach_26 ?_
    refine lv_if_lt (tgt := 72) hx hb dX7_reach_29 (by decide) (fun c5 => absurd c5 (nI_pos (by omega))) (fun c5 => ?_)
    refine lv_aload_n hx hb dX7_reach_32 rfl (lv_at hl 0 rfl) ?_
    refine va_get (D := G.1) (ci := 3) (v := .int (nI cq)) (C := RX7) (T := TX7) (N := 7) hx hb hts (fun _ h => List.mem_cons_of_mem _ (List.mem_append_right _ h)) hown E.K hP 0 rfl rfl 2 (by decide) (hts (.fieldLink RX7 31 "LastMap$Table" "queued" "I") (by decide +kernel)) (fun _ h9 => h9) rfl dX7_reach_33 ?_
    refine lv_aload_n hx hb dX7_reach_36 rfl (lv_at hl 0 rfl) ?_
    refine va_get (D := G.1) (ci := 3) (v := .ref tq) (C := RX7) (T := TX7) (N := 7) hx hb hts (fun _ h => List.mem_cons_of_mem _ (List.mem_append_right _ h)) hown E.K hP 0 rfl rfl 1 (by decide) (hts (.fieldLink RX7 17 "LastMap$Table" "queue" "[I") (by decide +kernel)) (fun _ h9 => h9) rfl dX7_reach_37 ?_
    refine va_alen (v := 15625) hx hb E.K hP 2 1 rfl rfl rfl dX7_reach_40 ?_
    refine lv_icmp_ge (tgt := 72) hx hb dX7_reach_41 (by decide) (fun c6 => False.elim (by have q9 := (nI_leI (a := 15625) (b := cq) (by omega) (by omega)).mp c6; omega)) (fun c6 => ?_)
    refine lv_aload_n hx hb dX7_reach_44 rfl (lv_at hl 0 rfl) ?_
    refine va_get (D := G.1) (ci := 3) (v := .ref ta) (C := RX7) (T := TX7) (N := 7) hx hb hts (fun _ h => List.mem_cons_of_mem _ (List.mem_append_right _ h)) hown E.K hP 0 rfl rfl 0 (by decide) (hts (.fieldLink RX7 11 "LastMap$Table" "slips" "[B") (by decide +kernel)) (fun _ h9 => h9) rfl dX7_reach_45 ?_
    refine lv_iload_n hx hb dX7_reach_48 rfl (lv_at hl 1 rfl) ?_
    refine lv_iload_n hx hb dX7_reach_49 rfl (lv_at hl 2 rfl) ?_
    refine lv_i2b hx hb dX7_reach_50 rfl ?_
    refine lv_topi (fun x7 ex7 => ?_)
    refine va_bast hx hb E.K hP hD hS 1 0 rfl rfl (i := nI (sc k to)) (vp_in_nI (by omega) (by decide)) dX7_reach_51 (fun H locs hP hD hS => ?_)
    obtain ⟨f8, ef8⟩ : ∃ yy_ : Nat → Int32, yy_ = upd fs (nI (sc k to)).toNatClampNeg (vp_nar .byte x7) := ⟨_, rfl⟩
    have hP : va_P G.1 vwCl ([(t, .inr (3, [.ref ta, .ref tq, .int (nI cq), .int se, .int go, .int ki, .int (nI k)])), (ta, .inl (gB G, 15625, .inl f8)), (tq, .inl (gI G, 15625, .inl fq))]) H := by rw [ef8]; exact hP
    have hD : va_D A ([(t, .inr (3, [.ref ta, .ref tq, .int (nI cq), .int se, .int go, .int ki, .int (nI k)])), (ta, .inl (gB G, 15625, .inl f8)), (tq, .inl (gI G, 15625, .inl fq))]) := by rw [ef8]; exact hD
    refine lv_aload_n hx hb dX7_reach_52 rfl (lv_at hl 0 rfl) ?_
    refine va_get (D := G.1) (ci := 3) (v := .ref tq) (C := RX7) (T := TX7) (N := 7) hx hb hts (fun _ h => List.mem_cons_of_mem _ (List.mem_append_right _ h)) hown E.K hP 0 rfl rfl 1 (by decide) (hts (.fieldLink RX7 17 "LastMap$Table" "queue" "[I") (by decide +kernel)) (fun _ h9 => h9) rfl dX7_reach_53 ?_
    refine lv_aload_n hx hb dX7_reach_56 rfl (lv_at hl 0 rfl) ?_
    refine va_get (D := G.1) (ci := 3) (v := .int (nI cq)) (C := RX7) (T := TX7) (N := 7) hx hb hts (fun _ h => List.mem_cons_of_mem _ (List.mem_append_right _ h)) hown E.K hP 0 rfl rfl 2 (by decide) (hts (.fieldLink RX7 31 "LastMap$Table" "queued" "I") (by decide +kernel)) (fun _ h9 => h9) rfl dX7_reach_57 ?_
    refine lv_iload_n hx hb dX7_reach_60 rfl (lv_at hl 1 rfl) ?_
    refine va_iast hx hb E.K hP hD hS 2 1 rfl rfl (i := nI cq) (vp_in_nI (by omega) (by decide)) dX7_reach_61 (fun H locs hP hD hS => ?_)
    obtain ⟨f9, ef9⟩ : ∃ yy_ : Nat → Int32, yy_ = upd fq (nI cq).toNatClampNeg (nI (sc k to)) := ⟨_, rfl⟩
    have hP : va_P G.1 vwCl ([(t, .inr (3, [.ref ta, .ref tq, .int (nI cq), .int se, .int go, .int ki, .int (nI k)])), (ta, .inl (gB G, 15625, .inl f8)), (tq, .inl (gI G, 15625, .inl f9))]) H := by rw [ef9]; exact hP
    have hD : va_D A ([(t, .inr (3, [.ref ta, .ref tq, .int (nI cq), .int se, .int go, .int ki, .int (nI k)])), (ta, .inl (gB G, 15625, .inl f8)), (tq, .inl (gI G, 15625, .inl f9))]) := by rw [ef9]; exact hD
    refine lv_aload_n hx hb dX7_reach_62 rfl (lv_at hl 0 rfl) ?_
    refine lv_dup hx hb dX7_reach_63 rfl ?_
    refine va_get (D := G.1) (ci := 3) (v := .int (nI cq)) (C := RX7) (T := TX7) (N := 7) hx hb hts (fun _ h => List.mem_cons_of_mem _ (List.mem_append_right _ h)) hown E.K hP 0 rfl rfl 2 (by decide) (hts (.fieldLink RX7 31 "LastMap$Table" "queued" "I") (by decide +kernel)) (fun _ h9 => h9) rfl dX7_reach_64 ?_
    refine lv_iconst (v := 1) hx hb dX7_reach_67 (by decide) ?_
    refine lv_iadd hx hb dX7_reach_68 ?_
    refine lv_topi (fun x10 ex10 => ?_)
    obtain rfl : x10 = nI (cq + 1) := by rw [ex10]; exact nI_add cq 1
    refine va_put (D := G.1) (ci := 3) (v := .int (nI (cq + 1))) (ty := .int) (C := RX7) (T := TX7) (N := 7) hx hb hts (fun _ h => List.mem_cons_of_mem _ (List.mem_append_right _ h)) tyX7 tyX7_ok nmX7 hown E.K hP hD hS 0 rfl rfl 2 (by decide) (hts (.fieldLink RX7 31 "LastMap$Table" "queued" "I") (by decide +kernel)) (fun _ h9 => h9) rfl (by decide +kernel) rfl rfl (Nat.le_of_ble_eq_true rfl) dX7_reach_69 (fun H locs hP hD hS => ?_)
    have hP : va_P G.1 vwCl ([(t, .inr (3, [.ref ta, .ref tq, .int (nI (cq + 1)), .int se, .int go, .int ki, .int (nI k)])), (ta, .inl (gB G, 15625, .inl f8)), (tq, .inl (gI G, 15625, .inl f9))]) H := hP
    have hD : va_D A ([(t, .inr (3, [.ref ta, .ref tq, .int (nI (cq + 1)), .int se, .int go, .int ki, .int (nI k)])), (ta, .inl (gB G, 15625, .inl f8)), (tq, .inl (gI G, 15625, .inl f9))]) := hD
    have hfs : f8 = upd fs (sc k to) (nI dv) := by rw [ef8, nI_clamp (by omega), ex7]; exact congrArg (upd fs (sc k to)) (byte_id dv (by omega))
    have hfq : f9 = upd fq cq (nI (sc k to)) := by rw [ef9, nI_clamp (by omega)]
    have hP9 := (hP.sub (ws' := [(t, .inr (3, [.ref ta, .ref tq, .int (nI (cq + 1)), .int se, .int go, .int ki, .int (nI k)])), (ta, .inl (gB G, 15625, .inl f8)), (tq, .inl (gI G, 15625, .inl f9))]) [0, 1, 2] rfl)
    have hD9 := (hD.sub (ws' := [(t, .inr (3, [.ref ta, .ref tq, .int (nI (cq + 1)), .int se, .int go, .int ki, .int (nI k)])), (ta, .inl (gB G, 15625, .inl f8)), (tq, .inl (gI G, 15625, .inl f9))]) [0, 1, 2] (by decide) rfl)
    exact W.vret hx hb hr (fun t9_ ht9_ hW9_ => ⟨⟨((cq + 1), f8, f9), rfl, by obtain ⟨t9, ht9⟩ := hst; rw [hfs, hfq]; exact ⟨by rw [hdv]; exact BK_add hk6 hbk hy hto ht9 hneg, same_upd hneg, by rw [fS_us]; exact nI_pos (by omega), nQ_un (by omega), by omega⟩, by rw [ht9_]; exact hP9, hD9⟩, hS.F ht9_⟩) hS.2.2 dX7_reach_72
  · have hP9 := (hP.sub (ws' := [(t, .inr (3, [.ref ta, .ref tq, .int (nI cq), .int se, .int go, .int ki, .int (nI k)])), (ta, .inl (gB G, 15625, .inl fs)), (tq, .inl (gI G, 15625, .inl fq))]) [0, 1, 2] rfl)
    have hD9 := (hD.sub (ws' := [(t, .inr (3, [.ref ta, .ref tq, .int (nI cq), .int se, .int go, .int ki, .int (nI k)])), (ta, .inl (gB G, 15625, .inl fs)), (tq, .inl (gI G, 15625, .inl fq))]) [0, 1, 2] (by decide) rfl)
    exact W.vret hx hb hr (fun t9_ ht9_ hW9_ => ⟨⟨(cq, fs, fq), rfl, ⟨hbk, fun _ _ _ => rfl, met_of hbk hto (by intro q9; exact c4 (by rw [ex3, nI_clamp (by omega)]; exact q9)), rfl, Nat.le_refl _⟩, by rw [ht9_]; exact hP9, hD9⟩, hS.F ht9_⟩) hS.2.2 dX7_reach_24

set_option maxHeartbeats 1000000 in
set_option maxRecDepth 100000 in
theorem n_reach0 (l : Launch) (G : Gy) (sz : Nat) (t : Nat) (ta : Nat) (tq : Nat) (k : Nat) (cq : Nat) (se : Int32) (go : Int32) (ki : Int32) (fs : Nat → Int32) (fq : Nat → Int32) (to : Nat) (S : Nat → Prop) (hk6 : k ≤ 6) (hto : to < 5 ^ k) (hbg : BG k S cq fs fq) (hSt : S to) : Cv l G yX7_reach wsX7_reach ({ frames := 0, cells := 0, slots := 0, locals := 0 }) [.ref t, .int (nI (sc k to)), .int 0] ([(t, .inr (3, [.ref ta, .ref tq, .int (nI cq), .int se, .int go, .int ki, .int (nI k)])), (ta, .inl (gB G, 15625, .inl fs)), (tq, .inl (gI G, 15625, .inl fq))]) sz (fun (u : Nat × (Nat → Int32) × (Nat → Int32)) => match u with | (cq1, fs1, fq1) => BG k S cq1 fs1 fq1 ∧ (∀ x, x < 5 ^ k → ¬ fS k fs x < 0 → fS k fs1 x = fS k fs x) ∧ ¬ fS k fs1 to < 0) (fun (u : Nat × (Nat → Int32) × (Nat → Int32)) => match u with | (cq1, fs1, fq1) => [(t, .inr (3, [.ref ta, .ref tq, .int (nI cq1), .int se, .int go, .int ki, .int (nI k)])), (ta, .inl (gB G, 15625, .inl fs1)), (tq, .inl (gI G, 15625, .inl fq1))]) 0 0 := by
  refine Met.ofW (cc := cX7_reach) (maxL := 3) (ret := none) (by decide) rfl ?_
  intro p e s m args below meth c s₁ B hml hv
  obtain ⟨rfl, hsz, hP, hD0, E0⟩ := hv
  have hx := B.exec
  have hb := B.bytes
  have hr := B.returns
  have hts := atoms_spec (ws := wsX7_reach) B.pre
  have hown : s.vm.findClass RX7 = some m.cls := findClass_of_methodNamed B.named
  have hlocks := B.notSynchronized
  subst hsz
  have hD := hD0.self (sz := s.heap.size)
  generalize hAe : va_A ([(t, .inr (3, [.ref ta, .ref tq, .int (nI cq), .int se, .int go, .int ki, .int (nI k)])), (ta, .inl (gB G, 15625, .inl fs)), (tq, .inl (gI G, 15625, .inl fq))]) s.heap.size = A at hD E0 ⊢
  have E : EV G A s s.heap := E0
  have hA : ∀ q : Nat, s.heap.size ≤ q → A q := fun q h => by rw [← hAe]; exact Or.inr h
  have hS : va_S A s.heap s.heap [] := va_S.rf
  have hl := lv_entry ([.ref t, .int (nI (sc k to)), .int 0]) (n := 3) (Nat.le_of_ble_eq_true rfl)
  rw [lg_entry_eq]
  generalize (lg_sl ([.ref t, .int (nI (sc k to)), .int 0]) ++ List.replicate (3 - (lg_sl ([.ref t, .int (nI (sc k to)), .int 0])).length) Slot.unset).toArray = ls at hl ⊢
  have hl : lv_has ls 3 [(0, .ref t), (1, .int (nI (sc k to))), (2, .int 0)] := hl
  have hP : va_P G.1 vwCl ([(t, .inr (3, [.ref ta, .ref tq, .int (nI cq), .int se, .int go, .int ki, .int (nI k)])), (ta, .inl (gB G, 15625, .inl fs)), (tq, .inl (gI G, 15625, .inl fq))]) s.heap := hP
  have hsc := sc_lt hk6 hto
  have h15 : (5 : Nat) ^ 6 = 15625 := by decide
  have hal := p5le hk6
  refine lv_iload_n hx hb dX7_reach_0 rfl (lv_at hl 1 rfl) ?_
  refine lv_if_lt (tgt := 24) hx hb dX7_reach_1 (by decide) (fun c1 => absurd c1 (nI_pos (by omega))) (fun c1 => ?_)
  refine lv_iload_n hx hb dX7_reach_4 rfl (lv_at hl 1 rfl) ?_
  refine lv_aload_n hx hb dX7_reach_5 rfl (lv_at hl 0 rfl) ?_
  refine va_get (D := G.1) (ci := 3) (v := .ref ta) (C := RX7) (T := TX7) (N := 7) hx hb hts (fun _ h => List.mem_cons_of_mem _ (List.mem_append_right _ h)) hown E.K hP 0 rfl rfl 0 (by decide) (hts (.fieldLink RX7 11 "LastMap$Table" "slips" "[B") (by decide +kernel)) (fun _ h9 => h9) rfl dX7_reach_6 ?_
  refine va_alen (v := 15625) hx hb E.K hP 1 0 rfl rfl rfl dX7_reach_9 ?_
  refine lv_icmp_ge (tgt := 24) hx hb dX7_reach_10 (by decide) (fun c2 => False.elim (by have q9 := (nI_leI (a := 15625) (b := sc k to) (by omega) (by omega)).mp c2; omega)) (fun c2 => ?_)
  refine lv_aload_n hx hb dX7_reach_13 rfl (lv_at hl 0 rfl) ?_
  refine va_get (D := G.1) (ci := 3) (v := .ref ta) (C := RX7) (T := TX7) (N := 7) hx hb hts (fun _ h => List.mem_cons_of_mem _ (List.mem_append_right _ h)) hown E.K hP 0 rfl rfl 0 (by decide) (hts (.fieldLink RX7 11 "LastMap$Table" "slips" "[B") (by decide +kernel)) (fun _ h9 => h9) rfl dX7_reach_14 ?_
  refine lv_iload_n hx hb dX7_reach_17 rfl (lv_at hl 1 rfl) ?_
  refine va_bald hx hb E.K hP 1 0 rfl rfl (i := nI (sc k to)) (vp_in_nI (by omega) (by decide)) dX7_reach_18 ?_
  refine lv_topi (fun x3 ex3 => ?_)
  refine lv_bipush (v := (-6)) hx hb dX7_reach_19 (by decide) ?_
  refine lv_icmp_eq (tgt := 25) hx hb dX7_reach_21 (by decide) (fun c4 => ?_) (fun c4 => ?_)
  · have hneg : fS k fs to < 0 := by have q9 := c4; rw [ex3, nI_clamp (by omega)] at q9; show fs (sc k to) < 0; rw [q9]; decide
    have hroom : cq < 5 ^ k := BG_room hbg hto hneg
    refine lv_aload_n hx hb dX7_reach_25 rfl (lv_at hl 0 rfl) ?_
    refine va_get (D := G.1) (ci := 3) (v := .int (nI cq)) (C := RX7) (T := TX7) (N := 7) hx hb hts (fun _ h => List.mem_cons_of_mem _ (List.mem_append_right _ h)) hown E.K hP 0 rfl rfl 2 (by decide) (hts (.fieldLink RX7 31 "LastMap$Table" "queued" "I") (by decide +kernel)) (fun _ h9 => h9) rfl dX7_reach_26 ?_
    refine lv_if_lt (tgt := 72) hx hb dX7_reach_29 (by decide) (fun c5 => absurd c5 (nI_pos (by omega))) (fun c5 => ?_)
    refine lv_aload_n hx hb dX7_reach_32 rfl (lv_at hl 0 rfl) ?_
    refine va_get (D := G.1) (ci := 3) (v := .int (nI cq)) (C := RX7) (T := TX7) (N := 7) hx hb hts (fun _ h => List.mem_cons_of_mem _ (List.mem_append_right _ h)) hown E.K hP 0 rfl rfl 2 (by decide) (hts (.fieldLink RX7 31 "LastMap$Table" "queued" "I") (by decide +kernel)) (fun _ h9 => h9) rfl dX7_reach_33 ?_
    refine lv_aload_n hx hb dX7_reach_36 rfl (lv_at hl 0 rfl) ?_
    refine va_get (D := G.1) (ci := 3) (v := .ref tq) (C := RX7) (T := TX7) (N := 7) hx hb hts (fun _ h => List.mem_cons_of_mem _ (List.mem_append_right _ h)) hown E.K hP 0 rfl rfl 1 (by decide) (hts (.fieldLink RX7 17 "LastMap$Table" "queue" "[I") (by decide +kernel)) (fun _ h9 => h9) rfl dX7_reach_37 ?_
    refine va_alen (v := 15625) hx hb E.K hP 2 1 rfl rfl rfl dX7_reach_40 ?_
    refine lv_icmp_ge (tgt := 72) hx hb dX7_reach_41 (by decide) (fun c6 => False.elim (by have q9 := (nI_leI (a := 15625) (b := cq) (by omega) (by omega)).mp c6; omega)) (fun c6 => ?_)
    refine lv_aload_n hx hb dX7_reach_44 rfl (lv_at hl 0 rfl) ?_
    refine va_get (D := G.1) (ci := 3) (v := .ref ta) (C := RX7) (T := TX7) (N := 7) hx hb hts (fun _ h => List.mem_cons_of_mem _ (List.mem_append_right _ h)) hown E.K hP 0 rfl rfl 0 (by decide) (hts (.fieldLink RX7 11 "LastMap$Table" "slips" "[B") (by decide +kernel)) (fun _ h9 => h9) rfl dX7_reach_45 ?_
    refine lv_iload_n hx hb dX7_reach_48 rfl (lv_at hl 1 rfl) ?_
    refine lv_iload_n hx hb dX7_reach_49 rfl (lv_at hl 2 rfl) ?_
    refine lv_i2b hx hb dX7_reach_50 rfl ?_
    refine lv_topi (fun x7 ex7 => ?_)
    refine va_bast hx hb E.K hP hD hS 1 0 rfl rfl (i := nI (sc k to)) (vp_in_nI (by omega) (by decide)) dX7_reach_51 (fun H locs hP hD hS => ?_)
    obtain ⟨f8, ef8⟩ : ∃ yy_ : Nat → Int32, yy_ = upd fs (nI (sc k to)).toNatClampNeg (vp_nar .byte x7) := ⟨_, rfl⟩
    have hP : va_P G.1 vwCl ([(t, .inr (3, [.ref ta, .ref tq, .int (nI cq), .int se, .int go, .int ki, .int (nI k)])), (ta, .inl (gB G, 15625, .inl f8)), (tq, .inl (gI G, 15625, .inl fq))]) H := by rw [ef8]; exact hP
    have hD : va_D A ([(t, .inr (3, [.ref ta, .ref tq, .int (nI cq), .int se, .int go, .int ki, .int (nI k)])), (ta, .inl (gB G, 15625, .inl f8)), (tq, .inl (gI G, 15625, .inl fq))]) := by rw [ef8]; exact hD
    refine lv_aload_n hx hb dX7_reach_52 rfl (lv_at hl 0 rfl) ?_
    refine va_get (D := G.1) (ci := 3) (v := .ref tq) (C := RX7) (T := TX7) (N := 7) hx hb hts (fun _ h => List.mem_cons_of_mem _ (List.mem_append_right _ h)) hown E.K hP 0 rfl rfl 1 (by decide) (hts (.fieldLink RX7 17 "LastMap$Table" "queue" "[I") (by decide +kernel)) (fun _ h9 => h9) rfl dX7_reach_53 ?_
    refine lv_aload_n hx hb dX7_reach_56 rfl (lv_at hl 0 rfl) ?_
    refine va_get (D := G.1) (ci := 3) (v := .int (nI cq)) (C := RX7) (T := TX7) (N := 7) hx hb hts (fun _ h => List.mem_cons_of_mem _ (List.mem_append_right _ h)) hown E.K hP 0 rfl rfl 2 (by decide) (hts (.fieldLink RX7 31 "LastMap$Table" "queued" "I") (by decide +kernel)) (fun _ h9 => h9) rfl dX7_reach_57 ?_
    refine lv_iload_n hx hb dX7_reach_60 rfl (lv_at hl 1 rfl) ?_
    refine va_iast hx hb E.K hP hD hS 2 1 rfl rfl (i := nI cq) (vp_in_nI (by omega) (by decide)) dX7_reach_61 (fun H locs hP hD hS => ?_)
    obtain ⟨f9, ef9⟩ : ∃ yy_ : Nat → Int32, yy_ = upd fq (nI cq).toNatClampNeg (nI (sc k to)) := ⟨_, rfl⟩
    have hP : va_P G.1 vwCl ([(t, .inr (3, [.ref ta, .ref tq, .int (nI cq), .int se, .int go, .int ki, .int (nI k)])), (ta, .inl (gB G, 15625, .inl f8)), (tq, .inl (gI G, 15625, .inl f9))]) H := by rw [ef9]; exact hP
    have hD : va_D A ([(t, .inr (3, [.ref ta, .ref tq, .int (nI cq), .int se, .int go, .int ki, .int (nI k)])), (ta, .inl (gB G, 15625, .inl f8)), (tq, .inl (gI G, 15625, .inl f9))]) := by rw [ef9]; exact hD
    refine lv_aload_n hx hb dX7_reach_62 rfl (lv_at hl 0 rfl) ?_
    refine lv_dup hx hb dX7_reach_63 rfl ?_
    refine va_get (D := G.1) (ci := 3) (v := .int (nI cq)) (C := RX7) (T := TX7) (N := 7) hx hb hts (fun _ h => List.mem_cons_of_mem _ (List.mem_append_right _ h)) hown E.K hP 0 rfl rfl 2 (by decide) (hts (.fieldLink RX7 31 "LastMap$Table" "queued" "I") (by decide +kernel)) (fun _ h9 => h9) rfl dX7_reach_64 ?_
    refine lv_iconst (v := 1) hx hb dX7_reach_67 (by decide) ?_
    refine lv_iadd hx hb dX7_reach_68 ?_
    refine lv_topi (fun x10 ex10 => ?_)
    obtain rfl : x10 = nI (cq + 1) := by rw [ex10]; exact nI_add cq 1
    refine va_put (D := G.1) (ci := 3) (v := .int (nI (cq + 1))) (ty := .int) (C := RX7) (T := TX7) (N := 7) hx hb hts (fun _ h => List.mem_cons_of_mem _ (List.mem_append_right _ h)) tyX7 tyX7_ok nmX7 hown E.K hP hD hS 0 rfl rfl 2 (by decide) (hts (.fieldLink RX7 31 "LastMap$Table" "queued" "I") (by decide +kernel)) (fun _ h9 => h9) rfl (by decide +kernel) rfl rfl (Nat.le_of_ble_eq_true rfl) dX7_reach_69 (fun H locs hP hD hS => ?_)
    have hP : va_P G.1 vwCl ([(t, .inr (3, [.ref ta, .ref tq, .int (nI (cq + 1)), .int se, .int go, .int ki, .int (nI k)])), (ta, .inl (gB G, 15625, .inl f8)), (tq, .inl (gI G, 15625, .inl f9))]) H := hP
    have hD : va_D A ([(t, .inr (3, [.ref ta, .ref tq, .int (nI (cq + 1)), .int se, .int go, .int ki, .int (nI k)])), (ta, .inl (gB G, 15625, .inl f8)), (tq, .inl (gI G, 15625, .inl f9))]) := hD
    have hfs : f8 = upd fs (sc k to) (0) := by rw [ef8, nI_clamp (by omega), ex7]; exact congrArg (upd fs (sc k to)) (by decide)
    have hfq : f9 = upd fq cq (nI (sc k to)) := by rw [ef9, nI_clamp (by omega)]
    have hP9 := (hP.sub (ws' := [(t, .inr (3, [.ref ta, .ref tq, .int (nI (cq + 1)), .int se, .int go, .int ki, .int (nI k)])), (ta, .inl (gB G, 15625, .inl f8)), (tq, .inl (gI G, 15625, .inl f9))]) [0, 1, 2] rfl)
    have hD9 := (hD.sub (ws' := [(t, .inr (3, [.ref ta, .ref tq, .int (nI (cq + 1)), .int se, .int go, .int ki, .int (nI k)])), (ta, .inl (gB G, 15625, .inl f8)), (tq, .inl (gI G, 15625, .inl f9))]) [0, 1, 2] (by decide) rfl)
    exact W.vret hx hb hr (fun t9_ ht9_ hW9_ => ⟨⟨((cq + 1), f8, f9), rfl, by rw [hfs, hfq]; exact ⟨BG_add hk6 hbg hto hSt hneg, same_upd hneg, by rw [fS_us]; decide⟩, by rw [ht9_]; exact hP9, hD9⟩, hS.F ht9_⟩) hS.2.2 dX7_reach_72
  · have hP9 := (hP.sub (ws' := [(t, .inr (3, [.ref ta, .ref tq, .int (nI cq), .int se, .int go, .int ki, .int (nI k)])), (ta, .inl (gB G, 15625, .inl fs)), (tq, .inl (gI G, 15625, .inl fq))]) [0, 1, 2] rfl)
    have hD9 := (hD.sub (ws' := [(t, .inr (3, [.ref ta, .ref tq, .int (nI cq), .int se, .int go, .int ki, .int (nI k)])), (ta, .inl (gB G, 15625, .inl fs)), (tq, .inl (gI G, 15625, .inl fq))]) [0, 1, 2] (by decide) rfl)
    exact W.vret hx hb hr (fun t9_ ht9_ hW9_ => ⟨⟨(cq, fs, fq), rfl, ⟨hbg, fun _ _ _ => rfl, metG_of hbg hto (by intro q9; exact c4 (by rw [ex3, nI_clamp (by omega)]; exact q9))⟩, by rw [ht9_]; exact hP9, hD9⟩, hS.F ht9_⟩) hS.2.2 dX7_reach_24

theorem bK_i {ki x y : Int32} {q : Nat} (h1 : x = ki >>> (nI q &&& 31)) (h2 : y = x &&& 1) : ¬ y = 0 ↔ bK ki q = true := by rw [h2, h1]; exact bK_n

theorem ch_left {k a j : Nat} {b : Nat → Bool} {lf : Int32} {g : Nat} (hlf : (j = 0 ∧ lf = (-1)) ∨ (1 ≤ j ∧ lf = nI (dg k a (j - 1)))) (hg : g = dg k a j) (e : lf = nI g) (hb : b 2 = true) : 1 ≤ j ∧ dg k a (j - 1) = dg k a j ∧ b 2 = true := by
  have h1 := dg_lt k a j
  have h2 := dg_lt k a (j - 1)
  rcases hlf with ⟨-, h⟩ | ⟨h, h3⟩
  · rw [h] at e
    have q2 := congrArg Int32.toInt e
    rw [nI_toInt (by omega)] at q2
    simp only [Int32.reduceToInt] at q2
    omega
  · exact ⟨h, by rw [← hg]; exact (nI_eq (by omega) (by omega)).mp (h3.symm.trans e), hb⟩
theorem ch_eq {k a j : Nat} {lf : Int32} {g : Nat} (hlf : (j = 0 ∧ lf = (-1)) ∨ (1 ≤ j ∧ lf = nI (dg k a (j - 1)))) (hg : g = dg k a j) (h1 : 1 ≤ j) (h2 : dg k a (j - 1) = dg k a j) : lf = nI g := by
  rcases hlf with ⟨h, -⟩ | ⟨-, h⟩
  · omega
  · rw [h, h2, hg]

set_option maxHeartbeats 1000000 in
set_option maxRecDepth 100000 in
theorem n_canHaveMade (l : Launch) (G : Gy) (sz : Nat) (t : Nat) (ta : Nat) (tq : Nat) (k : Nat) (cq : Nat) (se : Int32) (go : Int32) (ki : Int32) (fs : Nat → Int32) (fq : Nat → Int32) (a : Nat) (j : Nat) (g : Nat) (lf : Int32) (hlf : (j = 0 ∧ lf = (-1)) ∨ (1 ≤ j ∧ lf = nI (dg k a (j - 1)))) (hgd : g = dg k a j) (hg5 : g < 5) : Ci l G yX7_canHaveMade wsX7_canHaveMade ({ frames := 0, cells := 0, slots := 0, locals := 0 }) [.ref t, .int lf, .int (nI g)] ([(t, .inr (3, [.ref ta, .ref tq, .int (nI cq), .int se, .int go, .int ki, .int (nI k)])), (ta, .inl (gB G, 15625, .inl fs)), (tq, .inl (gI G, 15625, .inl fq))]) sz (fun (r : Int32) (_ : Unit) => (r = 1 ∧ canP k (bK ki) a j) ∨ (r = 0 ∧ ¬ canP k (bK ki) a j)) (fun (_ : Unit) => [(t, .inr (3, [.ref ta, .ref tq, .int (nI cq), .int se, .int go, .int ki, .int (nI k)])), (ta, .inl (gB G, 15625, .inl fs)), (tq, .inl (gI G, 15625, .inl fq))]) 0 0 := by
  refine Met.ofW (cc := cX7_canHaveMade) (maxL := 3) (ret := (some .boolean)) (by decide) rfl ?_
  intro p e s m args below meth c s₁ B hml hv
  obtain ⟨rfl, hsz, hP, hD0, E0⟩ := hv
  have hx := B.exec
  have hb := B.bytes
  have hr := B.returns
  have hts := atoms_spec (ws := wsX7_canHaveMade) B.pre
  have hown : s.vm.findClass RX7 = some m.cls := findClass_of_methodNamed B.named
  have hlocks := B.notSynchronized
  subst hsz
  have hD := hD0.self (sz := s.heap.size)
  generalize hAe : va_A ([(t, .inr (3, [.ref ta, .ref tq, .int (nI cq), .int se, .int go, .int ki, .int (nI k)])), (ta, .inl (gB G, 15625, .inl fs)), (tq, .inl (gI G, 15625, .inl fq))]) s.heap.size = A at hD E0 ⊢
  have E : EV G A s s.heap := E0
  have hA : ∀ q : Nat, s.heap.size ≤ q → A q := fun q h => by rw [← hAe]; exact Or.inr h
  have hS : va_S A s.heap s.heap [] := va_S.rf
  have hl := lv_entry ([.ref t, .int lf, .int (nI g)]) (n := 3) (Nat.le_of_ble_eq_true rfl)
  rw [lg_entry_eq]
  generalize (lg_sl ([.ref t, .int lf, .int (nI g)]) ++ List.replicate (3 - (lg_sl ([.ref t, .int lf, .int (nI g)])).length) Slot.unset).toArray = ls at hl ⊢
  have hl : lv_has ls 3 [(0, .ref t), (1, .int lf), (2, .int (nI g))] := hl
  have hP : va_P G.1 vwCl ([(t, .inr (3, [.ref ta, .ref tq, .int (nI cq), .int se, .int go, .int ki, .int (nI k)])), (ta, .inl (gB G, 15625, .inl fs)), (tq, .inl (gI G, 15625, .inl fq))]) s.heap := hP
  refine lv_iload_n hx hb dX7_canHaveMade_0 rfl (lv_at hl 1 rfl) ?_
  refine lv_iload_n hx hb dX7_canHaveMade_1 rfl (lv_at hl 2 rfl) ?_
  refine lv_icmp_ne (tgt := 16) hx hb dX7_canHaveMade_2 (by decide) (fun c1 => ?_) (fun c1 => ?_)
  · refine lv_aload_n hx hb dX7_canHaveMade_16 rfl (lv_at hl 0 rfl) ?_
    refine va_get (D := G.1) (ci := 3) (v := .int ki) (C := RX7) (T := TX7) (N := 7) hx hb hts (fun _ h => List.mem_cons_of_mem _ (List.mem_append_right _ h)) hown E.K hP 0 rfl rfl 5 (by decide) (hts (.fieldLink RX7 25 "LastMap$Table" "kinds" "I") (by decide +kernel)) (fun _ h9 => h9) rfl dX7_canHaveMade_17 ?_
    refine lv_iload_n hx hb dX7_canHaveMade_20 rfl (lv_at hl 2 rfl) ?_
    refine lv_iconst (v := 4) hx hb dX7_canHaveMade_21 (by decide) ?_
    refine lv_icmp_ne (tgt := 29) hx hb dX7_canHaveMade_22 (by decide) (fun c2 => ?_) (fun c2 => ?_)
    · have c2 : ¬ g = 4 := fun h9_ => c2 ((nI_eq (a := g) (b := 4) (by omega) (by omega)).mpr h9_)
      refine lv_iconst (v := 0) hx hb dX7_canHaveMade_29 (by decide) ?_
      refine lv_ishr hx hb dX7_canHaveMade_30 ?_
      refine lv_topi (fun x3 ex3 => ?_)
      refine lv_iconst (v := 1) hx hb dX7_canHaveMade_31 (by decide) ?_
      refine lv_iand hx hb dX7_canHaveMade_32 ?_
      refine lv_topi (fun x4 ex4 => ?_)
      refine lv_if_eq (tgt := 40) hx hb dX7_canHaveMade_33 (by decide) (fun c5 => ?_) (fun c5 => ?_)
      · refine lv_iconst (v := 0) hx hb dX7_canHaveMade_40 (by decide) ?_
        have hP9 := (hP.sub (ws' := [(t, .inr (3, [.ref ta, .ref tq, .int (nI cq), .int se, .int go, .int ki, .int (nI k)])), (ta, .inl (gB G, 15625, .inl fs)), (tq, .inl (gI G, 15625, .inl fq))]) [0, 1, 2] rfl)
        have hD9 := (hD.sub (ws' := [(t, .inr (3, [.ref ta, .ref tq, .int (nI cq), .int se, .int go, .int ki, .int (nI k)])), (ta, .inl (gB G, 15625, .inl fs)), (tq, .inl (gI G, 15625, .inl fq))]) [0, 1, 2] (by decide) rfl)
        have hs9 : ¬ dg k a j = 4 := by rw [← hgd]; exact c2
        exact W.zret (v := 0) hx hb hr (by decide) (fun t9_ ht9_ hW9_ => ⟨⟨0, (), rfl, Or.inr ⟨rfl, fun q7 => q7.elim (fun q9 => c1 (ch_eq hlf hgd q9.1 q9.2.1)) (fun q6 => q6.elim (fun q9 => hs9 q9.1) (fun q9 => absurd c5 ((bK_i (q := 0) ex3 ex4).mpr q9.2)))⟩, by rw [ht9_]; exact hP9, hD9⟩, hS.F ht9_⟩) hS.2.2 dX7_canHaveMade_41
      · refine lv_iconst (v := 1) hx hb dX7_canHaveMade_36 (by decide) ?_
        refine lv_goto (tgt := 41) hx hb dX7_canHaveMade_37 (by decide) ?_
        have hP9 := (hP.sub (ws' := [(t, .inr (3, [.ref ta, .ref tq, .int (nI cq), .int se, .int go, .int ki, .int (nI k)])), (ta, .inl (gB G, 15625, .inl fs)), (tq, .inl (gI G, 15625, .inl fq))]) [0, 1, 2] rfl)
        have hD9 := (hD.sub (ws' := [(t, .inr (3, [.ref ta, .ref tq, .int (nI cq), .int se, .int go, .int ki, .int (nI k)])), (ta, .inl (gB G, 15625, .inl fs)), (tq, .inl (gI G, 15625, .inl fq))]) [0, 1, 2] (by decide) rfl)
        have hs9 : ¬ dg k a j = 4 := by rw [← hgd]; exact c2
        exact W.zret (v := 1) hx hb hr (by decide) (fun t9_ ht9_ hW9_ => ⟨⟨1, (), rfl, Or.inl ⟨rfl, Or.inr (Or.inr ⟨hs9, (bK_i (q := 0) ex3 ex4).mp c5⟩)⟩, by rw [ht9_]; exact hP9, hD9⟩, hS.F ht9_⟩) hS.2.2 dX7_canHaveMade_41
    · have c2 : g = 4 := (nI_eq (a := g) (b := 4) (by omega) (by omega)).mp c2
      refine lv_iconst (v := 3) hx hb dX7_canHaveMade_25 (by decide) ?_
      refine lv_goto (tgt := 30) hx hb dX7_canHaveMade_26 (by decide) ?_
      refine lv_ishr hx hb dX7_canHaveMade_30 ?_
      refine lv_topi (fun x6 ex6 => ?_)
      refine lv_iconst (v := 1) hx hb dX7_canHaveMade_31 (by decide) ?_
      refine lv_iand hx hb dX7_canHaveMade_32 ?_
      refine lv_topi (fun x7 ex7 => ?_)
      refine lv_if_eq (tgt := 40) hx hb dX7_canHaveMade_33 (by decide) (fun c8 => ?_) (fun c8 => ?_)
      · refine lv_iconst (v := 0) hx hb dX7_canHaveMade_40 (by decide) ?_
        have hP9 := (hP.sub (ws' := [(t, .inr (3, [.ref ta, .ref tq, .int (nI cq), .int se, .int go, .int ki, .int (nI k)])), (ta, .inl (gB G, 15625, .inl fs)), (tq, .inl (gI G, 15625, .inl fq))]) [0, 1, 2] rfl)
        have hD9 := (hD.sub (ws' := [(t, .inr (3, [.ref ta, .ref tq, .int (nI cq), .int se, .int go, .int ki, .int (nI k)])), (ta, .inl (gB G, 15625, .inl fs)), (tq, .inl (gI G, 15625, .inl fq))]) [0, 1, 2] (by decide) rfl)
        have hs9 : dg k a j = 4 := by rw [← hgd]; exact c2
        exact W.zret (v := 0) hx hb hr (by decide) (fun t9_ ht9_ hW9_ => ⟨⟨0, (), rfl, Or.inr ⟨rfl, fun q7 => q7.elim (fun q9 => c1 (ch_eq hlf hgd q9.1 q9.2.1)) (fun q6 => q6.elim (fun q9 => absurd c8 ((bK_i (q := 3) ex6 ex7).mpr q9.2)) (fun q9 => q9.1 hs9))⟩, by rw [ht9_]; exact hP9, hD9⟩, hS.F ht9_⟩) hS.2.2 dX7_canHaveMade_41
      · refine lv_iconst (v := 1) hx hb dX7_canHaveMade_36 (by decide) ?_
        refine lv_goto (tgt := 41) hx hb dX7_canHaveMade_37 (by decide) ?_
        have hP9 := (hP.sub (ws' := [(t, .inr (3, [.ref ta, .ref tq, .int (nI cq), .int se, .int go, .int ki, .int (nI k)])), (ta, .inl (gB G, 15625, .inl fs)), (tq, .inl (gI G, 15625, .inl fq))]) [0, 1, 2] rfl)
        have hD9 := (hD.sub (ws' := [(t, .inr (3, [.ref ta, .ref tq, .int (nI cq), .int se, .int go, .int ki, .int (nI k)])), (ta, .inl (gB G, 15625, .inl fs)), (tq, .inl (gI G, 15625, .inl fq))]) [0, 1, 2] (by decide) rfl)
        have hs9 : dg k a j = 4 := by rw [← hgd]; exact c2
        exact W.zret (v := 1) hx hb hr (by decide) (fun t9_ ht9_ hW9_ => ⟨⟨1, (), rfl, Or.inl ⟨rfl, Or.inr (Or.inl ⟨hs9, (bK_i (q := 3) ex6 ex7).mp c8⟩)⟩, by rw [ht9_]; exact hP9, hD9⟩, hS.F ht9_⟩) hS.2.2 dX7_canHaveMade_41
  · refine lv_aload_n hx hb dX7_canHaveMade_5 rfl (lv_at hl 0 rfl) ?_
    refine va_get (D := G.1) (ci := 3) (v := .int ki) (C := RX7) (T := TX7) (N := 7) hx hb hts (fun _ h => List.mem_cons_of_mem _ (List.mem_append_right _ h)) hown E.K hP 0 rfl rfl 5 (by decide) (hts (.fieldLink RX7 25 "LastMap$Table" "kinds" "I") (by decide +kernel)) (fun _ h9 => h9) rfl dX7_canHaveMade_6 ?_
    refine lv_iconst (v := 2) hx hb dX7_canHaveMade_9 (by decide) ?_
    refine lv_ishr hx hb dX7_canHaveMade_10 ?_
    refine lv_topi (fun x9 ex9 => ?_)
    refine lv_iconst (v := 1) hx hb dX7_canHaveMade_11 (by decide) ?_
    refine lv_iand hx hb dX7_canHaveMade_12 ?_
    refine lv_topi (fun x10 ex10 => ?_)
    refine lv_if_ne (tgt := 36) hx hb dX7_canHaveMade_13 (by decide) (fun c11 => ?_) (fun c11 => ?_)
    · refine lv_iconst (v := 1) hx hb dX7_canHaveMade_36 (by decide) ?_
      refine lv_goto (tgt := 41) hx hb dX7_canHaveMade_37 (by decide) ?_
      have hP9 := (hP.sub (ws' := [(t, .inr (3, [.ref ta, .ref tq, .int (nI cq), .int se, .int go, .int ki, .int (nI k)])), (ta, .inl (gB G, 15625, .inl fs)), (tq, .inl (gI G, 15625, .inl fq))]) [0, 1, 2] rfl)
      have hD9 := (hD.sub (ws' := [(t, .inr (3, [.ref ta, .ref tq, .int (nI cq), .int se, .int go, .int ki, .int (nI k)])), (ta, .inl (gB G, 15625, .inl fs)), (tq, .inl (gI G, 15625, .inl fq))]) [0, 1, 2] (by decide) rfl)
      exact W.zret (v := 1) hx hb hr (by decide) (fun t9_ ht9_ hW9_ => ⟨⟨1, (), rfl, Or.inl ⟨rfl, Or.inl (ch_left hlf hgd c1 ((bK_i (q := 2) ex9 ex10).mp c11))⟩, by rw [ht9_]; exact hP9, hD9⟩, hS.F ht9_⟩) hS.2.2 dX7_canHaveMade_41
    · refine lv_aload_n hx hb dX7_canHaveMade_16 rfl (lv_at hl 0 rfl) ?_
      refine va_get (D := G.1) (ci := 3) (v := .int ki) (C := RX7) (T := TX7) (N := 7) hx hb hts (fun _ h => List.mem_cons_of_mem _ (List.mem_append_right _ h)) hown E.K hP 0 rfl rfl 5 (by decide) (hts (.fieldLink RX7 25 "LastMap$Table" "kinds" "I") (by decide +kernel)) (fun _ h9 => h9) rfl dX7_canHaveMade_17 ?_
      refine lv_iload_n hx hb dX7_canHaveMade_20 rfl (lv_at hl 2 rfl) ?_
      refine lv_iconst (v := 4) hx hb dX7_canHaveMade_21 (by decide) ?_
      refine lv_icmp_ne (tgt := 29) hx hb dX7_canHaveMade_22 (by decide) (fun c12 => ?_) (fun c12 => ?_)
      · have c12 : ¬ g = 4 := fun h9_ => c12 ((nI_eq (a := g) (b := 4) (by omega) (by omega)).mpr h9_)
        refine lv_iconst (v := 0) hx hb dX7_canHaveMade_29 (by decide) ?_
        refine lv_ishr hx hb dX7_canHaveMade_30 ?_
        refine lv_topi (fun x13 ex13 => ?_)
        refine lv_iconst (v := 1) hx hb dX7_canHaveMade_31 (by decide) ?_
        refine lv_iand hx hb dX7_canHaveMade_32 ?_
        refine lv_topi (fun x14 ex14 => ?_)
        refine lv_if_eq (tgt := 40) hx hb dX7_canHaveMade_33 (by decide) (fun c15 => ?_) (fun c15 => ?_)
        · refine lv_iconst (v := 0) hx hb dX7_canHaveMade_40 (by decide) ?_
          have hP9 := (hP.sub (ws' := [(t, .inr (3, [.ref ta, .ref tq, .int (nI cq), .int se, .int go, .int ki, .int (nI k)])), (ta, .inl (gB G, 15625, .inl fs)), (tq, .inl (gI G, 15625, .inl fq))]) [0, 1, 2] rfl)
          have hD9 := (hD.sub (ws' := [(t, .inr (3, [.ref ta, .ref tq, .int (nI cq), .int se, .int go, .int ki, .int (nI k)])), (ta, .inl (gB G, 15625, .inl fs)), (tq, .inl (gI G, 15625, .inl fq))]) [0, 1, 2] (by decide) rfl)
          have hs9 : ¬ dg k a j = 4 := by rw [← hgd]; exact c12
          exact W.zret (v := 0) hx hb hr (by decide) (fun t9_ ht9_ hW9_ => ⟨⟨0, (), rfl, Or.inr ⟨rfl, fun q7 => q7.elim (fun q9 => absurd c11 ((bK_i (q := 2) ex9 ex10).mpr q9.2.2)) (fun q6 => q6.elim (fun q9 => hs9 q9.1) (fun q9 => absurd c15 ((bK_i (q := 0) ex13 ex14).mpr q9.2)))⟩, by rw [ht9_]; exact hP9, hD9⟩, hS.F ht9_⟩) hS.2.2 dX7_canHaveMade_41
        · refine lv_iconst (v := 1) hx hb dX7_canHaveMade_36 (by decide) ?_
          refine lv_goto (tgt := 41) hx hb dX7_canHaveMade_37 (by decide) ?_
          have hP9 := (hP.sub (ws' := [(t, .inr (3, [.ref ta, .ref tq, .int (nI cq), .int se, .int go, .int ki, .int (nI k)])), (ta, .inl (gB G, 15625, .inl fs)), (tq, .inl (gI G, 15625, .inl fq))]) [0, 1, 2] rfl)
          have hD9 := (hD.sub (ws' := [(t, .inr (3, [.ref ta, .ref tq, .int (nI cq), .int se, .int go, .int ki, .int (nI k)])), (ta, .inl (gB G, 15625, .inl fs)), (tq, .inl (gI G, 15625, .inl fq))]) [0, 1, 2] (by decide) rfl)
          have hs9 : ¬ dg k a j = 4 := by rw [← hgd]; exact c12
          exact W.zret (v := 1) hx hb hr (by decide) (fun t9_ ht9_ hW9_ => ⟨⟨1, (), rfl, Or.inl ⟨rfl, Or.inr (Or.inr ⟨hs9, (bK_i (q := 0) ex13 ex14).mp c15⟩)⟩, by rw [ht9_]; exact hP9, hD9⟩, hS.F ht9_⟩) hS.2.2 dX7_canHaveMade_41
      · have c12 : g = 4 := (nI_eq (a := g) (b := 4) (by omega) (by omega)).mp c12
        refine lv_iconst (v := 3) hx hb dX7_canHaveMade_25 (by decide) ?_
        refine lv_goto (tgt := 30) hx hb dX7_canHaveMade_26 (by decide) ?_
        refine lv_ishr hx hb dX7_canHaveMade_30 ?_
        refine lv_topi (fun x16 ex16 => ?_)
        refine lv_iconst (v := 1) hx hb dX7_canHaveMade_31 (by decide) ?_
        refine lv_iand hx hb dX7_canHaveMade_32 ?_
        refine lv_topi (fun x17 ex17 => ?_)
        refine lv_if_eq (tgt := 40) hx hb dX7_canHaveMade_33 (by decide) (fun c18 => ?_) (fun c18 => ?_)
        · refine lv_iconst (v := 0) hx hb dX7_canHaveMade_40 (by decide) ?_
          have hP9 := (hP.sub (ws' := [(t, .inr (3, [.ref ta, .ref tq, .int (nI cq), .int se, .int go, .int ki, .int (nI k)])), (ta, .inl (gB G, 15625, .inl fs)), (tq, .inl (gI G, 15625, .inl fq))]) [0, 1, 2] rfl)
          have hD9 := (hD.sub (ws' := [(t, .inr (3, [.ref ta, .ref tq, .int (nI cq), .int se, .int go, .int ki, .int (nI k)])), (ta, .inl (gB G, 15625, .inl fs)), (tq, .inl (gI G, 15625, .inl fq))]) [0, 1, 2] (by decide) rfl)
          have hs9 : dg k a j = 4 := by rw [← hgd]; exact c12
          exact W.zret (v := 0) hx hb hr (by decide) (fun t9_ ht9_ hW9_ => ⟨⟨0, (), rfl, Or.inr ⟨rfl, fun q7 => q7.elim (fun q9 => absurd c11 ((bK_i (q := 2) ex9 ex10).mpr q9.2.2)) (fun q6 => q6.elim (fun q9 => absurd c18 ((bK_i (q := 3) ex16 ex17).mpr q9.2)) (fun q9 => q9.1 hs9))⟩, by rw [ht9_]; exact hP9, hD9⟩, hS.F ht9_⟩) hS.2.2 dX7_canHaveMade_41
        · refine lv_iconst (v := 1) hx hb dX7_canHaveMade_36 (by decide) ?_
          refine lv_goto (tgt := 41) hx hb dX7_canHaveMade_37 (by decide) ?_
          have hP9 := (hP.sub (ws' := [(t, .inr (3, [.ref ta, .ref tq, .int (nI cq), .int se, .int go, .int ki, .int (nI k)])), (ta, .inl (gB G, 15625, .inl fs)), (tq, .inl (gI G, 15625, .inl fq))]) [0, 1, 2] rfl)
          have hD9 := (hD.sub (ws' := [(t, .inr (3, [.ref ta, .ref tq, .int (nI cq), .int se, .int go, .int ki, .int (nI k)])), (ta, .inl (gB G, 15625, .inl fs)), (tq, .inl (gI G, 15625, .inl fq))]) [0, 1, 2] (by decide) rfl)
          have hs9 : dg k a j = 4 := by rw [← hgd]; exact c12
          exact W.zret (v := 1) hx hb hr (by decide) (fun t9_ ht9_ hW9_ => ⟨⟨1, (), rfl, Or.inl ⟨rfl, Or.inr (Or.inl ⟨hs9, (bK_i (q := 3) ex16 ex17).mp c18⟩)⟩, by rw [ht9_]; exact hP9, hD9⟩, hS.F ht9_⟩) hS.2.2 dX7_canHaveMade_41

theorem n_weight (l : Launch) (G : Gy) (sz : Nat) (j : Nat) (hj : j < 6) : Ci l G yX1_weight wsX1_weight ({ frames := 0, cells := 0, slots := 0, locals := 0 }) [.int (nI j)] ([]) sz (fun (r : Int32) (_ : Unit) => r = nI (5 ^ (6 - 1 - j))) (fun (_ : Unit) => []) 0 0 := by
  have h := c_weight l G sz (nI j)
  rw [wgt_5 hj] at h
  exact h

theorem n_signBy (l : Launch) (G : Gy) (sz : Nat) (a : Nat) (j : Nat) (ha : a < 5 ^ 6) (hj : j < 6) : Ci l G yX1_signBy wsX1_signBy ({ frames := 0, cells := 0, slots := 0, locals := 0 }) [.int (nI a), .int (nI (5 ^ (6 - 1 - j)))] ([]) sz (fun (r : Int32) (_ : Unit) => r = nI (dg 6 a j)) (fun (_ : Unit) => []) 0 0 := by
  have h := c_signBy l G sz (nI a) (nI (5 ^ (6 - 1 - j)))
  rw [sgn_5 ha hj] at h
  exact h

theorem n_known (l : Launch) (G : Gy) (sz : Nat) (t : Nat) (ta : Nat) (tq : Nat) (k : Nat) (cq : Nat) (se : Int32) (go : Int32) (ki : Int32) (fs : Nat → Int32) (fq : Nat → Int32) (x0 : Nat) (hk6 : k ≤ 6) (hx0 : x0 < 5 ^ k) : Ci l G yX7_known wsX7_known ({ frames := 0, cells := 0, slots := 0, locals := 0 }) [.ref t, .int (nI (sc k x0))] ([(t, .inr (3, [.ref ta, .ref tq, .int (nI cq), .int se, .int go, .int ki, .int (nI k)])), (ta, .inl (gB G, 15625, .inl fs)), (tq, .inl (gI G, 15625, .inl fq))]) sz (fun (r : Int32) (_ : Unit) => r = fS k fs x0) (fun (_ : Unit) => [(t, .inr (3, [.ref ta, .ref tq, .int (nI cq), .int se, .int go, .int ki, .int (nI k)])), (ta, .inl (gB G, 15625, .inl fs)), (tq, .inl (gI G, 15625, .inl fq))]) 0 0 := by
  have h := c_known l G sz t ta tq (nI cq) se go ki (nI k) fs fq (nI (sc k x0))
  rw [known_sc hk6 hx0] at h
  exact h

set_option maxHeartbeats 1000000 in
set_option maxRecDepth 100000 in
theorem n_queueBefore (l : Launch) (G : Gy) (sz : Nat) (t : Nat) (ta : Nat) (tq : Nat) (k : Nat) (cq : Nat) (se : Int32) (go : Int32) (ki : Int32) (fs : Nat → Int32) (fq : Nat → Int32) (yq : Nat) (a : Nat) (S : Nat → Prop) (hk2 : 2 ≤ k) (hk6 : k ≤ 6) (hbk : BK k (bK ki) S yq cq fs fq) (hy : yq < cq) (hqa0 : nQ k fq yq = a) : Cv l G yX7_queueBefore wsX7_queueBefore ({ frames := 1, cells := 0, slots := 0, locals := 22 }) [.ref t, .int (nI (sc k a))] ([(t, .inr (3, [.ref ta, .ref tq, .int (nI cq), .int se, .int go, .int ki, .int (nI k)])), (ta, .inl (gB G, 15625, .inl fs)), (tq, .inl (gI G, 15625, .inl fq))]) sz (fun (u : Nat × (Nat → Int32) × (Nat → Int32)) => match u with | (cq1, fs1, fq1) => BK k (bK ki) S yq cq1 fs1 fq1 ∧ (∀ z, z < 5 ^ k → ¬ fS k fs z < 0 → fS k fs1 z = fS k fs z) ∧ nQ k fq1 yq = a ∧ yq < cq1 ∧ ∀ t2 z, z < 5 ^ k → stp k (bK ki) t2 z a → ¬ fS k fs1 z < 0) (fun (u : Nat × (Nat → Int32) × (Nat → Int32)) => match u with | (cq1, fs1, fq1) => [(t, .inr (3, [.ref ta, .ref tq, .int (nI cq1), .int se, .int go, .int ki, .int (nI k)])), (ta, .inl (gB G, 15625, .inl fs1)), (tq, .inl (gI G, 15625, .inl fq1))]) 0 0 := by
  refine Met.ofW (cc := cX7_queueBefore) (maxL := 9) (ret := none) (by decide) rfl ?_
  intro p e s m args below meth c s₁ B hml hv
  obtain ⟨rfl, hsz, hP, hD0, E0⟩ := hv
  have hx := B.exec
  have hb := B.bytes
  have hr := B.returns
  have hts := atoms_spec (ws := wsX7_queueBefore) B.pre
  have hown : s.vm.findClass RX7 = some m.cls := findClass_of_methodNamed B.named
  have hlocks := B.notSynchronized
  subst hsz
  have hD := hD0.self (sz := s.heap.size)
  generalize hAe : va_A ([(t, .inr (3, [.ref ta, .ref tq, .int (nI cq), .int se, .int go, .int ki, .int (nI k)])), (ta, .inl (gB G, 15625, .inl fs)), (tq, .inl (gI G, 15625, .inl fq))]) s.heap.size = A at hD E0 ⊢
  have E : EV G A s s.heap := E0
  have hA : ∀ q : Nat, s.heap.size ≤ q → A q := fun q h => by rw [← hAe]; exact Or.inr h
  have hS : va_S A s.heap s.heap [] := va_S.rf
  have hl := lv_entry ([.ref t, .int (nI (sc k a))]) (n := 9) (Nat.le_of_ble_eq_true rfl)
  rw [lg_entry_eq]
  generalize (lg_sl ([.ref t, .int (nI (sc k a))]) ++ List.replicate (9 - (lg_sl ([.ref t, .int (nI (sc k a))])).length) Slot.unset).toArray = ls at hl ⊢
  have hl : lv_has ls 9 [(0, .ref t), (1, .int (nI (sc k a)))] := hl
  have hP : va_P G.1 vwCl ([(t, .inr (3, [.ref ta, .ref tq, .int (nI cq), .int se, .int go, .int ki, .int (nI k)])), (ta, .inl (gB G, 15625, .inl fs)), (tq, .inl (gI G, 15625, .inl fq))]) s.heap := hP
  have hal := p5le hk6
  have h15 : (5 : Nat) ^ 6 = 15625 := by decide
  have hqy := hbk.1 yq hy
  have ha5 : a < 5 ^ k := by rw [← hqa0]; exact hqy.2.1
  have hna : ¬ fS k fs a < 0 := by rw [← hqa0]; exact hqy.2.2
  have hsc := sc_lt hk6 ha5
  have hdm := hbk.2.2.1 a ha5 hna
  have hd72 := pS_72 hk6 ha5 hdm.2.1 hdm.2.2
  refine lv_aload_n hx hb dX7_queueBefore_0 rfl (lv_at hl 0 rfl) ?_
  refine lv_iload_n hx hb dX7_queueBefore_1 rfl (lv_at hl 1 rfl) ?_
  refine ca_iR (va_runV (As := [.int (nI (sc k a))]) (rest := []) ⟨hx, hb, hml, hown, hts⟩ (n_known l G s.heap.size t ta tq k cq se go ki fs fq a hk6 ha5) (cwV 1 hts gX7_queueBefore_X7_known rfl rfl rfl (by decide +kernel) ⟨by decide +kernel, by decide +kernel⟩) (pre_V E hP hD hS hA [0, 1, 2] (by decide) rfl 0 3 rfl rfl) rfl rfl hl.1 rfl (lv_room (Nat.le_of_ble_eq_true rfl)) dX7_queueBefore_2 ⟨by decide +kernel, by decide +kernel⟩) hS hP hD hA [0, 1, 2] rfl (fun r2 _ H locs w1 hP hS => ?_)
  obtain rfl : r2 = nI (tN (fS k fs) a) := by rw [w1]; exact hdm.1
  refine lv_iconst (v := 1) hx hb dX7_queueBefore_5 (by decide) ?_
  refine lv_iadd hx hb dX7_queueBefore_6 ?_
  refine lv_topi (fun x3 ex3 => ?_)
  obtain rfl : x3 = nI ((tN (fS k fs) a) + 1) := by rw [ex3]; exact nI_add (tN (fS k fs) a) 1
  refine lv_istore_n (lv' := [(2, .int (nI ((tN (fS k fs) a) + 1))), (0, .ref t), (1, .int (nI (sc k a)))]) hx hb dX7_queueBefore_7 rfl hl (by decide) rfl (fun ls hl => ?_)
  refine lv_iconst (v := (-1)) hx hb dX7_queueBefore_8 (by decide) ?_
  refine lv_istore_n (lv' := [(3, .int (-1)), (2, .int (nI ((tN (fS k fs) a) + 1))), (0, .ref t), (1, .int (nI (sc k a)))]) hx hb dX7_queueBefore_9 rfl hl (by decide) rfl (fun ls hl => ?_)
  refine lv_iconst (v := 0) hx hb dX7_queueBefore_10 (by decide) ?_
  refine lv_istore (lv' := [(4, .int 0), (3, .int (-1)), (2, .int (nI ((tN (fS k fs) a) + 1))), (0, .ref t), (1, .int (nI (sc k a)))]) hx hb dX7_queueBefore_11 hl (by decide) rfl (fun ls hl => ?_)
  refine lp_run (x0 := (0, (-1), cq, fs, fq)) (fun xx_ : Nat × Int32 × Nat × (Nat → Int32) × (Nat → Int32) => match xx_ with | (x, lf, cv, fv, qv) => [(t, .inr (3, [.ref ta, .ref tq, .int (nI cv), .int se, .int go, .int ki, .int (nI k)])), (ta, .inl (gB G, 15625, .inl fv)), (tq, .inl (gI G, 15625, .inl qv))]) (fun xx_ : Nat × Int32 × Nat × (Nat → Int32) × (Nat → Int32) => match xx_ with | (x, lf, cv, fv, qv) => [(4, .int (nI x)), (3, .int lf), (2, .int (nI ((tN (fS k fs) a) + 1))), (0, .ref t), (1, .int (nI (sc k a)))]) (fun xx_ : Nat × Int32 × Nat × (Nat → Int32) × (Nat → Int32) => match xx_ with | (x, lf, cv, fv, qv) => (x ≤ k) ∧ (BK k (bK ki) S yq cv fv qv) ∧ (yq < cv) ∧ (nQ k qv yq = a) ∧ (∀ z, z < 5 ^ k → ¬ fS k fs z < 0 → fS k fv z = fS k fs z) ∧ ((x = 0 ∧ lf = (-1)) ∨ (1 ≤ x ∧ lf = nI (dg k a (x - 1)))) ∧ (cloS k (bK ki) fv a x)) (fun xx_ : Nat × Int32 × Nat × (Nat → Int32) × (Nat → Int32) => match xx_ with | (x, lf, cv, fv, qv) => k - x) (hP.sub [0, 1, 2] rfl) (hD.sub [0, 1, 2] (by decide) rfl) hS (lv_sub hl [0, 1, 2, 3, 4] rfl) ⟨(by omega), hbk, hy, hqa0, fun _ _ _ => rfl, Or.inl ⟨rfl, rfl⟩, cloS_0⟩ ?_
  intro xx_ hI ih13 H locs ls hP hD hS hl
  obtain ⟨x, lf, cv, fv, qv⟩ := xx_
  dsimp only at hI ih13 hP hD hl
  obtain ⟨hx0, hB, hyc, hqa, hsm, hlf, hcl⟩ := hI
  have hl : lv_has ls 9 [(4, .int (nI x)), (3, .int lf), (2, .int (nI ((tN (fS k fs) a) + 1))), (0, .ref t), (1, .int (nI (sc k a)))] := hl
  have hP : va_P G.1 vwCl ([(t, .inr (3, [.ref ta, .ref tq, .int (nI cv), .int se, .int go, .int ki, .int (nI k)])), (ta, .inl (gB G, 15625, .inl fv)), (tq, .inl (gI G, 15625, .inl qv))]) H := hP
  have hD : va_D A ([(t, .inr (3, [.ref ta, .ref tq, .int (nI cv), .int se, .int go, .int ki, .int (nI k)])), (ta, .inl (gB G, 15625, .inl fv)), (tq, .inl (gI G, 15625, .inl qv))]) := hD
  refine lv_iload hx hb dX7_queueBefore_13 (lv_at hl 0 rfl) ?_
  refine lv_aload_n hx hb dX7_queueBefore_15 rfl (lv_at hl 3 rfl) ?_
  refine va_get (D := G.1) (ci := 3) (v := .int (nI k)) (C := RX7) (T := TX7) (N := 7) hx hb hts (fun _ h => List.mem_cons_of_mem _ (List.mem_append_right _ h)) hown E.K hP 0 rfl rfl 6 (by decide) (hts (.fieldLink RX7 28 "LastMap$Table" "n" "I") (by decide +kernel)) (fun _ h9 => h9) rfl dX7_queueBefore_16 ?_
  refine lv_icmp_ge (tgt := 137) hx hb dX7_queueBefore_19 (by decide) (fun c4 => ?_) (fun c4 => ?_)
  · have c4 : k ≤ x := (nI_leI (a := k) (b := x) (by omega) (by omega)).mp c4
    have hP9 := (hP.sub (ws' := [(t, .inr (3, [.ref ta, .ref tq, .int (nI cv), .int se, .int go, .int ki, .int (nI k)])), (ta, .inl (gB G, 15625, .inl fv)), (tq, .inl (gI G, 15625, .inl qv))]) [0, 1, 2] rfl)
    have hD9 := (hD.sub (ws' := [(t, .inr (3, [.ref ta, .ref tq, .int (nI cv), .int se, .int go, .int ki, .int (nI k)])), (ta, .inl (gB G, 15625, .inl fv)), (tq, .inl (gI G, 15625, .inl qv))]) [0, 1, 2] (by decide) rfl)
    exact W.vret hx hb hr (fun t9_ ht9_ hW9_ => ⟨⟨(cv, fv, qv), rfl, ⟨hB, hsm, hqa, hyc, cloS_all (show cloS k (bK ki) fv a k from by have q9 := hcl; rw [show x = k by omega] at q9; exact q9)⟩, by rw [ht9_]; exact hP9, hD9⟩, hS.F ht9_⟩) hS.2.2 dX7_queueBefore_137
  · have c4 : ¬ k ≤ x := fun h9_ => c4 ((nI_leI (a := k) (b := x) (by omega) (by omega)).mpr h9_)
    have hxk : x < k := by omega
    have hp5 := p5_5 x
    have hd5 := dg_lt k a x
    refine lv_iload hx hb dX7_queueBefore_22 (lv_at hl 0 rfl) ?_
    refine ca_iR (va_runS (As := [.int (nI x)]) (rest := []) ⟨hx, hb, hml, hown, hts⟩ (n_weight l G H.size x (by omega)) (va_cwS 1 hts gX7_queueBefore_X1_weight rfl rfl rfl (by decide +kernel) ⟨by decide +kernel, by decide +kernel⟩) (pre_S E hP hD hS hA [] (by decide) rfl) rfl rfl hl.1 rfl (lv_room (Nat.le_of_ble_eq_true rfl)) dX7_queueBefore_24 ⟨by decide +kernel, by decide +kernel⟩) hS hP hD hA [] rfl (fun r6 _ H locs w5 hP hS => ?_)
    rw [w5]
    refine lv_istore (lv' := [(5, .int (nI (5 ^ (6 - 1 - x)))), (4, .int (nI x)), (3, .int lf), (2, .int (nI ((tN (fS k fs) a) + 1))), (0, .ref t), (1, .int (nI (sc k a)))]) hx hb dX7_queueBefore_27 hl (by decide) rfl (fun ls hl => ?_)
    refine lv_iload_n hx hb dX7_queueBefore_29 rfl (lv_at hl 5 rfl) ?_
    refine lv_iload hx hb dX7_queueBefore_30 (lv_at hl 0 rfl) ?_
    refine ca_iR (va_runS (As := [.int (nI (sc k a)), .int (nI (5 ^ (6 - 1 - x)))]) (rest := []) ⟨hx, hb, hml, hown, hts⟩ (n_signBy l G H.size (sc k a) x hsc (by omega)) (va_cwS 2 hts gX7_queueBefore_X1_signBy rfl rfl rfl (by decide +kernel) ⟨by decide +kernel, by decide +kernel⟩) (pre_S E hP hD hS hA [] (by decide) rfl) rfl rfl hl.1 rfl (lv_room (Nat.le_of_ble_eq_true rfl)) dX7_queueBefore_32 ⟨by decide +kernel, by decide +kernel⟩) hS hP hD hA [] rfl (fun r8 _ H locs w7 hP hS => ?_)
    rw [w7]
    refine W.eq (g2 := F0 m 35 ls [.int (nI (dg k a x))]) (by rw [dg_sc hk6 hxk]) ?_
    refine lv_istore (lv' := [(6, .int (nI (dg k a x))), (5, .int (nI (5 ^ (6 - 1 - x)))), (4, .int (nI x)), (3, .int lf), (2, .int (nI ((tN (fS k fs) a) + 1))), (0, .ref t), (1, .int (nI (sc k a)))]) hx hb dX7_queueBefore_35 hl (by decide) rfl (fun ls hl => ?_)
    refine lv_aload_n hx hb dX7_queueBefore_37 rfl (lv_at hl 5 rfl) ?_
    refine lv_iload_n hx hb dX7_queueBefore_38 rfl (lv_at hl 3 rfl) ?_
    refine lv_iload hx hb dX7_queueBefore_39 (lv_at hl 0 rfl) ?_
    refine ca_iR (va_runV (As := [.int lf, .int (nI (dg k a x))]) (rest := []) ⟨hx, hb, hml, hown, hts⟩ (n_canHaveMade l G H.size t ta tq k cv se go ki fv qv a x (dg k a x) lf hlf rfl hd5) (cwV 2 hts gX7_queueBefore_X7_canHaveMade rfl rfl rfl (by decide +kernel) ⟨by decide +kernel, by decide +kernel⟩) (pre_V E hP hD hS hA [0, 1, 2] (by decide) rfl 0 3 rfl rfl) rfl rfl hl.1 rfl (lv_room (Nat.le_of_ble_eq_true rfl)) dX7_queueBefore_41 ⟨by decide +kernel, by decide +kernel⟩) hS hP hD hA [0, 1, 2] rfl (fun r10 _ H locs w9 hP hS => ?_)
    rcases w9 with ⟨rfl, b11⟩ | ⟨rfl, b11⟩
    · refine lv_if_eq (tgt := 84) hx hb dX7_queueBefore_44 (by decide) (fun c12 => False.elim (by revert c12; decide)) (fun _ => ?_)
      have hcan := b11
      have hfit := dg_fit (a := a) hk6 hxk
      refine lv_iload_n hx hb dX7_queueBefore_47 rfl (lv_at hl 6 rfl) ?_
      refine lv_iload hx hb dX7_queueBefore_48 (lv_at hl 0 rfl) ?_
      refine lv_iload hx hb dX7_queueBefore_50 (lv_at hl 1 rfl) ?_
      refine lv_imul hx hb dX7_queueBefore_52 ?_
      refine lv_topi (fun x13 ex13 => ?_)
      obtain rfl : x13 = nI ((dg k a x) * (5 ^ (6 - 1 - x))) := by rw [ex13]; exact pk_mul (dg k a x) (5 ^ (6 - 1 - x))
      refine lv_isub hx hb dX7_queueBefore_53 ?_
      refine lv_topi (fun x14 ex14 => ?_)
      obtain rfl : x14 = nI ((sc k a) - ((dg k a x) * (5 ^ (6 - 1 - x)))) := by rw [ex14]; exact pk_sub (show ((dg k a x) * (5 ^ (6 - 1 - x))) ≤ (sc k a) by omega)
      refine lv_istore (lv' := [(7, .int (nI ((sc k a) - ((dg k a x) * (5 ^ (6 - 1 - x)))))), (6, .int (nI (dg k a x))), (5, .int (nI (5 ^ (6 - 1 - x)))), (4, .int (nI x)), (3, .int lf), (2, .int (nI ((tN (fS k fs) a) + 1))), (0, .ref t), (1, .int (nI (sc k a)))]) hx hb dX7_queueBefore_54 hl (by decide) rfl (fun ls hl => ?_)
      refine lv_iconst (v := 0) hx hb dX7_queueBefore_56 (by decide) ?_
      refine lv_istore (lv' := [(8, .int 0), (7, .int (nI ((sc k a) - ((dg k a x) * (5 ^ (6 - 1 - x)))))), (6, .int (nI (dg k a x))), (5, .int (nI (5 ^ (6 - 1 - x)))), (4, .int (nI x)), (3, .int lf), (2, .int (nI ((tN (fS k fs) a) + 1))), (0, .ref t), (1, .int (nI (sc k a)))]) hx hb dX7_queueBefore_57 hl (by decide) rfl (fun ls hl => ?_)
      refine lp_run (x0 := (0, cv, fv, qv)) (fun xx_ : Nat × Nat × (Nat → Int32) × (Nat → Int32) => match xx_ with | (o, cv2, fv2, qv2) => [(t, .inr (3, [.ref ta, .ref tq, .int (nI cv2), .int se, .int go, .int ki, .int (nI k)])), (ta, .inl (gB G, 15625, .inl fv2)), (tq, .inl (gI G, 15625, .inl qv2))]) (fun xx_ : Nat × Nat × (Nat → Int32) × (Nat → Int32) => match xx_ with | (o, cv2, fv2, qv2) => [(8, .int (nI o)), (7, .int (nI ((sc k a) - ((dg k a x) * (5 ^ (6 - 1 - x)))))), (6, .int (nI (dg k a x))), (5, .int (nI (5 ^ (6 - 1 - x)))), (4, .int (nI x)), (3, .int lf), (2, .int (nI ((tN (fS k fs) a) + 1))), (0, .ref t), (1, .int (nI (sc k a)))]) (fun xx_ : Nat × Nat × (Nat → Int32) × (Nat → Int32) => match xx_ with | (o, cv2, fv2, qv2) => (o ≤ 5) ∧ (BK k (bK ki) S yq cv2 fv2 qv2) ∧ (yq < cv2) ∧ (nQ k qv2 yq = a) ∧ (∀ z, z < 5 ^ k → ¬ fS k fs z < 0 → fS k fv2 z = fS k fs z) ∧ (cloS k (bK ki) fv2 a x) ∧ (∀ o2, o2 < o → ¬ fS k fv2 (wN k a x o2) < 0)) (fun xx_ : Nat × Nat × (Nat → Int32) × (Nat → Int32) => match xx_ with | (o, cv2, fv2, qv2) => 5 - o) (hP.sub [0, 1, 2] rfl) (hD.sub [0, 1, 2] (by decide) rfl) hS (lv_sub hl [0, 1, 2, 3, 4, 5, 6, 7, 8] rfl) ⟨(by omega), hB, hyc, hqa, hsm, hcl, fun o9 h9 => by omega⟩ ?_
      intro xx_ hI ih59 H locs ls hP hD hS hl
      obtain ⟨o, cv2, fv2, qv2⟩ := xx_
      dsimp only at hI ih59 hP hD hl
      obtain ⟨ho0, hB2, hyc2, hqa2, hsm2, hcl2, hpt⟩ := hI
      have hl : lv_has ls 9 [(8, .int (nI o)), (7, .int (nI ((sc k a) - ((dg k a x) * (5 ^ (6 - 1 - x)))))), (6, .int (nI (dg k a x))), (5, .int (nI (5 ^ (6 - 1 - x)))), (4, .int (nI x)), (3, .int lf), (2, .int (nI ((tN (fS k fs) a) + 1))), (0, .ref t), (1, .int (nI (sc k a)))] := hl
      have hP : va_P G.1 vwCl ([(t, .inr (3, [.ref ta, .ref tq, .int (nI cv2), .int se, .int go, .int ki, .int (nI k)])), (ta, .inl (gB G, 15625, .inl fv2)), (tq, .inl (gI G, 15625, .inl qv2))]) H := hP
      have hD : va_D A ([(t, .inr (3, [.ref ta, .ref tq, .int (nI cv2), .int se, .int go, .int ki, .int (nI k)])), (ta, .inl (gB G, 15625, .inl fv2)), (tq, .inl (gI G, 15625, .inl qv2))]) := hD
      refine lv_iload hx hb dX7_queueBefore_59 (lv_at hl 0 rfl) ?_
      refine lv_iconst (v := 5) hx hb dX7_queueBefore_61 (by decide) ?_
      refine lv_icmp_ge (tgt := 84) hx hb dX7_queueBefore_62 (by decide) (fun c15 => ?_) (fun c15 => ?_)
      · have c15 : 5 ≤ o := (nI_leI (a := 5) (b := o) (by omega) (by omega)).mp c15
        have hB3 := hB2
        have hyc3 := hyc2
        have hqa3 := hqa2
        have hsm3 := hsm2
        have hcl3 := hcl2
        have hput3 : canP k (bK ki) a x → ∀ o, o < 5 → ¬ fS k fv2 (wN k a x o) < 0 := fun q9 o9 h9 => hpt o9 (by omega)
        refine lv_iload_n hx hb dX7_queueBefore_84 rfl (lv_at hl 5 rfl) ?_
        refine lv_if_lt (tgt := 128) hx hb dX7_queueBefore_85 (by decide) (fun c16 => ?_) (fun c16 => ?_)
        · have hB4 := hB3
          have hyc4 := hyc3
          have hqa4 := hqa3
          have hsm4 := hsm3
          have hcl4 := hcl3
          have hput4 := hput3
          have hswp : 1 ≤ x → bK ki 1 = true → ¬ fS k fv2 (slN k a (1, x - 1, 0)) < 0 := fun h1 _ => by rcases hlf with ⟨q9, -⟩ | ⟨-, q9⟩; omega; exact absurd c16 (by rw [q9]; exact nI_pos (by have := dg_lt k a (x - 1); omega))
          refine lv_iload hx hb dX7_queueBefore_128 (lv_at hl 2 rfl) ?_
          refine lv_istore_n (lv' := [(3, .int (nI (dg k a x))), (8, .int (nI o)), (7, .int (nI ((sc k a) - ((dg k a x) * (5 ^ (6 - 1 - x)))))), (6, .int (nI (dg k a x))), (5, .int (nI (5 ^ (6 - 1 - x)))), (4, .int (nI x)), (2, .int (nI ((tN (fS k fs) a) + 1))), (0, .ref t), (1, .int (nI (sc k a)))]) hx hb dX7_queueBefore_130 rfl hl (by decide) rfl (fun ls hl => ?_)
          obtain ⟨x17, ex17⟩ : ∃ yy_ : Int32, yy_ = (nI x) + 1 := ⟨_, rfl⟩
          refine lv_iinc (v := x17) (lv' := [(4, .int x17), (3, .int (nI (dg k a x))), (8, .int (nI o)), (7, .int (nI ((sc k a) - ((dg k a x) * (5 ^ (6 - 1 - x)))))), (6, .int (nI (dg k a x))), (5, .int (nI (5 ^ (6 - 1 - x)))), (2, .int (nI ((tN (fS k fs) a) + 1))), (0, .ref t), (1, .int (nI (sc k a)))]) hx hb dX7_queueBefore_131 hl (k := 5) rfl (by rw [ex17]; rfl) (by decide) rfl (fun ls hl => ?_)
          obtain rfl : x17 = nI (x + 1) := by rw [ex17]; exact nI_add x 1
          refine lv_goto (tgt := 13) hx hb dX7_queueBefore_134 (by decide) ?_
          refine ih13 ((x + 1), nI (dg k a x), cv2, fv2, qv2) ⟨?_, ?_, ?_, ?_, ?_, ?_, ?_⟩ (by first | omega | (dsimp only; omega)) H locs ls (hP.sub [0, 1, 2] rfl) (hD.sub [0, 1, 2] (by decide) rfl) hS (lv_sub hl [0, 1, 6, 7, 8] rfl)
          · try dsimp only
            omega
          · try dsimp only
            exact hB4
          · try dsimp only
            exact hyc4
          · try dsimp only
            exact hqa4
          · try dsimp only
            exact hsm4
          · try dsimp only
            exact Or.inr ⟨by omega, by rw [show x + 1 - 1 = x by omega]⟩
          · try dsimp only
            exact cloS_step ha5 hcl4 hput4 hswp
        · refine lv_iload_n hx hb dX7_queueBefore_88 rfl (lv_at hl 5 rfl) ?_
          refine lv_iload hx hb dX7_queueBefore_89 (lv_at hl 2 rfl) ?_
          refine lv_icmp_eq (tgt := 128) hx hb dX7_queueBefore_91 (by decide) (fun c18 => ?_) (fun c18 => ?_)
          · have hB4 := hB3
            have hyc4 := hyc3
            have hqa4 := hqa3
            have hsm4 := hsm3
            have hcl4 := hcl3
            have hput4 := hput3
            have hswp : 1 ≤ x → bK ki 1 = true → ¬ fS k fv2 (slN k a (1, x - 1, 0)) < 0 := fun h1 _ => by rw [swp_same ha5 hxk h1 (by rcases hlf with ⟨q9, -⟩ | ⟨-, q9⟩; omega; exact (nI_eq (by have := dg_lt k a (x - 1); omega) (by omega)).mp (q9.symm.trans c18))]; rw [hsm4 a ha5 hna]; exact hna
            refine lv_iload hx hb dX7_queueBefore_128 (lv_at hl 2 rfl) ?_
            refine lv_istore_n (lv' := [(3, .int (nI (dg k a x))), (8, .int (nI o)), (7, .int (nI ((sc k a) - ((dg k a x) * (5 ^ (6 - 1 - x)))))), (6, .int (nI (dg k a x))), (5, .int (nI (5 ^ (6 - 1 - x)))), (4, .int (nI x)), (2, .int (nI ((tN (fS k fs) a) + 1))), (0, .ref t), (1, .int (nI (sc k a)))]) hx hb dX7_queueBefore_130 rfl hl (by decide) rfl (fun ls hl => ?_)
            obtain ⟨x19, ex19⟩ : ∃ yy_ : Int32, yy_ = (nI x) + 1 := ⟨_, rfl⟩
            refine lv_iinc (v := x19) (lv' := [(4, .int x19), (3, .int (nI (dg k a x))), (8, .int (nI o)), (7, .int (nI ((sc k a) - ((dg k a x) * (5 ^ (6 - 1 - x)))))), (6, .int (nI (dg k a x))), (5, .int (nI (5 ^ (6 - 1 - x)))), (2, .int (nI ((tN (fS k fs) a) + 1))), (0, .ref t), (1, .int (nI (sc k a)))]) hx hb dX7_queueBefore_131 hl (k := 5) rfl (by rw [ex19]; rfl) (by decide) rfl (fun ls hl => ?_)
            obtain rfl : x19 = nI (x + 1) := by rw [ex19]; exact nI_add x 1
            refine lv_goto (tgt := 13) hx hb dX7_queueBefore_134 (by decide) ?_
            refine ih13 ((x + 1), nI (dg k a x), cv2, fv2, qv2) ⟨?_, ?_, ?_, ?_, ?_, ?_, ?_⟩ (by first | omega | (dsimp only; omega)) H locs ls (hP.sub [0, 1, 2] rfl) (hD.sub [0, 1, 2] (by decide) rfl) hS (lv_sub hl [0, 1, 6, 7, 8] rfl)
            · try dsimp only
              omega
            · try dsimp only
              exact hB4
            · try dsimp only
              exact hyc4
            · try dsimp only
              exact hqa4
            · try dsimp only
              exact hsm4
            · try dsimp only
              exact Or.inr ⟨by omega, by rw [show x + 1 - 1 = x by omega]⟩
            · try dsimp only
              exact cloS_step ha5 hcl4 hput4 hswp
          · refine lv_aload_n hx hb dX7_queueBefore_94 rfl (lv_at hl 7 rfl) ?_
            refine va_get (D := G.1) (ci := 3) (v := .int ki) (C := RX7) (T := TX7) (N := 7) hx hb hts (fun _ h => List.mem_cons_of_mem _ (List.mem_append_right _ h)) hown E.K hP 0 rfl rfl 5 (by decide) (hts (.fieldLink RX7 25 "LastMap$Table" "kinds" "I") (by decide +kernel)) (fun _ h9 => h9) rfl dX7_queueBefore_95 ?_
            refine lv_iconst (v := 1) hx hb dX7_queueBefore_98 (by decide) ?_
            refine lv_ishr hx hb dX7_queueBefore_99 ?_
            refine lv_topi (fun x20 ex20 => ?_)
            refine lv_iconst (v := 1) hx hb dX7_queueBefore_100 (by decide) ?_
            refine lv_iand hx hb dX7_queueBefore_101 ?_
            refine lv_topi (fun x21 ex21 => ?_)
            refine lv_if_eq (tgt := 128) hx hb dX7_queueBefore_102 (by decide) (fun c22 => ?_) (fun c22 => ?_)
            · have hB4 := hB3
              have hyc4 := hyc3
              have hqa4 := hqa3
              have hsm4 := hsm3
              have hcl4 := hcl3
              have hput4 := hput3
              have hswp : 1 ≤ x → bK ki 1 = true → ¬ fS k fv2 (slN k a (1, x - 1, 0)) < 0 := fun _ h1 => absurd c22 ((bK_i (q := 1) ex20 ex21).mpr h1)
              refine lv_iload hx hb dX7_queueBefore_128 (lv_at hl 2 rfl) ?_
              refine lv_istore_n (lv' := [(3, .int (nI (dg k a x))), (8, .int (nI o)), (7, .int (nI ((sc k a) - ((dg k a x) * (5 ^ (6 - 1 - x)))))), (6, .int (nI (dg k a x))), (5, .int (nI (5 ^ (6 - 1 - x)))), (4, .int (nI x)), (2, .int (nI ((tN (fS k fs) a) + 1))), (0, .ref t), (1, .int (nI (sc k a)))]) hx hb dX7_queueBefore_130 rfl hl (by decide) rfl (fun ls hl => ?_)
              obtain ⟨x23, ex23⟩ : ∃ yy_ : Int32, yy_ = (nI x) + 1 := ⟨_, rfl⟩
              refine lv_iinc (v := x23) (lv' := [(4, .int x23), (3, .int (nI (dg k a x))), (8, .int (nI o)), (7, .int (nI ((sc k a) - ((dg k a x) * (5 ^ (6 - 1 - x)))))), (6, .int (nI (dg k a x))), (5, .int (nI (5 ^ (6 - 1 - x)))), (2, .int (nI ((tN (fS k fs) a) + 1))), (0, .ref t), (1, .int (nI (sc k a)))]) hx hb dX7_queueBefore_131 hl (k := 5) rfl (by rw [ex23]; rfl) (by decide) rfl (fun ls hl => ?_)
              obtain rfl : x23 = nI (x + 1) := by rw [ex23]; exact nI_add x 1
              refine lv_goto (tgt := 13) hx hb dX7_queueBefore_134 (by decide) ?_
              refine ih13 ((x + 1), nI (dg k a x), cv2, fv2, qv2) ⟨?_, ?_, ?_, ?_, ?_, ?_, ?_⟩ (by first | omega | (dsimp only; omega)) H locs ls (hP.sub [0, 1, 2] rfl) (hD.sub [0, 1, 2] (by decide) rfl) hS (lv_sub hl [0, 1, 6, 7, 8] rfl)
              · try dsimp only
                omega
              · try dsimp only
                exact hB4
              · try dsimp only
                exact hyc4
              · try dsimp only
                exact hqa4
              · try dsimp only
                exact hsm4
              · try dsimp only
                exact Or.inr ⟨by omega, by rw [show x + 1 - 1 = x by omega]⟩
              · try dsimp only
                exact cloS_step ha5 hcl4 hput4 hswp
            · have hb1 : bK ki 1 = true := (bK_i (q := 1) ex20 ex21).mp c22
              have hx1 : 1 ≤ x := by rcases hlf with ⟨q9, q8⟩ | ⟨q9, -⟩; exact absurd (show lf < 0 by rw [q8]; decide) c16; exact q9
              have hlf2 : lf = nI (dg k a (x - 1)) := by rcases hlf with ⟨q9, -⟩ | ⟨-, q9⟩; omega; exact q9
              have hl : lv_has ls 9 [(8, .int (nI o)), (7, .int (nI ((sc k a) - ((dg k a x) * (5 ^ (6 - 1 - x)))))), (6, .int (nI (dg k a x))), (5, .int (nI (5 ^ (6 - 1 - x)))), (4, .int (nI x)), (3, .int (nI (dg k a (x - 1)))), (2, .int (nI ((tN (fS k fs) a) + 1))), (0, .ref t), (1, .int (nI (sc k a)))] := by have q := hl; rw [hlf2] at q; exact q
              refine lv_iconst (v := 5) hx hb dX7_queueBefore_105 (by decide) ?_
              refine lv_iload hx hb dX7_queueBefore_106 (lv_at hl 3 rfl) ?_
              refine lv_imul hx hb dX7_queueBefore_108 ?_
              refine lv_topi (fun x24 ex24 => ?_)
              obtain rfl : x24 = nI (5 * (5 ^ (6 - 1 - x))) := by rw [ex24]; exact pk_mul 5 (5 ^ (6 - 1 - x))
              refine lv_istore (lv' := [(7, .int (nI (5 * (5 ^ (6 - 1 - x))))), (8, .int (nI o)), (6, .int (nI (dg k a x))), (5, .int (nI (5 ^ (6 - 1 - x)))), (4, .int (nI x)), (3, .int (nI (dg k a (x - 1)))), (2, .int (nI ((tN (fS k fs) a) + 1))), (0, .ref t), (1, .int (nI (sc k a)))]) hx hb dX7_queueBefore_109 hl (by decide) rfl (fun ls hl => ?_)
              refine lv_aload_n hx hb dX7_queueBefore_111 rfl (lv_at hl 7 rfl) ?_
              refine lv_iload_n hx hb dX7_queueBefore_112 rfl (lv_at hl 8 rfl) ?_
              refine lv_iload hx hb dX7_queueBefore_113 (lv_at hl 2 rfl) ?_
              refine lv_iload_n hx hb dX7_queueBefore_115 rfl (lv_at hl 5 rfl) ?_
              refine lv_isub hx hb dX7_queueBefore_116 ?_
              refine lv_topi (fun x25 ex25 => ?_)
              refine lv_iload hx hb dX7_queueBefore_117 (lv_at hl 0 rfl) ?_
              refine lv_iload hx hb dX7_queueBefore_119 (lv_at hl 3 rfl) ?_
              refine lv_isub hx hb dX7_queueBefore_121 ?_
              refine lv_topi (fun x26 ex26 => ?_)
              refine lv_imul hx hb dX7_queueBefore_122 ?_
              refine lv_topi (fun x27 ex27 => ?_)
              refine lv_iadd hx hb dX7_queueBefore_123 ?_
              refine lv_topi (fun x28 ex28 => ?_)
              obtain rfl : x28 = nI (sc k (slN k a (1, x - 1, 0))) := by rw [ex28, ex27, ex26, ex25]; exact swp_code hk6 ha5 hxk hx1
              refine lv_iload_n hx hb dX7_queueBefore_124 rfl (lv_at hl 6 rfl) ?_
              refine ca_v (wr := []) (va_runV (As := [.int (nI (sc k (slN k a (1, x - 1, 0)))), .int (nI ((tN (fS k fs) a) + 1))]) (rest := []) ⟨hx, hb, hml, hown, hts⟩ (n_reach l G H.size t ta tq k cv2 se go ki fv2 qv2 yq (slN k a (1, x - 1, 0)) (tN (fS k fs) a + 1) (bK ki) S hk6 (slN_lt ha5 (Or.inr (Or.inl ⟨rfl, by omega, rfl⟩))) hB3 hyc3 (by rw [hqa3]; exact pred_swp ha5 hxk hx1 hb1) (by rw [hqa3]; unfold tN; rw [hsm3 a ha5 hna]) (by omega)) (cwV 2 hts gX7_queueBefore_X7_reach rfl rfl rfl (by decide +kernel) ⟨by decide +kernel, by decide +kernel⟩) (pre_V E hP hD hS hA [0, 1, 2] (by decide) rfl 0 3 rfl rfl) rfl rfl hl.1 rfl (lv_room (Nat.le_of_ble_eq_true rfl)) dX7_queueBefore_125 ⟨by decide +kernel, by decide +kernel⟩) hS hP hD hA [0, 1, 2] [] rfl rfl (by decide) (by decide) (fun u31 H locs w29 hP hD hS => ?_)
              obtain ⟨cq1_32, fs1_33, fq1_34⟩ := u31
              try dsimp only at w29 hP hD
              have hP := (hP.sub (ws' := [(t, .inr (3, [.ref ta, .ref tq, .int (nI cq1_32), .int se, .int go, .int ki, .int (nI k)])), (ta, .inl (gB G, 15625, .inl fs1_33)), (tq, .inl (gI G, 15625, .inl fq1_34))]) [0, 1, 2] rfl)
              have hD := (hD.sub (ws' := [(t, .inr (3, [.ref ta, .ref tq, .int (nI cq1_32), .int se, .int go, .int ki, .int (nI k)])), (ta, .inl (gB G, 15625, .inl fs1_33)), (tq, .inl (gI G, 15625, .inl fq1_34))]) [0, 1, 2] (by decide) rfl)
              have hB4 := w29.1
              have hyc4 : yq < cq1_32 := by have q9 := w29.2.2.2.2; omega
              have hqa4 := w29.2.2.2.1.trans hqa3
              have hsm4 : ∀ z, z < 5 ^ k → ¬ fS k fs z < 0 → fS k fs1_33 z = fS k fs z := fun z9 h8 h9 => (w29.2.1 z9 h8 (by rw [hsm3 z9 h8 h9]; exact h9)).trans (hsm3 z9 h8 h9)
              have hcl4 := cloS_more (mono_of w29.2.1) hcl3
              have hput4 : canP k (bK ki) a x → ∀ o, o < 5 → ¬ fS k fs1_33 (wN k a x o) < 0 := fun q9 o9 h9 => (mono_of w29.2.1) _ (wN_lt ha5 hxk h9) (hput3 q9 o9 h9)
              have hswp : 1 ≤ x → bK ki 1 = true → ¬ fS k fs1_33 (slN k a (1, x - 1, 0)) < 0 := fun _ _ => w29.2.2.1
              refine lv_iload hx hb dX7_queueBefore_128 (lv_at hl 2 rfl) ?_
              refine lv_istore_n (lv' := [(3, .int (nI (dg k a x))), (7, .int (nI (5 * (5 ^ (6 - 1 - x))))), (8, .int (nI o)), (6, .int (nI (dg k a x))), (5, .int (nI (5 ^ (6 - 1 - x)))), (4, .int (nI x)), (2, .int (nI ((tN (fS k fs) a) + 1))), (0, .ref t), (1, .int (nI (sc k a)))]) hx hb dX7_queueBefore_130 rfl hl (by decide) rfl (fun ls hl => ?_)
              obtain ⟨x35, ex35⟩ : ∃ yy_ : Int32, yy_ = (nI x) + 1 := ⟨_, rfl⟩
              refine lv_iinc (v := x35) (lv' := [(4, .int x35), (3, .int (nI (dg k a x))), (7, .int (nI (5 * (5 ^ (6 - 1 - x))))), (8, .int (nI o)), (6, .int (nI (dg k a x))), (5, .int (nI (5 ^ (6 - 1 - x)))), (2, .int (nI ((tN (fS k fs) a) + 1))), (0, .ref t), (1, .int (nI (sc k a)))]) hx hb dX7_queueBefore_131 hl (k := 5) rfl (by rw [ex35]; rfl) (by decide) rfl (fun ls hl => ?_)
              obtain rfl : x35 = nI (x + 1) := by rw [ex35]; exact nI_add x 1
              refine lv_goto (tgt := 13) hx hb dX7_queueBefore_134 (by decide) ?_
              refine ih13 ((x + 1), nI (dg k a x), cq1_32, fs1_33, fq1_34) ⟨?_, ?_, ?_, ?_, ?_, ?_, ?_⟩ (by first | omega | (dsimp only; omega)) H locs ls (hP.sub [0, 1, 2] rfl) (hD.sub [0, 1, 2] (by decide) rfl) hS (lv_sub hl [0, 1, 6, 7, 8] rfl)
              · try dsimp only
                omega
              · try dsimp only
                exact hB4
              · try dsimp only
                exact hyc4
              · try dsimp only
                exact hqa4
              · try dsimp only
                exact hsm4
              · try dsimp only
                exact Or.inr ⟨by omega, by rw [show x + 1 - 1 = x by omega]⟩
              · try dsimp only
                exact cloS_step ha5 hcl4 hput4 hswp
      · have c15 : ¬ 5 ≤ o := fun h9_ => c15 ((nI_leI (a := 5) (b := o) (by omega) (by omega)).mpr h9_)
        refine lv_aload_n hx hb dX7_queueBefore_65 rfl (lv_at hl 7 rfl) ?_
        refine lv_iload hx hb dX7_queueBefore_66 (lv_at hl 1 rfl) ?_
        refine lv_iload hx hb dX7_queueBefore_68 (lv_at hl 0 rfl) ?_
        refine lv_iload hx hb dX7_queueBefore_70 (lv_at hl 3 rfl) ?_
        refine lv_imul hx hb dX7_queueBefore_72 ?_
        refine lv_topi (fun x36 ex36 => ?_)
        obtain rfl : x36 = nI (o * (5 ^ (6 - 1 - x))) := by rw [ex36]; exact pk_mul o (5 ^ (6 - 1 - x))
        refine lv_iadd hx hb dX7_queueBefore_73 ?_
        refine lv_topi (fun x37 ex37 => ?_)
        obtain rfl : x37 = nI (((sc k a) - ((dg k a x) * (5 ^ (6 - 1 - x)))) + (o * (5 ^ (6 - 1 - x)))) := by rw [ex37]; exact nI_add ((sc k a) - ((dg k a x) * (5 ^ (6 - 1 - x)))) (o * (5 ^ (6 - 1 - x)))
        refine W.eq (g2 := F0 m 74 ls [.int (nI (sc k (wN k a x o))), .ref t]) (by rw [clr_put (o := o) hk6 hxk]) ?_
        refine lv_iload_n hx hb dX7_queueBefore_74 rfl (lv_at hl 6 rfl) ?_
        refine ca_v (wr := []) (va_runV (As := [.int (nI (sc k (wN k a x o))), .int (nI ((tN (fS k fs) a) + 1))]) (rest := []) ⟨hx, hb, hml, hown, hts⟩ (n_reach l G H.size t ta tq k cv2 se go ki fv2 qv2 yq (wN k a x o) (tN (fS k fs) a + 1) (bK ki) S hk6 (wN_lt ha5 hxk (by omega)) hB2 hyc2 (by rw [hqa2]; exact pred_put ha5 hxk (by omega) hcan) (by rw [hqa2]; unfold tN; rw [hsm2 a ha5 hna]) (by omega)) (cwV 2 hts gX7_queueBefore_X7_reach rfl rfl rfl (by decide +kernel) ⟨by decide +kernel, by decide +kernel⟩) (pre_V E hP hD hS hA [0, 1, 2] (by decide) rfl 0 3 rfl rfl) rfl rfl hl.1 rfl (lv_room (Nat.le_of_ble_eq_true rfl)) dX7_queueBefore_75 ⟨by decide +kernel, by decide +kernel⟩) hS hP hD hA [0, 1, 2] [] rfl rfl (by decide) (by decide) (fun u40 H locs w38 hP hD hS => ?_)
        obtain ⟨cq1_41, fs1_42, fq1_43⟩ := u40
        try dsimp only at w38 hP hD
        have hP := (hP.sub (ws' := [(t, .inr (3, [.ref ta, .ref tq, .int (nI cq1_41), .int se, .int go, .int ki, .int (nI k)])), (ta, .inl (gB G, 15625, .inl fs1_42)), (tq, .inl (gI G, 15625, .inl fq1_43))]) [0, 1, 2] rfl)
        have hD := (hD.sub (ws' := [(t, .inr (3, [.ref ta, .ref tq, .int (nI cq1_41), .int se, .int go, .int ki, .int (nI k)])), (ta, .inl (gB G, 15625, .inl fs1_42)), (tq, .inl (gI G, 15625, .inl fq1_43))]) [0, 1, 2] (by decide) rfl)
        obtain ⟨x44, ex44⟩ : ∃ yy_ : Int32, yy_ = (nI o) + 1 := ⟨_, rfl⟩
        refine lv_iinc (v := x44) (lv' := [(8, .int x44), (7, .int (nI ((sc k a) - ((dg k a x) * (5 ^ (6 - 1 - x)))))), (6, .int (nI (dg k a x))), (5, .int (nI (5 ^ (6 - 1 - x)))), (4, .int (nI x)), (3, .int lf), (2, .int (nI ((tN (fS k fs) a) + 1))), (0, .ref t), (1, .int (nI (sc k a)))]) hx hb dX7_queueBefore_78 hl (k := 0) rfl (by rw [ex44]; rfl) (by decide) rfl (fun ls hl => ?_)
        obtain rfl : x44 = nI (o + 1) := by rw [ex44]; exact nI_add o 1
        refine lv_goto (tgt := 59) hx hb dX7_queueBefore_81 (by decide) ?_
        refine ih59 ((o + 1), cq1_41, fs1_42, fq1_43) ⟨?_, ?_, ?_, ?_, ?_, ?_, ?_⟩ (by first | omega | (dsimp only; omega)) H locs ls (hP.sub [0, 1, 2] rfl) (hD.sub [0, 1, 2] (by decide) rfl) hS (lv_sub hl [0, 1, 2, 3, 4, 5, 6, 7, 8] rfl)
        · try dsimp only
          omega
        · try dsimp only
          exact w38.1
        · try dsimp only
          have q9 := w38.2.2.2.2; omega
        · try dsimp only
          exact w38.2.2.2.1.trans hqa2
        · try dsimp only
          exact fun z9 h8 h9 => (w38.2.1 z9 h8 (by rw [hsm2 z9 h8 h9]; exact h9)).trans (hsm2 z9 h8 h9)
        · try dsimp only
          exact cloS_more (mono_of w38.2.1) hcl2
        · try dsimp only
          intro o9 h9; by_cases e9 : o9 = o
          · rw [e9]; exact w38.2.2.1
          · exact (mono_of w38.2.1) _ (wN_lt ha5 hxk (by omega)) (hpt o9 (by omega))
    · refine lv_if_eq (tgt := 84) hx hb dX7_queueBefore_44 (by decide) (fun _ => ?_) (fun c45 => False.elim (by revert c45; decide))
      have hB3 := hB
      have hyc3 := hyc
      have hqa3 := hqa
      have hsm3 := hsm
      have hcl3 := hcl
      have hput3 : canP k (bK ki) a x → ∀ o, o < 5 → ¬ fS k fv (wN k a x o) < 0 := fun q9 o9 h9 => absurd q9 b11
      refine lv_iload_n hx hb dX7_queueBefore_84 rfl (lv_at hl 3 rfl) ?_
      refine lv_if_lt (tgt := 128) hx hb dX7_queueBefore_85 (by decide) (fun c46 => ?_) (fun c46 => ?_)
      · have hB4 := hB3
        have hyc4 := hyc3
        have hqa4 := hqa3
        have hsm4 := hsm3
        have hcl4 := hcl3
        have hput4 := hput3
        have hswp : 1 ≤ x → bK ki 1 = true → ¬ fS k fv (slN k a (1, x - 1, 0)) < 0 := fun h1 _ => by rcases hlf with ⟨q9, -⟩ | ⟨-, q9⟩; omega; exact absurd c46 (by rw [q9]; exact nI_pos (by have := dg_lt k a (x - 1); omega))
        refine lv_iload hx hb dX7_queueBefore_128 (lv_at hl 0 rfl) ?_
        refine lv_istore_n (lv' := [(3, .int (nI (dg k a x))), (6, .int (nI (dg k a x))), (5, .int (nI (5 ^ (6 - 1 - x)))), (4, .int (nI x)), (2, .int (nI ((tN (fS k fs) a) + 1))), (0, .ref t), (1, .int (nI (sc k a)))]) hx hb dX7_queueBefore_130 rfl hl (by decide) rfl (fun ls hl => ?_)
        obtain ⟨x47, ex47⟩ : ∃ yy_ : Int32, yy_ = (nI x) + 1 := ⟨_, rfl⟩
        refine lv_iinc (v := x47) (lv' := [(4, .int x47), (3, .int (nI (dg k a x))), (6, .int (nI (dg k a x))), (5, .int (nI (5 ^ (6 - 1 - x)))), (2, .int (nI ((tN (fS k fs) a) + 1))), (0, .ref t), (1, .int (nI (sc k a)))]) hx hb dX7_queueBefore_131 hl (k := 3) rfl (by rw [ex47]; rfl) (by decide) rfl (fun ls hl => ?_)
        obtain rfl : x47 = nI (x + 1) := by rw [ex47]; exact nI_add x 1
        refine lv_goto (tgt := 13) hx hb dX7_queueBefore_134 (by decide) ?_
        refine ih13 ((x + 1), nI (dg k a x), cv, fv, qv) ⟨?_, ?_, ?_, ?_, ?_, ?_, ?_⟩ (by first | omega | (dsimp only; omega)) H locs ls (hP.sub [0, 1, 2] rfl) (hD.sub [0, 1, 2] (by decide) rfl) hS (lv_sub hl [0, 1, 4, 5, 6] rfl)
        · try dsimp only
          omega
        · try dsimp only
          exact hB4
        · try dsimp only
          exact hyc4
        · try dsimp only
          exact hqa4
        · try dsimp only
          exact hsm4
        · try dsimp only
          exact Or.inr ⟨by omega, by rw [show x + 1 - 1 = x by omega]⟩
        · try dsimp only
          exact cloS_step ha5 hcl4 hput4 hswp
      · refine lv_iload_n hx hb dX7_queueBefore_88 rfl (lv_at hl 3 rfl) ?_
        refine lv_iload hx hb dX7_queueBefore_89 (lv_at hl 0 rfl) ?_
        refine lv_icmp_eq (tgt := 128) hx hb dX7_queueBefore_91 (by decide) (fun c48 => ?_) (fun c48 => ?_)
        · have hB4 := hB3
          have hyc4 := hyc3
          have hqa4 := hqa3
          have hsm4 := hsm3
          have hcl4 := hcl3
          have hput4 := hput3
          have hswp : 1 ≤ x → bK ki 1 = true → ¬ fS k fv (slN k a (1, x - 1, 0)) < 0 := fun h1 _ => by rw [swp_same ha5 hxk h1 (by rcases hlf with ⟨q9, -⟩ | ⟨-, q9⟩; omega; exact (nI_eq (by have := dg_lt k a (x - 1); omega) (by omega)).mp (q9.symm.trans c48))]; rw [hsm4 a ha5 hna]; exact hna
          refine lv_iload hx hb dX7_queueBefore_128 (lv_at hl 0 rfl) ?_
          refine lv_istore_n (lv' := [(3, .int (nI (dg k a x))), (6, .int (nI (dg k a x))), (5, .int (nI (5 ^ (6 - 1 - x)))), (4, .int (nI x)), (2, .int (nI ((tN (fS k fs) a) + 1))), (0, .ref t), (1, .int (nI (sc k a)))]) hx hb dX7_queueBefore_130 rfl hl (by decide) rfl (fun ls hl => ?_)
          obtain ⟨x49, ex49⟩ : ∃ yy_ : Int32, yy_ = (nI x) + 1 := ⟨_, rfl⟩
          refine lv_iinc (v := x49) (lv' := [(4, .int x49), (3, .int (nI (dg k a x))), (6, .int (nI (dg k a x))), (5, .int (nI (5 ^ (6 - 1 - x)))), (2, .int (nI ((tN (fS k fs) a) + 1))), (0, .ref t), (1, .int (nI (sc k a)))]) hx hb dX7_queueBefore_131 hl (k := 3) rfl (by rw [ex49]; rfl) (by decide) rfl (fun ls hl => ?_)
          obtain rfl : x49 = nI (x + 1) := by rw [ex49]; exact nI_add x 1
          refine lv_goto (tgt := 13) hx hb dX7_queueBefore_134 (by decide) ?_
          refine ih13 ((x + 1), nI (dg k a x), cv, fv, qv) ⟨?_, ?_, ?_, ?_, ?_, ?_, ?_⟩ (by first | omega | (dsimp only; omega)) H locs ls (hP.sub [0, 1, 2] rfl) (hD.sub [0, 1, 2] (by decide) rfl) hS (lv_sub hl [0, 1, 4, 5, 6] rfl)
          · try dsimp only
            omega
          · try dsimp only
            exact hB4
          · try dsimp only
            exact hyc4
          · try dsimp only
            exact hqa4
          · try dsimp only
            exact hsm4
          · try dsimp only
            exact Or.inr ⟨by omega, by rw [show x + 1 - 1 = x by omega]⟩
          · try dsimp only
            exact cloS_step ha5 hcl4 hput4 hswp
        · refine lv_aload_n hx hb dX7_queueBefore_94 rfl (lv_at hl 5 rfl) ?_
          refine va_get (D := G.1) (ci := 3) (v := .int ki) (C := RX7) (T := TX7) (N := 7) hx hb hts (fun _ h => List.mem_cons_of_mem _ (List.mem_append_right _ h)) hown E.K hP 0 rfl rfl 5 (by decide) (hts (.fieldLink RX7 25 "LastMap$Table" "kinds" "I") (by decide +kernel)) (fun _ h9 => h9) rfl dX7_queueBefore_95 ?_
          refine lv_iconst (v := 1) hx hb dX7_queueBefore_98 (by decide) ?_
          refine lv_ishr hx hb dX7_queueBefore_99 ?_
          refine lv_topi (fun x50 ex50 => ?_)
          refine lv_iconst (v := 1) hx hb dX7_queueBefore_100 (by decide) ?_
          refine lv_iand hx hb dX7_queueBefore_101 ?_
          refine lv_topi (fun x51 ex51 => ?_)
          refine lv_if_eq (tgt := 128) hx hb dX7_queueBefore_102 (by decide) (fun c52 => ?_) (fun c52 => ?_)
          · have hB4 := hB3
            have hyc4 := hyc3
            have hqa4 := hqa3
            have hsm4 := hsm3
            have hcl4 := hcl3
            have hput4 := hput3
            have hswp : 1 ≤ x → bK ki 1 = true → ¬ fS k fv (slN k a (1, x - 1, 0)) < 0 := fun _ h1 => absurd c52 ((bK_i (q := 1) ex50 ex51).mpr h1)
            refine lv_iload hx hb dX7_queueBefore_128 (lv_at hl 0 rfl) ?_
            refine lv_istore_n (lv' := [(3, .int (nI (dg k a x))), (6, .int (nI (dg k a x))), (5, .int (nI (5 ^ (6 - 1 - x)))), (4, .int (nI x)), (2, .int (nI ((tN (fS k fs) a) + 1))), (0, .ref t), (1, .int (nI (sc k a)))]) hx hb dX7_queueBefore_130 rfl hl (by decide) rfl (fun ls hl => ?_)
            obtain ⟨x53, ex53⟩ : ∃ yy_ : Int32, yy_ = (nI x) + 1 := ⟨_, rfl⟩
            refine lv_iinc (v := x53) (lv' := [(4, .int x53), (3, .int (nI (dg k a x))), (6, .int (nI (dg k a x))), (5, .int (nI (5 ^ (6 - 1 - x)))), (2, .int (nI ((tN (fS k fs) a) + 1))), (0, .ref t), (1, .int (nI (sc k a)))]) hx hb dX7_queueBefore_131 hl (k := 3) rfl (by rw [ex53]; rfl) (by decide) rfl (fun ls hl => ?_)
            obtain rfl : x53 = nI (x + 1) := by rw [ex53]; exact nI_add x 1
            refine lv_goto (tgt := 13) hx hb dX7_queueBefore_134 (by decide) ?_
            refine ih13 ((x + 1), nI (dg k a x), cv, fv, qv) ⟨?_, ?_, ?_, ?_, ?_, ?_, ?_⟩ (by first | omega | (dsimp only; omega)) H locs ls (hP.sub [0, 1, 2] rfl) (hD.sub [0, 1, 2] (by decide) rfl) hS (lv_sub hl [0, 1, 4, 5, 6] rfl)
            · try dsimp only
              omega
            · try dsimp only
              exact hB4
            · try dsimp only
              exact hyc4
            · try dsimp only
              exact hqa4
            · try dsimp only
              exact hsm4
            · try dsimp only
              exact Or.inr ⟨by omega, by rw [show x + 1 - 1 = x by omega]⟩
            · try dsimp only
              exact cloS_step ha5 hcl4 hput4 hswp
          · have hb1 : bK ki 1 = true := (bK_i (q := 1) ex50 ex51).mp c52
            have hx1 : 1 ≤ x := by rcases hlf with ⟨q9, q8⟩ | ⟨q9, -⟩; exact absurd (show lf < 0 by rw [q8]; decide) c46; exact q9
            have hlf2 : lf = nI (dg k a (x - 1)) := by rcases hlf with ⟨q9, -⟩ | ⟨-, q9⟩; omega; exact q9
            have hl : lv_has ls 9 [(6, .int (nI (dg k a x))), (5, .int (nI (5 ^ (6 - 1 - x)))), (4, .int (nI x)), (3, .int (nI (dg k a (x - 1)))), (2, .int (nI ((tN (fS k fs) a) + 1))), (0, .ref t), (1, .int (nI (sc k a)))] := by have q := hl; rw [hlf2] at q; exact q
            refine lv_iconst (v := 5) hx hb dX7_queueBefore_105 (by decide) ?_
            refine lv_iload hx hb dX7_queueBefore_106 (lv_at hl 1 rfl) ?_
            refine lv_imul hx hb dX7_queueBefore_108 ?_
            refine lv_topi (fun x54 ex54 => ?_)
            obtain rfl : x54 = nI (5 * (5 ^ (6 - 1 - x))) := by rw [ex54]; exact pk_mul 5 (5 ^ (6 - 1 - x))
            refine lv_istore (lv' := [(7, .int (nI (5 * (5 ^ (6 - 1 - x))))), (6, .int (nI (dg k a x))), (5, .int (nI (5 ^ (6 - 1 - x)))), (4, .int (nI x)), (3, .int (nI (dg k a (x - 1)))), (2, .int (nI ((tN (fS k fs) a) + 1))), (0, .ref t), (1, .int (nI (sc k a)))]) hx hb dX7_queueBefore_109 hl (by decide) rfl (fun ls hl => ?_)
            refine lv_aload_n hx hb dX7_queueBefore_111 rfl (lv_at hl 6 rfl) ?_
            refine lv_iload_n hx hb dX7_queueBefore_112 rfl (lv_at hl 7 rfl) ?_
            refine lv_iload hx hb dX7_queueBefore_113 (lv_at hl 1 rfl) ?_
            refine lv_iload_n hx hb dX7_queueBefore_115 rfl (lv_at hl 4 rfl) ?_
            refine lv_isub hx hb dX7_queueBefore_116 ?_
            refine lv_topi (fun x55 ex55 => ?_)
            refine lv_iload hx hb dX7_queueBefore_117 (lv_at hl 0 rfl) ?_
            refine lv_iload hx hb dX7_queueBefore_119 (lv_at hl 2 rfl) ?_
            refine lv_isub hx hb dX7_queueBefore_121 ?_
            refine lv_topi (fun x56 ex56 => ?_)
            refine lv_imul hx hb dX7_queueBefore_122 ?_
            refine lv_topi (fun x57 ex57 => ?_)
            refine lv_iadd hx hb dX7_queueBefore_123 ?_
            refine lv_topi (fun x58 ex58 => ?_)
            obtain rfl : x58 = nI (sc k (slN k a (1, x - 1, 0))) := by rw [ex58, ex57, ex56, ex55]; exact swp_code hk6 ha5 hxk hx1
            refine lv_iload_n hx hb dX7_queueBefore_124 rfl (lv_at hl 5 rfl) ?_
            refine ca_v (wr := []) (va_runV (As := [.int (nI (sc k (slN k a (1, x - 1, 0)))), .int (nI ((tN (fS k fs) a) + 1))]) (rest := []) ⟨hx, hb, hml, hown, hts⟩ (n_reach l G H.size t ta tq k cv se go ki fv qv yq (slN k a (1, x - 1, 0)) (tN (fS k fs) a + 1) (bK ki) S hk6 (slN_lt ha5 (Or.inr (Or.inl ⟨rfl, by omega, rfl⟩))) hB3 hyc3 (by rw [hqa3]; exact pred_swp ha5 hxk hx1 hb1) (by rw [hqa3]; unfold tN; rw [hsm3 a ha5 hna]) (by omega)) (cwV 2 hts gX7_queueBefore_X7_reach rfl rfl rfl (by decide +kernel) ⟨by decide +kernel, by decide +kernel⟩) (pre_V E hP hD hS hA [0, 1, 2] (by decide) rfl 0 3 rfl rfl) rfl rfl hl.1 rfl (lv_room (Nat.le_of_ble_eq_true rfl)) dX7_queueBefore_125 ⟨by decide +kernel, by decide +kernel⟩) hS hP hD hA [0, 1, 2] [] rfl rfl (by decide) (by decide) (fun u61 H locs w59 hP hD hS => ?_)
            obtain ⟨cq1_62, fs1_63, fq1_64⟩ := u61
            try dsimp only at w59 hP hD
            have hP := (hP.sub (ws' := [(t, .inr (3, [.ref ta, .ref tq, .int (nI cq1_62), .int se, .int go, .int ki, .int (nI k)])), (ta, .inl (gB G, 15625, .inl fs1_63)), (tq, .inl (gI G, 15625, .inl fq1_64))]) [0, 1, 2] rfl)
            have hD := (hD.sub (ws' := [(t, .inr (3, [.ref ta, .ref tq, .int (nI cq1_62), .int se, .int go, .int ki, .int (nI k)])), (ta, .inl (gB G, 15625, .inl fs1_63)), (tq, .inl (gI G, 15625, .inl fq1_64))]) [0, 1, 2] (by decide) rfl)
            have hB4 := w59.1
            have hyc4 : yq < cq1_62 := by have q9 := w59.2.2.2.2; omega
            have hqa4 := w59.2.2.2.1.trans hqa3
            have hsm4 : ∀ z, z < 5 ^ k → ¬ fS k fs z < 0 → fS k fs1_63 z = fS k fs z := fun z9 h8 h9 => (w59.2.1 z9 h8 (by rw [hsm3 z9 h8 h9]; exact h9)).trans (hsm3 z9 h8 h9)
            have hcl4 := cloS_more (mono_of w59.2.1) hcl3
            have hput4 : canP k (bK ki) a x → ∀ o, o < 5 → ¬ fS k fs1_63 (wN k a x o) < 0 := fun q9 o9 h9 => (mono_of w59.2.1) _ (wN_lt ha5 hxk h9) (hput3 q9 o9 h9)
            have hswp : 1 ≤ x → bK ki 1 = true → ¬ fS k fs1_63 (slN k a (1, x - 1, 0)) < 0 := fun _ _ => w59.2.2.1
            refine lv_iload hx hb dX7_queueBefore_128 (lv_at hl 1 rfl) ?_
            refine lv_istore_n (lv' := [(3, .int (nI (dg k a x))), (7, .int (nI (5 * (5 ^ (6 - 1 - x))))), (6, .int (nI (dg k a x))), (5, .int (nI (5 ^ (6 - 1 - x)))), (4, .int (nI x)), (2, .int (nI ((tN (fS k fs) a) + 1))), (0, .ref t), (1, .int (nI (sc k a)))]) hx hb dX7_queueBefore_130 rfl hl (by decide) rfl (fun ls hl => ?_)
            obtain ⟨x65, ex65⟩ : ∃ yy_ : Int32, yy_ = (nI x) + 1 := ⟨_, rfl⟩
            refine lv_iinc (v := x65) (lv' := [(4, .int x65), (3, .int (nI (dg k a x))), (7, .int (nI (5 * (5 ^ (6 - 1 - x))))), (6, .int (nI (dg k a x))), (5, .int (nI (5 ^ (6 - 1 - x)))), (2, .int (nI ((tN (fS k fs) a) + 1))), (0, .ref t), (1, .int (nI (sc k a)))]) hx hb dX7_queueBefore_131 hl (k := 4) rfl (by rw [ex65]; rfl) (by decide) rfl (fun ls hl => ?_)
            obtain rfl : x65 = nI (x + 1) := by rw [ex65]; exact nI_add x 1
            refine lv_goto (tgt := 13) hx hb dX7_queueBefore_134 (by decide) ?_
            refine ih13 ((x + 1), nI (dg k a x), cq1_62, fs1_63, fq1_64) ⟨?_, ?_, ?_, ?_, ?_, ?_, ?_⟩ (by first | omega | (dsimp only; omega)) H locs ls (hP.sub [0, 1, 2] rfl) (hD.sub [0, 1, 2] (by decide) rfl) hS (lv_sub hl [0, 1, 5, 6, 7] rfl)
            · try dsimp only
              omega
            · try dsimp only
              exact hB4
            · try dsimp only
              exact hyc4
            · try dsimp only
              exact hqa4
            · try dsimp only
              exact hsm4
            · try dsimp only
              exact Or.inr ⟨by omega, by rw [show x + 1 - 1 = x by omega]⟩
            · try dsimp only
              exact cloS_step ha5 hcl4 hput4 hswp

set_option maxHeartbeats 1000000 in
set_option maxRecDepth 100000 in
theorem n_searchFor (l : Launch) (G : Gy) (sz : Nat) (t : Nat) (ta : Nat) (tq : Nat) (k : Nat) (cq : Nat) (yq : Nat) (go : Int32) (ki : Int32) (fs : Nat → Int32) (fq : Nat → Int32) (S : Nat → Prop) (p0 : Int32) (hk2 : 2 ≤ k) (hk6 : k ≤ 6) (hbk : BK k (bK ki) S yq cq fs fq) : Cv l G yX7_searchFor wsX7_searchFor ({ frames := 2, cells := 0, slots := 0, locals := 50 }) [.ref t, .int p0] ([(t, .inr (3, [.ref ta, .ref tq, .int (nI cq), .int (nI yq), .int go, .int ki, .int (nI k)])), (ta, .inl (gB G, 15625, .inl fs)), (tq, .inl (gI G, 15625, .inl fq))]) sz (fun (u : Nat × Nat × (Nat → Int32) × (Nat → Int32)) => match u with | (cq1, yq1, fs1, fq1) => BK k (bK ki) S yq1 cq1 fs1 fq1 ∧ (¬ cIf (inR p0 0 15624) (fs1 p0.toNatClampNeg) (-6) = (-6) ∨ 5 ^ k ≤ cq1 ∨ cq1 ≤ yq1)) (fun (u : Nat × Nat × (Nat → Int32) × (Nat → Int32)) => match u with | (cq1, yq1, fs1, fq1) => [(t, .inr (3, [.ref ta, .ref tq, .int (nI cq1), .int (nI yq1), .int go, .int ki, .int (nI k)])), (ta, .inl (gB G, 15625, .inl fs1)), (tq, .inl (gI G, 15625, .inl fq1))]) 0 0 := by
  refine Met.ofW (cc := cX7_searchFor) (maxL := 3) (ret := none) (by decide) rfl ?_
  intro p e s m args below meth c s₁ B hml hv
  obtain ⟨rfl, hsz, hP, hD0, E0⟩ := hv
  have hx := B.exec
  have hb := B.bytes
  have hr := B.returns
  have hts := atoms_spec (ws := wsX7_searchFor) B.pre
  have hown : s.vm.findClass RX7 = some m.cls := findClass_of_methodNamed B.named
  have hlocks := B.notSynchronized
  subst hsz
  have hD := hD0.self (sz := s.heap.size)
  generalize hAe : va_A ([(t, .inr (3, [.ref ta, .ref tq, .int (nI cq), .int (nI yq), .int go, .int ki, .int (nI k)])), (ta, .inl (gB G, 15625, .inl fs)), (tq, .inl (gI G, 15625, .inl fq))]) s.heap.size = A at hD E0 ⊢
  have E : EV G A s s.heap := E0
  have hA : ∀ q : Nat, s.heap.size ≤ q → A q := fun q h => by rw [← hAe]; exact Or.inr h
  have hS : va_S A s.heap s.heap [] := va_S.rf
  have hl := lv_entry ([.ref t, .int p0]) (n := 3) (Nat.le_of_ble_eq_true rfl)
  rw [lg_entry_eq]
  generalize (lg_sl ([.ref t, .int p0]) ++ List.replicate (3 - (lg_sl ([.ref t, .int p0])).length) Slot.unset).toArray = ls at hl ⊢
  have hl : lv_has ls 3 [(0, .ref t), (1, .int p0)] := hl
  have hP : va_P G.1 vwCl ([(t, .inr (3, [.ref ta, .ref tq, .int (nI cq), .int (nI yq), .int go, .int ki, .int (nI k)])), (ta, .inl (gB G, 15625, .inl fs)), (tq, .inl (gI G, 15625, .inl fq))]) s.heap := hP
  have hal := p5le hk6
  refine lv_aload_n hx hb dX7_searchFor_0 rfl (lv_at hl 0 rfl) ?_
  refine va_get (D := G.1) (ci := 3) (v := .int (nI k)) (C := RX7) (T := TX7) (N := 7) hx hb hts (fun _ h => List.mem_cons_of_mem _ (List.mem_append_right _ h)) hown E.K hP 0 rfl rfl 6 (by decide) (hts (.fieldLink RX7 28 "LastMap$Table" "n" "I") (by decide +kernel)) (fun _ h9 => h9) rfl dX7_searchFor_1 ?_
  refine ca_iR (va_runS (As := [.int (nI k)]) (rest := []) ⟨hx, hb, hml, hown, hts⟩ (c_countOf l G s.heap.size (nI k)) (va_cwS 1 hts gX7_searchFor_X1_countOf rfl rfl rfl (by decide +kernel) ⟨by decide +kernel, by decide +kernel⟩) (pre_S E hP hD hS hA [] (by decide) rfl) rfl rfl hl.1 rfl (lv_room (Nat.le_of_ble_eq_true rfl)) dX7_searchFor_4 ⟨by decide +kernel, by decide +kernel⟩) hS hP hD hA [] rfl (fun r2 _ H locs w1 hP hS => ?_)
  obtain rfl : r2 = nI (5 ^ k) := by rw [w1]; exact cnt5_k hk2 hk6
  refine lv_istore_n (lv' := [(2, .int (nI (5 ^ k))), (0, .ref t), (1, .int p0)]) hx hb dX7_searchFor_7 rfl hl (by decide) rfl (fun ls hl => ?_)
  refine lp_run (x0 := (cq, yq, fs, fq)) (fun xx_ : Nat × Nat × (Nat → Int32) × (Nat → Int32) => match xx_ with | (cv, yv, fv, qv) => [(t, .inr (3, [.ref ta, .ref tq, .int (nI cv), .int (nI yv), .int go, .int ki, .int (nI k)])), (ta, .inl (gB G, 15625, .inl fv)), (tq, .inl (gI G, 15625, .inl qv))]) (fun xx_ : Nat × Nat × (Nat → Int32) × (Nat → Int32) => match xx_ with | (cv, yv, fv, qv) => [(2, .int (nI (5 ^ k))), (0, .ref t), (1, .int p0)]) (fun xx_ : Nat × Nat × (Nat → Int32) × (Nat → Int32) => match xx_ with | (cv, yv, fv, qv) => (BK k (bK ki) S yv cv fv qv) ∧ (cv ≤ 5 ^ k) ∧ (yv ≤ cv)) (fun xx_ : Nat × Nat × (Nat → Int32) × (Nat → Int32) => match xx_ with | (cv, yv, fv, qv) => 15625 - yv) (hP.sub [0, 1, 2] rfl) (hD.sub [0, 1, 2] (by decide) rfl) hS (lv_sub hl [0, 1, 2] rfl) ⟨hbk, by have q9 := hbk.2.2.2.2.2.2.2.2.1; omega, hbk.2.2.2.2.2.2.2.2.2⟩ ?_
  intro xx_ hI ih8 H locs ls hP hD hS hl
  obtain ⟨cv, yv, fv, qv⟩ := xx_
  dsimp only at hI ih8 hP hD hl
  obtain ⟨hB, hcl, hyl⟩ := hI
  have hl : lv_has ls 3 [(2, .int (nI (5 ^ k))), (0, .ref t), (1, .int p0)] := hl
  have hP : va_P G.1 vwCl ([(t, .inr (3, [.ref ta, .ref tq, .int (nI cv), .int (nI yv), .int go, .int ki, .int (nI k)])), (ta, .inl (gB G, 15625, .inl fv)), (tq, .inl (gI G, 15625, .inl qv))]) H := hP
  have hD : va_D A ([(t, .inr (3, [.ref ta, .ref tq, .int (nI cv), .int (nI yv), .int go, .int ki, .int (nI k)])), (ta, .inl (gB G, 15625, .inl fv)), (tq, .inl (gI G, 15625, .inl qv))]) := hD
  refine lv_aload_n hx hb dX7_searchFor_8 rfl (lv_at hl 1 rfl) ?_
  refine lv_iload_n hx hb dX7_searchFor_9 rfl (lv_at hl 2 rfl) ?_
  refine ca_iR (va_runV (As := [.int p0]) (rest := []) ⟨hx, hb, hml, hown, hts⟩ (c_known l G H.size t ta tq (nI cv) (nI yv) go ki (nI k) fv qv p0) (cwV 1 hts gX7_searchFor_X7_known rfl rfl rfl (by decide +kernel) ⟨by decide +kernel, by decide +kernel⟩) (pre_V E hP hD hS hA [0, 1, 2] (by decide) rfl 0 3 rfl rfl) rfl rfl hl.1 rfl (lv_room (Nat.le_of_ble_eq_true rfl)) dX7_searchFor_10 ⟨by decide +kernel, by decide +kernel⟩) hS hP hD hA [0, 1, 2] rfl (fun r4 _ H locs w3 hP hS => ?_)
  refine lv_bipush (v := (-6)) hx hb dX7_searchFor_13 (by decide) ?_
  refine lv_icmp_ne (tgt := 75) hx hb dX7_searchFor_15 (by decide) (fun c5 => ?_) (fun c5 => ?_)
  · have hP9 := (hP.sub (ws' := [(t, .inr (3, [.ref ta, .ref tq, .int (nI cv), .int (nI yv), .int go, .int ki, .int (nI k)])), (ta, .inl (gB G, 15625, .inl fv)), (tq, .inl (gI G, 15625, .inl qv))]) [0, 1, 2] rfl)
    have hD9 := (hD.sub (ws' := [(t, .inr (3, [.ref ta, .ref tq, .int (nI cv), .int (nI yv), .int go, .int ki, .int (nI k)])), (ta, .inl (gB G, 15625, .inl fv)), (tq, .inl (gI G, 15625, .inl qv))]) [0, 1, 2] (by decide) rfl)
    exact W.vret hx hb hr (fun t9_ ht9_ hW9_ => ⟨⟨(cv, yv, fv, qv), rfl, ⟨hB, Or.inl (fun q9 => c5 (by rw [w3]; exact q9))⟩, by rw [ht9_]; exact hP9, hD9⟩, hS.F ht9_⟩) hS.2.2 dX7_searchFor_75
  · refine lv_aload_n hx hb dX7_searchFor_18 rfl (lv_at hl 1 rfl) ?_
    refine va_get (D := G.1) (ci := 3) (v := .int (nI cv)) (C := RX7) (T := TX7) (N := 7) hx hb hts (fun _ h => List.mem_cons_of_mem _ (List.mem_append_right _ h)) hown E.K hP 0 rfl rfl 2 (by decide) (hts (.fieldLink RX7 31 "LastMap$Table" "queued" "I") (by decide +kernel)) (fun _ h9 => h9) rfl dX7_searchFor_19 ?_
    refine lv_iload_n hx hb dX7_searchFor_22 rfl (lv_at hl 0 rfl) ?_
    refine lv_icmp_ge (tgt := 75) hx hb dX7_searchFor_23 (by decide) (fun c6 => ?_) (fun c6 => ?_)
    · have c6 : (5 ^ k) ≤ cv := (nI_leI (a := (5 ^ k)) (b := cv) (by omega) (by omega)).mp c6
      have hP9 := (hP.sub (ws' := [(t, .inr (3, [.ref ta, .ref tq, .int (nI cv), .int (nI yv), .int go, .int ki, .int (nI k)])), (ta, .inl (gB G, 15625, .inl fv)), (tq, .inl (gI G, 15625, .inl qv))]) [0, 1, 2] rfl)
      have hD9 := (hD.sub (ws' := [(t, .inr (3, [.ref ta, .ref tq, .int (nI cv), .int (nI yv), .int go, .int ki, .int (nI k)])), (ta, .inl (gB G, 15625, .inl fv)), (tq, .inl (gI G, 15625, .inl qv))]) [0, 1, 2] (by decide) rfl)
      exact W.vret hx hb hr (fun t9_ ht9_ hW9_ => ⟨⟨(cv, yv, fv, qv), rfl, ⟨hB, Or.inr (by omega)⟩, by rw [ht9_]; exact hP9, hD9⟩, hS.F ht9_⟩) hS.2.2 dX7_searchFor_75
    · have c6 : ¬ (5 ^ k) ≤ cv := fun h9_ => c6 ((nI_leI (a := (5 ^ k)) (b := cv) (by omega) (by omega)).mpr h9_)
      refine lv_aload_n hx hb dX7_searchFor_26 rfl (lv_at hl 1 rfl) ?_
      refine va_get (D := G.1) (ci := 3) (v := .int (nI yv)) (C := RX7) (T := TX7) (N := 7) hx hb hts (fun _ h => List.mem_cons_of_mem _ (List.mem_append_right _ h)) hown E.K hP 0 rfl rfl 3 (by decide) (hts (.fieldLink RX7 34 "LastMap$Table" "searched" "I") (by decide +kernel)) (fun _ h9 => h9) rfl dX7_searchFor_27 ?_
      refine lv_aload_n hx hb dX7_searchFor_30 rfl (lv_at hl 1 rfl) ?_
      refine va_get (D := G.1) (ci := 3) (v := .int (nI cv)) (C := RX7) (T := TX7) (N := 7) hx hb hts (fun _ h => List.mem_cons_of_mem _ (List.mem_append_right _ h)) hown E.K hP 0 rfl rfl 2 (by decide) (hts (.fieldLink RX7 31 "LastMap$Table" "queued" "I") (by decide +kernel)) (fun _ h9 => h9) rfl dX7_searchFor_31 ?_
      refine lv_icmp_ge (tgt := 75) hx hb dX7_searchFor_34 (by decide) (fun c7 => ?_) (fun c7 => ?_)
      · have c7 : cv ≤ yv := (nI_leI (a := cv) (b := yv) (by omega) (by omega)).mp c7
        have hP9 := (hP.sub (ws' := [(t, .inr (3, [.ref ta, .ref tq, .int (nI cv), .int (nI yv), .int go, .int ki, .int (nI k)])), (ta, .inl (gB G, 15625, .inl fv)), (tq, .inl (gI G, 15625, .inl qv))]) [0, 1, 2] rfl)
        have hD9 := (hD.sub (ws' := [(t, .inr (3, [.ref ta, .ref tq, .int (nI cv), .int (nI yv), .int go, .int ki, .int (nI k)])), (ta, .inl (gB G, 15625, .inl fv)), (tq, .inl (gI G, 15625, .inl qv))]) [0, 1, 2] (by decide) rfl)
        exact W.vret hx hb hr (fun t9_ ht9_ hW9_ => ⟨⟨(cv, yv, fv, qv), rfl, ⟨hB, Or.inr (by omega)⟩, by rw [ht9_]; exact hP9, hD9⟩, hS.F ht9_⟩) hS.2.2 dX7_searchFor_75
      · have c7 : ¬ cv ≤ yv := fun h9_ => c7 ((nI_leI (a := cv) (b := yv) (by omega) (by omega)).mpr h9_)
        refine lv_aload_n hx hb dX7_searchFor_37 rfl (lv_at hl 1 rfl) ?_
        refine va_get (D := G.1) (ci := 3) (v := .int (nI yv)) (C := RX7) (T := TX7) (N := 7) hx hb hts (fun _ h => List.mem_cons_of_mem _ (List.mem_append_right _ h)) hown E.K hP 0 rfl rfl 3 (by decide) (hts (.fieldLink RX7 34 "LastMap$Table" "searched" "I") (by decide +kernel)) (fun _ h9 => h9) rfl dX7_searchFor_38 ?_
        refine lv_aload_n hx hb dX7_searchFor_41 rfl (lv_at hl 1 rfl) ?_
        refine va_get (D := G.1) (ci := 3) (v := .ref tq) (C := RX7) (T := TX7) (N := 7) hx hb hts (fun _ h => List.mem_cons_of_mem _ (List.mem_append_right _ h)) hown E.K hP 0 rfl rfl 1 (by decide) (hts (.fieldLink RX7 17 "LastMap$Table" "queue" "[I") (by decide +kernel)) (fun _ h9 => h9) rfl dX7_searchFor_42 ?_
        refine va_alen (v := 15625) hx hb E.K hP 2 1 rfl rfl rfl dX7_searchFor_45 ?_
        refine lv_icmp_ge (tgt := 75) hx hb dX7_searchFor_46 (by decide) (fun c8 => False.elim (by have q9 := (nI_leI (a := 15625) (b := yv) (by omega) (by omega)).mp c8; omega)) (fun c8 => ?_)
        have hqy := hB.1 yv (by omega)
        refine lv_aload_n hx hb dX7_searchFor_49 rfl (lv_at hl 1 rfl) ?_
        refine lv_aload_n hx hb dX7_searchFor_50 rfl (lv_at hl 1 rfl) ?_
        refine va_get (D := G.1) (ci := 3) (v := .ref tq) (C := RX7) (T := TX7) (N := 7) hx hb hts (fun _ h => List.mem_cons_of_mem _ (List.mem_append_right _ h)) hown E.K hP 0 rfl rfl 1 (by decide) (hts (.fieldLink RX7 17 "LastMap$Table" "queue" "[I") (by decide +kernel)) (fun _ h9 => h9) rfl dX7_searchFor_51 ?_
        refine lv_aload_n hx hb dX7_searchFor_54 rfl (lv_at hl 1 rfl) ?_
        refine va_get (D := G.1) (ci := 3) (v := .int (nI yv)) (C := RX7) (T := TX7) (N := 7) hx hb hts (fun _ h => List.mem_cons_of_mem _ (List.mem_append_right _ h)) hown E.K hP 0 rfl rfl 3 (by decide) (hts (.fieldLink RX7 34 "LastMap$Table" "searched" "I") (by decide +kernel)) (fun _ h9 => h9) rfl dX7_searchFor_55 ?_
        refine va_iald hx hb E.K hP 2 1 rfl rfl (i := nI yv) (vp_in_nI (by omega) (by decide)) dX7_searchFor_58 ?_
        refine lv_topi (fun x9 ex9 => ?_)
        obtain rfl : x9 = nI (sc k (nQ k qv yv)) := by rw [ex9, nI_clamp (by omega)]; exact hqy.1
        refine ca_v (wr := []) (va_runV (As := [.int (nI (sc k (nQ k qv yv)))]) (rest := []) ⟨hx, hb, hml, hown, hts⟩ (n_queueBefore l G H.size t ta tq k cv (nI yv) go ki fv qv yv (nQ k qv yv) S hk2 hk6 hB (by omega) rfl) (cwV 1 hts gX7_searchFor_X7_queueBefore rfl rfl rfl (by decide +kernel) ⟨by decide +kernel, by decide +kernel⟩) (pre_V E hP hD hS hA [0, 1, 2] (by decide) rfl 0 3 rfl rfl) rfl rfl hl.1 rfl (lv_room (Nat.le_of_ble_eq_true rfl)) dX7_searchFor_59 ⟨by decide +kernel, by decide +kernel⟩) hS hP hD hA [0, 1, 2] [] rfl rfl (by decide) (by decide) (fun u12 H locs w10 hP hD hS => ?_)
        obtain ⟨cq1_13, fs1_14, fq1_15⟩ := u12
        try dsimp only at w10 hP hD
        have hP := (hP.sub (ws' := [(t, .inr (3, [.ref ta, .ref tq, .int (nI cq1_13), .int (nI yv), .int go, .int ki, .int (nI k)])), (ta, .inl (gB G, 15625, .inl fs1_14)), (tq, .inl (gI G, 15625, .inl fq1_15))]) [0, 1, 2] rfl)
        have hD := (hD.sub (ws' := [(t, .inr (3, [.ref ta, .ref tq, .int (nI cq1_13), .int (nI yv), .int go, .int ki, .int (nI k)])), (ta, .inl (gB G, 15625, .inl fs1_14)), (tq, .inl (gI G, 15625, .inl fq1_15))]) [0, 1, 2] (by decide) rfl)
        refine lv_aload_n hx hb dX7_searchFor_62 rfl (lv_at hl 1 rfl) ?_
        refine lv_dup hx hb dX7_searchFor_63 rfl ?_
        refine va_get (D := G.1) (ci := 3) (v := .int (nI yv)) (C := RX7) (T := TX7) (N := 7) hx hb hts (fun _ h => List.mem_cons_of_mem _ (List.mem_append_right _ h)) hown E.K hP 0 rfl rfl 3 (by decide) (hts (.fieldLink RX7 34 "LastMap$Table" "searched" "I") (by decide +kernel)) (fun _ h9 => h9) rfl dX7_searchFor_64 ?_
        refine lv_iconst (v := 1) hx hb dX7_searchFor_67 (by decide) ?_
        refine lv_iadd hx hb dX7_searchFor_68 ?_
        refine lv_topi (fun x16 ex16 => ?_)
        obtain rfl : x16 = nI (yv + 1) := by rw [ex16]; exact nI_add yv 1
        refine va_put (D := G.1) (ci := 3) (v := .int (nI (yv + 1))) (ty := .int) (C := RX7) (T := TX7) (N := 7) hx hb hts (fun _ h => List.mem_cons_of_mem _ (List.mem_append_right _ h)) tyX7 tyX7_ok nmX7 hown E.K hP hD hS 0 rfl rfl 3 (by decide) (hts (.fieldLink RX7 34 "LastMap$Table" "searched" "I") (by decide +kernel)) (fun _ h9 => h9) rfl (by decide +kernel) rfl rfl (Nat.le_of_ble_eq_true rfl) dX7_searchFor_69 (fun H locs hP hD hS => ?_)
        have hP : va_P G.1 vwCl ([(t, .inr (3, [.ref ta, .ref tq, .int (nI cq1_13), .int (nI (yv + 1)), .int go, .int ki, .int (nI k)])), (ta, .inl (gB G, 15625, .inl fs1_14)), (tq, .inl (gI G, 15625, .inl fq1_15))]) H := hP
        have hD : va_D A ([(t, .inr (3, [.ref ta, .ref tq, .int (nI cq1_13), .int (nI (yv + 1)), .int go, .int ki, .int (nI k)])), (ta, .inl (gB G, 15625, .inl fs1_14)), (tq, .inl (gI G, 15625, .inl fq1_15))]) := hD
        refine lv_goto (tgt := 8) hx hb dX7_searchFor_72 (by decide) ?_
        refine ih8 (cq1_13, (yv + 1), fs1_14, fq1_15) ⟨?_, ?_, ?_⟩ (by first | omega | (dsimp only; omega)) H locs ls (hP.sub [0, 1, 2] rfl) (hD.sub [0, 1, 2] (by decide) rfl) hS (lv_sub hl [0, 1, 2] rfl)
        · try dsimp only
          exact BK_next w10.1 w10.2.2.2.1 (by rw [w10.2.2.1]; exact w10.2.2.2.2)
        · try dsimp only
          have q9 := w10.1.2.2.2.2.2.2.2.2.1; omega
        · try dsimp only
          exact w10.2.2.2.1

set_option maxHeartbeats 1000000 in
set_option maxRecDepth 100000 in
theorem n_slipsFrom (l : Launch) (G : Gy) (sz : Nat) (t : Nat) (ta : Nat) (tq : Nat) (k : Nat) (cq : Nat) (yq : Nat) (go : Int32) (ki : Int32) (fs : Nat → Int32) (fq : Nat → Int32) (S : Nat → Prop) (p0 : Int32) (hk2 : 2 ≤ k) (hk6 : k ≤ 6) (hbk : BK k (bK ki) S yq cq fs fq) : Ci l G yX7_slipsFrom wsX7_slipsFrom ({ frames := 3, cells := 0, slots := 0, locals := 72 }) [.ref t, .int p0] ([(t, .inr (3, [.ref ta, .ref tq, .int (nI cq), .int (nI yq), .int go, .int ki, .int (nI k)])), (ta, .inl (gB G, 15625, .inl fs)), (tq, .inl (gI G, 15625, .inl fq))]) sz (fun (r : Int32) (u : Nat × Nat × (Nat → Int32) × (Nat → Int32)) => match u with | (cq1, yq1, fs1, fq1) => BK k (bK ki) S yq1 cq1 fs1 fq1 ∧ ∀ x, x < 5 ^ k → p0 = nI (sc k x) → askd k (bK ki) S fs1 x ∧ r = fS k fs1 x) (fun (u : Nat × Nat × (Nat → Int32) × (Nat → Int32)) => match u with | (cq1, yq1, fs1, fq1) => [(t, .inr (3, [.ref ta, .ref tq, .int (nI cq1), .int (nI yq1), .int go, .int ki, .int (nI k)])), (ta, .inl (gB G, 15625, .inl fs1)), (tq, .inl (gI G, 15625, .inl fq1))]) 0 0 := by
  refine Met.ofW (cc := cX7_slipsFrom) (maxL := 2) (ret := (some .int)) (by decide) rfl ?_
  intro p e s m args below meth c s₁ B hml hv
  obtain ⟨rfl, hsz, hP, hD0, E0⟩ := hv
  have hx := B.exec
  have hb := B.bytes
  have hr := B.returns
  have hts := atoms_spec (ws := wsX7_slipsFrom) B.pre
  have hown : s.vm.findClass RX7 = some m.cls := findClass_of_methodNamed B.named
  have hlocks := B.notSynchronized
  subst hsz
  have hD := hD0.self (sz := s.heap.size)
  generalize hAe : va_A ([(t, .inr (3, [.ref ta, .ref tq, .int (nI cq), .int (nI yq), .int go, .int ki, .int (nI k)])), (ta, .inl (gB G, 15625, .inl fs)), (tq, .inl (gI G, 15625, .inl fq))]) s.heap.size = A at hD E0 ⊢
  have E : EV G A s s.heap := E0
  have hA : ∀ q : Nat, s.heap.size ≤ q → A q := fun q h => by rw [← hAe]; exact Or.inr h
  have hS : va_S A s.heap s.heap [] := va_S.rf
  have hl := lv_entry ([.ref t, .int p0]) (n := 2) (Nat.le_of_ble_eq_true rfl)
  rw [lg_entry_eq]
  generalize (lg_sl ([.ref t, .int p0]) ++ List.replicate (2 - (lg_sl ([.ref t, .int p0])).length) Slot.unset).toArray = ls at hl ⊢
  have hl : lv_has ls 2 [(0, .ref t), (1, .int p0)] := hl
  have hP : va_P G.1 vwCl ([(t, .inr (3, [.ref ta, .ref tq, .int (nI cq), .int (nI yq), .int go, .int ki, .int (nI k)])), (ta, .inl (gB G, 15625, .inl fs)), (tq, .inl (gI G, 15625, .inl fq))]) s.heap := hP
  refine lv_aload_n hx hb dX7_slipsFrom_0 rfl (lv_at hl 0 rfl) ?_
  refine lv_iload_n hx hb dX7_slipsFrom_1 rfl (lv_at hl 1 rfl) ?_
  refine ca_v (wr := []) (va_runV (As := [.int p0]) (rest := []) ⟨hx, hb, hml, hown, hts⟩ (n_searchFor l G s.heap.size t ta tq k cq yq go ki fs fq S p0 hk2 hk6 hbk) (cwV 1 hts gX7_slipsFrom_X7_searchFor rfl rfl rfl (by decide +kernel) ⟨by decide +kernel, by decide +kernel⟩) (pre_V E hP hD hS hA [0, 1, 2] (by decide) rfl 0 3 rfl rfl) rfl rfl hl.1 rfl (lv_room (Nat.le_of_ble_eq_true rfl)) dX7_slipsFrom_2 ⟨by decide +kernel, by decide +kernel⟩) hS hP hD hA [0, 1, 2] [] rfl rfl (by decide) (by decide) (fun u3 H locs w1 hP hD hS => ?_)
  obtain ⟨cq1_4, yq1_5, fs1_6, fq1_7⟩ := u3
  try dsimp only at w1 hP hD
  have hP := (hP.sub (ws' := [(t, .inr (3, [.ref ta, .ref tq, .int (nI cq1_4), .int (nI yq1_5), .int go, .int ki, .int (nI k)])), (ta, .inl (gB G, 15625, .inl fs1_6)), (tq, .inl (gI G, 15625, .inl fq1_7))]) [0, 1, 2] rfl)
  have hD := (hD.sub (ws' := [(t, .inr (3, [.ref ta, .ref tq, .int (nI cq1_4), .int (nI yq1_5), .int go, .int ki, .int (nI k)])), (ta, .inl (gB G, 15625, .inl fs1_6)), (tq, .inl (gI G, 15625, .inl fq1_7))]) [0, 1, 2] (by decide) rfl)
  refine lv_aload_n hx hb dX7_slipsFrom_5 rfl (lv_at hl 0 rfl) ?_
  refine lv_iload_n hx hb dX7_slipsFrom_6 rfl (lv_at hl 1 rfl) ?_
  refine ca_iR (va_runV (As := [.int p0]) (rest := []) ⟨hx, hb, hml, hown, hts⟩ (c_known l G H.size t ta tq (nI cq1_4) (nI yq1_5) go ki (nI k) fs1_6 fq1_7 p0) (cwV 1 hts gX7_slipsFrom_X7_known rfl rfl rfl (by decide +kernel) ⟨by decide +kernel, by decide +kernel⟩) (pre_V E hP hD hS hA [0, 1, 2] (by decide) rfl 0 3 rfl rfl) rfl rfl hl.1 rfl (lv_room (Nat.le_of_ble_eq_true rfl)) dX7_slipsFrom_7 ⟨by decide +kernel, by decide +kernel⟩) hS hP hD hA [0, 1, 2] rfl (fun r9 _ H locs w8 hP hS => ?_)
  have hP9 := (hP.sub (ws' := [(t, .inr (3, [.ref ta, .ref tq, .int (nI cq1_4), .int (nI yq1_5), .int go, .int ki, .int (nI k)])), (ta, .inl (gB G, 15625, .inl fs1_6)), (tq, .inl (gI G, 15625, .inl fq1_7))]) [0, 1, 2] rfl)
  have hD9 := (hD.sub (ws' := [(t, .inr (3, [.ref ta, .ref tq, .int (nI cq1_4), .int (nI yq1_5), .int go, .int ki, .int (nI k)])), (ta, .inl (gB G, 15625, .inl fs1_6)), (tq, .inl (gI G, 15625, .inl fq1_7))]) [0, 1, 2] (by decide) rfl)
  exact W.iret (v := r9) hx hb hr (fun t9_ ht9_ hW9_ => ⟨⟨r9, (cq1_4, yq1_5, fs1_6, fq1_7), rfl, ⟨w1.1, fun x9 h9 e9 => ⟨BK_ask hk6 w1.1 h9 (w1.2.imp (fun q9 q8 => q9 (by rw [e9, known_sc hk6 h9]; exact q8)) id), by rw [w8, e9, known_sc hk6 h9]⟩⟩, by rw [ht9_]; exact hP9, hD9⟩, hS.F ht9_⟩) hS.2.2 dX7_slipsFrom_10

set_option maxHeartbeats 1000000 in
set_option maxRecDepth 100000 in
theorem n_searchAll (l : Launch) (G : Gy) (sz : Nat) (t : Nat) (ta : Nat) (tq : Nat) (k : Nat) (cq : Nat) (yq : Nat) (go : Int32) (ki : Int32) (fs : Nat → Int32) (fq : Nat → Int32) (S : Nat → Prop) (hk2 : 2 ≤ k) (hk6 : k ≤ 6) (hbk : BK k (bK ki) S yq cq fs fq) : Cv l G yX7_searchAll wsX7_searchAll ({ frames := 3, cells := 0, slots := 0, locals := 72 }) [.ref t] ([(t, .inr (3, [.ref ta, .ref tq, .int (nI cq), .int (nI yq), .int go, .int ki, .int (nI k)])), (ta, .inl (gB G, 15625, .inl fs)), (tq, .inl (gI G, 15625, .inl fq))]) sz (fun (u : Nat × Nat × (Nat → Int32) × (Nat → Int32)) => match u with | (cq1, yq1, fs1, fq1) => BK k (bK ki) S yq1 cq1 fs1 fq1 ∧ ∀ x, x < 5 ^ k → askd k (bK ki) S fs1 x) (fun (u : Nat × Nat × (Nat → Int32) × (Nat → Int32)) => match u with | (cq1, yq1, fs1, fq1) => [(t, .inr (3, [.ref ta, .ref tq, .int (nI cq1), .int (nI yq1), .int go, .int ki, .int (nI k)])), (ta, .inl (gB G, 15625, .inl fs1)), (tq, .inl (gI G, 15625, .inl fq1))]) 0 0 := by
  refine Met.ofW (cc := cX7_searchAll) (maxL := 1) (ret := none) (by decide) rfl ?_
  intro p e s m args below meth c s₁ B hml hv
  obtain ⟨rfl, hsz, hP, hD0, E0⟩ := hv
  have hx := B.exec
  have hb := B.bytes
  have hr := B.returns
  have hts := atoms_spec (ws := wsX7_searchAll) B.pre
  have hown : s.vm.findClass RX7 = some m.cls := findClass_of_methodNamed B.named
  have hlocks := B.notSynchronized
  subst hsz
  have hD := hD0.self (sz := s.heap.size)
  generalize hAe : va_A ([(t, .inr (3, [.ref ta, .ref tq, .int (nI cq), .int (nI yq), .int go, .int ki, .int (nI k)])), (ta, .inl (gB G, 15625, .inl fs)), (tq, .inl (gI G, 15625, .inl fq))]) s.heap.size = A at hD E0 ⊢
  have E : EV G A s s.heap := E0
  have hA : ∀ q : Nat, s.heap.size ≤ q → A q := fun q h => by rw [← hAe]; exact Or.inr h
  have hS : va_S A s.heap s.heap [] := va_S.rf
  have hl := lv_entry ([.ref t]) (n := 1) (Nat.le_of_ble_eq_true rfl)
  rw [lg_entry_eq]
  generalize (lg_sl ([.ref t]) ++ List.replicate (1 - (lg_sl ([.ref t])).length) Slot.unset).toArray = ls at hl ⊢
  have hl : lv_has ls 1 [(0, .ref t)] := hl
  have hP : va_P G.1 vwCl ([(t, .inr (3, [.ref ta, .ref tq, .int (nI cq), .int (nI yq), .int go, .int ki, .int (nI k)])), (ta, .inl (gB G, 15625, .inl fs)), (tq, .inl (gI G, 15625, .inl fq))]) s.heap := hP
  refine lv_aload_n hx hb dX7_searchAll_0 rfl (lv_at hl 0 rfl) ?_
  refine lv_iconst (v := (-1)) hx hb dX7_searchAll_1 (by decide) ?_
  refine ca_v (wr := []) (va_runV (As := [.int (-1)]) (rest := []) ⟨hx, hb, hml, hown, hts⟩ (n_searchFor l G s.heap.size t ta tq k cq yq go ki fs fq S (-1) hk2 hk6 hbk) (cwV 1 hts gX7_searchAll_X7_searchFor rfl rfl rfl (by decide +kernel) ⟨by decide +kernel, by decide +kernel⟩) (pre_V E hP hD hS hA [0, 1, 2] (by decide) rfl 0 3 rfl rfl) rfl rfl hl.1 rfl (lv_room (Nat.le_of_ble_eq_true rfl)) dX7_searchAll_2 ⟨by decide +kernel, by decide +kernel⟩) hS hP hD hA [0, 1, 2] [] rfl rfl (by decide) (by decide) (fun u3 H locs w1 hP hD hS => ?_)
  obtain ⟨cq1_4, yq1_5, fs1_6, fq1_7⟩ := u3
  try dsimp only at w1 hP hD
  have hP := (hP.sub (ws' := [(t, .inr (3, [.ref ta, .ref tq, .int (nI cq1_4), .int (nI yq1_5), .int go, .int ki, .int (nI k)])), (ta, .inl (gB G, 15625, .inl fs1_6)), (tq, .inl (gI G, 15625, .inl fq1_7))]) [0, 1, 2] rfl)
  have hD := (hD.sub (ws' := [(t, .inr (3, [.ref ta, .ref tq, .int (nI cq1_4), .int (nI yq1_5), .int go, .int ki, .int (nI k)])), (ta, .inl (gB G, 15625, .inl fs1_6)), (tq, .inl (gI G, 15625, .inl fq1_7))]) [0, 1, 2] (by decide) rfl)
  have hP9 := (hP.sub (ws' := [(t, .inr (3, [.ref ta, .ref tq, .int (nI cq1_4), .int (nI yq1_5), .int go, .int ki, .int (nI k)])), (ta, .inl (gB G, 15625, .inl fs1_6)), (tq, .inl (gI G, 15625, .inl fq1_7))]) [0, 1, 2] rfl)
  have hD9 := (hD.sub (ws' := [(t, .inr (3, [.ref ta, .ref tq, .int (nI cq1_4), .int (nI yq1_5), .int go, .int ki, .int (nI k)])), (ta, .inl (gB G, 15625, .inl fs1_6)), (tq, .inl (gI G, 15625, .inl fq1_7))]) [0, 1, 2] (by decide) rfl)
  exact W.vret hx hb hr (fun t9_ ht9_ hW9_ => ⟨⟨(cq1_4, yq1_5, fs1_6, fq1_7), rfl, ⟨w1.1, fun x9 h9 => BK_ask hk6 w1.1 h9 (Or.inr (w1.2.resolve_left (fun q9 => q9 (cIf_f (by unfold inR; decide)))))⟩, by rw [ht9_]; exact hP9, hD9⟩, hS.F ht9_⟩) hS.2.2 dX7_searchAll_5

set_option maxHeartbeats 1000000 in
set_option maxRecDepth 100000 in
theorem n_fillB (l : Launch) (G : Gy) (sz : Nat) (a : Nat) (f : Nat → Int32) (p0 : Int32)  : Cv l G yJ7_fill_031fb wsJ7_fill_031fb ({ frames := 0, cells := 0, slots := 0, locals := 0 }) [.ref a, .int p0] ([(a, .inl (gB G, 15625, .inl f))]) sz (fun (f1 : Nat → Int32) => ∀ j : Nat, j < 15625 → f1 j = vp_nar .byte p0) (fun (f1 : Nat → Int32) => [(a, .inl (gB G, 15625, .inl f1))]) 0 0 := by
  refine Met.ofW (cc := cJ7_fill_031fb) (maxL := 4) (ret := none) (by decide) rfl ?_
  intro p e s m args below meth c s₁ B hml hv
  obtain ⟨rfl, hsz, hP, hD0, E0⟩ := hv
  have hx := B.exec
  have hb := B.bytes
  have hr := B.returns
  have hts := atoms_spec (ws := wsJ7_fill_031fb) B.pre
  have hown : s.vm.findClass RJ7 = some m.cls := findClass_of_methodNamed B.named
  have hlocks := B.notSynchronized
  subst hsz
  have hD := hD0.self (sz := s.heap.size)
  generalize hAe : va_A ([(a, .inl (gB G, 15625, .inl f))]) s.heap.size = A at hD E0 ⊢
  have E : EV G A s s.heap := E0
  have hA : ∀ q : Nat, s.heap.size ≤ q → A q := fun q h => by rw [← hAe]; exact Or.inr h
  have hS : va_S A s.heap s.heap [] := va_S.rf
  have hl := lv_entry ([.ref a, .int p0]) (n := 4) (Nat.le_of_ble_eq_true rfl)
  rw [lg_entry_eq]
  generalize (lg_sl ([.ref a, .int p0]) ++ List.replicate (4 - (lg_sl ([.ref a, .int p0])).length) Slot.unset).toArray = ls at hl ⊢
  have hl : lv_has ls 4 [(0, .ref a), (1, .int p0)] := hl
  have hP : va_P G.1 vwCl ([(a, .inl (gB G, 15625, .inl f))]) s.heap := hP
  refine lv_iconst (v := 0) hx hb dJ7_fill_031fb_0 (by decide) ?_
  refine lv_istore_n (lv' := [(2, .int 0), (0, .ref a), (1, .int p0)]) hx hb dJ7_fill_031fb_1 rfl hl (by decide) rfl (fun ls hl => ?_)
  refine lv_aload_n hx hb dJ7_fill_031fb_2 rfl (lv_at hl 1 rfl) ?_
  refine va_alen (v := 15625) hx hb E.K hP 0 0 rfl rfl rfl dJ7_fill_031fb_3 ?_
  refine lv_istore_n (lv' := [(3, .int 15625), (2, .int 0), (0, .ref a), (1, .int p0)]) hx hb dJ7_fill_031fb_4 rfl hl (by decide) rfl (fun ls hl => ?_)
  refine lp_run (x0 := (0, f)) (fun xx_ : Nat × (Nat → Int32) => match xx_ with | (x, g) => [(a, .inl (gB G, 15625, .inl g))]) (fun xx_ : Nat × (Nat → Int32) => match xx_ with | (x, g) => [(3, .int 15625), (2, .int (nI x)), (0, .ref a), (1, .int p0)]) (fun xx_ : Nat × (Nat → Int32) => match xx_ with | (x, g) => (x ≤ 15625) ∧ (∀ j : Nat, j < x → g j = vp_nar .byte p0)) (fun xx_ : Nat × (Nat → Int32) => match xx_ with | (x, g) => 15625 - x) (hP.sub [0] rfl) (hD.sub [0] (by decide) rfl) hS (lv_sub hl [0, 1, 2, 3] rfl) ⟨(by omega), by intro j hj; omega⟩ ?_
  intro xx_ hI ih5 H locs ls hP hD hS hl
  obtain ⟨x, g⟩ := xx_
  dsimp only at hI ih5 hP hD hl
  obtain ⟨hx0, hg⟩ := hI
  have hl : lv_has ls 4 [(3, .int 15625), (2, .int (nI x)), (0, .ref a), (1, .int p0)] := hl
  have hP : va_P G.1 vwCl ([(a, .inl (gB G, 15625, .inl g))]) H := hP
  have hD : va_D A ([(a, .inl (gB G, 15625, .inl g))]) := hD
  refine lv_iload_n hx hb dJ7_fill_031fb_5 rfl (lv_at hl 1 rfl) ?_
  refine lv_iload_n hx hb dJ7_fill_031fb_6 rfl (lv_at hl 0 rfl) ?_
  refine lv_icmp_ge (tgt := 20) hx hb dJ7_fill_031fb_7 (by decide) (fun c1 => ?_) (fun c1 => ?_)
  · have c1 : 15625 ≤ x := (nI_leI (a := 15625) (b := x) (by omega) (by omega)).mp c1
    have hP9 := (hP.sub (ws' := [(a, .inl (gB G, 15625, .inl g))]) [0] rfl)
    have hD9 := (hD.sub (ws' := [(a, .inl (gB G, 15625, .inl g))]) [0] (by decide) rfl)
    exact W.vret hx hb hr (fun t9_ ht9_ hW9_ => ⟨⟨g, rfl, fun j9 h9 => hg j9 (by omega), by rw [ht9_]; exact hP9, hD9⟩, hS.F ht9_⟩) hS.2.2 dJ7_fill_031fb_20
  · have c1 : ¬ 15625 ≤ x := fun h9_ => c1 ((nI_leI (a := 15625) (b := x) (by omega) (by omega)).mpr h9_)
    refine lv_aload_n hx hb dJ7_fill_031fb_10 rfl (lv_at hl 2 rfl) ?_
    refine lv_iload_n hx hb dJ7_fill_031fb_11 rfl (lv_at hl 1 rfl) ?_
    refine lv_iload_n hx hb dJ7_fill_031fb_12 rfl (lv_at hl 3 rfl) ?_
    refine va_bast hx hb E.K hP hD hS 0 0 rfl rfl (i := nI x) (vp_in_nI (by omega) (by decide)) dJ7_fill_031fb_13 (fun H locs hP hD hS => ?_)
    obtain ⟨f2, ef2⟩ : ∃ yy_ : Nat → Int32, yy_ = upd g (nI x).toNatClampNeg (vp_nar .byte p0) := ⟨_, rfl⟩
    have hP : va_P G.1 vwCl ([(a, .inl (gB G, 15625, .inl f2))]) H := by rw [ef2]; exact hP
    have hD : va_D A ([(a, .inl (gB G, 15625, .inl f2))]) := by rw [ef2]; exact hD
    obtain ⟨x3, ex3⟩ : ∃ yy_ : Int32, yy_ = (nI x) + 1 := ⟨_, rfl⟩
    refine lv_iinc (v := x3) (lv' := [(2, .int x3), (3, .int 15625), (0, .ref a), (1, .int p0)]) hx hb dJ7_fill_031fb_14 hl (k := 1) rfl (by rw [ex3]; rfl) (by decide) rfl (fun ls hl => ?_)
    obtain rfl : x3 = nI (x + 1) := by rw [ex3]; exact nI_add x 1
    refine lv_goto (tgt := 5) hx hb dJ7_fill_031fb_17 (by decide) ?_
    refine ih5 ((x + 1), f2) ⟨?_, ?_⟩ (by first | omega | (dsimp only; omega)) H locs ls (hP.sub [0] rfl) (hD.sub [0] (by decide) rfl) hS (lv_sub hl [1, 0, 2, 3] rfl)
    · try dsimp only
      omega
    · try dsimp only
      intro j hj; rw [ef2, nI_clamp (by omega)]
      by_cases e9 : j = x
      · rw [e9, pk_us]
      · rw [pk_un e9]; exact hg j (by omega)

set_option maxHeartbeats 1000000 in
set_option maxRecDepth 100000 in
theorem n_fillI (l : Launch) (G : Gy) (sz : Nat) (a : Nat) (f : Nat → Int32) (p0 : Int32)  : Cv l G yJ7_fill_53178 wsJ7_fill_53178 ({ frames := 0, cells := 0, slots := 0, locals := 0 }) [.ref a, .int p0] ([(a, .inl (gI G, 15625, .inl f))]) sz (fun (f1 : Nat → Int32) => ∀ j : Nat, j < 15625 → f1 j = p0) (fun (f1 : Nat → Int32) => [(a, .inl (gI G, 15625, .inl f1))]) 0 0 := by
  refine Met.ofW (cc := cJ7_fill_53178) (maxL := 4) (ret := none) (by decide) rfl ?_
  intro p e s m args below meth c s₁ B hml hv
  obtain ⟨rfl, hsz, hP, hD0, E0⟩ := hv
  have hx := B.exec
  have hb := B.bytes
  have hr := B.returns
  have hts := atoms_spec (ws := wsJ7_fill_53178) B.pre
  have hown : s.vm.findClass RJ7 = some m.cls := findClass_of_methodNamed B.named
  have hlocks := B.notSynchronized
  subst hsz
  have hD := hD0.self (sz := s.heap.size)
  generalize hAe : va_A ([(a, .inl (gI G, 15625, .inl f))]) s.heap.size = A at hD E0 ⊢
  have E : EV G A s s.heap := E0
  have hA : ∀ q : Nat, s.heap.size ≤ q → A q := fun q h => by rw [← hAe]; exact Or.inr h
  have hS : va_S A s.heap s.heap [] := va_S.rf
  have hl := lv_entry ([.ref a, .int p0]) (n := 4) (Nat.le_of_ble_eq_true rfl)
  rw [lg_entry_eq]
  generalize (lg_sl ([.ref a, .int p0]) ++ List.replicate (4 - (lg_sl ([.ref a, .int p0])).length) Slot.unset).toArray = ls at hl ⊢
  have hl : lv_has ls 4 [(0, .ref a), (1, .int p0)] := hl
  have hP : va_P G.1 vwCl ([(a, .inl (gI G, 15625, .inl f))]) s.heap := hP
  refine lv_iconst (v := 0) hx hb dJ7_fill_53178_0 (by decide) ?_
  refine lv_istore_n (lv' := [(2, .int 0), (0, .ref a), (1, .int p0)]) hx hb dJ7_fill_53178_1 rfl hl (by decide) rfl (fun ls hl => ?_)
  refine lv_aload_n hx hb dJ7_fill_53178_2 rfl (lv_at hl 1 rfl) ?_
  refine va_alen (v := 15625) hx hb E.K hP 0 1 rfl rfl rfl dJ7_fill_53178_3 ?_
  refine lv_istore_n (lv' := [(3, .int 15625), (2, .int 0), (0, .ref a), (1, .int p0)]) hx hb dJ7_fill_53178_4 rfl hl (by decide) rfl (fun ls hl => ?_)
  refine lp_run (x0 := (0, f)) (fun xx_ : Nat × (Nat → Int32) => match xx_ with | (x, g) => [(a, .inl (gI G, 15625, .inl g))]) (fun xx_ : Nat × (Nat → Int32) => match xx_ with | (x, g) => [(3, .int 15625), (2, .int (nI x)), (0, .ref a), (1, .int p0)]) (fun xx_ : Nat × (Nat → Int32) => match xx_ with | (x, g) => (x ≤ 15625) ∧ (∀ j : Nat, j < x → g j = p0)) (fun xx_ : Nat × (Nat → Int32) => match xx_ with | (x, g) => 15625 - x) (hP.sub [0] rfl) (hD.sub [0] (by decide) rfl) hS (lv_sub hl [0, 1, 2, 3] rfl) ⟨(by omega), by intro j hj; omega⟩ ?_
  intro xx_ hI ih5 H locs ls hP hD hS hl
  obtain ⟨x, g⟩ := xx_
  dsimp only at hI ih5 hP hD hl
  obtain ⟨hx0, hg⟩ := hI
  have hl : lv_has ls 4 [(3, .int 15625), (2, .int (nI x)), (0, .ref a), (1, .int p0)] := hl
  have hP : va_P G.1 vwCl ([(a, .inl (gI G, 15625, .inl g))]) H := hP
  have hD : va_D A ([(a, .inl (gI G, 15625, .inl g))]) := hD
  refine lv_iload_n hx hb dJ7_fill_53178_5 rfl (lv_at hl 1 rfl) ?_
  refine lv_iload_n hx hb dJ7_fill_53178_6 rfl (lv_at hl 0 rfl) ?_
  refine lv_icmp_ge (tgt := 20) hx hb dJ7_fill_53178_7 (by decide) (fun c1 => ?_) (fun c1 => ?_)
  · have c1 : 15625 ≤ x := (nI_leI (a := 15625) (b := x) (by omega) (by omega)).mp c1
    have hP9 := (hP.sub (ws' := [(a, .inl (gI G, 15625, .inl g))]) [0] rfl)
    have hD9 := (hD.sub (ws' := [(a, .inl (gI G, 15625, .inl g))]) [0] (by decide) rfl)
    exact W.vret hx hb hr (fun t9_ ht9_ hW9_ => ⟨⟨g, rfl, fun j9 h9 => hg j9 (by omega), by rw [ht9_]; exact hP9, hD9⟩, hS.F ht9_⟩) hS.2.2 dJ7_fill_53178_20
  · have c1 : ¬ 15625 ≤ x := fun h9_ => c1 ((nI_leI (a := 15625) (b := x) (by omega) (by omega)).mpr h9_)
    refine lv_aload_n hx hb dJ7_fill_53178_10 rfl (lv_at hl 2 rfl) ?_
    refine lv_iload_n hx hb dJ7_fill_53178_11 rfl (lv_at hl 1 rfl) ?_
    refine lv_iload_n hx hb dJ7_fill_53178_12 rfl (lv_at hl 3 rfl) ?_
    refine va_iast hx hb E.K hP hD hS 0 1 rfl rfl (i := nI x) (vp_in_nI (by omega) (by decide)) dJ7_fill_53178_13 (fun H locs hP hD hS => ?_)
    obtain ⟨f2, ef2⟩ : ∃ yy_ : Nat → Int32, yy_ = upd g (nI x).toNatClampNeg p0 := ⟨_, rfl⟩
    have hP : va_P G.1 vwCl ([(a, .inl (gI G, 15625, .inl f2))]) H := by rw [ef2]; exact hP
    have hD : va_D A ([(a, .inl (gI G, 15625, .inl f2))]) := by rw [ef2]; exact hD
    obtain ⟨x3, ex3⟩ : ∃ yy_ : Int32, yy_ = (nI x) + 1 := ⟨_, rfl⟩
    refine lv_iinc (v := x3) (lv' := [(2, .int x3), (3, .int 15625), (0, .ref a), (1, .int p0)]) hx hb dJ7_fill_53178_14 hl (k := 1) rfl (by rw [ex3]; rfl) (by decide) rfl (fun ls hl => ?_)
    obtain rfl : x3 = nI (x + 1) := by rw [ex3]; exact nI_add x 1
    refine lv_goto (tgt := 5) hx hb dJ7_fill_53178_17 (by decide) ?_
    refine ih5 ((x + 1), f2) ⟨?_, ?_⟩ (by first | omega | (dsimp only; omega)) H locs ls (hP.sub [0] rfl) (hD.sub [0] (by decide) rfl) hS (lv_sub hl [1, 0, 2, 3] rfl)
    · try dsimp only
      omega
    · try dsimp only
      intro j hj; rw [ef2, nI_clamp (by omega)]
      by_cases e9 : j = x
      · rw [e9, pk_us]
      · rw [pk_un e9]; exact hg j (by omega)

set_option maxHeartbeats 1000000 in
set_option maxRecDepth 100000 in
theorem n_queueGoal_rec (l : Launch) (G : Gy) : ∀ (d : Nat) (sz : Nat) (t : Nat) (ta : Nat) (tq : Nat) (k : Nat) (cq : Nat) (se : Int32) (go : Int32) (ki : Int32) (fs : Nat → Int32) (fq : Nat → Int32) (j : Nat) (a : Nat) (hk2 : 2 ≤ k) (hk6 : k ≤ 6) (hd : k ≤ j + d) (hj : j ≤ k) (ha : a < 5 ^ k) (hlow : ∀ i, i < j → gmk go i = 5 ∨ gmk go i = nI (dg k a i)) (hz : ∀ i, j ≤ i → i < k → dg k a i = 0) (hbg : BG k (gS k go) cq fs fq), Cv l G yX7_queueGoal wsX7_queueGoal ({ frames := d + 1, cells := 0, slots := 0, locals := 24 * d + 22 }) [.ref t, .int (nI j), .int (nI (sc k a))] ([(t, .inr (3, [.ref ta, .ref tq, .int (nI cq), .int se, .int go, .int ki, .int (nI k)])), (ta, .inl (gB G, 15625, .inl fs)), (tq, .inl (gI G, 15625, .inl fq))]) sz (fun (u : Nat × (Nat → Int32) × (Nat → Int32)) => match u with | (cq1, fs1, fq1) => BG k (gS k go) cq1 fs1 fq1 ∧ (∀ z, z < 5 ^ k → ¬ fS k fs z < 0 → fS k fs1 z = fS k fs z) ∧ ∀ z, z < 5 ^ k → gS k go z → lowD k j z a → ¬ fS k fs1 z < 0) (fun (u : Nat × (Nat → Int32) × (Nat → Int32)) => match u with | (cq1, fs1, fq1) => [(t, .inr (3, [.ref ta, .ref tq, .int (nI cq1), .int se, .int go, .int ki, .int (nI k)])), (ta, .inl (gB G, 15625, .inl fs1)), (tq, .inl (gI G, 15625, .inl fq1))]) 0 0 := by
  intro d
  induction d with
  | zero =>
    intro sz t ta tq k cq se go ki fs fq j a hk2 hk6 hd hj ha hlow hz hbg
    refine Met.ofW (cc := cX7_queueGoal) (maxL := 5) (ret := none) (by decide) rfl ?_
    intro p e s m args below meth c s₁ B hml hv
    obtain ⟨rfl, hsz, hP, hD0, E0⟩ := hv
    have hx := B.exec
    have hb := B.bytes
    have hr := B.returns
    have hts := atoms_spec (ws := wsX7_queueGoal) B.pre
    have hown : s.vm.findClass RX7 = some m.cls := findClass_of_methodNamed B.named
    have hlocks := B.notSynchronized
    subst hsz
    have hD := hD0.self (sz := s.heap.size)
    generalize hAe : va_A ([(t, .inr (3, [.ref ta, .ref tq, .int (nI cq), .int se, .int go, .int ki, .int (nI k)])), (ta, .inl (gB G, 15625, .inl fs)), (tq, .inl (gI G, 15625, .inl fq))]) s.heap.size = A at hD E0 ⊢
    have E : EV G A s s.heap := E0
    have hA : ∀ q : Nat, s.heap.size ≤ q → A q := fun q h => by rw [← hAe]; exact Or.inr h
    have hS : va_S A s.heap s.heap [] := va_S.rf
    have hl := lv_entry ([.ref t, .int (nI j), .int (nI (sc k a))]) (n := 5) (Nat.le_of_ble_eq_true rfl)
    rw [lg_entry_eq]
    generalize (lg_sl ([.ref t, .int (nI j), .int (nI (sc k a))]) ++ List.replicate (5 - (lg_sl ([.ref t, .int (nI j), .int (nI (sc k a))])).length) Slot.unset).toArray = ls at hl ⊢
    have hl : lv_has ls 5 [(0, .ref t), (1, .int (nI j)), (2, .int (nI (sc k a)))] := hl
    have hP : va_P G.1 vwCl ([(t, .inr (3, [.ref ta, .ref tq, .int (nI cq), .int se, .int go, .int ki, .int (nI k)])), (ta, .inl (gB G, 15625, .inl fs)), (tq, .inl (gI G, 15625, .inl fq))]) s.heap := hP
    refine lv_iload_n hx hb dX7_queueGoal_0 rfl (lv_at hl 1 rfl) ?_
    refine lv_aload_n hx hb dX7_queueGoal_1 rfl (lv_at hl 0 rfl) ?_
    refine va_get (D := G.1) (ci := 3) (v := .int (nI k)) (C := RX7) (T := TX7) (N := 7) hx hb hts (fun _ h => List.mem_cons_of_mem _ (List.mem_append_right _ h)) hown E.K hP 0 rfl rfl 6 (by decide) (hts (.fieldLink RX7 28 "LastMap$Table" "n" "I") (by decide +kernel)) (fun _ h9 => h9) rfl dX7_queueGoal_2 ?_
    refine lv_icmp_ge (tgt := 14) hx hb dX7_queueGoal_5 (by decide) (fun c1 => ?_) (fun c1 => False.elim (c1 (nI_le (show k ≤ j by omega) (by omega))))
    refine lv_aload_n hx hb dX7_queueGoal_14 rfl (lv_at hl 0 rfl) ?_
    refine lv_iload_n hx hb dX7_queueGoal_15 rfl (lv_at hl 2 rfl) ?_
    refine lv_iconst (v := 0) hx hb dX7_queueGoal_16 (by decide) ?_
    refine ca_v (wr := []) (va_runV (As := [.int (nI (sc k a)), .int 0]) (rest := []) ⟨hx, hb, hml, hown, hts⟩ (n_reach0 l G s.heap.size t ta tq k cq se go ki fs fq a (gS k go) hk6 ha hbg (fun i9 h9 => hlow i9 (by omega))) (cwV 2 hts gX7_queueGoal_X7_reach rfl rfl rfl (by decide +kernel) ⟨show 0 + 1 ≤ 0 + 1 by omega, show 8 + (3 + 11) + 0 ≤ 24 * 0 + 22 by omega⟩) (pre_V E hP hD hS hA [0, 1, 2] (by decide) rfl 0 3 rfl rfl) rfl rfl hl.1 rfl (lv_room (Nat.le_of_ble_eq_true rfl)) dX7_queueGoal_17 ⟨Nat.zero_le _, Nat.zero_le _⟩) hS hP hD hA [0, 1, 2] [] rfl rfl (by decide) (by decide) (fun u4 H locs w2 hP hD hS => ?_)
    obtain ⟨cq1_5, fs1_6, fq1_7⟩ := u4
    try dsimp only at w2 hP hD
    have hP := (hP.sub (ws' := [(t, .inr (3, [.ref ta, .ref tq, .int (nI cq1_5), .int se, .int go, .int ki, .int (nI k)])), (ta, .inl (gB G, 15625, .inl fs1_6)), (tq, .inl (gI G, 15625, .inl fq1_7))]) [0, 1, 2] rfl)
    have hD := (hD.sub (ws' := [(t, .inr (3, [.ref ta, .ref tq, .int (nI cq1_5), .int se, .int go, .int ki, .int (nI k)])), (ta, .inl (gB G, 15625, .inl fs1_6)), (tq, .inl (gI G, 15625, .inl fq1_7))]) [0, 1, 2] (by decide) rfl)
    have hP9 := (hP.sub (ws' := [(t, .inr (3, [.ref ta, .ref tq, .int (nI cq1_5), .int se, .int go, .int ki, .int (nI k)])), (ta, .inl (gB G, 15625, .inl fs1_6)), (tq, .inl (gI G, 15625, .inl fq1_7))]) [0, 1, 2] rfl)
    have hD9 := (hD.sub (ws' := [(t, .inr (3, [.ref ta, .ref tq, .int (nI cq1_5), .int se, .int go, .int ki, .int (nI k)])), (ta, .inl (gB G, 15625, .inl fs1_6)), (tq, .inl (gI G, 15625, .inl fq1_7))]) [0, 1, 2] (by decide) rfl)
    exact W.vret hx hb hr (fun t9_ ht9_ hW9_ => ⟨⟨(cq1_5, fs1_6, fq1_7), rfl, ⟨w2.1, w2.2.1, fun z9 h8 _ h9 => by rw [lowD_k h8 ha (fun i9 g8 g9 => h9 i9 (by omega) g9)]; exact w2.2.2⟩, by rw [ht9_]; exact hP9, hD9⟩, hS.F ht9_⟩) hS.2.2 dX7_queueGoal_20
  | succ d ih =>
    intro sz t ta tq k cq se go ki fs fq j a hk2 hk6 hd hj ha hlow hz hbg
    refine Met.ofW (cc := cX7_queueGoal) (maxL := 5) (ret := none) (by decide) rfl ?_
    intro p e s m args below meth c s₁ B hml hv
    obtain ⟨rfl, hsz, hP, hD0, E0⟩ := hv
    have hx := B.exec
    have hb := B.bytes
    have hr := B.returns
    have hts := atoms_spec (ws := wsX7_queueGoal) B.pre
    have hown : s.vm.findClass RX7 = some m.cls := findClass_of_methodNamed B.named
    have hlocks := B.notSynchronized
    subst hsz
    have hD := hD0.self (sz := s.heap.size)
    generalize hAe : va_A ([(t, .inr (3, [.ref ta, .ref tq, .int (nI cq), .int se, .int go, .int ki, .int (nI k)])), (ta, .inl (gB G, 15625, .inl fs)), (tq, .inl (gI G, 15625, .inl fq))]) s.heap.size = A at hD E0 ⊢
    have E : EV G A s s.heap := E0
    have hA : ∀ q : Nat, s.heap.size ≤ q → A q := fun q h => by rw [← hAe]; exact Or.inr h
    have hS : va_S A s.heap s.heap [] := va_S.rf
    have hl := lv_entry ([.ref t, .int (nI j), .int (nI (sc k a))]) (n := 5) (Nat.le_of_ble_eq_true rfl)
    rw [lg_entry_eq]
    generalize (lg_sl ([.ref t, .int (nI j), .int (nI (sc k a))]) ++ List.replicate (5 - (lg_sl ([.ref t, .int (nI j), .int (nI (sc k a))])).length) Slot.unset).toArray = ls at hl ⊢
    have hl : lv_has ls 5 [(0, .ref t), (1, .int (nI j)), (2, .int (nI (sc k a)))] := hl
    have hP : va_P G.1 vwCl ([(t, .inr (3, [.ref ta, .ref tq, .int (nI cq), .int se, .int go, .int ki, .int (nI k)])), (ta, .inl (gB G, 15625, .inl fs)), (tq, .inl (gI G, 15625, .inl fq))]) s.heap := hP
    refine lv_iload_n hx hb dX7_queueGoal_0 rfl (lv_at hl 1 rfl) ?_
    refine lv_aload_n hx hb dX7_queueGoal_1 rfl (lv_at hl 0 rfl) ?_
    refine va_get (D := G.1) (ci := 3) (v := .int (nI k)) (C := RX7) (T := TX7) (N := 7) hx hb hts (fun _ h => List.mem_cons_of_mem _ (List.mem_append_right _ h)) hown E.K hP 0 rfl rfl 6 (by decide) (hts (.fieldLink RX7 28 "LastMap$Table" "n" "I") (by decide +kernel)) (fun _ h9 => h9) rfl dX7_queueGoal_2 ?_
    refine lv_icmp_ge (tgt := 14) hx hb dX7_queueGoal_5 (by decide) (fun c1 => ?_) (fun c1 => ?_)
    · have c1 : k ≤ j := (nI_leI (a := k) (b := j) (by omega) (by omega)).mp c1
      refine lv_aload_n hx hb dX7_queueGoal_14 rfl (lv_at hl 0 rfl) ?_
      refine lv_iload_n hx hb dX7_queueGoal_15 rfl (lv_at hl 2 rfl) ?_
      refine lv_iconst (v := 0) hx hb dX7_queueGoal_16 (by decide) ?_
      refine ca_v (wr := []) (va_runV (As := [.int (nI (sc k a)), .int 0]) (rest := []) ⟨hx, hb, hml, hown, hts⟩ (n_reach0 l G s.heap.size t ta tq k cq se go ki fs fq a (gS k go) hk6 ha hbg (fun i9 h9 => hlow i9 (by omega))) (cwV 2 hts gX7_queueGoal_X7_reach rfl rfl rfl (by decide +kernel) ⟨show 0 + 1 ≤ (d + 1) + 1 by omega, show 8 + (3 + 11) + 0 ≤ 24 * (d + 1) + 22 by omega⟩) (pre_V E hP hD hS hA [0, 1, 2] (by decide) rfl 0 3 rfl rfl) rfl rfl hl.1 rfl (lv_room (Nat.le_of_ble_eq_true rfl)) dX7_queueGoal_17 ⟨Nat.zero_le _, Nat.zero_le _⟩) hS hP hD hA [0, 1, 2] [] rfl rfl (by decide) (by decide) (fun u4 H locs w2 hP hD hS => ?_)
      obtain ⟨cq1_5, fs1_6, fq1_7⟩ := u4
      try dsimp only at w2 hP hD
      have hP := (hP.sub (ws' := [(t, .inr (3, [.ref ta, .ref tq, .int (nI cq1_5), .int se, .int go, .int ki, .int (nI k)])), (ta, .inl (gB G, 15625, .inl fs1_6)), (tq, .inl (gI G, 15625, .inl fq1_7))]) [0, 1, 2] rfl)
      have hD := (hD.sub (ws' := [(t, .inr (3, [.ref ta, .ref tq, .int (nI cq1_5), .int se, .int go, .int ki, .int (nI k)])), (ta, .inl (gB G, 15625, .inl fs1_6)), (tq, .inl (gI G, 15625, .inl fq1_7))]) [0, 1, 2] (by decide) rfl)
      have hP9 := (hP.sub (ws' := [(t, .inr (3, [.ref ta, .ref tq, .int (nI cq1_5), .int se, .int go, .int ki, .int (nI k)])), (ta, .inl (gB G, 15625, .inl fs1_6)), (tq, .inl (gI G, 15625, .inl fq1_7))]) [0, 1, 2] rfl)
      have hD9 := (hD.sub (ws' := [(t, .inr (3, [.ref ta, .ref tq, .int (nI cq1_5), .int se, .int go, .int ki, .int (nI k)])), (ta, .inl (gB G, 15625, .inl fs1_6)), (tq, .inl (gI G, 15625, .inl fq1_7))]) [0, 1, 2] (by decide) rfl)
      exact W.vret hx hb hr (fun t9_ ht9_ hW9_ => ⟨⟨(cq1_5, fs1_6, fq1_7), rfl, ⟨w2.1, w2.2.1, fun z9 h8 _ h9 => by rw [lowD_k h8 ha (fun i9 g8 g9 => h9 i9 (by omega) g9)]; exact w2.2.2⟩, by rw [ht9_]; exact hP9, hD9⟩, hS.F ht9_⟩) hS.2.2 dX7_queueGoal_20
    · have c1 : ¬ k ≤ j := fun h9_ => c1 ((nI_leI (a := k) (b := j) (by omega) (by omega)).mpr h9_)
      refine lv_iload_n hx hb dX7_queueGoal_8 rfl (lv_at hl 1 rfl) ?_
      refine lv_bipush (v := 6) hx hb dX7_queueGoal_9 (by decide) ?_
      refine lv_icmp_lt (tgt := 21) hx hb dX7_queueGoal_11 (by decide) (fun c8 => ?_) (fun c8 => False.elim (c8 (nI_lt (b := 6) (show j < 6 by omega) (by decide))))
      refine lv_aload_n hx hb dX7_queueGoal_21 rfl (lv_at hl 0 rfl) ?_
      refine va_get (D := G.1) (ci := 3) (v := .int go) (C := RX7) (T := TX7) (N := 7) hx hb hts (fun _ h => List.mem_cons_of_mem _ (List.mem_append_right _ h)) hown E.K hP 0 rfl rfl 4 (by decide) (hts (.fieldLink RX7 21 "LastMap$Table" "goal" "I") (by decide +kernel)) (fun _ h9 => h9) rfl dX7_queueGoal_22 ?_
      refine lv_iload_n hx hb dX7_queueGoal_25 rfl (lv_at hl 1 rfl) ?_
      refine ca_iR (va_runS (As := [.int go, .int (nI j)]) (rest := []) ⟨hx, hb, hml, hown, hts⟩ (c_goalMark l G s.heap.size go (nI j)) (va_cwS 2 hts gX7_queueGoal_X0_markAt rfl rfl rfl (by decide +kernel) ⟨show 0 + 1 ≤ (d + 1) + 1 by omega, show 8 + (2 + 11) + 0 ≤ 24 * (d + 1) + 22 by omega⟩) (pre_S E hP hD hS hA [] (by decide) rfl) rfl rfl hl.1 rfl (lv_room (Nat.le_of_ble_eq_true rfl)) dX7_queueGoal_26 ⟨Nat.zero_le _, Nat.zero_le _⟩) hS hP hD hA [] rfl (fun r10 _ H locs w9 hP hS => ?_)
      have hmk : r10 = gmk go j := w9
      refine lv_istore_n (lv' := [(3, .int r10), (0, .ref t), (1, .int (nI j)), (2, .int (nI (sc k a)))]) hx hb dX7_queueGoal_29 rfl hl (by decide) rfl (fun ls hl => ?_)
      refine lv_iconst (v := 0) hx hb dX7_queueGoal_30 (by decide) ?_
      refine lv_istore (lv' := [(4, .int 0), (3, .int r10), (0, .ref t), (1, .int (nI j)), (2, .int (nI (sc k a)))]) hx hb dX7_queueGoal_31 hl (by decide) rfl (fun ls hl => ?_)
      refine lp_run (x0 := (0, cq, fs, fq)) (fun xx_ : Nat × Nat × (Nat → Int32) × (Nat → Int32) => match xx_ with | (o, cv, fv, qv) => [(t, .inr (3, [.ref ta, .ref tq, .int (nI cv), .int se, .int go, .int ki, .int (nI k)])), (ta, .inl (gB G, 15625, .inl fv)), (tq, .inl (gI G, 15625, .inl qv))]) (fun xx_ : Nat × Nat × (Nat → Int32) × (Nat → Int32) => match xx_ with | (o, cv, fv, qv) => [(4, .int (nI o)), (3, .int r10), (0, .ref t), (1, .int (nI j)), (2, .int (nI (sc k a)))]) (fun xx_ : Nat × Nat × (Nat → Int32) × (Nat → Int32) => match xx_ with | (o, cv, fv, qv) => (o ≤ 5) ∧ (BG k (gS k go) cv fv qv) ∧ (∀ z, z < 5 ^ k → ¬ fS k fs z < 0 → fS k fv z = fS k fs z) ∧ (∀ o2, o2 < o → (gmk go j = 5 ∨ gmk go j = nI o2) → ∀ z, z < 5 ^ k → gS k go z → lowD k (j + 1) z (wN k a j o2) → ¬ fS k fv z < 0)) (fun xx_ : Nat × Nat × (Nat → Int32) × (Nat → Int32) => match xx_ with | (o, cv, fv, qv) => 5 - o) (hP.sub [0, 1, 2] rfl) (hD.sub [0, 1, 2] (by decide) rfl) hS (lv_sub hl [0, 1, 2, 3, 4] rfl) ⟨(by omega), hbg, fun _ _ _ => rfl, fun o9 h9 => by omega⟩ ?_
      intro xx_ hI ih33 H locs ls hP hD hS hl
      obtain ⟨o, cv, fv, qv⟩ := xx_
      dsimp only at hI ih33 hP hD hl
      obtain ⟨ho0, hG, hsm, hall⟩ := hI
      have hl : lv_has ls 5 [(4, .int (nI o)), (3, .int r10), (0, .ref t), (1, .int (nI j)), (2, .int (nI (sc k a)))] := hl
      have hP : va_P G.1 vwCl ([(t, .inr (3, [.ref ta, .ref tq, .int (nI cv), .int se, .int go, .int ki, .int (nI k)])), (ta, .inl (gB G, 15625, .inl fv)), (tq, .inl (gI G, 15625, .inl qv))]) H := hP
      have hD : va_D A ([(t, .inr (3, [.ref ta, .ref tq, .int (nI cv), .int se, .int go, .int ki, .int (nI k)])), (ta, .inl (gB G, 15625, .inl fv)), (tq, .inl (gI G, 15625, .inl qv))]) := hD
      refine lv_iload hx hb dX7_queueGoal_33 (lv_at hl 0 rfl) ?_
      refine lv_iconst (v := 5) hx hb dX7_queueGoal_35 (by decide) ?_
      refine lv_icmp_ge (tgt := 72) hx hb dX7_queueGoal_36 (by decide) (fun c11 => ?_) (fun c11 => ?_)
      · have c11 : 5 ≤ o := (nI_leI (a := 5) (b := o) (by omega) (by omega)).mp c11
        have hP9 := (hP.sub (ws' := [(t, .inr (3, [.ref ta, .ref tq, .int (nI cv), .int se, .int go, .int ki, .int (nI k)])), (ta, .inl (gB G, 15625, .inl fv)), (tq, .inl (gI G, 15625, .inl qv))]) [0, 1, 2] rfl)
        have hD9 := (hD.sub (ws' := [(t, .inr (3, [.ref ta, .ref tq, .int (nI cv), .int se, .int go, .int ki, .int (nI k)])), (ta, .inl (gB G, 15625, .inl fv)), (tq, .inl (gI G, 15625, .inl qv))]) [0, 1, 2] (by decide) rfl)
        exact W.vret hx hb hr (fun t9_ ht9_ hW9_ => ⟨⟨(cv, fv, qv), rfl, ⟨hG, hsm, fun z9 h8 h9 h7 => hall (dg k z9 j) (by have := dg_lt k z9 j; omega) (h9 j (by omega)) z9 h8 h9 (lowD_s (by omega) h7)⟩, by rw [ht9_]; exact hP9, hD9⟩, hS.F ht9_⟩) hS.2.2 dX7_queueGoal_72
      · have c11 : ¬ 5 ≤ o := fun h9_ => c11 ((nI_leI (a := 5) (b := o) (by omega) (by omega)).mpr h9_)
        have hp5 := p5_5 j
        refine lv_iload_n hx hb dX7_queueGoal_39 rfl (lv_at hl 1 rfl) ?_
        refine lv_iconst (v := 5) hx hb dX7_queueGoal_40 (by decide) ?_
        refine lv_icmp_eq (tgt := 50) hx hb dX7_queueGoal_41 (by decide) (fun c12 => ?_) (fun c12 => ?_)
        · have hmo : gmk go j = 5 ∨ gmk go j = nI o := by first | exact Or.inl (by rw [← hmk]; exact c12) | exact Or.inr (by rw [← hmk]; exact c12)
          refine lv_aload_n hx hb dX7_queueGoal_50 rfl (lv_at hl 2 rfl) ?_
          refine lv_iload_n hx hb dX7_queueGoal_51 rfl (lv_at hl 3 rfl) ?_
          refine lv_iconst (v := 1) hx hb dX7_queueGoal_52 (by decide) ?_
          refine lv_iadd hx hb dX7_queueGoal_53 ?_
          refine lv_topi (fun x13 ex13 => ?_)
          obtain rfl : x13 = nI (j + 1) := by rw [ex13]; exact nI_add j 1
          refine lv_iload_n hx hb dX7_queueGoal_54 rfl (lv_at hl 4 rfl) ?_
          refine lv_iload hx hb dX7_queueGoal_55 (lv_at hl 0 rfl) ?_
          refine lv_iload_n hx hb dX7_queueGoal_57 rfl (lv_at hl 3 rfl) ?_
          refine ca_iR (va_runS (As := [.int (nI j)]) (rest := [.int (nI o), .int (nI (sc k a)), .int (nI (j + 1)), .ref t]) ⟨hx, hb, hml, hown, hts⟩ (n_weight l G H.size j (by omega)) (va_cwS 1 hts gX7_queueGoal_X1_weight rfl rfl rfl (by decide +kernel) ⟨show 0 + 1 ≤ (d + 1) + 1 by omega, show 8 + (1 + 11) + 0 ≤ 24 * (d + 1) + 22 by omega⟩) (pre_S E hP hD hS hA [] (by decide) rfl) rfl rfl hl.1 rfl (lv_room (Nat.le_of_ble_eq_true rfl)) dX7_queueGoal_58 ⟨Nat.zero_le _, Nat.zero_le _⟩) hS hP hD hA [] rfl (fun r15 _ H locs w14 hP hS => ?_)
          rw [w14]
          refine lv_imul hx hb dX7_queueGoal_61 ?_
          refine lv_topi (fun x16 ex16 => ?_)
          obtain rfl : x16 = nI (o * (5 ^ (6 - 1 - j))) := by rw [ex16]; exact pk_mul o (5 ^ (6 - 1 - j))
          refine lv_iadd hx hb dX7_queueGoal_62 ?_
          refine lv_topi (fun x17 ex17 => ?_)
          obtain rfl : x17 = nI ((sc k a) + (o * (5 ^ (6 - 1 - j)))) := by rw [ex17]; exact nI_add (sc k a) (o * (5 ^ (6 - 1 - j)))
          refine W.eq (g2 := F0 m 63 ls [.int (nI (sc k (wN k a j o))), .int (nI (j + 1)), .ref t]) (by rw [put_0 (o := o) hk6 (show j < k by omega) (hz j (Nat.le_refl _) (by omega))]) ?_
          refine ca_v (wr := []) (va_runV (As := [.int (nI (j + 1)), .int (nI (sc k (wN k a j o)))]) (rest := []) ⟨hx, hb, hml, hown, hts⟩ (ih H.size t ta tq k cv se go ki fv qv (j + 1) (wN k a j o) hk2 hk6 (by omega) (by omega) (wN_lt ha (by omega) (by omega)) (fun i9 h9 => by rw [dg_wN (show j < k by omega) (by omega) (show o < 5 by omega)]; by_cases e9 : i9 = j; (rw [if_pos e9, e9]; exact hmo); (rw [if_neg e9]; exact hlow i9 (by omega))) (fun i9 h8 h9 => by rw [dg_wN (show j < k by omega) h9 (show o < 5 by omega), if_neg (by omega)]; exact hz i9 (by omega) h9) hG) (cwV 2 hts gX7_queueGoal_X7_queueGoal rfl rfl rfl (by decide +kernel) ⟨show (d + 1) + 1 ≤ (d + 1) + 1 by omega, show 8 + (5 + 11) + (24 * d + 22) ≤ 24 * (d + 1) + 22 by omega⟩) (pre_V E hP hD hS hA [0, 1, 2] (by decide) rfl 0 3 rfl rfl) rfl rfl hl.1 rfl (lv_room (Nat.le_of_ble_eq_true rfl)) dX7_queueGoal_63 ⟨Nat.zero_le _, Nat.zero_le _⟩) hS hP hD hA [0, 1, 2] [] rfl rfl (by decide) (by decide) (fun u20 H locs w18 hP hD hS => ?_)
          obtain ⟨cq1_21, fs1_22, fq1_23⟩ := u20
          try dsimp only at w18 hP hD
          have hP := (hP.sub (ws' := [(t, .inr (3, [.ref ta, .ref tq, .int (nI cq1_21), .int se, .int go, .int ki, .int (nI k)])), (ta, .inl (gB G, 15625, .inl fs1_22)), (tq, .inl (gI G, 15625, .inl fq1_23))]) [0, 1, 2] rfl)
          have hD := (hD.sub (ws' := [(t, .inr (3, [.ref ta, .ref tq, .int (nI cq1_21), .int se, .int go, .int ki, .int (nI k)])), (ta, .inl (gB G, 15625, .inl fs1_22)), (tq, .inl (gI G, 15625, .inl fq1_23))]) [0, 1, 2] (by decide) rfl)
          obtain ⟨x24, ex24⟩ : ∃ yy_ : Int32, yy_ = (nI o) + 1 := ⟨_, rfl⟩
          refine lv_iinc (v := x24) (lv' := [(4, .int x24), (3, .int r10), (0, .ref t), (1, .int (nI j)), (2, .int (nI (sc k a)))]) hx hb dX7_queueGoal_66 hl (k := 0) rfl (by rw [ex24]; rfl) (by decide) rfl (fun ls hl => ?_)
          obtain rfl : x24 = nI (o + 1) := by rw [ex24]; exact nI_add o 1
          refine lv_goto (tgt := 33) hx hb dX7_queueGoal_69 (by decide) ?_
          refine ih33 ((o + 1), cq1_21, fs1_22, fq1_23) ⟨?_, ?_, ?_, ?_⟩ (by first | omega | (dsimp only; omega)) H locs ls (hP.sub [0, 1, 2] rfl) (hD.sub [0, 1, 2] (by decide) rfl) hS (lv_sub hl [0, 1, 2, 3, 4] rfl)
          · try dsimp only
            omega
          · try dsimp only
            exact w18.1
          · try dsimp only
            exact fun z9 h8 h9 => (w18.2.1 z9 h8 (by rw [hsm z9 h8 h9]; exact h9)).trans (hsm z9 h8 h9)
          · try dsimp only
            intro o9 h9 q9 z9 h8 h7 h6; by_cases e9 : o9 = o
            · rw [e9] at h6; exact w18.2.2 z9 h8 h7 h6
            · exact mono_of w18.2.1 z9 h8 (hall o9 (by omega) q9 z9 h8 h7 h6)
        · refine lv_iload_n hx hb dX7_queueGoal_44 rfl (lv_at hl 1 rfl) ?_
          refine lv_iload hx hb dX7_queueGoal_45 (lv_at hl 0 rfl) ?_
          refine lv_icmp_ne (tgt := 66) hx hb dX7_queueGoal_47 (by decide) (fun c25 => ?_) (fun c25 => ?_)
          · obtain ⟨x26, ex26⟩ : ∃ yy_ : Int32, yy_ = (nI o) + 1 := ⟨_, rfl⟩
            refine lv_iinc (v := x26) (lv' := [(4, .int x26), (3, .int r10), (0, .ref t), (1, .int (nI j)), (2, .int (nI (sc k a)))]) hx hb dX7_queueGoal_66 hl (k := 0) rfl (by rw [ex26]; rfl) (by decide) rfl (fun ls hl => ?_)
            obtain rfl : x26 = nI (o + 1) := by rw [ex26]; exact nI_add o 1
            refine lv_goto (tgt := 33) hx hb dX7_queueGoal_69 (by decide) ?_
            refine ih33 ((o + 1), cv, fv, qv) ⟨?_, ?_, ?_, ?_⟩ (by first | omega | (dsimp only; omega)) H locs ls (hP.sub [0, 1, 2] rfl) (hD.sub [0, 1, 2] (by decide) rfl) hS (lv_sub hl [0, 1, 2, 3, 4] rfl)
            · try dsimp only
              omega
            · try dsimp only
              exact hG
            · try dsimp only
              exact hsm
            · try dsimp only
              intro o9 h9 q9 z9 h8 h7 h6; by_cases e9 : o9 = o
              · rw [e9] at q9; exact absurd q9 (fun q8 => q8.elim (fun q5 => c12 (by rw [hmk]; exact q5)) (fun q5 => c25 (by rw [hmk]; exact q5)))
              · exact hall o9 (by omega) q9 z9 h8 h7 h6
          · have hmo : gmk go j = 5 ∨ gmk go j = nI o := by first | exact Or.inl (by rw [← hmk]; exact c25) | exact Or.inr (by rw [← hmk]; exact c25)
            refine lv_aload_n hx hb dX7_queueGoal_50 rfl (lv_at hl 2 rfl) ?_
            refine lv_iload_n hx hb dX7_queueGoal_51 rfl (lv_at hl 3 rfl) ?_
            refine lv_iconst (v := 1) hx hb dX7_queueGoal_52 (by decide) ?_
            refine lv_iadd hx hb dX7_queueGoal_53 ?_
            refine lv_topi (fun x27 ex27 => ?_)
            obtain rfl : x27 = nI (j + 1) := by rw [ex27]; exact nI_add j 1
            refine lv_iload_n hx hb dX7_queueGoal_54 rfl (lv_at hl 4 rfl) ?_
            refine lv_iload hx hb dX7_queueGoal_55 (lv_at hl 0 rfl) ?_
            refine lv_iload_n hx hb dX7_queueGoal_57 rfl (lv_at hl 3 rfl) ?_
            refine ca_iR (va_runS (As := [.int (nI j)]) (rest := [.int (nI o), .int (nI (sc k a)), .int (nI (j + 1)), .ref t]) ⟨hx, hb, hml, hown, hts⟩ (n_weight l G H.size j (by omega)) (va_cwS 1 hts gX7_queueGoal_X1_weight rfl rfl rfl (by decide +kernel) ⟨show 0 + 1 ≤ (d + 1) + 1 by omega, show 8 + (1 + 11) + 0 ≤ 24 * (d + 1) + 22 by omega⟩) (pre_S E hP hD hS hA [] (by decide) rfl) rfl rfl hl.1 rfl (lv_room (Nat.le_of_ble_eq_true rfl)) dX7_queueGoal_58 ⟨Nat.zero_le _, Nat.zero_le _⟩) hS hP hD hA [] rfl (fun r29 _ H locs w28 hP hS => ?_)
            rw [w28]
            refine lv_imul hx hb dX7_queueGoal_61 ?_
            refine lv_topi (fun x30 ex30 => ?_)
            obtain rfl : x30 = nI (o * (5 ^ (6 - 1 - j))) := by rw [ex30]; exact pk_mul o (5 ^ (6 - 1 - j))
            refine lv_iadd hx hb dX7_queueGoal_62 ?_
            refine lv_topi (fun x31 ex31 => ?_)
            obtain rfl : x31 = nI ((sc k a) + (o * (5 ^ (6 - 1 - j)))) := by rw [ex31]; exact nI_add (sc k a) (o * (5 ^ (6 - 1 - j)))
            refine W.eq (g2 := F0 m 63 ls [.int (nI (sc k (wN k a j o))), .int (nI (j + 1)), .ref t]) (by rw [put_0 (o := o) hk6 (show j < k by omega) (hz j (Nat.le_refl _) (by omega))]) ?_
            refine ca_v (wr := []) (va_runV (As := [.int (nI (j + 1)), .int (nI (sc k (wN k a j o)))]) (rest := []) ⟨hx, hb, hml, hown, hts⟩ (ih H.size t ta tq k cv se go ki fv qv (j + 1) (wN k a j o) hk2 hk6 (by omega) (by omega) (wN_lt ha (by omega) (by omega)) (fun i9 h9 => by rw [dg_wN (show j < k by omega) (by omega) (show o < 5 by omega)]; by_cases e9 : i9 = j; (rw [if_pos e9, e9]; exact hmo); (rw [if_neg e9]; exact hlow i9 (by omega))) (fun i9 h8 h9 => by rw [dg_wN (show j < k by omega) h9 (show o < 5 by omega), if_neg (by omega)]; exact hz i9 (by omega) h9) hG) (cwV 2 hts gX7_queueGoal_X7_queueGoal rfl rfl rfl (by decide +kernel) ⟨show (d + 1) + 1 ≤ (d + 1) + 1 by omega, show 8 + (5 + 11) + (24 * d + 22) ≤ 24 * (d + 1) + 22 by omega⟩) (pre_V E hP hD hS hA [0, 1, 2] (by decide) rfl 0 3 rfl rfl) rfl rfl hl.1 rfl (lv_room (Nat.le_of_ble_eq_true rfl)) dX7_queueGoal_63 ⟨Nat.zero_le _, Nat.zero_le _⟩) hS hP hD hA [0, 1, 2] [] rfl rfl (by decide) (by decide) (fun u34 H locs w32 hP hD hS => ?_)
            obtain ⟨cq1_35, fs1_36, fq1_37⟩ := u34
            try dsimp only at w32 hP hD
            have hP := (hP.sub (ws' := [(t, .inr (3, [.ref ta, .ref tq, .int (nI cq1_35), .int se, .int go, .int ki, .int (nI k)])), (ta, .inl (gB G, 15625, .inl fs1_36)), (tq, .inl (gI G, 15625, .inl fq1_37))]) [0, 1, 2] rfl)
            have hD := (hD.sub (ws' := [(t, .inr (3, [.ref ta, .ref tq, .int (nI cq1_35), .int se, .int go, .int ki, .int (nI k)])), (ta, .inl (gB G, 15625, .inl fs1_36)), (tq, .inl (gI G, 15625, .inl fq1_37))]) [0, 1, 2] (by decide) rfl)
            obtain ⟨x38, ex38⟩ : ∃ yy_ : Int32, yy_ = (nI o) + 1 := ⟨_, rfl⟩
            refine lv_iinc (v := x38) (lv' := [(4, .int x38), (3, .int r10), (0, .ref t), (1, .int (nI j)), (2, .int (nI (sc k a)))]) hx hb dX7_queueGoal_66 hl (k := 0) rfl (by rw [ex38]; rfl) (by decide) rfl (fun ls hl => ?_)
            obtain rfl : x38 = nI (o + 1) := by rw [ex38]; exact nI_add o 1
            refine lv_goto (tgt := 33) hx hb dX7_queueGoal_69 (by decide) ?_
            refine ih33 ((o + 1), cq1_35, fs1_36, fq1_37) ⟨?_, ?_, ?_, ?_⟩ (by first | omega | (dsimp only; omega)) H locs ls (hP.sub [0, 1, 2] rfl) (hD.sub [0, 1, 2] (by decide) rfl) hS (lv_sub hl [0, 1, 2, 3, 4] rfl)
            · try dsimp only
              omega
            · try dsimp only
              exact w32.1
            · try dsimp only
              exact fun z9 h8 h9 => (w32.2.1 z9 h8 (by rw [hsm z9 h8 h9]; exact h9)).trans (hsm z9 h8 h9)
            · try dsimp only
              intro o9 h9 q9 z9 h8 h7 h6; by_cases e9 : o9 = o
              · rw [e9] at h6; exact w32.2.2 z9 h8 h7 h6
              · exact mono_of w32.2.1 z9 h8 (hall o9 (by omega) q9 z9 h8 h7 h6)

theorem n_queueGoal (l : Launch) (G : Gy) (sz : Nat) (t : Nat) (ta : Nat) (tq : Nat) (k : Nat) (cq : Nat) (se : Int32) (go : Int32) (ki : Int32) (fs : Nat → Int32) (fq : Nat → Int32) (hk2 : 2 ≤ k) (hk6 : k ≤ 6) (hbg : BG k (gS k go) cq fs fq) : Cv l G yX7_queueGoal wsX7_queueGoal ({ frames := 7, cells := 0, slots := 0, locals := 166 }) [.ref t, .int 0, .int 0] ([(t, .inr (3, [.ref ta, .ref tq, .int (nI cq), .int se, .int go, .int ki, .int (nI k)])), (ta, .inl (gB G, 15625, .inl fs)), (tq, .inl (gI G, 15625, .inl fq))]) sz (fun (u : Nat × (Nat → Int32) × (Nat → Int32)) => match u with | (cq1, fs1, fq1) => BG k (gS k go) cq1 fs1 fq1 ∧ (∀ z, z < 5 ^ k → ¬ fS k fs z < 0 → fS k fs1 z = fS k fs z) ∧ ∀ z, z < 5 ^ k → gS k go z → lowD k 0 z 0 → ¬ fS k fs1 z < 0) (fun (u : Nat × (Nat → Int32) × (Nat → Int32)) => match u with | (cq1, fs1, fq1) => [(t, .inr (3, [.ref ta, .ref tq, .int (nI cq1), .int se, .int go, .int ki, .int (nI k)])), (ta, .inl (gB G, 15625, .inl fs1)), (tq, .inl (gI G, 15625, .inl fq1))]) 0 0 := by
  have h := n_queueGoal_rec l G 6 sz t ta tq k cq se go ki fs fq 0 0 hk2 hk6 (by omega) (Nat.zero_le _) (p5_pos _) (fun i h => absurd h (Nat.not_lt_zero _)) (fun i _ _ => dg_zero) hbg
  rw [sc_zero2] at h
  exact h

set_option maxHeartbeats 1000000 in
set_option maxRecDepth 100000 in
theorem n_begin (l : Launch) (G : Gy) (sz : Nat) (t : Nat) (ta : Nat) (tq : Nat) (qd : Int32) (se : Int32) (go : Int32) (ki : Int32) (nn : Int32) (fs : Nat → Int32) (fq : Nat → Int32) (k : Nat) (p0 : Int32) (p1 : Int32) (hk2 : 2 ≤ k) (hk6 : k ≤ 6) : Cv l G yX7_begin wsX7_begin ({ frames := 8, cells := 0, slots := 0, locals := 190 }) [.ref t, .int p0, .int p1, .int (nI k)] ([(t, .inr (3, [.ref ta, .ref tq, .int qd, .int se, .int go, .int ki, .int nn])), (ta, .inl (gB G, 15625, .inl fs)), (tq, .inl (gI G, 15625, .inl fq))]) sz (fun (u : Nat × (Nat → Int32) × (Nat → Int32)) => match u with | (cq1, fs1, fq1) => BK k (bK p1) (gS k p0) 0 cq1 fs1 fq1) (fun (u : Nat × (Nat → Int32) × (Nat → Int32)) => match u with | (cq1, fs1, fq1) => [(t, .inr (3, [.ref ta, .ref tq, .int (nI cq1), .int 0, .int p0, .int p1, .int (nI k)])), (ta, .inl (gB G, 15625, .inl fs1)), (tq, .inl (gI G, 15625, .inl fq1))]) 0 0 := by
  refine Met.ofW (cc := cX7_begin) (maxL := 4) (ret := none) (by decide) rfl ?_
  intro p e s m args below meth c s₁ B hml hv
  obtain ⟨rfl, hsz, hP, hD0, E0⟩ := hv
  have hx := B.exec
  have hb := B.bytes
  have hr := B.returns
  have hts := atoms_spec (ws := wsX7_begin) B.pre
  have hown : s.vm.findClass RX7 = some m.cls := findClass_of_methodNamed B.named
  have hlocks := B.notSynchronized
  subst hsz
  have hD := hD0.self (sz := s.heap.size)
  generalize hAe : va_A ([(t, .inr (3, [.ref ta, .ref tq, .int qd, .int se, .int go, .int ki, .int nn])), (ta, .inl (gB G, 15625, .inl fs)), (tq, .inl (gI G, 15625, .inl fq))]) s.heap.size = A at hD E0 ⊢
  have E : EV G A s s.heap := E0
  have hA : ∀ q : Nat, s.heap.size ≤ q → A q := fun q h => by rw [← hAe]; exact Or.inr h
  have hS : va_S A s.heap s.heap [] := va_S.rf
  have hl := lv_entry ([.ref t, .int p0, .int p1, .int (nI k)]) (n := 4) (Nat.le_of_ble_eq_true rfl)
  rw [lg_entry_eq]
  generalize (lg_sl ([.ref t, .int p0, .int p1, .int (nI k)]) ++ List.replicate (4 - (lg_sl ([.ref t, .int p0, .int p1, .int (nI k)])).length) Slot.unset).toArray = ls at hl ⊢
  have hl : lv_has ls 4 [(0, .ref t), (1, .int p0), (2, .int p1), (3, .int (nI k))] := hl
  have hP : va_P G.1 vwCl ([(t, .inr (3, [.ref ta, .ref tq, .int qd, .int se, .int go, .int ki, .int nn])), (ta, .inl (gB G, 15625, .inl fs)), (tq, .inl (gI G, 15625, .inl fq))]) s.heap := hP
  have hal := p5le hk6
  have h15 : (5 : Nat) ^ 6 = 15625 := by decide
  refine lv_aload_n hx hb dX7_begin_0 rfl (lv_at hl 0 rfl) ?_
  refine lv_iload_n hx hb dX7_begin_1 rfl (lv_at hl 1 rfl) ?_
  refine va_put (D := G.1) (ci := 3) (v := .int p0) (ty := .int) (C := RX7) (T := TX7) (N := 7) hx hb hts (fun _ h => List.mem_cons_of_mem _ (List.mem_append_right _ h)) tyX7 tyX7_ok nmX7 hown E.K hP hD hS 0 rfl rfl 4 (by decide) (hts (.fieldLink RX7 21 "LastMap$Table" "goal" "I") (by decide +kernel)) (fun _ h9 => h9) rfl (by decide +kernel) rfl rfl (Nat.le_of_ble_eq_true rfl) dX7_begin_2 (fun H locs hP hD hS => ?_)
  have hP : va_P G.1 vwCl ([(t, .inr (3, [.ref ta, .ref tq, .int qd, .int se, .int p0, .int ki, .int nn])), (ta, .inl (gB G, 15625, .inl fs)), (tq, .inl (gI G, 15625, .inl fq))]) H := hP
  have hD : va_D A ([(t, .inr (3, [.ref ta, .ref tq, .int qd, .int se, .int p0, .int ki, .int nn])), (ta, .inl (gB G, 15625, .inl fs)), (tq, .inl (gI G, 15625, .inl fq))]) := hD
  refine lv_aload_n hx hb dX7_begin_5 rfl (lv_at hl 0 rfl) ?_
  refine lv_iload_n hx hb dX7_begin_6 rfl (lv_at hl 2 rfl) ?_
  refine va_put (D := G.1) (ci := 3) (v := .int p1) (ty := .int) (C := RX7) (T := TX7) (N := 7) hx hb hts (fun _ h => List.mem_cons_of_mem _ (List.mem_append_right _ h)) tyX7 tyX7_ok nmX7 hown E.K hP hD hS 0 rfl rfl 5 (by decide) (hts (.fieldLink RX7 25 "LastMap$Table" "kinds" "I") (by decide +kernel)) (fun _ h9 => h9) rfl (by decide +kernel) rfl rfl (Nat.le_of_ble_eq_true rfl) dX7_begin_7 (fun H locs hP hD hS => ?_)
  have hP : va_P G.1 vwCl ([(t, .inr (3, [.ref ta, .ref tq, .int qd, .int se, .int p0, .int p1, .int nn])), (ta, .inl (gB G, 15625, .inl fs)), (tq, .inl (gI G, 15625, .inl fq))]) H := hP
  have hD : va_D A ([(t, .inr (3, [.ref ta, .ref tq, .int qd, .int se, .int p0, .int p1, .int nn])), (ta, .inl (gB G, 15625, .inl fs)), (tq, .inl (gI G, 15625, .inl fq))]) := hD
  refine lv_aload_n hx hb dX7_begin_10 rfl (lv_at hl 0 rfl) ?_
  refine lv_iload_n hx hb dX7_begin_11 rfl (lv_at hl 3 rfl) ?_
  refine va_put (D := G.1) (ci := 3) (v := .int (nI k)) (ty := .int) (C := RX7) (T := TX7) (N := 7) hx hb hts (fun _ h => List.mem_cons_of_mem _ (List.mem_append_right _ h)) tyX7 tyX7_ok nmX7 hown E.K hP hD hS 0 rfl rfl 6 (by decide) (hts (.fieldLink RX7 28 "LastMap$Table" "n" "I") (by decide +kernel)) (fun _ h9 => h9) rfl (by decide +kernel) rfl rfl (Nat.le_of_ble_eq_true rfl) dX7_begin_12 (fun H locs hP hD hS => ?_)
  have hP : va_P G.1 vwCl ([(t, .inr (3, [.ref ta, .ref tq, .int qd, .int se, .int p0, .int p1, .int (nI k)])), (ta, .inl (gB G, 15625, .inl fs)), (tq, .inl (gI G, 15625, .inl fq))]) H := hP
  have hD : va_D A ([(t, .inr (3, [.ref ta, .ref tq, .int qd, .int se, .int p0, .int p1, .int (nI k)])), (ta, .inl (gB G, 15625, .inl fs)), (tq, .inl (gI G, 15625, .inl fq))]) := hD
  refine lv_aload_n hx hb dX7_begin_15 rfl (lv_at hl 0 rfl) ?_
  refine lv_iconst (v := 0) hx hb dX7_begin_16 (by decide) ?_
  refine va_put (D := G.1) (ci := 3) (v := .int 0) (ty := .int) (C := RX7) (T := TX7) (N := 7) hx hb hts (fun _ h => List.mem_cons_of_mem _ (List.mem_append_right _ h)) tyX7 tyX7_ok nmX7 hown E.K hP hD hS 0 rfl rfl 2 (by decide) (hts (.fieldLink RX7 31 "LastMap$Table" "queued" "I") (by decide +kernel)) (fun _ h9 => h9) rfl (by decide +kernel) rfl rfl (Nat.le_of_ble_eq_true rfl) dX7_begin_17 (fun H locs hP hD hS => ?_)
  have hP : va_P G.1 vwCl ([(t, .inr (3, [.ref ta, .ref tq, .int 0, .int se, .int p0, .int p1, .int (nI k)])), (ta, .inl (gB G, 15625, .inl fs)), (tq, .inl (gI G, 15625, .inl fq))]) H := hP
  have hD : va_D A ([(t, .inr (3, [.ref ta, .ref tq, .int 0, .int se, .int p0, .int p1, .int (nI k)])), (ta, .inl (gB G, 15625, .inl fs)), (tq, .inl (gI G, 15625, .inl fq))]) := hD
  refine lv_aload_n hx hb dX7_begin_20 rfl (lv_at hl 0 rfl) ?_
  refine lv_iconst (v := 0) hx hb dX7_begin_21 (by decide) ?_
  refine va_put (D := G.1) (ci := 3) (v := .int 0) (ty := .int) (C := RX7) (T := TX7) (N := 7) hx hb hts (fun _ h => List.mem_cons_of_mem _ (List.mem_append_right _ h)) tyX7 tyX7_ok nmX7 hown E.K hP hD hS 0 rfl rfl 3 (by decide) (hts (.fieldLink RX7 34 "LastMap$Table" "searched" "I") (by decide +kernel)) (fun _ h9 => h9) rfl (by decide +kernel) rfl rfl (Nat.le_of_ble_eq_true rfl) dX7_begin_22 (fun H locs hP hD hS => ?_)
  have hP : va_P G.1 vwCl ([(t, .inr (3, [.ref ta, .ref tq, .int 0, .int 0, .int p0, .int p1, .int (nI k)])), (ta, .inl (gB G, 15625, .inl fs)), (tq, .inl (gI G, 15625, .inl fq))]) H := hP
  have hD : va_D A ([(t, .inr (3, [.ref ta, .ref tq, .int 0, .int 0, .int p0, .int p1, .int (nI k)])), (ta, .inl (gB G, 15625, .inl fs)), (tq, .inl (gI G, 15625, .inl fq))]) := hD
  refine lv_aload_n hx hb dX7_begin_25 rfl (lv_at hl 0 rfl) ?_
  refine va_get (D := G.1) (ci := 3) (v := .ref ta) (C := RX7) (T := TX7) (N := 7) hx hb hts (fun _ h => List.mem_cons_of_mem _ (List.mem_append_right _ h)) hown E.K hP 0 rfl rfl 0 (by decide) (hts (.fieldLink RX7 11 "LastMap$Table" "slips" "[B") (by decide +kernel)) (fun _ h9 => h9) rfl dX7_begin_26 ?_
  refine lv_bipush (v := (-6)) hx hb dX7_begin_29 (by decide) ?_
  refine ca_v (wr := [(t, .inr (3, [.ref ta, .ref tq, .int 0, .int 0, .int p0, .int p1, .int (nI k)])), (tq, .inl (gI G, 15625, .inl fq))]) (va_runS (As := [.ref ta, .int (-6)]) (rest := []) ⟨hx, hb, hml, hown, hts⟩ (n_fillB l G H.size ta fs (-6)) (va_cwS 2 hts gX7_begin_J7_fill_031fb rfl rfl rfl (by decide +kernel) ⟨by decide +kernel, by decide +kernel⟩) (pre_S E hP hD hS hA [1] (by decide) rfl) rfl rfl hl.1 rfl (lv_room (Nat.le_of_ble_eq_true rfl)) dX7_begin_31 ⟨by decide +kernel, by decide +kernel⟩) hS hP hD hA [1] [0, 2] rfl rfl (by decide) (by decide) (fun u3 H locs w1 hP hD hS => ?_)
  obtain ⟨f1_4, rfl⟩ : ∃ z, z = u3 := ⟨_, rfl⟩
  try dsimp only at w1 hP hD
  have hP := (hP.sub (ws' := [(t, .inr (3, [.ref ta, .ref tq, .int 0, .int 0, .int p0, .int p1, .int (nI k)])), (ta, .inl (gB G, 15625, .inl f1_4)), (tq, .inl (gI G, 15625, .inl fq))]) [0, 2, 1] rfl)
  have hD := (hD.sub (ws' := [(t, .inr (3, [.ref ta, .ref tq, .int 0, .int 0, .int p0, .int p1, .int (nI k)])), (ta, .inl (gB G, 15625, .inl f1_4)), (tq, .inl (gI G, 15625, .inl fq))]) [0, 2, 1] (by decide) rfl)
  have hbg0 : BG k (gS k p0) 0 f1_4 fq := BG_start (fun z9 h9 => by have q9 := sc_lt hk6 h9; show f1_4 (sc k z9) = _; rw [w1 (sc k z9) (by omega)]; exact byte_m6)
  refine lv_aload_n hx hb dX7_begin_34 rfl (lv_at hl 0 rfl) ?_
  refine lv_iconst (v := 0) hx hb dX7_begin_35 (by decide) ?_
  refine lv_iconst (v := 0) hx hb dX7_begin_36 (by decide) ?_
  refine ca_v (wr := []) (va_runV (As := [.int 0, .int 0]) (rest := []) ⟨hx, hb, hml, hown, hts⟩ (n_queueGoal l G H.size t ta tq k 0 0 p0 p1 f1_4 fq hk2 hk6 hbg0) (cwV 2 hts gX7_begin_X7_queueGoal rfl rfl rfl (by decide +kernel) ⟨by decide +kernel, by decide +kernel⟩) (pre_V E hP hD hS hA [0, 1, 2] (by decide) rfl 0 3 rfl rfl) rfl rfl hl.1 rfl (lv_room (Nat.le_of_ble_eq_true rfl)) dX7_begin_37 ⟨by decide +kernel, by decide +kernel⟩) hS hP hD hA [0, 1, 2] [] rfl rfl (by decide) (by decide) (fun u7 H locs w5 hP hD hS => ?_)
  obtain ⟨cq1_8, fs1_9, fq1_10⟩ := u7
  try dsimp only at w5 hP hD
  have hP := (hP.sub (ws' := [(t, .inr (3, [.ref ta, .ref tq, .int (nI cq1_8), .int 0, .int p0, .int p1, .int (nI k)])), (ta, .inl (gB G, 15625, .inl fs1_9)), (tq, .inl (gI G, 15625, .inl fq1_10))]) [0, 1, 2] rfl)
  have hD := (hD.sub (ws' := [(t, .inr (3, [.ref ta, .ref tq, .int (nI cq1_8), .int 0, .int p0, .int p1, .int (nI k)])), (ta, .inl (gB G, 15625, .inl fs1_9)), (tq, .inl (gI G, 15625, .inl fq1_10))]) [0, 1, 2] (by decide) rfl)
  have hP9 := (hP.sub (ws' := [(t, .inr (3, [.ref ta, .ref tq, .int (nI cq1_8), .int 0, .int p0, .int p1, .int (nI k)])), (ta, .inl (gB G, 15625, .inl fs1_9)), (tq, .inl (gI G, 15625, .inl fq1_10))]) [0, 1, 2] rfl)
  have hD9 := (hD.sub (ws' := [(t, .inr (3, [.ref ta, .ref tq, .int (nI cq1_8), .int 0, .int p0, .int p1, .int (nI k)])), (ta, .inl (gB G, 15625, .inl fs1_9)), (tq, .inl (gI G, 15625, .inl fq1_10))]) [0, 1, 2] (by decide) rfl)
  exact W.vret hx hb hr (fun t9_ ht9_ hW9_ => ⟨⟨(cq1_8, fs1_9, fq1_10), rfl, BG_end w5.1 (fun z9 h8 h9 => w5.2.2 z9 h8 h9 (fun i9 g9 => absurd g9 (Nat.not_lt_zero _))), by rw [ht9_]; exact hP9, hD9⟩, hS.F ht9_⟩) hS.2.2 dX7_begin_40
