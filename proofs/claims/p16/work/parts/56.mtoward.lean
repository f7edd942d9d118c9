/-- every map from which at most r slips lead to g has its number -/
def cOK (k : Nat) (b : Nat → Bool) (g r : Nat) (f : Nat → Int32) : Prop := ∀ x, x < 5 ^ k → ∀ d, d ≤ r → pth k b g d x → ¬ f x = 1000
theorem tOK_start {k g : Nat} {b : Nat → Bool} {f : Nat → Int32} (h : ∀ j, j < 5 ^ k → f j = if j = g then 0 else 1000) : tOK k b g 0 f ∧ cOK k b g 0 f := by
  constructor
  · intro x hx
    rw [h x hx]
    by_cases e : x = g
    · rw [if_pos e]; exact Or.inr ⟨0, Nat.le_refl _, rfl, e, fun d' hd => absurd hd (Nat.not_lt_zero _)⟩
    · rw [if_neg e]; exact Or.inl rfl
  · intro x hx d hd hp
    have hd0 : d = 0 := by omega
    subst hd0
    have e : x = g := hp
    rw [h x hx, if_pos e]; decide
theorem tOK_up {k g r : Nat} {b : Nat → Bool} {f : Nat → Int32} (h : tOK k b g r f) : tOK k b g (r + 1) f := by
  intro x hx
  rcases h x hx with e | ⟨d, a1, a2, a3, a4⟩
  · exact Or.inl e
  · exact Or.inr ⟨d, by omega, a2, a3, a4⟩
theorem ne1000 {d : Nat} (h : d < 1000) : ¬ nI d = 1000 := fun e => by
  have := (nI_eq (a := d) (b := 1000) (by omega) (by decide)).mp e
  omega
theorem tstep1 {k g r x : Nat} {b : Nat → Bool} {f : Nat → Int32} (hr : r < 900) (h : tOK k b g (r + 1) f) (hc : cOK k b g r f) (hx : x < 5 ^ k) (hf : f x = 1000) {t : Nat} (ht : t < manyS k) (hb : b (mvAt k t).1 = true) (he : f (slN k x (mvAt k t)) = nI r) : tOK k b g (r + 1) (upd f x (nI (r + 1))) ∧ cOK k b g r (upd f x (nI (r + 1))) := by
  have hs := slN_lt hx (mvAt_ok ht)
  have hp : pth k b g r (slN k x (mvAt k t)) := by
    rcases h _ hs with e | ⟨d, a1, a2, a3, a4⟩
    · rw [show f (slN k x ((mvAt k t).1, (mvAt k t).2.1, (mvAt k t).2.2)) = nI r from he] at e; exact absurd e (ne1000 (by omega))
    · have := (nI_eq (a := r) (b := d) (by omega) (by omega)).mp (he.symm.trans a2)
      subst this
      exact a3
  constructor
  · intro y hy
    by_cases e : y = x
    · subst e
      refine Or.inr ⟨r + 1, Nat.le_refl _, pk_us, ⟨t, ht, hb, hp⟩, fun d' hd hq => ?_⟩
      exact hc y hy d' (by omega) hq hf
    · rw [pk_un e]; exact h y hy
  · intro y hy d hd hq
    by_cases e : y = x
    · subst e; rw [pk_us]; exact ne1000 (by omega)
    · rw [pk_un e]; exact hc y hy d hd hq
theorem tstep0 {k g r x : Nat} {b : Nat → Bool} {f : Nat → Int32} (hr : r < 900) (h : tOK k b g (r + 1) f) (hc : cOK k b g r f) (hx : x < 5 ^ k) (hn : ¬ f x = 1000 ∨ ∀ t, t < manyS k → ¬ (b (mvAt k t).1 = true ∧ f (slN k x (mvAt k t)) = nI r)) (hq : pth k b g (r + 1) x) : ¬ f x = 1000 := by
  rcases hn with hn | hn
  · exact hn
  · intro hf
    obtain ⟨t, ht, hb, hp⟩ := hq
    have hs := slN_lt hx (mvAt_ok ht)
    rcases h _ hs with e | ⟨d, a1, a2, a3, a4⟩
    · exact hc _ hs r (Nat.le_refl _) hp e
    · have h1 : d ≤ r := by
        rcases Nat.lt_or_ge r d with q | q
        · exact absurd hp (a4 r q)
        · exact q
      rcases Nat.lt_or_ge d r with q | q
      · exact hc x hx (d + 1) (by omega) ⟨t, ht, hb, a3⟩ hf
      · have : d = r := by omega
        subst this
        exact hn t ht ⟨hb, a2⟩
theorem cOK_next {k g r : Nat} {b : Nat → Bool} {f : Nat → Int32} (hc : cOK k b g r f) (h : ∀ y, y < 5 ^ k → pth k b g (r + 1) y → ¬ f y = 1000) : cOK k b g (r + 1) f := by
  intro x hx d hd hp
  rcases Nat.lt_or_ge r d with q | q
  · have : d = r + 1 := by omega
    subst this
    exact h x hx hp
  · exact hc x hx d q hp

set_option maxHeartbeats 1000000 in
set_option maxRecDepth 100000 in
theorem m_leadsTo (l : Launch) (G : Gy) (sz : Nat) (h1 : Nat) (v_maps : Value) (v_told : Value) (v_kinds : Value) (v_land : Value) (v_spades : Value) (v_pad : Value) (v_padMany : Value) (v_slips : Value) (v_slipMany : Value) (v_made : Value) (v_queue : Value) (v_depth : Value) (v_by : Value) (v_from : Value) (v_come : Value) (v_offOf : Value) (v_parent : Value) (v_best : Value) (v_trees : Value) (v_least : Value) (v_sums : Value) (v_kept : Value) (v_isKept : Value) (v_keptAt : Value) (v_isWriting : Value) (a_part : Nat) (fp : Nat → Int32) (a_toward : Nat) (ft : Nat → Int32) (k : Nat) (a : Nat) (rd : Nat) (p1 : Int32) (hk2 : 2 ≤ k) (hk6 : k ≤ 6) (hp : pOK k fp) (ha : a < 5 ^ k) : Ci l G yX10_leadsTo wsX10_leadsTo ({ frames := 3, cells := 0, slots := 0, locals := 69 }) [.ref h1, .int (nI a), .int p1, .int (nI rd)] ([(h1, .inr (6, [.int (nI k), v_maps, v_told, v_kinds, v_land, v_spades, .ref a_part, v_pad, v_padMany, v_slips, v_slipMany, v_made, v_queue, v_depth, v_by, v_from, v_come, v_offOf, v_parent, v_best, v_trees, v_least, v_sums, .ref a_toward, v_kept, v_isKept, v_keptAt, v_isWriting])), (a_part, .inl (gI G, 6, .inl fp)), (a_toward, .inl (gI G, 15625, .inl ft))]) sz (fun (r : Int32) (_ : Unit) => (r = 1 ∧ ∃ t, t < manyS k ∧ bK p1 (mvAt k t).1 = true ∧ ft (slN k a (mvAt k t)) = nI rd) ∨ (r = 0 ∧ ∀ t : Nat, t < manyS k → ¬ (bK p1 (mvAt k t).1 = true ∧ ft (slN k a (mvAt k t)) = nI rd))) (fun (_ : Unit) => [(h1, .inr (6, [.int (nI k), v_maps, v_told, v_kinds, v_land, v_spades, .ref a_part, v_pad, v_padMany, v_slips, v_slipMany, v_made, v_queue, v_depth, v_by, v_from, v_come, v_offOf, v_parent, v_best, v_trees, v_least, v_sums, .ref a_toward, v_kept, v_isKept, v_keptAt, v_isWriting])), (a_part, .inl (gI G, 6, .inl fp)), (a_toward, .inl (gI G, 15625, .inl ft))]) 0 0 := by
  refine Met.ofW (cc := cX10_leadsTo) (maxL := 7) (ret := (some .boolean)) (by decide) rfl ?_
  intro p e s m args below meth c s₁ B hml hv
  obtain ⟨rfl, hsz, hP, hD0, E0⟩ := hv
  have hx := B.exec
  have hb := B.bytes
  have hr := B.returns
  have hts := atoms_spec (ws := wsX10_leadsTo) B.pre
  have hown : s.vm.findClass RX10 = some m.cls := findClass_of_methodNamed B.named
  have hlocks := B.notSynchronized
  subst hsz
  have hD := hD0.self (sz := s.heap.size)
  generalize hAe : va_A ([(h1, .inr (6, [.int (nI k), v_maps, v_told, v_kinds, v_land, v_spades, .ref a_part, v_pad, v_padMany, v_slips, v_slipMany, v_made, v_queue, v_depth, v_by, v_from, v_come, v_offOf, v_parent, v_best, v_trees, v_least, v_sums, .ref a_toward, v_kept, v_isKept, v_keptAt, v_isWriting])), (a_part, .inl (gI G, 6, .inl fp)), (a_toward, .inl (gI G, 15625, .inl ft))]) s.heap.size = A at hD E0 ⊢
  have E : EV G A s s.heap := E0
  have hA : ∀ q : Nat, s.heap.size ≤ q → A q := fun q h => by rw [← hAe]; exact Or.inr h
  have hS : va_S A s.heap s.heap [] := va_S.rf
  have hl := lv_entry ([.ref h1, .int (nI a), .int p1, .int (nI rd)]) (n := 7) (Nat.le_of_ble_eq_true rfl)
  rw [lg_entry_eq]
  generalize (lg_sl ([.ref h1, .int (nI a), .int p1, .int (nI rd)]) ++ List.replicate (7 - (lg_sl ([.ref h1, .int (nI a), .int p1, .int (nI rd)])).length) Slot.unset).toArray = ls at hl ⊢
  have hl : lv_has ls 7 [(0, .ref h1), (1, .int (nI a)), (2, .int p1), (3, .int (nI rd))] := hl
  have hP : va_P G.1 vwCl ([(h1, .inr (6, [.int (nI k), v_maps, v_told, v_kinds, v_land, v_spades, .ref a_part, v_pad, v_padMany, v_slips, v_slipMany, v_made, v_queue, v_depth, v_by, v_from, v_come, v_offOf, v_parent, v_best, v_trees, v_least, v_sums, .ref a_toward, v_kept, v_isKept, v_keptAt, v_isWriting])), (a_part, .inl (gI G, 6, .inl fp)), (a_toward, .inl (gI G, 15625, .inl ft))]) s.heap := hP
  have hal := p5le hk6
  have hmk := many40 hk6
  refine lv_aload_n hx hb dX10_leadsTo_0 rfl (lv_at hl 0 rfl) ?_
  refine ca_iR (va_runV (As := []) (rest := []) ⟨hx, hb, hml, hown, hts⟩ (m_slipsThere l G s.heap.size h1 v_maps v_told v_kinds v_land v_spades (.ref a_part) v_pad v_padMany v_slips v_slipMany v_made v_queue v_depth v_by v_from v_come v_offOf v_parent v_best v_trees v_least v_sums (.ref a_toward) v_kept v_isKept v_keptAt v_isWriting k hk2 hk6) (cwV 0 hts gX10_leadsTo_X10_slipsThere rfl rfl rfl (by decide +kernel) ⟨by decide +kernel, by decide +kernel⟩) (pre_V E hP hD hS hA [0] (by decide) rfl 0 6 rfl rfl) rfl rfl hl.1 rfl (lv_room (Nat.le_of_ble_eq_true rfl)) dX10_leadsTo_1 ⟨by decide +kernel, by decide +kernel⟩) hS hP hD hA [0] rfl (fun r2 _ H locs w1 hP hS => ?_)
  rw [w1]
  refine lv_istore (lv' := [(4, .int (nI (manyS k))), (0, .ref h1), (1, .int (nI a)), (2, .int p1), (3, .int (nI rd))]) hx hb dX10_leadsTo_4 hl (by decide) rfl (fun ls hl => ?_)
  refine lv_iconst (v := 0) hx hb dX10_leadsTo_6 (by decide) ?_
  refine lv_istore (lv' := [(5, .int 0), (4, .int (nI (manyS k))), (0, .ref h1), (1, .int (nI a)), (2, .int p1), (3, .int (nI rd))]) hx hb dX10_leadsTo_7 hl (by decide) rfl (fun ls hl => ?_)
  refine lp_run (x0 := 0) (fun z : Nat => [(h1, .inr (6, [.int (nI k), v_maps, v_told, v_kinds, v_land, v_spades, .ref a_part, v_pad, v_padMany, v_slips, v_slipMany, v_made, v_queue, v_depth, v_by, v_from, v_come, v_offOf, v_parent, v_best, v_trees, v_least, v_sums, .ref a_toward, v_kept, v_isKept, v_keptAt, v_isWriting])), (a_part, .inl (gI G, 6, .inl fp)), (a_toward, .inl (gI G, 15625, .inl ft))]) (fun z : Nat => [(5, .int (nI z)), (4, .int (nI (manyS k))), (0, .ref h1), (1, .int (nI a)), (2, .int p1), (3, .int (nI rd))]) (fun z : Nat => (z ≤ manyS k) ∧ (∀ t : Nat, t < z → ¬ (bK p1 (mvAt k t).1 = true ∧ ft (slN k a (mvAt k t)) = nI rd))) (fun z : Nat => (manyS k) - z) (hP.sub [0, 1, 2] rfl) (hD.sub [0, 1, 2] (by decide) rfl) hS (lv_sub hl [0, 1, 2, 3, 4, 5] rfl) ⟨(by omega), by intro t9 h9; omega⟩ ?_
  intro xx_ hI ih9 H locs ls hP hD hS hl
  obtain ⟨z, rfl⟩ : ∃ zz_, zz_ = xx_ := ⟨_, rfl⟩
  obtain ⟨hz0, hno⟩ := hI
  have hl : lv_has ls 7 [(5, .int (nI z)), (4, .int (nI (manyS k))), (0, .ref h1), (1, .int (nI a)), (2, .int p1), (3, .int (nI rd))] := hl
  have hP : va_P G.1 vwCl ([(h1, .inr (6, [.int (nI k), v_maps, v_told, v_kinds, v_land, v_spades, .ref a_part, v_pad, v_padMany, v_slips, v_slipMany, v_made, v_queue, v_depth, v_by, v_from, v_come, v_offOf, v_parent, v_best, v_trees, v_least, v_sums, .ref a_toward, v_kept, v_isKept, v_keptAt, v_isWriting])), (a_part, .inl (gI G, 6, .inl fp)), (a_toward, .inl (gI G, 15625, .inl ft))]) H := hP
  have hD : va_D A ([(h1, .inr (6, [.int (nI k), v_maps, v_told, v_kinds, v_land, v_spades, .ref a_part, v_pad, v_padMany, v_slips, v_slipMany, v_made, v_queue, v_depth, v_by, v_from, v_come, v_offOf, v_parent, v_best, v_trees, v_least, v_sums, .ref a_toward, v_kept, v_isKept, v_keptAt, v_isWriting])), (a_part, .inl (gI G, 6, .inl fp)), (a_toward, .inl (gI G, 15625, .inl ft))]) := hD
  refine lv_iload hx hb dX10_leadsTo_9 (lv_at hl 0 rfl) ?_
  refine lv_iload hx hb dX10_leadsTo_11 (lv_at hl 1 rfl) ?_
  refine lv_icmp_ge (tgt := 57) hx hb dX10_leadsTo_13 (by decide) (fun c3 => ?_) (fun c3 => ?_)
  · have c3 : (manyS k) ≤ z := (nI_leI (a := (manyS k)) (b := z) (by omega) (by omega)).mp c3
    refine lv_iconst (v := 0) hx hb dX10_leadsTo_57 (by decide) ?_
    have hP9 := (hP.sub (ws' := [(h1, .inr (6, [.int (nI k), v_maps, v_told, v_kinds, v_land, v_spades, .ref a_part, v_pad, v_padMany, v_slips, v_slipMany, v_made, v_queue, v_depth, v_by, v_from, v_come, v_offOf, v_parent, v_best, v_trees, v_least, v_sums, .ref a_toward, v_kept, v_isKept, v_keptAt, v_isWriting])), (a_part, .inl (gI G, 6, .inl fp)), (a_toward, .inl (gI G, 15625, .inl ft))]) [0, 1, 2] rfl)
    have hD9 := (hD.sub (ws' := [(h1, .inr (6, [.int (nI k), v_maps, v_told, v_kinds, v_land, v_spades, .ref a_part, v_pad, v_padMany, v_slips, v_slipMany, v_made, v_queue, v_depth, v_by, v_from, v_come, v_offOf, v_parent, v_best, v_trees, v_least, v_sums, .ref a_toward, v_kept, v_isKept, v_keptAt, v_isWriting])), (a_part, .inl (gI G, 6, .inl fp)), (a_toward, .inl (gI G, 15625, .inl ft))]) [0, 1, 2] (by decide) rfl)
    exact W.zret (v := 0) hx hb hr (by decide) (fun t9_ ht9_ hW9_ => ⟨⟨0, (), rfl, Or.inr ⟨rfl, fun t9 h9 => hno t9 (by omega)⟩, by rw [ht9_]; exact hP9, hD9⟩, hS.F ht9_⟩) hS.2.2 dX10_leadsTo_58
  · have c3 : ¬ (manyS k) ≤ z := fun h9_ => c3 ((nI_leI (a := (manyS k)) (b := z) (by omega) (by omega)).mpr h9_)
    have hz9 : z < manyS k := by omega
    have hv9 := mvAt_ok hz9
    have hs9 := slv_facts hk6 hz9
    have hT9 := slN_lt ha hv9
    refine lv_aload_n hx hb dX10_leadsTo_16 rfl (lv_at hl 2 rfl) ?_
    refine lv_iload hx hb dX10_leadsTo_17 (lv_at hl 0 rfl) ?_
    refine ca_iR (va_runV (As := [.int (nI z)]) (rest := []) ⟨hx, hb, hml, hown, hts⟩ (m_slipAt l G H.size h1 v_maps v_told v_kinds v_land v_spades (.ref a_part) v_pad v_padMany v_slips v_slipMany v_made v_queue v_depth v_by v_from v_come v_offOf v_parent v_best v_trees v_least v_sums (.ref a_toward) v_kept v_isKept v_keptAt v_isWriting k z hk2 hk6 (by omega)) (cwV 1 hts gX10_leadsTo_X10_slipAt rfl rfl rfl (by decide +kernel) ⟨by decide +kernel, by decide +kernel⟩) (pre_V E hP hD hS hA [0] (by decide) rfl 0 6 rfl rfl) rfl rfl hl.1 rfl (lv_room (Nat.le_of_ble_eq_true rfl)) dX10_leadsTo_19 ⟨by decide +kernel, by decide +kernel⟩) hS hP hD hA [0] rfl (fun r5 _ H locs w4 hP hS => ?_)
    rw [w4]
    refine lv_istore (lv' := [(6, .int (nI (slv k z))), (5, .int (nI z)), (4, .int (nI (manyS k))), (0, .ref h1), (1, .int (nI a)), (2, .int p1), (3, .int (nI rd))]) hx hb dX10_leadsTo_22 hl (by decide) rfl (fun ls hl => ?_)
    refine lv_iload_n hx hb dX10_leadsTo_24 rfl (lv_at hl 5 rfl) ?_
    refine lv_iload hx hb dX10_leadsTo_25 (lv_at hl 0 rfl) ?_
    refine ca_iR (va_runS (As := [.int p1, .int (nI (slv k z))]) (rest := []) ⟨hx, hb, hml, hown, hts⟩ (m_makes l G H.size p1 (slv k z) ((mvAt k z).1) (by omega) hs9.2) (va_cwS 2 hts gX10_leadsTo_X10_makes rfl rfl rfl (by decide +kernel) ⟨by decide +kernel, by decide +kernel⟩) (pre_S E hP hD hS hA [] (by decide) rfl) rfl rfl hl.1 rfl (lv_room (Nat.le_of_ble_eq_true rfl)) dX10_leadsTo_27 ⟨by decide +kernel, by decide +kernel⟩) hS hP hD hA [] rfl (fun r7 _ H locs w6 hP hS => ?_)
    rcases w6 with ⟨rfl, b8⟩ | ⟨rfl, b8⟩
    · refine lv_if_eq (tgt := 51) hx hb dX10_leadsTo_30 (by decide) (fun c9 => False.elim (by revert c9; decide)) (fun _ => ?_)
      refine lv_aload_n hx hb dX10_leadsTo_33 rfl (lv_at hl 3 rfl) ?_
      refine va_get (D := G.1) (ci := 6) (v := .ref a_toward) (C := RX10) (T := TX10) (N := 28) hx hb hts (fun _ h => List.mem_cons_of_mem _ (List.mem_append_right _ h)) hown E.K hP 0 rfl rfl 23 (by decide) (hts (.fieldLink RX10 49 "LastMapModel" "toward" "[I") (by decide +kernel)) (fun _ h9 => h9) rfl dX10_leadsTo_34 ?_
      refine lv_aload_n hx hb dX10_leadsTo_37 rfl (lv_at hl 3 rfl) ?_
      refine lv_iload_n hx hb dX10_leadsTo_38 rfl (lv_at hl 4 rfl) ?_
      refine lv_iload hx hb dX10_leadsTo_39 (lv_at hl 0 rfl) ?_
      refine ca_iR (va_runV (As := [.int (nI a), .int (nI (slv k z))]) (rest := [.ref a_toward]) ⟨hx, hb, hml, hown, hts⟩ (m_slipped l G H.size h1 (.int (nI k)) v_maps v_told v_kinds v_land v_spades v_pad v_padMany v_slips v_slipMany v_made v_queue v_depth v_by v_from v_come v_offOf v_parent v_best v_trees v_least v_sums (.ref a_toward) v_kept v_isKept v_keptAt v_isWriting a_part fp k a (slv k z) ((mvAt k z).1) ((mvAt k z).2.1) ((mvAt k z).2.2) hk6 hp (by omega) rfl hv9) (cwV 2 hts gX10_leadsTo_X10_slipped rfl rfl rfl (by decide +kernel) ⟨by decide +kernel, by decide +kernel⟩) (pre_V E hP hD hS hA [0, 1] (by decide) rfl 0 6 rfl rfl) rfl rfl hl.1 rfl (lv_room (Nat.le_of_ble_eq_true rfl)) dX10_leadsTo_41 ⟨by decide +kernel, by decide +kernel⟩) hS hP hD hA [0, 1] rfl (fun r11 _ H locs w10 hP hS => ?_)
      rw [w10]
      refine va_iald hx hb E.K hP 2 1 rfl rfl (i := nI (slN k a (((mvAt k z).1), ((mvAt k z).2.1), ((mvAt k z).2.2)))) (vp_in_nI (by omega) (by decide)) dX10_leadsTo_44 ?_
      refine lv_topi (fun x12 ex12 => ?_)
      refine lv_iload_n hx hb dX10_leadsTo_45 rfl (lv_at hl 6 rfl) ?_
      refine lv_icmp_ne (tgt := 51) hx hb dX10_leadsTo_46 (by decide) (fun c13 => ?_) (fun c13 => ?_)
      · obtain ⟨x14, ex14⟩ : ∃ yy_ : Int32, yy_ = (nI z) + 1 := ⟨_, rfl⟩
        refine lv_iinc (v := x14) (lv' := [(5, .int x14), (6, .int (nI (slv k z))), (4, .int (nI (manyS k))), (0, .ref h1), (1, .int (nI a)), (2, .int p1), (3, .int (nI rd))]) hx hb dX10_leadsTo_51 hl (k := 1) rfl (by rw [ex14]; rfl) (by decide) rfl (fun ls hl => ?_)
        obtain rfl : x14 = nI (z + 1) := by rw [ex14]; exact nI_add z 1
        refine lv_goto (tgt := 9) hx hb dX10_leadsTo_54 (by decide) ?_
        refine ih9 (z + 1) ⟨?_, ?_⟩ (by first | omega | (dsimp only; omega)) H locs ls (hP.sub [0, 1, 2] rfl) (hD.sub [0, 1, 2] (by decide) rfl) hS (lv_sub hl [0, 2, 3, 4, 5, 6] rfl)
        · try dsimp only
          omega
        · try dsimp only
          intro t9 h9; by_cases e9 : t9 = z
          · subst e9; exact fun q9 => c13 (by rw [ex12, nI_clamp (by omega)]; exact q9.2)
          · exact hno t9 (by omega)
      · refine lv_iconst (v := 1) hx hb dX10_leadsTo_49 (by decide) ?_
        have hP9 := (hP.sub (ws' := [(h1, .inr (6, [.int (nI k), v_maps, v_told, v_kinds, v_land, v_spades, .ref a_part, v_pad, v_padMany, v_slips, v_slipMany, v_made, v_queue, v_depth, v_by, v_from, v_come, v_offOf, v_parent, v_best, v_trees, v_least, v_sums, .ref a_toward, v_kept, v_isKept, v_keptAt, v_isWriting])), (a_part, .inl (gI G, 6, .inl fp)), (a_toward, .inl (gI G, 15625, .inl ft))]) [0, 1, 2] rfl)
        have hD9 := (hD.sub (ws' := [(h1, .inr (6, [.int (nI k), v_maps, v_told, v_kinds, v_land, v_spades, .ref a_part, v_pad, v_padMany, v_slips, v_slipMany, v_made, v_queue, v_depth, v_by, v_from, v_come, v_offOf, v_parent, v_best, v_trees, v_least, v_sums, .ref a_toward, v_kept, v_isKept, v_keptAt, v_isWriting])), (a_part, .inl (gI G, 6, .inl fp)), (a_toward, .inl (gI G, 15625, .inl ft))]) [0, 1, 2] (by decide) rfl)
        exact W.zret (v := 1) hx hb hr (by decide) (fun t9_ ht9_ hW9_ => ⟨⟨1, (), rfl, Or.inl ⟨rfl, ⟨z, hz9, b8, by have q9 := c13; rw [ex12, nI_clamp (by omega)] at q9; exact q9⟩⟩, by rw [ht9_]; exact hP9, hD9⟩, hS.F ht9_⟩) hS.2.2 dX10_leadsTo_50
    · refine lv_if_eq (tgt := 51) hx hb dX10_leadsTo_30 (by decide) (fun _ => ?_) (fun c15 => False.elim (by revert c15; decide))
      obtain ⟨x16, ex16⟩ : ∃ yy_ : Int32, yy_ = (nI z) + 1 := ⟨_, rfl⟩
      refine lv_iinc (v := x16) (lv' := [(5, .int x16), (6, .int (nI (slv k z))), (4, .int (nI (manyS k))), (0, .ref h1), (1, .int (nI a)), (2, .int p1), (3, .int (nI rd))]) hx hb dX10_leadsTo_51 hl (k := 1) rfl (by rw [ex16]; rfl) (by decide) rfl (fun ls hl => ?_)
      obtain rfl : x16 = nI (z + 1) := by rw [ex16]; exact nI_add z 1
      refine lv_goto (tgt := 9) hx hb dX10_leadsTo_54 (by decide) ?_
      refine ih9 (z + 1) ⟨?_, ?_⟩ (by first | omega | (dsimp only; omega)) H locs ls (hP.sub [0, 1, 2] rfl) (hD.sub [0, 1, 2] (by decide) rfl) hS (lv_sub hl [0, 2, 3, 4, 5, 6] rfl)
      · try dsimp only
        omega
      · try dsimp only
        intro t9 h9; by_cases e9 : t9 = z
        · subst e9; exact fun q9 => b8 q9.1
        · exact hno t9 (by omega)
