set_option maxHeartbeats 1000000 in
set_option maxRecDepth 100000 in
theorem m3_findToward (l : Launch) (G : Gy) (sz : Nat) (h1 : Nat) (v_maps : Value) (v_told : Value) (v_kinds : Value) (v_land : Value) (v_spades : Value) (v_pad : Value) (v_padMany : Value) (v_slips : Value) (v_slipMany : Value) (v_made : Value) (v_queue : Value) (v_depth : Value) (v_by : Value) (v_from : Value) (v_come : Value) (v_offOf : Value) (v_parent : Value) (v_best : Value) (v_trees : Value) (v_least : Value) (v_sums : Value) (v_kept : Value) (v_isKept : Value) (v_keptAt : Value) (v_isWriting : Value) (a_part : Nat) (fp : Nat → Int32) (a_toward : Nat) (ft : Nat → Int32) (k : Nat) (gg : Nat) (p1 : Int32) (hk2 : 2 ≤ k) (hk6 : k ≤ 6) (hp : pOK k fp) (hgg : gg < 5 ^ k) : Cv l G yX10_findToward wsX10_findToward ({ frames := 4, cells := 0, slots := 0, locals := 95 }) [.ref h1, .int (nI gg), .int p1] ([(h1, .inr (6, [.int (nI k), v_maps, v_told, v_kinds, v_land, v_spades, .ref a_part, v_pad, v_padMany, v_slips, v_slipMany, v_made, v_queue, v_depth, v_by, v_from, v_come, v_offOf, v_parent, v_best, v_trees, v_least, v_sums, .ref a_toward, v_kept, v_isKept, v_keptAt, v_isWriting])), (a_part, .inl (gI G, 6, .inl fp)), (a_toward, .inl (gI G, 15625, .inl ft))]) sz (fun (gt_ : Nat → Int32) => ∀ y, y < 5 ^ k → gt_ y = nI (twN k (bK p1) gg y)) (fun (gt_ : Nat → Int32) => [(h1, .inr (6, [.int (nI k), v_maps, v_told, v_kinds, v_land, v_spades, .ref a_part, v_pad, v_padMany, v_slips, v_slipMany, v_made, v_queue, v_depth, v_by, v_from, v_come, v_offOf, v_parent, v_best, v_trees, v_least, v_sums, .ref a_toward, v_kept, v_isKept, v_keptAt, v_isWriting])), (a_part, .inl (gI G, 6, .inl fp)), (a_toward, .inl (gI G, 15625, .inl gt_))]) 0 0 := by
  refine Met.ofW (cc := cX10_findToward) (maxL := 7) (ret := none) (by decide) rfl ?_
  intro p e s m args below meth c s₁ B hml hv
  obtain ⟨rfl, hsz, hP, hD0, E0⟩ := hv
  have hx := B.exec
  have hb := B.bytes
  have hr := B.returns
  have hts := atoms_spec (ws := wsX10_findToward) B.pre
  have hown : s.vm.findClass RX10 = some m.cls := findClass_of_methodNamed B.named
  have hlocks := B.notSynchronized
  subst hsz
  have hD := hD0.self (sz := s.heap.size)
  generalize hAe : va_A ([(h1, .inr (6, [.int (nI k), v_maps, v_told, v_kinds, v_land, v_spades, .ref a_part, v_pad, v_padMany, v_slips, v_slipMany, v_made, v_queue, v_depth, v_by, v_from, v_come, v_offOf, v_parent, v_best, v_trees, v_least, v_sums, .ref a_toward, v_kept, v_isKept, v_keptAt, v_isWriting])), (a_part, .inl (gI G, 6, .inl fp)), (a_toward, .inl (gI G, 15625, .inl ft))]) s.heap.size = A at hD E0 ⊢
  have E : EV G A s s.heap := E0
  have hA : ∀ q : Nat, s.heap.size ≤ q → A q := fun q h => by rw [← hAe]; exact Or.inr h
  have hS : va_S A s.heap s.heap [] := va_S.rf
  have hl := lv_entry ([.ref h1, .int (nI gg), .int p1]) (n := 7) (Nat.le_of_ble_eq_true rfl)
  rw [lg_entry_eq]
  generalize (lg_sl ([.ref h1, .int (nI gg), .int p1]) ++ List.replicate (7 - (lg_sl ([.ref h1, .int (nI gg), .int p1])).length) Slot.unset).toArray = ls at hl ⊢
  have hl : lv_has ls 7 [(0, .ref h1), (1, .int (nI gg)), (2, .int p1)] := hl
  have hP : va_P G.1 vwCl ([(h1, .inr (6, [.int (nI k), v_maps, v_told, v_kinds, v_land, v_spades, .ref a_part, v_pad, v_padMany, v_slips, v_slipMany, v_made, v_queue, v_depth, v_by, v_from, v_come, v_offOf, v_parent, v_best, v_trees, v_least, v_sums, .ref a_toward, v_kept, v_isKept, v_keptAt, v_isWriting])), (a_part, .inl (gI G, 6, .inl fp)), (a_toward, .inl (gI G, 15625, .inl ft))]) s.heap := hP
  have hal := p5le hk6
  refine lv_aload_n hx hb dX10_findToward_0 rfl (lv_at hl 0 rfl) ?_
  refine ca_iR (va_runV (As := []) (rest := []) ⟨hx, hb, hml, hown, hts⟩ (m_all l G s.heap.size h1 (.int (nI k)) v_maps v_told v_kinds v_land v_spades v_pad v_padMany v_slips v_slipMany v_made v_queue v_depth v_by v_from v_come v_offOf v_parent v_best v_trees v_least v_sums (.ref a_toward) v_kept v_isKept v_keptAt v_isWriting a_part fp k hk2 hp) (cwV 0 hts gX10_findToward_X10_all rfl rfl rfl (by decide +kernel) ⟨by decide +kernel, by decide +kernel⟩) (pre_V E hP hD hS hA [0, 1] (by decide) rfl 0 6 rfl rfl) rfl rfl hl.1 rfl (lv_room (Nat.le_of_ble_eq_true rfl)) dX10_findToward_1 ⟨by decide +kernel, by decide +kernel⟩) hS hP hD hA [0, 1] rfl (fun r2 _ H locs w1 hP hS => ?_)
  rw [w1]
  refine lv_istore_n (lv' := [(3, .int (nI (5 ^ k))), (0, .ref h1), (1, .int (nI gg)), (2, .int p1)]) hx hb dX10_findToward_4 rfl hl (by decide) rfl (fun ls hl => ?_)
  refine lv_iconst (v := 0) hx hb dX10_findToward_5 (by decide) ?_
  refine lv_istore (lv' := [(4, .int 0), (3, .int (nI (5 ^ k))), (0, .ref h1), (1, .int (nI gg)), (2, .int p1)]) hx hb dX10_findToward_6 hl (by decide) rfl (fun ls hl => ?_)
  refine lp_run (x0 := (0, ft)) (fun xx_ : Nat × (Nat → Int32) => match xx_ with | (x, f) => [(h1, .inr (6, [.int (nI k), v_maps, v_told, v_kinds, v_land, v_spades, .ref a_part, v_pad, v_padMany, v_slips, v_slipMany, v_made, v_queue, v_depth, v_by, v_from, v_come, v_offOf, v_parent, v_best, v_trees, v_least, v_sums, .ref a_toward, v_kept, v_isKept, v_keptAt, v_isWriting])), (a_part, .inl (gI G, 6, .inl fp)), (a_toward, .inl (gI G, 15625, .inl f))]) (fun xx_ : Nat × (Nat → Int32) => match xx_ with | (x, f) => [(4, .int (nI x)), (3, .int (nI (5 ^ k))), (0, .ref h1), (1, .int (nI gg)), (2, .int p1)]) (fun xx_ : Nat × (Nat → Int32) => match xx_ with | (x, f) => (x ≤ 5 ^ k) ∧ (∀ j : Nat, j < x → f j = if j = gg then 0 else 1000)) (fun xx_ : Nat × (Nat → Int32) => match xx_ with | (x, f) => (5 ^ k) - x) (hP.sub [0, 1, 2] rfl) (hD.sub [0, 1, 2] (by decide) rfl) hS (lv_sub hl [0, 1, 2, 3, 4] rfl) ⟨(by omega), by intro j hj; omega⟩ ?_
  intro xx_ hI ih8 H locs ls hP hD hS hl
  obtain ⟨x, f⟩ := xx_
  dsimp only at hI ih8 hP hD hl
  obtain ⟨hx0, hf⟩ := hI
  have hl : lv_has ls 7 [(4, .int (nI x)), (3, .int (nI (5 ^ k))), (0, .ref h1), (1, .int (nI gg)), (2, .int p1)] := hl
  have hP : va_P G.1 vwCl ([(h1, .inr (6, [.int (nI k), v_maps, v_told, v_kinds, v_land, v_spades, .ref a_part, v_pad, v_padMany, v_slips, v_slipMany, v_made, v_queue, v_depth, v_by, v_from, v_come, v_offOf, v_parent, v_best, v_trees, v_least, v_sums, .ref a_toward, v_kept, v_isKept, v_keptAt, v_isWriting])), (a_part, .inl (gI G, 6, .inl fp)), (a_toward, .inl (gI G, 15625, .inl f))]) H := hP
  have hD : va_D A ([(h1, .inr (6, [.int (nI k), v_maps, v_told, v_kinds, v_land, v_spades, .ref a_part, v_pad, v_padMany, v_slips, v_slipMany, v_made, v_queue, v_depth, v_by, v_from, v_come, v_offOf, v_parent, v_best, v_trees, v_least, v_sums, .ref a_toward, v_kept, v_isKept, v_keptAt, v_isWriting])), (a_part, .inl (gI G, 6, .inl fp)), (a_toward, .inl (gI G, 15625, .inl f))]) := hD
  refine lv_iload hx hb dX10_findToward_8 (lv_at hl 0 rfl) ?_
  refine lv_iload_n hx hb dX10_findToward_10 rfl (lv_at hl 1 rfl) ?_
  refine lv_icmp_ge (tgt := 40) hx hb dX10_findToward_11 (by decide) (fun c3 => ?_) (fun c3 => ?_)
  · have c3 : (5 ^ k) ≤ x := (nI_leI (a := (5 ^ k)) (b := x) (by omega) (by omega)).mp c3
    have hst := tOK_start (k := k) (f := f) (b := bK p1) (g := gg) (fun j hj => hf j (by omega))
    refine lv_iconst (v := 1) hx hb dX10_findToward_40 (by decide) ?_
    refine lv_istore (lv' := [(4, .int 1), (3, .int (nI (5 ^ k))), (0, .ref h1), (1, .int (nI gg)), (2, .int p1)]) hx hb dX10_findToward_41 hl (by decide) rfl (fun ls hl => ?_)
    refine lv_iconst (v := 0) hx hb dX10_findToward_43 (by decide) ?_
    refine lv_istore (lv' := [(5, .int 0), (4, .int 1), (3, .int (nI (5 ^ k))), (0, .ref h1), (1, .int (nI gg)), (2, .int p1)]) hx hb dX10_findToward_44 hl (by decide) rfl (fun ls hl => ?_)
    refine lp_run (x0 := (0, 1, f)) (fun xx_ : Nat × Nat × (Nat → Int32) => match xx_ with | (rd, mo, f1) => [(h1, .inr (6, [.int (nI k), v_maps, v_told, v_kinds, v_land, v_spades, .ref a_part, v_pad, v_padMany, v_slips, v_slipMany, v_made, v_queue, v_depth, v_by, v_from, v_come, v_offOf, v_parent, v_best, v_trees, v_least, v_sums, .ref a_toward, v_kept, v_isKept, v_keptAt, v_isWriting])), (a_part, .inl (gI G, 6, .inl fp)), (a_toward, .inl (gI G, 15625, .inl f1))]) (fun xx_ : Nat × Nat × (Nat → Int32) => match xx_ with | (rd, mo, f1) => [(5, .int (nI rd)), (4, .int (nI mo)), (3, .int (nI (5 ^ k))), (0, .ref h1), (1, .int (nI gg)), (2, .int p1)]) (fun xx_ : Nat × Nat × (Nat → Int32) => match xx_ with | (rd, mo, f1) => (rd ≤ 73) ∧ (mo ≤ 1) ∧ (tOK k (bK p1) gg rd f1) ∧ (cOK k (bK p1) gg rd f1) ∧ (mo = 1 → rd = 0 ∨ ∃ y, y < 5 ^ k ∧ f1 y = nI rd) ∧ (mo = 0 → ∀ y, y < 5 ^ k → ¬ f1 y = nI rd)) (fun xx_ : Nat × Nat × (Nat → Int32) => match xx_ with | (rd, mo, f1) => 74 - rd) (hP.sub [0, 1, 2] rfl) (hD.sub [0, 1, 2] (by decide) rfl) hS (lv_sub hl [0, 1, 2, 3, 4, 5] rfl) ⟨(by omega), by omega, hst.1, hst.2, fun _ => Or.inl rfl, fun q9 => absurd q9 (by decide)⟩ ?_
    intro xx_ hI ih46 H locs ls hP hD hS hl
    obtain ⟨rd, mo, f1⟩ := xx_
    dsimp only at hI ih46 hP hD hl
    obtain ⟨hrd0, hmo, htk, hck, hmr, hmz⟩ := hI
    have hl : lv_has ls 7 [(5, .int (nI rd)), (4, .int (nI mo)), (3, .int (nI (5 ^ k))), (0, .ref h1), (1, .int (nI gg)), (2, .int p1)] := hl
    have hP : va_P G.1 vwCl ([(h1, .inr (6, [.int (nI k), v_maps, v_told, v_kinds, v_land, v_spades, .ref a_part, v_pad, v_padMany, v_slips, v_slipMany, v_made, v_queue, v_depth, v_by, v_from, v_come, v_offOf, v_parent, v_best, v_trees, v_least, v_sums, .ref a_toward, v_kept, v_isKept, v_keptAt, v_isWriting])), (a_part, .inl (gI G, 6, .inl fp)), (a_toward, .inl (gI G, 15625, .inl f1))]) H := hP
    have hD : va_D A ([(h1, .inr (6, [.int (nI k), v_maps, v_told, v_kinds, v_land, v_spades, .ref a_part, v_pad, v_padMany, v_slips, v_slipMany, v_made, v_queue, v_depth, v_by, v_from, v_come, v_offOf, v_parent, v_best, v_trees, v_least, v_sums, .ref a_toward, v_kept, v_isKept, v_keptAt, v_isWriting])), (a_part, .inl (gI G, 6, .inl fp)), (a_toward, .inl (gI G, 15625, .inl f1))]) := hD
    refine lv_iload hx hb dX10_findToward_46 (lv_at hl 1 rfl) ?_
    refine lv_if_eq (tgt := 114) hx hb dX10_findToward_48 (by decide) (fun c4 => ?_) (fun c4 => ?_)
    · have c4 : mo = 0 := (nI_eq (a := mo) (b := 0) (by omega) (by omega)).mp c4
      have hP9 := (hP.sub (ws' := [(h1, .inr (6, [.int (nI k), v_maps, v_told, v_kinds, v_land, v_spades, .ref a_part, v_pad, v_padMany, v_slips, v_slipMany, v_made, v_queue, v_depth, v_by, v_from, v_come, v_offOf, v_parent, v_best, v_trees, v_least, v_sums, .ref a_toward, v_kept, v_isKept, v_keptAt, v_isWriting])), (a_part, .inl (gI G, 6, .inl fp)), (a_toward, .inl (gI G, 15625, .inl f1))]) [0, 1, 2] rfl)
      have hD9 := (hD.sub (ws' := [(h1, .inr (6, [.int (nI k), v_maps, v_told, v_kinds, v_land, v_spades, .ref a_part, v_pad, v_padMany, v_slips, v_slipMany, v_made, v_queue, v_depth, v_by, v_from, v_come, v_offOf, v_parent, v_best, v_trees, v_least, v_sums, .ref a_toward, v_kept, v_isKept, v_keptAt, v_isWriting])), (a_part, .inl (gI G, 6, .inl fp)), (a_toward, .inl (gI G, 15625, .inl f1))]) [0, 1, 2] (by decide) rfl)
      exact W.vret hx hb hr (fun t9_ ht9_ hW9_ => ⟨⟨f1, rfl, tw_end htk hck (hmz (by omega)), by rw [ht9_]; exact hP9, hD9⟩, hS.F ht9_⟩) hS.2.2 dX10_findToward_114
    · have c4 : ¬ mo = 0 := fun h9_ => c4 ((nI_eq (a := mo) (b := 0) (by omega) (by omega)).mpr h9_)
      have hrd : rd ≤ 72 := by
        rcases hmr (by omega) with q9 | ⟨y9, hy9, ey9⟩
        · omega
        · exact tOK_bound hk6 hgg htk hy9 ey9 (by omega)
      refine lv_iconst (v := 0) hx hb dX10_findToward_51 (by decide) ?_
      refine lv_istore (lv' := [(4, .int 0), (5, .int (nI rd)), (3, .int (nI (5 ^ k))), (0, .ref h1), (1, .int (nI gg)), (2, .int p1)]) hx hb dX10_findToward_52 hl (by decide) rfl (fun ls hl => ?_)
      refine lv_iconst (v := 0) hx hb dX10_findToward_54 (by decide) ?_
      refine lv_istore (lv' := [(6, .int 0), (4, .int 0), (5, .int (nI rd)), (3, .int (nI (5 ^ k))), (0, .ref h1), (1, .int (nI gg)), (2, .int p1)]) hx hb dX10_findToward_55 hl (by decide) rfl (fun ls hl => ?_)
      refine lp_run (x0 := (0, 0, f1)) (fun xx_ : Nat × Nat × (Nat → Int32) => match xx_ with | (x, mo2, f2) => [(h1, .inr (6, [.int (nI k), v_maps, v_told, v_kinds, v_land, v_spades, .ref a_part, v_pad, v_padMany, v_slips, v_slipMany, v_made, v_queue, v_depth, v_by, v_from, v_come, v_offOf, v_parent, v_best, v_trees, v_least, v_sums, .ref a_toward, v_kept, v_isKept, v_keptAt, v_isWriting])), (a_part, .inl (gI G, 6, .inl fp)), (a_toward, .inl (gI G, 15625, .inl f2))]) (fun xx_ : Nat × Nat × (Nat → Int32) => match xx_ with | (x, mo2, f2) => [(6, .int (nI x)), (4, .int (nI mo2)), (5, .int (nI rd)), (3, .int (nI (5 ^ k))), (0, .ref h1), (1, .int (nI gg)), (2, .int p1)]) (fun xx_ : Nat × Nat × (Nat → Int32) => match xx_ with | (x, mo2, f2) => (x ≤ 5 ^ k) ∧ (tOK k (bK p1) gg (rd + 1) f2) ∧ (cOK k (bK p1) gg rd f2) ∧ (∀ y : Nat, y < x → pth k (bK p1) gg (rd + 1) y → ¬ f2 y = 1000) ∧ (mo2 ≤ 1 ∧ (mo2 = 1 → ∃ y, y < 5 ^ k ∧ f2 y = nI (rd + 1))) ∧ (mo2 = 0 → ∀ y, y < 5 ^ k → ¬ f2 y = nI (rd + 1))) (fun xx_ : Nat × Nat × (Nat → Int32) => match xx_ with | (x, mo2, f2) => (5 ^ k) - x) (hP.sub [0, 1, 2] rfl) (hD.sub [0, 1, 2] (by decide) rfl) hS (lv_sub hl [0, 1, 2, 3, 4, 5, 6] rfl) ⟨(by omega), tOK_up htk, hck, by intro y9 h9; omega, ⟨by omega, fun q9 => absurd q9 (by decide)⟩, fun _ => tw_new (by omega) htk⟩ ?_
      intro xx_ hI ih57 H locs ls hP hD hS hl
      obtain ⟨x, mo2, f2⟩ := xx_
      dsimp only at hI ih57 hP hD hl
      obtain ⟨hx0, htk2, hck2, hdn, hmo2, hmo3⟩ := hI
      have hl : lv_has ls 7 [(6, .int (nI x)), (4, .int (nI mo2)), (5, .int (nI rd)), (3, .int (nI (5 ^ k))), (0, .ref h1), (1, .int (nI gg)), (2, .int p1)] := hl
      have hP : va_P G.1 vwCl ([(h1, .inr (6, [.int (nI k), v_maps, v_told, v_kinds, v_land, v_spades, .ref a_part, v_pad, v_padMany, v_slips, v_slipMany, v_made, v_queue, v_depth, v_by, v_from, v_come, v_offOf, v_parent, v_best, v_trees, v_least, v_sums, .ref a_toward, v_kept, v_isKept, v_keptAt, v_isWriting])), (a_part, .inl (gI G, 6, .inl fp)), (a_toward, .inl (gI G, 15625, .inl f2))]) H := hP
      have hD : va_D A ([(h1, .inr (6, [.int (nI k), v_maps, v_told, v_kinds, v_land, v_spades, .ref a_part, v_pad, v_padMany, v_slips, v_slipMany, v_made, v_queue, v_depth, v_by, v_from, v_come, v_offOf, v_parent, v_best, v_trees, v_least, v_sums, .ref a_toward, v_kept, v_isKept, v_keptAt, v_isWriting])), (a_part, .inl (gI G, 6, .inl fp)), (a_toward, .inl (gI G, 15625, .inl f2))]) := hD
      refine lv_iload hx hb dX10_findToward_57 (lv_at hl 0 rfl) ?_
      refine lv_iload_n hx hb dX10_findToward_59 rfl (lv_at hl 3 rfl) ?_
      refine lv_icmp_ge (tgt := 108) hx hb dX10_findToward_60 (by decide) (fun c5 => ?_) (fun c5 => ?_)
      · have c5 : (5 ^ k) ≤ x := (nI_leI (a := (5 ^ k)) (b := x) (by omega) (by omega)).mp c5
        obtain ⟨x6, ex6⟩ : ∃ yy_ : Int32, yy_ = (nI rd) + 1 := ⟨_, rfl⟩
        refine lv_iinc (v := x6) (lv' := [(5, .int x6), (6, .int (nI x)), (4, .int (nI mo2)), (3, .int (nI (5 ^ k))), (0, .ref h1), (1, .int (nI gg)), (2, .int p1)]) hx hb dX10_findToward_108 hl (k := 2) rfl (by rw [ex6]; rfl) (by decide) rfl (fun ls hl => ?_)
        obtain rfl : x6 = nI (rd + 1) := by rw [ex6]; exact nI_add rd 1
        refine lv_goto (tgt := 46) hx hb dX10_findToward_111 (by decide) ?_
        refine ih46 ((rd + 1), mo2, f2) ⟨?_, ?_, ?_, ?_, ?_, ?_⟩ (by first | omega | (dsimp only; omega)) H locs ls (hP.sub [0, 1, 2] rfl) (hD.sub [0, 1, 2] (by decide) rfl) hS (lv_sub hl [0, 2, 3, 4, 5, 6] rfl)
        · try dsimp only
          omega
        · try dsimp only
          omega
        · try dsimp only
          exact htk2
        · try dsimp only
          exact cOK_next hck2 (fun y9 hy9 q9 => hdn y9 (by omega) q9)
        · try dsimp only
          exact fun q9 => Or.inr (hmo2.2 q9)
        · try dsimp only
          exact hmo3
      · have c5 : ¬ (5 ^ k) ≤ x := fun h9_ => c5 ((nI_leI (a := (5 ^ k)) (b := x) (by omega) (by omega)).mpr h9_)
        refine lv_aload_n hx hb dX10_findToward_63 rfl (lv_at hl 4 rfl) ?_
        refine va_get (D := G.1) (ci := 6) (v := .ref a_toward) (C := RX10) (T := TX10) (N := 28) hx hb hts (fun _ h => List.mem_cons_of_mem _ (List.mem_append_right _ h)) hown E.K hP 0 rfl rfl 23 (by decide) (hts (.fieldLink RX10 49 "LastMapModel" "toward" "[I") (by decide +kernel)) (fun _ h9 => h9) rfl dX10_findToward_64 ?_
        refine lv_iload hx hb dX10_findToward_67 (lv_at hl 0 rfl) ?_
        refine va_iald hx hb E.K hP 2 1 rfl rfl (i := nI x) (vp_in_nI (by omega) (by decide)) dX10_findToward_69 ?_
        refine lv_topi (fun x7 ex7 => ?_)
        refine lv_sipush (v := 1000) hx hb dX10_findToward_70 (by decide) ?_
        refine lv_icmp_ne (tgt := 102) hx hb dX10_findToward_73 (by decide) (fun c8 => ?_) (fun c8 => ?_)
        · obtain ⟨x9, ex9⟩ : ∃ yy_ : Int32, yy_ = (nI x) + 1 := ⟨_, rfl⟩
          refine lv_iinc (v := x9) (lv' := [(6, .int x9), (4, .int (nI mo2)), (5, .int (nI rd)), (3, .int (nI (5 ^ k))), (0, .ref h1), (1, .int (nI gg)), (2, .int p1)]) hx hb dX10_findToward_102 hl (k := 0) rfl (by rw [ex9]; rfl) (by decide) rfl (fun ls hl => ?_)
          obtain rfl : x9 = nI (x + 1) := by rw [ex9]; exact nI_add x 1
          refine lv_goto (tgt := 57) hx hb dX10_findToward_105 (by decide) ?_
          refine ih57 ((x + 1), mo2, f2) ⟨?_, ?_, ?_, ?_, ?_, ?_⟩ (by first | omega | (dsimp only; omega)) H locs ls (hP.sub [0, 1, 2] rfl) (hD.sub [0, 1, 2] (by decide) rfl) hS (lv_sub hl [0, 1, 2, 3, 4, 5, 6] rfl)
          · try dsimp only
            omega
          · try dsimp only
            exact htk2
          · try dsimp only
            exact hck2
          · try dsimp only
            intro y9 h9 q9; by_cases e9 : y9 = x
            · subst e9; exact tstep0 (by omega) htk2 hck2 (by omega) (Or.inl (by have q8 := c8; rw [ex7, nI_clamp (by omega)] at q8; exact q8)) q9
            · exact hdn y9 (by omega) q9
          · try dsimp only
            exact hmo2
          · try dsimp only
            exact hmo3
        · refine lv_aload_n hx hb dX10_findToward_76 rfl (lv_at hl 4 rfl) ?_
          refine lv_iload hx hb dX10_findToward_77 (lv_at hl 0 rfl) ?_
          refine lv_iload_n hx hb dX10_findToward_79 rfl (lv_at hl 6 rfl) ?_
          refine lv_iload hx hb dX10_findToward_80 (lv_at hl 2 rfl) ?_
          refine ca_iR (va_runV (As := [.int (nI x), .int p1, .int (nI rd)]) (rest := []) ⟨hx, hb, hml, hown, hts⟩ (m_leadsTo l G H.size h1 v_maps v_told v_kinds v_land v_spades v_pad v_padMany v_slips v_slipMany v_made v_queue v_depth v_by v_from v_come v_offOf v_parent v_best v_trees v_least v_sums v_kept v_isKept v_keptAt v_isWriting a_part fp a_toward f2 k x rd p1 hk2 hk6 hp (by omega)) (cwV 3 hts gX10_findToward_X10_leadsTo rfl rfl rfl (by decide +kernel) ⟨by decide +kernel, by decide +kernel⟩) (pre_V E hP hD hS hA [0, 1, 2] (by decide) rfl 0 6 rfl rfl) rfl rfl hl.1 rfl (lv_room (Nat.le_of_ble_eq_true rfl)) dX10_findToward_82 ⟨by decide +kernel, by decide +kernel⟩) hS hP hD hA [0, 1, 2] rfl (fun r11 _ H locs w10 hP hS => ?_)
          rcases w10 with ⟨rfl, b12⟩ | ⟨rfl, b12⟩
          · refine lv_if_eq (tgt := 102) hx hb dX10_findToward_85 (by decide) (fun c13 => False.elim (by revert c13; decide)) (fun _ => ?_)
            obtain ⟨t9, ht9, hb9, he9⟩ := b12
            have hss := tstep1 (by omega) htk2 hck2 (by omega) (by have q8 := c8; rw [ex7, nI_clamp (by omega)] at q8; exact q8) ht9 hb9 he9
            refine lv_aload_n hx hb dX10_findToward_88 rfl (lv_at hl 4 rfl) ?_
            refine va_get (D := G.1) (ci := 6) (v := .ref a_toward) (C := RX10) (T := TX10) (N := 28) hx hb hts (fun _ h => List.mem_cons_of_mem _ (List.mem_append_right _ h)) hown E.K hP 0 rfl rfl 23 (by decide) (hts (.fieldLink RX10 49 "LastMapModel" "toward" "[I") (by decide +kernel)) (fun _ h9 => h9) rfl dX10_findToward_89 ?_
            refine lv_iload hx hb dX10_findToward_92 (lv_at hl 0 rfl) ?_
            refine lv_iload hx hb dX10_findToward_94 (lv_at hl 2 rfl) ?_
            refine lv_iconst (v := 1) hx hb dX10_findToward_96 (by decide) ?_
            refine lv_iadd hx hb dX10_findToward_97 ?_
            refine lv_topi (fun x14 ex14 => ?_)
            obtain rfl : x14 = nI (rd + 1) := by rw [ex14]; exact nI_add rd 1
            refine va_iast hx hb E.K hP hD hS 2 1 rfl rfl (i := nI x) (vp_in_nI (by omega) (by decide)) dX10_findToward_98 (fun H locs hP hD hS => ?_)
            obtain ⟨f15, ef15⟩ : ∃ yy_ : Nat → Int32, yy_ = upd f2 (nI x).toNatClampNeg (nI (rd + 1)) := ⟨_, rfl⟩
            have hP : va_P G.1 vwCl ([(h1, .inr (6, [.int (nI k), v_maps, v_told, v_kinds, v_land, v_spades, .ref a_part, v_pad, v_padMany, v_slips, v_slipMany, v_made, v_queue, v_depth, v_by, v_from, v_come, v_offOf, v_parent, v_best, v_trees, v_least, v_sums, .ref a_toward, v_kept, v_isKept, v_keptAt, v_isWriting])), (a_part, .inl (gI G, 6, .inl fp)), (a_toward, .inl (gI G, 15625, .inl f15))]) H := by rw [ef15]; exact hP
            have hD : va_D A ([(h1, .inr (6, [.int (nI k), v_maps, v_told, v_kinds, v_land, v_spades, .ref a_part, v_pad, v_padMany, v_slips, v_slipMany, v_made, v_queue, v_depth, v_by, v_from, v_come, v_offOf, v_parent, v_best, v_trees, v_least, v_sums, .ref a_toward, v_kept, v_isKept, v_keptAt, v_isWriting])), (a_part, .inl (gI G, 6, .inl fp)), (a_toward, .inl (gI G, 15625, .inl f15))]) := by rw [ef15]; exact hD
            refine lv_iconst (v := 1) hx hb dX10_findToward_99 (by decide) ?_
            refine lv_istore (lv' := [(4, .int 1), (6, .int (nI x)), (5, .int (nI rd)), (3, .int (nI (5 ^ k))), (0, .ref h1), (1, .int (nI gg)), (2, .int p1)]) hx hb dX10_findToward_100 hl (by decide) rfl (fun ls hl => ?_)
            obtain ⟨x16, ex16⟩ : ∃ yy_ : Int32, yy_ = (nI x) + 1 := ⟨_, rfl⟩
            refine lv_iinc (v := x16) (lv' := [(6, .int x16), (4, .int 1), (5, .int (nI rd)), (3, .int (nI (5 ^ k))), (0, .ref h1), (1, .int (nI gg)), (2, .int p1)]) hx hb dX10_findToward_102 hl (k := 1) rfl (by rw [ex16]; rfl) (by decide) rfl (fun ls hl => ?_)
            obtain rfl : x16 = nI (x + 1) := by rw [ex16]; exact nI_add x 1
            refine lv_goto (tgt := 57) hx hb dX10_findToward_105 (by decide) ?_
            refine ih57 ((x + 1), 1, f15) ⟨?_, ?_, ?_, ?_, ?_, ?_⟩ (by first | omega | (dsimp only; omega)) H locs ls (hP.sub [0, 1, 2] rfl) (hD.sub [0, 1, 2] (by decide) rfl) hS (lv_sub hl [0, 1, 2, 3, 4, 5, 6] rfl)
            · try dsimp only
              omega
            · try dsimp only
              rw [ef15, nI_clamp (by omega)]; exact hss.1
            · try dsimp only
              rw [ef15, nI_clamp (by omega)]; exact hss.2
            · try dsimp only
              intro y9 h9 q9; rw [ef15, nI_clamp (by omega)]
              by_cases e9 : y9 = x
              · subst e9; rw [pk_us]; exact ne1000 (by omega)
              · rw [pk_un e9]; exact hdn y9 (by omega) q9
            · try dsimp only
              exact ⟨by omega, fun _ => ⟨x, by omega, by rw [ef15, nI_clamp (by omega), pk_us]⟩⟩
            · try dsimp only
              exact fun q9 => absurd q9 (by decide)
          · refine lv_if_eq (tgt := 102) hx hb dX10_findToward_85 (by decide) (fun _ => ?_) (fun c17 => False.elim (by revert c17; decide))
            obtain ⟨x18, ex18⟩ : ∃ yy_ : Int32, yy_ = (nI x) + 1 := ⟨_, rfl⟩
            refine lv_iinc (v := x18) (lv' := [(6, .int x18), (4, .int (nI mo2)), (5, .int (nI rd)), (3, .int (nI (5 ^ k))), (0, .ref h1), (1, .int (nI gg)), (2, .int p1)]) hx hb dX10_findToward_102 hl (k := 0) rfl (by rw [ex18]; rfl) (by decide) rfl (fun ls hl => ?_)
            obtain rfl : x18 = nI (x + 1) := by rw [ex18]; exact nI_add x 1
            refine lv_goto (tgt := 57) hx hb dX10_findToward_105 (by decide) ?_
            refine ih57 ((x + 1), mo2, f2) ⟨?_, ?_, ?_, ?_, ?_, ?_⟩ (by first | omega | (dsimp only; omega)) H locs ls (hP.sub [0, 1, 2] rfl) (hD.sub [0, 1, 2] (by decide) rfl) hS (lv_sub hl [0, 1, 2, 3, 4, 5, 6] rfl)
            · try dsimp only
              omega
            · try dsimp only
              exact htk2
            · try dsimp only
              exact hck2
            · try dsimp only
              intro y9 h9 q9; by_cases e9 : y9 = x
              · subst e9; exact tstep0 (by omega) htk2 hck2 (by omega) (Or.inr b12) q9
              · exact hdn y9 (by omega) q9
            · try dsimp only
              exact hmo2
            · try dsimp only
              exact hmo3
  · have c3 : ¬ (5 ^ k) ≤ x := fun h9_ => c3 ((nI_leI (a := (5 ^ k)) (b := x) (by omega) (by omega)).mpr h9_)
    refine lv_aload_n hx hb dX10_findToward_14 rfl (lv_at hl 2 rfl) ?_
    refine va_get (D := G.1) (ci := 6) (v := .ref a_toward) (C := RX10) (T := TX10) (N := 28) hx hb hts (fun _ h => List.mem_cons_of_mem _ (List.mem_append_right _ h)) hown E.K hP 0 rfl rfl 23 (by decide) (hts (.fieldLink RX10 49 "LastMapModel" "toward" "[I") (by decide +kernel)) (fun _ h9 => h9) rfl dX10_findToward_15 ?_
    refine lv_iload hx hb dX10_findToward_18 (lv_at hl 0 rfl) ?_
    refine lv_iload hx hb dX10_findToward_20 (lv_at hl 0 rfl) ?_
    refine lv_iload_n hx hb dX10_findToward_22 rfl (lv_at hl 3 rfl) ?_
    refine lv_icmp_ne (tgt := 30) hx hb dX10_findToward_23 (by decide) (fun c19 => ?_) (fun c19 => ?_)
    · have c19 : ¬ x = gg := fun h9_ => c19 ((nI_eq (a := x) (b := gg) (by omega) (by omega)).mpr h9_)
      refine lv_sipush (v := 1000) hx hb dX10_findToward_30 (by decide) ?_
      refine va_iast hx hb E.K hP hD hS 2 1 rfl rfl (i := nI x) (vp_in_nI (by omega) (by decide)) dX10_findToward_33 (fun H locs hP hD hS => ?_)
      obtain ⟨f20, ef20⟩ : ∃ yy_ : Nat → Int32, yy_ = upd f (nI x).toNatClampNeg 1000 := ⟨_, rfl⟩
      have hP : va_P G.1 vwCl ([(h1, .inr (6, [.int (nI k), v_maps, v_told, v_kinds, v_land, v_spades, .ref a_part, v_pad, v_padMany, v_slips, v_slipMany, v_made, v_queue, v_depth, v_by, v_from, v_come, v_offOf, v_parent, v_best, v_trees, v_least, v_sums, .ref a_toward, v_kept, v_isKept, v_keptAt, v_isWriting])), (a_part, .inl (gI G, 6, .inl fp)), (a_toward, .inl (gI G, 15625, .inl f20))]) H := by rw [ef20]; exact hP
      have hD : va_D A ([(h1, .inr (6, [.int (nI k), v_maps, v_told, v_kinds, v_land, v_spades, .ref a_part, v_pad, v_padMany, v_slips, v_slipMany, v_made, v_queue, v_depth, v_by, v_from, v_come, v_offOf, v_parent, v_best, v_trees, v_least, v_sums, .ref a_toward, v_kept, v_isKept, v_keptAt, v_isWriting])), (a_part, .inl (gI G, 6, .inl fp)), (a_toward, .inl (gI G, 15625, .inl f20))]) := by rw [ef20]; exact hD
      obtain ⟨x21, ex21⟩ : ∃ yy_ : Int32, yy_ = (nI x) + 1 := ⟨_, rfl⟩
      refine lv_iinc (v := x21) (lv' := [(4, .int x21), (3, .int (nI (5 ^ k))), (0, .ref h1), (1, .int (nI gg)), (2, .int p1)]) hx hb dX10_findToward_34 hl (k := 0) rfl (by rw [ex21]; rfl) (by decide) rfl (fun ls hl => ?_)
      obtain rfl : x21 = nI (x + 1) := by rw [ex21]; exact nI_add x 1
      refine lv_goto (tgt := 8) hx hb dX10_findToward_37 (by decide) ?_
      refine ih8 ((x + 1), f20) ⟨?_, ?_⟩ (by first | omega | (dsimp only; omega)) H locs ls (hP.sub [0, 1, 2] rfl) (hD.sub [0, 1, 2] (by decide) rfl) hS (lv_sub hl [0, 1, 2, 3, 4] rfl)
      · try dsimp only
        omega
      · try dsimp only
        intro j hj; rw [ef20, nI_clamp (by omega)]
        by_cases hji : j = x
        · subst hji; rw [pk_us, if_neg c19]
        · rw [pk_un hji]; exact hf j (by omega)
    · have c19 : x = gg := (nI_eq (a := x) (b := gg) (by omega) (by omega)).mp c19
      refine lv_iconst (v := 0) hx hb dX10_findToward_26 (by decide) ?_
      refine lv_goto (tgt := 33) hx hb dX10_findToward_27 (by decide) ?_
      refine va_iast hx hb E.K hP hD hS 2 1 rfl rfl (i := nI x) (vp_in_nI (by omega) (by decide)) dX10_findToward_33 (fun H locs hP hD hS => ?_)
      obtain ⟨f22, ef22⟩ : ∃ yy_ : Nat → Int32, yy_ = upd f (nI x).toNatClampNeg 0 := ⟨_, rfl⟩
      have hP : va_P G.1 vwCl ([(h1, .inr (6, [.int (nI k), v_maps, v_told, v_kinds, v_land, v_spades, .ref a_part, v_pad, v_padMany, v_slips, v_slipMany, v_made, v_queue, v_depth, v_by, v_from, v_come, v_offOf, v_parent, v_best, v_trees, v_least, v_sums, .ref a_toward, v_kept, v_isKept, v_keptAt, v_isWriting])), (a_part, .inl (gI G, 6, .inl fp)), (a_toward, .inl (gI G, 15625, .inl f22))]) H := by rw [ef22]; exact hP
      have hD : va_D A ([(h1, .inr (6, [.int (nI k), v_maps, v_told, v_kinds, v_land, v_spades, .ref a_part, v_pad, v_padMany, v_slips, v_slipMany, v_made, v_queue, v_depth, v_by, v_from, v_come, v_offOf, v_parent, v_best, v_trees, v_least, v_sums, .ref a_toward, v_kept, v_isKept, v_keptAt, v_isWriting])), (a_part, .inl (gI G, 6, .inl fp)), (a_toward, .inl (gI G, 15625, .inl f22))]) := by rw [ef22]; exact hD
      obtain ⟨x23, ex23⟩ : ∃ yy_ : Int32, yy_ = (nI x) + 1 := ⟨_, rfl⟩
      refine lv_iinc (v := x23) (lv' := [(4, .int x23), (3, .int (nI (5 ^ k))), (0, .ref h1), (1, .int (nI gg)), (2, .int p1)]) hx hb dX10_findToward_34 hl (k := 0) rfl (by rw [ex23]; rfl) (by decide) rfl (fun ls hl => ?_)
      obtain rfl : x23 = nI (x + 1) := by rw [ex23]; exact nI_add x 1
      refine lv_goto (tgt := 8) hx hb dX10_findToward_37 (by decide) ?_
      refine ih8 ((x + 1), f22) ⟨?_, ?_⟩ (by first | omega | (dsimp only; omega)) H locs ls (hP.sub [0, 1, 2] rfl) (hD.sub [0, 1, 2] (by decide) rfl) hS (lv_sub hl [0, 1, 2, 3, 4] rfl)
      · try dsimp only
        omega
      · try dsimp only
        intro j hj; rw [ef22, nI_clamp (by omega)]
        by_cases hji : j = x
        · subst hji; rw [pk_us, if_pos c19]
        · rw [pk_un hji]; exact hf j (by omega)

set_option maxHeartbeats 1000000 in
set_option maxRecDepth 100000 in
theorem m3_lost (l : Launch) (G : Gy) (sz : Nat) (h1 : Nat) (v_land : Value) (v_spades : Value) (v_pad : Value) (v_padMany : Value) (v_slips : Value) (v_slipMany : Value) (v_made : Value) (v_queue : Value) (v_depth : Value) (v_by : Value) (v_from : Value) (v_come : Value) (v_offOf : Value) (v_parent : Value) (v_best : Value) (v_trees : Value) (v_least : Value) (v_kept : Value) (v_isKept : Value) (v_keptAt : Value) (v_isWriting : Value) (a_maps : Nat) (fm : Nat → Int32) (a_kinds : Nat) (a_sums : Nat) (fk : Nat → Int32) (fs : Nat → Int32) (a_part : Nat) (fp : Nat → Int32) (a_toward : Nat) (ft : Nat → Int32) (k : Nat) (told : Int32) (p0 : Int32) (p1 : Int32) (p2 : Int32) (hk2 : 2 ≤ k) (hk6 : k ≤ 6) (hp : pOK k fp) (hfm : mapsOK k fm) : Ci l G yX10_lost wsX10_lost ({ frames := 5, cells := 0, slots := 0, locals := 121 }) [.ref h1, .int p0, .int p1, .int p2] ([(h1, .inr (6, [.int (nI k), .ref a_maps, .int told, .ref a_kinds, v_land, v_spades, .ref a_part, v_pad, v_padMany, v_slips, v_slipMany, v_made, v_queue, v_depth, v_by, v_from, v_come, v_offOf, v_parent, v_best, v_trees, v_least, .ref a_sums, .ref a_toward, v_kept, v_isKept, v_keptAt, v_isWriting])), (a_maps, .inl (gI G, 6, .inl fm)), (a_kinds, .inl (gI G, 4, .inl fk)), (a_part, .inl (gI G, 6, .inl fp)), (a_sums, .inl (gI G, 15625, .inl fs)), (a_toward, .inl (gI G, 15625, .inl ft))]) sz (fun (r : Int32) (u : (Nat → Int32) × (Nat → Int32)) => match u with | (gs, gt_) => r = lsA k told (maN fm) fk p0 p1 p2) (fun (u : (Nat → Int32) × (Nat → Int32)) => match u with | (gs, gt_) => [(h1, .inr (6, [.int (nI k), .ref a_maps, .int told, .ref a_kinds, v_land, v_spades, .ref a_part, v_pad, v_padMany, v_slips, v_slipMany, v_made, v_queue, v_depth, v_by, v_from, v_come, v_offOf, v_parent, v_best, v_trees, v_least, .ref a_sums, .ref a_toward, v_kept, v_isKept, v_keptAt, v_isWriting])), (a_maps, .inl (gI G, 6, .inl fm)), (a_kinds, .inl (gI G, 4, .inl fk)), (a_part, .inl (gI G, 6, .inl fp)), (a_sums, .inl (gI G, 15625, .inl gs)), (a_toward, .inl (gI G, 15625, .inl gt_))]) 0 0 := by
  refine Met.ofW (cc := cX10_lost) (maxL := 7) (ret := (some .int)) (by decide) rfl ?_
  intro p e s m args below meth c s₁ B hml hv
  obtain ⟨rfl, hsz, hP, hD0, E0⟩ := hv
  have hx := B.exec
  have hb := B.bytes
  have hr := B.returns
  have hts := atoms_spec (ws := wsX10_lost) B.pre
  have hown : s.vm.findClass RX10 = some m.cls := findClass_of_methodNamed B.named
  have hlocks := B.notSynchronized
  subst hsz
  have hD := hD0.self (sz := s.heap.size)
  generalize hAe : va_A ([(h1, .inr (6, [.int (nI k), .ref a_maps, .int told, .ref a_kinds, v_land, v_spades, .ref a_part, v_pad, v_padMany, v_slips, v_slipMany, v_made, v_queue, v_depth, v_by, v_from, v_come, v_offOf, v_parent, v_best, v_trees, v_least, .ref a_sums, .ref a_toward, v_kept, v_isKept, v_keptAt, v_isWriting])), (a_maps, .inl (gI G, 6, .inl fm)), (a_kinds, .inl (gI G, 4, .inl fk)), (a_part, .inl (gI G, 6, .inl fp)), (a_sums, .inl (gI G, 15625, .inl fs)), (a_toward, .inl (gI G, 15625, .inl ft))]) s.heap.size = A at hD E0 ⊢
  have E : EV G A s s.heap := E0
  have hA : ∀ q : Nat, s.heap.size ≤ q → A q := fun q h => by rw [← hAe]; exact Or.inr h
  have hS : va_S A s.heap s.heap [] := va_S.rf
  have hl := lv_entry ([.ref h1, .int p0, .int p1, .int p2]) (n := 7) (Nat.le_of_ble_eq_true rfl)
  rw [lg_entry_eq]
  generalize (lg_sl ([.ref h1, .int p0, .int p1, .int p2]) ++ List.replicate (7 - (lg_sl ([.ref h1, .int p0, .int p1, .int p2])).length) Slot.unset).toArray = ls at hl ⊢
  have hl : lv_has ls 7 [(0, .ref h1), (1, .int p0), (2, .int p1), (3, .int p2)] := hl
  have hP : va_P G.1 vwCl ([(h1, .inr (6, [.int (nI k), .ref a_maps, .int told, .ref a_kinds, v_land, v_spades, .ref a_part, v_pad, v_padMany, v_slips, v_slipMany, v_made, v_queue, v_depth, v_by, v_from, v_come, v_offOf, v_parent, v_best, v_trees, v_least, .ref a_sums, .ref a_toward, v_kept, v_isKept, v_keptAt, v_isWriting])), (a_maps, .inl (gI G, 6, .inl fm)), (a_kinds, .inl (gI G, 4, .inl fk)), (a_part, .inl (gI G, 6, .inl fp)), (a_sums, .inl (gI G, 15625, .inl fs)), (a_toward, .inl (gI G, 15625, .inl ft))]) s.heap := hP
  have hal := p5le hk6
  have hal1 := p5pos k
  refine lv_iload_n hx hb dX10_lost_0 rfl (lv_at hl 2 rfl) ?_
  refine ca_iR (va_runS (As := [.int p1]) (rest := []) ⟨hx, hb, hml, hown, hts⟩ (m_isHand l G s.heap.size p1) (va_cwS 1 hts gX10_lost_X10_isHand rfl rfl rfl (by decide +kernel) ⟨by decide +kernel, by decide +kernel⟩) (pre_S E hP hD hS hA [] (by decide) rfl) rfl rfl hl.1 rfl (lv_room (Nat.le_of_ble_eq_true rfl)) dX10_lost_1 ⟨by decide +kernel, by decide +kernel⟩) hS hP hD hA [] rfl (fun r2 _ H locs w1 hP hS => ?_)
  rcases w1 with ⟨rfl, b3⟩ | ⟨rfl, b3⟩
  · refine lv_if_ne (tgt := 9) hx hb dX10_lost_4 (by decide) (fun _ => ?_) (fun c4 => False.elim (by revert c4; decide))
    obtain ⟨j_p1, hj_p1, ej_p1⟩ := inR4 b3
    have hl : lv_has ls 7 [(0, .ref h1), (1, .int p0), (2, .int (nI j_p1)), (3, .int p2)] := by have q := hl; rw [ej_p1] at q; exact q
    refine lv_iload_n hx hb dX10_lost_9 rfl (lv_at hl 1 rfl) ?_
    refine lv_i2l hx hb dX10_lost_10 rfl ?_
    refine lv_topl (fun x5 ex5 => ?_)
    refine lv_lconst (v := 1) hx hb dX10_lost_11 (by decide) ?_
    refine lv_ldc2 (v := 63) hx hb hown (hts (.constantLong RX10 203 (63)) (by decide +kernel)) dX10_lost_12 ?_
    refine ca_iR (va_runS (As := [.long x5, .long 1, .long 63]) (rest := []) ⟨hx, hb, hml, hown, hts⟩ (m_in l G H.size x5 1 63 p0 1 63 ex5 (by decide) (by decide)) (va_cwS 3 hts gX10_lost_X10_in rfl rfl rfl (by decide +kernel) ⟨by decide +kernel, by decide +kernel⟩) (pre_S E hP hD hS hA [] (by decide) rfl) rfl rfl hl.1 rfl (lv_room (Nat.le_of_ble_eq_true rfl)) dX10_lost_15 ⟨by decide +kernel, by decide +kernel⟩) hS hP hD hA [] rfl (fun r7 _ H locs w6 hP hS => ?_)
    rcases w6 with ⟨rfl, b8⟩ | ⟨rfl, b8⟩
    · refine lv_if_ne (tgt := 24) hx hb dX10_lost_18 (by decide) (fun _ => ?_) (fun c9 => False.elim (by revert c9; decide))
      refine lv_aload_n hx hb dX10_lost_24 rfl (lv_at hl 0 rfl) ?_
      refine lv_iload_n hx hb dX10_lost_25 rfl (lv_at hl 1 rfl) ?_
      refine ca_iR (va_runV (As := [.int p0]) (rest := []) ⟨hx, hb, hml, hown, hts⟩ (m_areTold l G H.size h1 (.int (nI k)) (.ref a_maps) (.ref a_kinds) v_land v_spades (.ref a_part) v_pad v_padMany v_slips v_slipMany v_made v_queue v_depth v_by v_from v_come v_offOf v_parent v_best v_trees v_least (.ref a_sums) (.ref a_toward) v_kept v_isKept v_keptAt v_isWriting told p0) (cwV 1 hts gX10_lost_X10_areTold rfl rfl rfl (by decide +kernel) ⟨by decide +kernel, by decide +kernel⟩) (pre_V E hP hD hS hA [0] (by decide) rfl 0 6 rfl rfl) rfl rfl hl.1 rfl (lv_room (Nat.le_of_ble_eq_true rfl)) dX10_lost_26 ⟨by decide +kernel, by decide +kernel⟩) hS hP hD hA [0] rfl (fun r11 _ H locs w10 hP hS => ?_)
      rcases w10 with ⟨rfl, b12⟩ | ⟨rfl, b12⟩
      · refine lv_if_ne (tgt := 35) hx hb dX10_lost_29 (by decide) (fun _ => ?_) (fun c13 => False.elim (by revert c13; decide))
        refine lv_aload_n hx hb dX10_lost_35 rfl (lv_at hl 0 rfl) ?_
        refine ca_iR (va_runV (As := []) (rest := []) ⟨hx, hb, hml, hown, hts⟩ (m_all l G H.size h1 (.int (nI k)) (.ref a_maps) (.int told) (.ref a_kinds) v_land v_spades v_pad v_padMany v_slips v_slipMany v_made v_queue v_depth v_by v_from v_come v_offOf v_parent v_best v_trees v_least (.ref a_sums) (.ref a_toward) v_kept v_isKept v_keptAt v_isWriting a_part fp k hk2 hp) (cwV 0 hts gX10_lost_X10_all rfl rfl rfl (by decide +kernel) ⟨by decide +kernel, by decide +kernel⟩) (pre_V E hP hD hS hA [0, 3] (by decide) rfl 0 6 rfl rfl) rfl rfl hl.1 rfl (lv_room (Nat.le_of_ble_eq_true rfl)) dX10_lost_36 ⟨by decide +kernel, by decide +kernel⟩) hS hP hD hA [0, 3] rfl (fun r15 _ H locs w14 hP hS => ?_)
        rw [w14]
        refine lv_istore (lv' := [(4, .int (nI (5 ^ k))), (0, .ref h1), (1, .int p0), (2, .int (nI j_p1)), (3, .int p2)]) hx hb dX10_lost_39 hl (by decide) rfl (fun ls hl => ?_)
        refine lv_iconst (v := 0) hx hb dX10_lost_41 (by decide) ?_
        refine lv_istore (lv' := [(5, .int 0), (4, .int (nI (5 ^ k))), (0, .ref h1), (1, .int p0), (2, .int (nI j_p1)), (3, .int p2)]) hx hb dX10_lost_42 hl (by decide) rfl (fun ls hl => ?_)
        refine lp_run (x0 := (0, fs)) (fun xx_ : Nat × (Nat → Int32) => match xx_ with | (x, s1) => [(h1, .inr (6, [.int (nI k), .ref a_maps, .int told, .ref a_kinds, v_land, v_spades, .ref a_part, v_pad, v_padMany, v_slips, v_slipMany, v_made, v_queue, v_depth, v_by, v_from, v_come, v_offOf, v_parent, v_best, v_trees, v_least, .ref a_sums, .ref a_toward, v_kept, v_isKept, v_keptAt, v_isWriting])), (a_maps, .inl (gI G, 6, .inl fm)), (a_kinds, .inl (gI G, 4, .inl fk)), (a_part, .inl (gI G, 6, .inl fp)), (a_sums, .inl (gI G, 15625, .inl s1)), (a_toward, .inl (gI G, 15625, .inl ft))]) (fun xx_ : Nat × (Nat → Int32) => match xx_ with | (x, s1) => [(5, .int (nI x)), (4, .int (nI (5 ^ k))), (0, .ref h1), (1, .int p0), (2, .int (nI j_p1)), (3, .int p2)]) (fun xx_ : Nat × (Nat → Int32) => match xx_ with | (x, s1) => (x ≤ 5 ^ k) ∧ (∀ j : Nat, j < x → s1 j = 0)) (fun xx_ : Nat × (Nat → Int32) => match xx_ with | (x, s1) => (5 ^ k) - x) (hP.sub [0, 1, 2, 3, 4, 5] rfl) (hD.sub [0, 1, 2, 3, 4, 5] (by decide) rfl) hS (lv_sub hl [0, 1, 2, 3, 4, 5] rfl) ⟨(by omega), by intro j9 h9; omega⟩ ?_
        intro xx_ hI ih44 H locs ls hP hD hS hl
        obtain ⟨x, s1⟩ := xx_
        dsimp only at hI ih44 hP hD hl
        obtain ⟨hx0, hs1⟩ := hI
        have hl : lv_has ls 7 [(5, .int (nI x)), (4, .int (nI (5 ^ k))), (0, .ref h1), (1, .int p0), (2, .int (nI j_p1)), (3, .int p2)] := hl
        have hP : va_P G.1 vwCl ([(h1, .inr (6, [.int (nI k), .ref a_maps, .int told, .ref a_kinds, v_land, v_spades, .ref a_part, v_pad, v_padMany, v_slips, v_slipMany, v_made, v_queue, v_depth, v_by, v_from, v_come, v_offOf, v_parent, v_best, v_trees, v_least, .ref a_sums, .ref a_toward, v_kept, v_isKept, v_keptAt, v_isWriting])), (a_maps, .inl (gI G, 6, .inl fm)), (a_kinds, .inl (gI G, 4, .inl fk)), (a_part, .inl (gI G, 6, .inl fp)), (a_sums, .inl (gI G, 15625, .inl s1)), (a_toward, .inl (gI G, 15625, .inl ft))]) H := hP
        have hD : va_D A ([(h1, .inr (6, [.int (nI k), .ref a_maps, .int told, .ref a_kinds, v_land, v_spades, .ref a_part, v_pad, v_padMany, v_slips, v_slipMany, v_made, v_queue, v_depth, v_by, v_from, v_come, v_offOf, v_parent, v_best, v_trees, v_least, .ref a_sums, .ref a_toward, v_kept, v_isKept, v_keptAt, v_isWriting])), (a_maps, .inl (gI G, 6, .inl fm)), (a_kinds, .inl (gI G, 4, .inl fk)), (a_part, .inl (gI G, 6, .inl fp)), (a_sums, .inl (gI G, 15625, .inl s1)), (a_toward, .inl (gI G, 15625, .inl ft))]) := hD
        refine lv_iload hx hb dX10_lost_44 (lv_at hl 0 rfl) ?_
        refine lv_iload hx hb dX10_lost_46 (lv_at hl 1 rfl) ?_
        refine lv_icmp_ge (tgt := 65) hx hb dX10_lost_48 (by decide) (fun c16 => ?_) (fun c16 => ?_)
        · have c16 : (5 ^ k) ≤ x := (nI_leI (a := (5 ^ k)) (b := x) (by omega) (by omega)).mp c16
          refine lv_iconst (v := 0) hx hb dX10_lost_65 (by decide) ?_
          refine lv_istore (lv' := [(5, .int 0), (4, .int (nI (5 ^ k))), (0, .ref h1), (1, .int p0), (2, .int (nI j_p1)), (3, .int p2)]) hx hb dX10_lost_66 hl (by decide) rfl (fun ls hl => ?_)
          refine lp_run (x0 := (0, s1, ft)) (fun xx_ : Nat × (Nat → Int32) × (Nat → Int32) => match xx_ with | (x2, s2, t2) => [(h1, .inr (6, [.int (nI k), .ref a_maps, .int told, .ref a_kinds, v_land, v_spades, .ref a_part, v_pad, v_padMany, v_slips, v_slipMany, v_made, v_queue, v_depth, v_by, v_from, v_come, v_offOf, v_parent, v_best, v_trees, v_least, .ref a_sums, .ref a_toward, v_kept, v_isKept, v_keptAt, v_isWriting])), (a_maps, .inl (gI G, 6, .inl fm)), (a_kinds, .inl (gI G, 4, .inl fk)), (a_part, .inl (gI G, 6, .inl fp)), (a_sums, .inl (gI G, 15625, .inl s2)), (a_toward, .inl (gI G, 15625, .inl t2))]) (fun xx_ : Nat × (Nat → Int32) × (Nat → Int32) => match xx_ with | (x2, s2, t2) => [(5, .int (nI x2)), (4, .int (nI (5 ^ k))), (0, .ref h1), (1, .int p0), (2, .int (nI j_p1)), (3, .int p2)]) (fun xx_ : Nat × (Nat → Int32) × (Nat → Int32) => match xx_ with | (x2, s2, t2) => (x2 ≤ 6) ∧ (∀ j : Nat, j < 5 ^ k → s2 j = nI (sumN k (bK (fk j_p1)) p0 (maN fm) x2 j))) (fun xx_ : Nat × (Nat → Int32) × (Nat → Int32) => match xx_ with | (x2, s2, t2) => 6 - x2) (hP.sub [0, 1, 2, 3, 4, 5] rfl) (hD.sub [0, 1, 2, 3, 4, 5] (by decide) rfl) hS (lv_sub hl [0, 1, 2, 3, 4, 5] rfl) ⟨(by omega), by intro j9 h9; rw [hs1 j9 (by omega)]; rfl⟩ ?_
          intro xx_ hI ih68 H locs ls hP hD hS hl
          obtain ⟨x2, s2, t2⟩ := xx_
          dsimp only at hI ih68 hP hD hl
          obtain ⟨hx20, hs2⟩ := hI
          have hl : lv_has ls 7 [(5, .int (nI x2)), (4, .int (nI (5 ^ k))), (0, .ref h1), (1, .int p0), (2, .int (nI j_p1)), (3, .int p2)] := hl
          have hP : va_P G.1 vwCl ([(h1, .inr (6, [.int (nI k), .ref a_maps, .int told, .ref a_kinds, v_land, v_spades, .ref a_part, v_pad, v_padMany, v_slips, v_slipMany, v_made, v_queue, v_depth, v_by, v_from, v_come, v_offOf, v_parent, v_best, v_trees, v_least, .ref a_sums, .ref a_toward, v_kept, v_isKept, v_keptAt, v_isWriting])), (a_maps, .inl (gI G, 6, .inl fm)), (a_kinds, .inl (gI G, 4, .inl fk)), (a_part, .inl (gI G, 6, .inl fp)), (a_sums, .inl (gI G, 15625, .inl s2)), (a_toward, .inl (gI G, 15625, .inl t2))]) H := hP
          have hD : va_D A ([(h1, .inr (6, [.int (nI k), .ref a_maps, .int told, .ref a_kinds, v_land, v_spades, .ref a_part, v_pad, v_padMany, v_slips, v_slipMany, v_made, v_queue, v_depth, v_by, v_from, v_come, v_offOf, v_parent, v_best, v_trees, v_least, .ref a_sums, .ref a_toward, v_kept, v_isKept, v_keptAt, v_isWriting])), (a_maps, .inl (gI G, 6, .inl fm)), (a_kinds, .inl (gI G, 4, .inl fk)), (a_part, .inl (gI G, 6, .inl fp)), (a_sums, .inl (gI G, 15625, .inl s2)), (a_toward, .inl (gI G, 15625, .inl t2))]) := hD
          refine lv_iload hx hb dX10_lost_68 (lv_at hl 0 rfl) ?_
          refine lv_bipush (v := 6) hx hb dX10_lost_70 (by decide) ?_
          refine lv_icmp_ge (tgt := 141) hx hb dX10_lost_72 (by decide) (fun c17 => ?_) (fun c17 => ?_)
          · have c17 : 6 ≤ x2 := (nI_leI (a := 6) (b := x2) (by omega) (by omega)).mp c17
            have hs6 : ∀ j : Nat, j < 5 ^ k → s2 j = nI (sumN k (bK (fk j_p1)) p0 (maN fm) 6 j) := by have q9 := hs2; rw [show x2 = 6 by omega] at q9; exact q9
            have hmA : ∀ i : Nat, i < 6 → tdP p0 (nI i) → maN fm i < 5 ^ k := fun i9 h9 _ => (maN_ok hk6 hfm h9).1
            refine lv_iconst (v := 0) hx hb dX10_lost_141 (by decide) ?_
            refine lv_istore (lv' := [(5, .int 0), (4, .int (nI (5 ^ k))), (0, .ref h1), (1, .int p0), (2, .int (nI j_p1)), (3, .int p2)]) hx hb dX10_lost_142 hl (by decide) rfl (fun ls hl => ?_)
            refine lv_iconst (v := 0) hx hb dX10_lost_144 (by decide) ?_
            refine lv_istore (lv' := [(6, .int 0), (5, .int 0), (4, .int (nI (5 ^ k))), (0, .ref h1), (1, .int p0), (2, .int (nI j_p1)), (3, .int p2)]) hx hb dX10_lost_145 hl (by decide) rfl (fun ls hl => ?_)
            refine lp_run (x0 := (0, 0)) (fun xx_ : Nat × Nat => match xx_ with | (z, fo) => [(h1, .inr (6, [.int (nI k), .ref a_maps, .int told, .ref a_kinds, v_land, v_spades, .ref a_part, v_pad, v_padMany, v_slips, v_slipMany, v_made, v_queue, v_depth, v_by, v_from, v_come, v_offOf, v_parent, v_best, v_trees, v_least, .ref a_sums, .ref a_toward, v_kept, v_isKept, v_keptAt, v_isWriting])), (a_maps, .inl (gI G, 6, .inl fm)), (a_kinds, .inl (gI G, 4, .inl fk)), (a_part, .inl (gI G, 6, .inl fp)), (a_sums, .inl (gI G, 15625, .inl s2)), (a_toward, .inl (gI G, 15625, .inl t2))]) (fun xx_ : Nat × Nat => match xx_ with | (z, fo) => [(6, .int (nI z)), (5, .int (nI fo)), (4, .int (nI (5 ^ k))), (0, .ref h1), (1, .int p0), (2, .int (nI j_p1)), (3, .int p2)]) (fun xx_ : Nat × Nat => match xx_ with | (z, fo) => (z ≤ 5 ^ k) ∧ (fo < 5 ^ k) ∧ (fo = amN (sumN k (bK (fk j_p1)) p0 (maN fm) 6) z)) (fun xx_ : Nat × Nat => match xx_ with | (z, fo) => (5 ^ k) - z) (hP.sub [0, 1, 2, 3, 4, 5] rfl) (hD.sub [0, 1, 2, 3, 4, 5] (by decide) rfl) hS (lv_sub hl [0, 1, 2, 3, 4, 5, 6] rfl) ⟨(by omega), by omega, rfl⟩ ?_
            intro xx_ hI ih147 H locs ls hP hD hS hl
            obtain ⟨z, fo⟩ := xx_
            dsimp only at hI ih147 hP hD hl
            obtain ⟨hz0, hfo, ham⟩ := hI
            have hl : lv_has ls 7 [(6, .int (nI z)), (5, .int (nI fo)), (4, .int (nI (5 ^ k))), (0, .ref h1), (1, .int p0), (2, .int (nI j_p1)), (3, .int p2)] := hl
            have hP : va_P G.1 vwCl ([(h1, .inr (6, [.int (nI k), .ref a_maps, .int told, .ref a_kinds, v_land, v_spades, .ref a_part, v_pad, v_padMany, v_slips, v_slipMany, v_made, v_queue, v_depth, v_by, v_from, v_come, v_offOf, v_parent, v_best, v_trees, v_least, .ref a_sums, .ref a_toward, v_kept, v_isKept, v_keptAt, v_isWriting])), (a_maps, .inl (gI G, 6, .inl fm)), (a_kinds, .inl (gI G, 4, .inl fk)), (a_part, .inl (gI G, 6, .inl fp)), (a_sums, .inl (gI G, 15625, .inl s2)), (a_toward, .inl (gI G, 15625, .inl t2))]) H := hP
            have hD : va_D A ([(h1, .inr (6, [.int (nI k), .ref a_maps, .int told, .ref a_kinds, v_land, v_spades, .ref a_part, v_pad, v_padMany, v_slips, v_slipMany, v_made, v_queue, v_depth, v_by, v_from, v_come, v_offOf, v_parent, v_best, v_trees, v_least, .ref a_sums, .ref a_toward, v_kept, v_isKept, v_keptAt, v_isWriting])), (a_maps, .inl (gI G, 6, .inl fm)), (a_kinds, .inl (gI G, 4, .inl fk)), (a_part, .inl (gI G, 6, .inl fp)), (a_sums, .inl (gI G, 15625, .inl s2)), (a_toward, .inl (gI G, 15625, .inl t2))]) := hD
            refine lv_iload hx hb dX10_lost_147 (lv_at hl 0 rfl) ?_
            refine lv_iload hx hb dX10_lost_149 (lv_at hl 2 rfl) ?_
            refine lv_icmp_ge (tgt := 186) hx hb dX10_lost_151 (by decide) (fun c18 => ?_) (fun c18 => ?_)
            · have c18 : (5 ^ k) ≤ z := (nI_leI (a := (5 ^ k)) (b := z) (by omega) (by omega)).mp c18
              have hF4 : fo = amN (sumN k (bK (fk j_p1)) p0 (maN fm) 6) (5 ^ k) := by rw [ham, show z = 5 ^ k by omega]
              have hb7 : sumN k (bK (fk j_p1)) p0 (maN fm) 6 fo ≤ 6000 := sumN_le hk6 hfo hmA (Nat.le_refl 6)
              refine lv_aload_n hx hb dX10_lost_186 rfl (lv_at hl 3 rfl) ?_
              refine va_get (D := G.1) (ci := 6) (v := .ref a_sums) (C := RX10) (T := TX10) (N := 28) hx hb hts (fun _ h => List.mem_cons_of_mem _ (List.mem_append_right _ h)) hown E.K hP 0 rfl rfl 22 (by decide) (hts (.fieldLink RX10 46 "LastMapModel" "sums" "[I") (by decide +kernel)) (fun _ h9 => h9) rfl dX10_lost_187 ?_
              refine lv_iload hx hb dX10_lost_190 (lv_at hl 1 rfl) ?_
              refine va_iald hx hb E.K hP 4 1 rfl rfl (i := nI fo) (vp_in_nI (by omega) (by decide)) dX10_lost_192 ?_
              refine lv_topi (fun x19 ex19 => ?_)
              obtain rfl : x19 = nI (sumN k (bK (fk j_p1)) p0 (maN fm) 6 fo) := by rw [ex19, nI_clamp (by omega)]; exact hs6 fo (by omega)
              refine lv_sipush (v := 1000) hx hb dX10_lost_193 (by decide) ?_
              refine lv_icmp_lt (tgt := 202) hx hb dX10_lost_196 (by decide) (fun c20 => ?_) (fun c20 => ?_)
              · have c20 : (sumN k (bK (fk j_p1)) p0 (maN fm) 6 fo) < 1000 := (nI_ltI (a := (sumN k (bK (fk j_p1)) p0 (maN fm) 6 fo)) (b := 1000) (by omega) (by omega)).mp c20
                have hF5 : sumN k (bK (fk j_p1)) p0 (maN fm) 6 (amN (sumN k (bK (fk j_p1)) p0 (maN fm) 6) (5 ^ k)) < 1000 := by rw [← hF4]; omega
                refine lv_iload_n hx hb dX10_lost_202 rfl (lv_at hl 6 rfl) ?_
                refine lv_iconst (v := (-1)) hx hb dX10_lost_203 (by decide) ?_
                refine lv_icmp_ne (tgt := 217) hx hb dX10_lost_204 (by decide) (fun c21 => ?_) (fun c21 => ?_)
                · refine lv_aload_n hx hb dX10_lost_217 rfl (lv_at hl 3 rfl) ?_
                  refine lv_iload_n hx hb dX10_lost_218 rfl (lv_at hl 6 rfl) ?_
                  refine ca_iR (va_runV (As := [.int p2]) (rest := []) ⟨hx, hb, hml, hown, hts⟩ (m_isSite l G H.size h1 (.ref a_maps) (.int told) (.ref a_kinds) v_land v_spades (.ref a_part) v_pad v_padMany v_slips v_slipMany v_made v_queue v_depth v_by v_from v_come v_offOf v_parent v_best v_trees v_least (.ref a_sums) (.ref a_toward) v_kept v_isKept v_keptAt v_isWriting k p2 hk2 hk6) (cwV 1 hts gX10_lost_X10_isSite rfl rfl rfl (by decide +kernel) ⟨by decide +kernel, by decide +kernel⟩) (pre_V E hP hD hS hA [0] (by decide) rfl 0 6 rfl rfl) rfl rfl hl.1 rfl (lv_room (Nat.le_of_ble_eq_true rfl)) dX10_lost_219 ⟨by decide +kernel, by decide +kernel⟩) hS hP hD hA [0] rfl (fun r23 _ H locs w22 hP hS => ?_)
                  rcases w22 with ⟨rfl, b24⟩ | ⟨rfl, b24⟩
                  · refine lv_if_eq (tgt := 238) hx hb dX10_lost_222 (by decide) (fun c25 => False.elim (by revert c25; decide)) (fun _ => ?_)
                    obtain ⟨j_p2, hj_p2, ej_p2⟩ := b24
                    have hl : lv_has ls 7 [(6, .int (nI z)), (5, .int (nI fo)), (4, .int (nI (5 ^ k))), (0, .ref h1), (1, .int p0), (2, .int (nI j_p1)), (3, .int (nI j_p2))] := by have q := hl; rw [ej_p2] at q; exact q
                    refine lv_aload_n hx hb dX10_lost_225 rfl (lv_at hl 3 rfl) ?_
                    refine lv_iload hx hb dX10_lost_226 (lv_at hl 1 rfl) ?_
                    refine lv_iload_n hx hb dX10_lost_228 rfl (lv_at hl 6 rfl) ?_
                    refine ca_iR (va_runV (As := [.int (nI fo), .int (nI j_p2)]) (rest := []) ⟨hx, hb, hml, hown, hts⟩ (m_signAt l G H.size h1 (.int (nI k)) (.ref a_maps) (.int told) (.ref a_kinds) v_land v_spades v_pad v_padMany v_slips v_slipMany v_made v_queue v_depth v_by v_from v_come v_offOf v_parent v_best v_trees v_least (.ref a_sums) (.ref a_toward) v_kept v_isKept v_keptAt v_isWriting a_part fp k fo j_p2 hk6 hp hfo (by omega)) (cwV 2 hts gX10_lost_X10_signAt rfl rfl rfl (by decide +kernel) ⟨by decide +kernel, by decide +kernel⟩) (pre_V E hP hD hS hA [0, 3] (by decide) rfl 0 6 rfl rfl) rfl rfl hl.1 rfl (lv_room (Nat.le_of_ble_eq_true rfl)) dX10_lost_229 ⟨by decide +kernel, by decide +kernel⟩) hS hP hD hA [0, 3] rfl (fun r27 _ H locs w26 hP hS => ?_)
                    rw [w26]
                    have hdg9 : (dg k fo j_p2) < 5 := dg_lt _ _ _
                    refine ca_iR (va_runS (As := [.int (nI (dg k fo j_p2))]) (rest := []) ⟨hx, hb, hml, hown, hts⟩ (m_codeOf l G H.size (nI (dg k fo j_p2))) (va_cwS 1 hts gX10_lost_X10_codeOf rfl rfl rfl (by decide +kernel) ⟨by decide +kernel, by decide +kernel⟩) (pre_S E hP hD hS hA [] (by decide) rfl) rfl rfl hl.1 rfl (lv_room (Nat.le_of_ble_eq_true rfl)) dX10_lost_232 ⟨by decide +kernel, by decide +kernel⟩) hS hP hD hA [] rfl (fun r29 _ H locs w28 hP hS => ?_)
                    refine lv_goto (tgt := 240) hx hb dX10_lost_235 (by decide) ?_
                    have hP9 := (hP.sub (ws' := [(h1, .inr (6, [.int (nI k), .ref a_maps, .int told, .ref a_kinds, v_land, v_spades, .ref a_part, v_pad, v_padMany, v_slips, v_slipMany, v_made, v_queue, v_depth, v_by, v_from, v_come, v_offOf, v_parent, v_best, v_trees, v_least, .ref a_sums, .ref a_toward, v_kept, v_isKept, v_keptAt, v_isWriting])), (a_maps, .inl (gI G, 6, .inl fm)), (a_kinds, .inl (gI G, 4, .inl fk)), (a_part, .inl (gI G, 6, .inl fp)), (a_sums, .inl (gI G, 15625, .inl s2)), (a_toward, .inl (gI G, 15625, .inl t2))]) [0, 1, 2, 3, 4, 5] rfl)
                    have hD9 := (hD.sub (ws' := [(h1, .inr (6, [.int (nI k), .ref a_maps, .int told, .ref a_kinds, v_land, v_spades, .ref a_part, v_pad, v_padMany, v_slips, v_slipMany, v_made, v_queue, v_depth, v_by, v_from, v_come, v_offOf, v_parent, v_best, v_trees, v_least, .ref a_sums, .ref a_toward, v_kept, v_isKept, v_keptAt, v_isWriting])), (a_maps, .inl (gI G, 6, .inl fm)), (a_kinds, .inl (gI G, 4, .inl fk)), (a_part, .inl (gI G, 6, .inl fp)), (a_sums, .inl (gI G, 15625, .inl s2)), (a_toward, .inl (gI G, 15625, .inl t2))]) [0, 1, 2, 3, 4, 5] (by decide) rfl)
                    exact W.iret (v := r29) hx hb hr (fun t9_ ht9_ hW9_ => ⟨⟨r29, (s2, t2), rfl, by rw [w28, hF4]; exact (lsF_3 hk6 hF5 c21 hj_p2 ej_p2).trans (lsA_4 hj_p1 ej_p1 b8 (are_of.mpr b12)), by rw [ht9_]; exact hP9, hD9⟩, hS.F ht9_⟩) hS.2.2 dX10_lost_240
                  · refine lv_if_eq (tgt := 238) hx hb dX10_lost_222 (by decide) (fun _ => ?_) (fun c30 => False.elim (by revert c30; decide))
                    refine lv_bipush (v := (-6)) hx hb dX10_lost_238 (by decide) ?_
                    have hP9 := (hP.sub (ws' := [(h1, .inr (6, [.int (nI k), .ref a_maps, .int told, .ref a_kinds, v_land, v_spades, .ref a_part, v_pad, v_padMany, v_slips, v_slipMany, v_made, v_queue, v_depth, v_by, v_from, v_come, v_offOf, v_parent, v_best, v_trees, v_least, .ref a_sums, .ref a_toward, v_kept, v_isKept, v_keptAt, v_isWriting])), (a_maps, .inl (gI G, 6, .inl fm)), (a_kinds, .inl (gI G, 4, .inl fk)), (a_part, .inl (gI G, 6, .inl fp)), (a_sums, .inl (gI G, 15625, .inl s2)), (a_toward, .inl (gI G, 15625, .inl t2))]) [0, 1, 2, 3, 4, 5] rfl)
                    have hD9 := (hD.sub (ws' := [(h1, .inr (6, [.int (nI k), .ref a_maps, .int told, .ref a_kinds, v_land, v_spades, .ref a_part, v_pad, v_padMany, v_slips, v_slipMany, v_made, v_queue, v_depth, v_by, v_from, v_come, v_offOf, v_parent, v_best, v_trees, v_least, .ref a_sums, .ref a_toward, v_kept, v_isKept, v_keptAt, v_isWriting])), (a_maps, .inl (gI G, 6, .inl fm)), (a_kinds, .inl (gI G, 4, .inl fk)), (a_part, .inl (gI G, 6, .inl fp)), (a_sums, .inl (gI G, 15625, .inl s2)), (a_toward, .inl (gI G, 15625, .inl t2))]) [0, 1, 2, 3, 4, 5] (by decide) rfl)
                    exact W.iret (v := (-6)) hx hb hr (fun t9_ ht9_ hW9_ => ⟨⟨(-6), (s2, t2), rfl, (lsF_4 hF5 c21 b24).trans (lsA_4 hj_p1 ej_p1 b8 (are_of.mpr b12)), by rw [ht9_]; exact hP9, hD9⟩, hS.F ht9_⟩) hS.2.2 dX10_lost_240
                · refine lv_aload_n hx hb dX10_lost_207 rfl (lv_at hl 3 rfl) ?_
                  refine va_get (D := G.1) (ci := 6) (v := .ref a_sums) (C := RX10) (T := TX10) (N := 28) hx hb hts (fun _ h => List.mem_cons_of_mem _ (List.mem_append_right _ h)) hown E.K hP 0 rfl rfl 22 (by decide) (hts (.fieldLink RX10 46 "LastMapModel" "sums" "[I") (by decide +kernel)) (fun _ h9 => h9) rfl dX10_lost_208 ?_
                  refine lv_iload hx hb dX10_lost_211 (lv_at hl 1 rfl) ?_
                  refine va_iald hx hb E.K hP 4 1 rfl rfl (i := nI fo) (vp_in_nI (by omega) (by decide)) dX10_lost_213 ?_
                  refine lv_topi (fun x31 ex31 => ?_)
                  obtain rfl : x31 = nI (sumN k (bK (fk j_p1)) p0 (maN fm) 6 fo) := by rw [ex31, nI_clamp (by omega)]; exact hs6 fo (by omega)
                  refine lv_goto (tgt := 240) hx hb dX10_lost_214 (by decide) ?_
                  have hP9 := (hP.sub (ws' := [(h1, .inr (6, [.int (nI k), .ref a_maps, .int told, .ref a_kinds, v_land, v_spades, .ref a_part, v_pad, v_padMany, v_slips, v_slipMany, v_made, v_queue, v_depth, v_by, v_from, v_come, v_offOf, v_parent, v_best, v_trees, v_least, .ref a_sums, .ref a_toward, v_kept, v_isKept, v_keptAt, v_isWriting])), (a_maps, .inl (gI G, 6, .inl fm)), (a_kinds, .inl (gI G, 4, .inl fk)), (a_part, .inl (gI G, 6, .inl fp)), (a_sums, .inl (gI G, 15625, .inl s2)), (a_toward, .inl (gI G, 15625, .inl t2))]) [0, 1, 2, 3, 4, 5] rfl)
                  have hD9 := (hD.sub (ws' := [(h1, .inr (6, [.int (nI k), .ref a_maps, .int told, .ref a_kinds, v_land, v_spades, .ref a_part, v_pad, v_padMany, v_slips, v_slipMany, v_made, v_queue, v_depth, v_by, v_from, v_come, v_offOf, v_parent, v_best, v_trees, v_least, .ref a_sums, .ref a_toward, v_kept, v_isKept, v_keptAt, v_isWriting])), (a_maps, .inl (gI G, 6, .inl fm)), (a_kinds, .inl (gI G, 4, .inl fk)), (a_part, .inl (gI G, 6, .inl fp)), (a_sums, .inl (gI G, 15625, .inl s2)), (a_toward, .inl (gI G, 15625, .inl t2))]) [0, 1, 2, 3, 4, 5] (by decide) rfl)
                  exact W.iret (v := (nI (sumN k (bK (fk j_p1)) p0 (maN fm) 6 fo))) hx hb hr (fun t9_ ht9_ hW9_ => ⟨⟨nI (sumN k (bK (fk j_p1)) p0 (maN fm) 6 fo), (s2, t2), rfl, by rw [hF4]; exact (lsF_2 hF5 c21).trans (lsA_4 hj_p1 ej_p1 b8 (are_of.mpr b12)), by rw [ht9_]; exact hP9, hD9⟩, hS.F ht9_⟩) hS.2.2 dX10_lost_240
              · have c20 : ¬ (sumN k (bK (fk j_p1)) p0 (maN fm) 6 fo) < 1000 := fun h9_ => c20 ((nI_ltI (a := (sumN k (bK (fk j_p1)) p0 (maN fm) 6 fo)) (b := 1000) (by omega) (by omega)).mpr h9_)
                refine lv_bipush (v := (-6)) hx hb dX10_lost_199 (by decide) ?_
                have hP9 := (hP.sub (ws' := [(h1, .inr (6, [.int (nI k), .ref a_maps, .int told, .ref a_kinds, v_land, v_spades, .ref a_part, v_pad, v_padMany, v_slips, v_slipMany, v_made, v_queue, v_depth, v_by, v_from, v_come, v_offOf, v_parent, v_best, v_trees, v_least, .ref a_sums, .ref a_toward, v_kept, v_isKept, v_keptAt, v_isWriting])), (a_maps, .inl (gI G, 6, .inl fm)), (a_kinds, .inl (gI G, 4, .inl fk)), (a_part, .inl (gI G, 6, .inl fp)), (a_sums, .inl (gI G, 15625, .inl s2)), (a_toward, .inl (gI G, 15625, .inl t2))]) [0, 1, 2, 3, 4, 5] rfl)
                have hD9 := (hD.sub (ws' := [(h1, .inr (6, [.int (nI k), .ref a_maps, .int told, .ref a_kinds, v_land, v_spades, .ref a_part, v_pad, v_padMany, v_slips, v_slipMany, v_made, v_queue, v_depth, v_by, v_from, v_come, v_offOf, v_parent, v_best, v_trees, v_least, .ref a_sums, .ref a_toward, v_kept, v_isKept, v_keptAt, v_isWriting])), (a_maps, .inl (gI G, 6, .inl fm)), (a_kinds, .inl (gI G, 4, .inl fk)), (a_part, .inl (gI G, 6, .inl fp)), (a_sums, .inl (gI G, 15625, .inl s2)), (a_toward, .inl (gI G, 15625, .inl t2))]) [0, 1, 2, 3, 4, 5] (by decide) rfl)
                exact W.iret (v := (-6)) hx hb hr (fun t9_ ht9_ hW9_ => ⟨⟨(-6), (s2, t2), rfl, (lsF_1 (by rw [← hF4]; omega)).trans (lsA_4 hj_p1 ej_p1 b8 (are_of.mpr b12)), by rw [ht9_]; exact hP9, hD9⟩, hS.F ht9_⟩) hS.2.2 dX10_lost_201
            · have c18 : ¬ (5 ^ k) ≤ z := fun h9_ => c18 ((nI_leI (a := (5 ^ k)) (b := z) (by omega) (by omega)).mpr h9_)
              have hb8 : sumN k (bK (fk j_p1)) p0 (maN fm) 6 z ≤ 6000 := sumN_le hk6 (by omega) hmA (Nat.le_refl 6)
              have hb9 : sumN k (bK (fk j_p1)) p0 (maN fm) 6 fo ≤ 6000 := sumN_le hk6 hfo hmA (Nat.le_refl 6)
              refine lv_aload_n hx hb dX10_lost_154 rfl (lv_at hl 3 rfl) ?_
              refine va_get (D := G.1) (ci := 6) (v := .ref a_sums) (C := RX10) (T := TX10) (N := 28) hx hb hts (fun _ h => List.mem_cons_of_mem _ (List.mem_append_right _ h)) hown E.K hP 0 rfl rfl 22 (by decide) (hts (.fieldLink RX10 46 "LastMapModel" "sums" "[I") (by decide +kernel)) (fun _ h9 => h9) rfl dX10_lost_155 ?_
              refine lv_iload hx hb dX10_lost_158 (lv_at hl 0 rfl) ?_
              refine va_iald hx hb E.K hP 4 1 rfl rfl (i := nI z) (vp_in_nI (by omega) (by decide)) dX10_lost_160 ?_
              refine lv_topi (fun x32 ex32 => ?_)
              obtain rfl : x32 = nI (sumN k (bK (fk j_p1)) p0 (maN fm) 6 z) := by rw [ex32, nI_clamp (by omega)]; exact hs6 z (by omega)
              refine lv_aload_n hx hb dX10_lost_161 rfl (lv_at hl 3 rfl) ?_
              refine va_get (D := G.1) (ci := 6) (v := .ref a_sums) (C := RX10) (T := TX10) (N := 28) hx hb hts (fun _ h => List.mem_cons_of_mem _ (List.mem_append_right _ h)) hown E.K hP 0 rfl rfl 22 (by decide) (hts (.fieldLink RX10 46 "LastMapModel" "sums" "[I") (by decide +kernel)) (fun _ h9 => h9) rfl dX10_lost_162 ?_
              refine lv_iload hx hb dX10_lost_165 (lv_at hl 1 rfl) ?_
              refine va_iald hx hb E.K hP 4 1 rfl rfl (i := nI fo) (vp_in_nI (by omega) (by decide)) dX10_lost_167 ?_
              refine lv_topi (fun x33 ex33 => ?_)
              obtain rfl : x33 = nI (sumN k (bK (fk j_p1)) p0 (maN fm) 6 fo) := by rw [ex33, nI_clamp (by omega)]; exact hs6 fo (by omega)
              refine lv_icmp_ge (tgt := 176) hx hb dX10_lost_168 (by decide) (fun c34 => ?_) (fun c34 => ?_)
              · have c34 : (sumN k (bK (fk j_p1)) p0 (maN fm) 6 fo) ≤ (sumN k (bK (fk j_p1)) p0 (maN fm) 6 z) := (nI_leI (a := (sumN k (bK (fk j_p1)) p0 (maN fm) 6 fo)) (b := (sumN k (bK (fk j_p1)) p0 (maN fm) 6 z)) (by omega) (by omega)).mp c34
                refine lv_iload hx hb dX10_lost_176 (lv_at hl 1 rfl) ?_
                refine lv_istore (lv' := [(5, .int (nI fo)), (6, .int (nI z)), (4, .int (nI (5 ^ k))), (0, .ref h1), (1, .int p0), (2, .int (nI j_p1)), (3, .int p2)]) hx hb dX10_lost_178 hl (by decide) rfl (fun ls hl => ?_)
                obtain ⟨x35, ex35⟩ : ∃ yy_ : Int32, yy_ = (nI z) + 1 := ⟨_, rfl⟩
                refine lv_iinc (v := x35) (lv' := [(6, .int x35), (5, .int (nI fo)), (4, .int (nI (5 ^ k))), (0, .ref h1), (1, .int p0), (2, .int (nI j_p1)), (3, .int p2)]) hx hb dX10_lost_180 hl (k := 1) rfl (by rw [ex35]; rfl) (by decide) rfl (fun ls hl => ?_)
                obtain rfl : x35 = nI (z + 1) := by rw [ex35]; exact nI_add z 1
                refine lv_goto (tgt := 147) hx hb dX10_lost_183 (by decide) ?_
                refine ih147 ((z + 1), fo) ⟨?_, ?_, ?_⟩ (by first | omega | (dsimp only; omega)) H locs ls (hP.sub [0, 1, 2, 3, 4, 5] rfl) (hD.sub [0, 1, 2, 3, 4, 5] (by decide) rfl) hS (lv_sub hl [0, 1, 2, 3, 4, 5, 6] rfl)
                · try dsimp only
                  omega
                · try dsimp only
                  omega
                · try dsimp only
                  rw [amN_f (by rw [← ham]; omega)]; exact ham
              · have c34 : ¬ (sumN k (bK (fk j_p1)) p0 (maN fm) 6 fo) ≤ (sumN k (bK (fk j_p1)) p0 (maN fm) 6 z) := fun h9_ => c34 ((nI_leI (a := (sumN k (bK (fk j_p1)) p0 (maN fm) 6 fo)) (b := (sumN k (bK (fk j_p1)) p0 (maN fm) 6 z)) (by omega) (by omega)).mpr h9_)
                refine lv_iload hx hb dX10_lost_171 (lv_at hl 0 rfl) ?_
                refine lv_goto (tgt := 178) hx hb dX10_lost_173 (by decide) ?_
                refine lv_istore (lv' := [(5, .int (nI z)), (6, .int (nI z)), (4, .int (nI (5 ^ k))), (0, .ref h1), (1, .int p0), (2, .int (nI j_p1)), (3, .int p2)]) hx hb dX10_lost_178 hl (by decide) rfl (fun ls hl => ?_)
                obtain ⟨x36, ex36⟩ : ∃ yy_ : Int32, yy_ = (nI z) + 1 := ⟨_, rfl⟩
                refine lv_iinc (v := x36) (lv' := [(6, .int x36), (5, .int (nI z)), (4, .int (nI (5 ^ k))), (0, .ref h1), (1, .int p0), (2, .int (nI j_p1)), (3, .int p2)]) hx hb dX10_lost_180 hl (k := 1) rfl (by rw [ex36]; rfl) (by decide) rfl (fun ls hl => ?_)
                obtain rfl : x36 = nI (z + 1) := by rw [ex36]; exact nI_add z 1
                refine lv_goto (tgt := 147) hx hb dX10_lost_183 (by decide) ?_
                refine ih147 ((z + 1), z) ⟨?_, ?_, ?_⟩ (by first | omega | (dsimp only; omega)) H locs ls (hP.sub [0, 1, 2, 3, 4, 5] rfl) (hD.sub [0, 1, 2, 3, 4, 5] (by decide) rfl) hS (lv_sub hl [0, 1, 2, 3, 4, 5, 6] rfl)
                · try dsimp only
                  omega
                · try dsimp only
                  omega
                · try dsimp only
                  exact (amN_t (by rw [← ham]; omega)).symm
          · have c17 : ¬ 6 ≤ x2 := fun h9_ => c17 ((nI_leI (a := 6) (b := x2) (by omega) (by omega)).mpr h9_)
            refine lv_iload_n hx hb dX10_lost_75 rfl (lv_at hl 3 rfl) ?_
            refine lv_iload hx hb dX10_lost_76 (lv_at hl 0 rfl) ?_
            refine lv_ishr hx hb dX10_lost_78 ?_
            refine lv_topi (fun x37 ex37 => ?_)
            refine lv_iconst (v := 1) hx hb dX10_lost_79 (by decide) ?_
            refine lv_iand hx hb dX10_lost_80 ?_
            refine lv_topi (fun x38 ex38 => ?_)
            refine lv_iconst (v := 1) hx hb dX10_lost_81 (by decide) ?_
            refine lv_icmp_ne (tgt := 135) hx hb dX10_lost_82 (by decide) (fun c39 => ?_) (fun c39 => ?_)
            · have hntd : ¬ tdP p0 (nI x2) := by unfold tdP; rw [← ex37, ← ex38]; exact c39
              obtain ⟨x40, ex40⟩ : ∃ yy_ : Int32, yy_ = (nI x2) + 1 := ⟨_, rfl⟩
              refine lv_iinc (v := x40) (lv' := [(5, .int x40), (4, .int (nI (5 ^ k))), (0, .ref h1), (1, .int p0), (2, .int (nI j_p1)), (3, .int p2)]) hx hb dX10_lost_135 hl (k := 0) rfl (by rw [ex40]; rfl) (by decide) rfl (fun ls hl => ?_)
              obtain rfl : x40 = nI (x2 + 1) := by rw [ex40]; exact nI_add x2 1
              refine lv_goto (tgt := 68) hx hb dX10_lost_138 (by decide) ?_
              refine ih68 ((x2 + 1), s2, t2) ⟨?_, ?_⟩ (by first | omega | (dsimp only; omega)) H locs ls (hP.sub [0, 1, 2, 3, 4, 5] rfl) (hD.sub [0, 1, 2, 3, 4, 5] (by decide) rfl) hS (lv_sub hl [0, 1, 2, 3, 4, 5] rfl)
              · try dsimp only
                omega
              · try dsimp only
                intro j9 h9; rw [sumN_f hntd]; exact hs2 j9 h9
            · have htd : tdP p0 (nI x2) := by unfold tdP; rw [← ex37, ← ex38]; exact c39
              refine lv_aload_n hx hb dX10_lost_85 rfl (lv_at hl 2 rfl) ?_
              refine lv_aload_n hx hb dX10_lost_86 rfl (lv_at hl 2 rfl) ?_
              refine va_get (D := G.1) (ci := 6) (v := .ref a_maps) (C := RX10) (T := TX10) (N := 28) hx hb hts (fun _ h => List.mem_cons_of_mem _ (List.mem_append_right _ h)) hown E.K hP 0 rfl rfl 1 (by decide) (hts (.fieldLink RX10 7 "LastMapModel" "maps" "[I") (by decide +kernel)) (fun _ h9 => h9) rfl dX10_lost_87 ?_
              refine lv_iload hx hb dX10_lost_90 (lv_at hl 0 rfl) ?_
              refine va_iald hx hb E.K hP 1 1 rfl rfl (i := nI x2) (vp_in_nI (by omega) (by decide)) dX10_lost_92 ?_
              refine lv_topi (fun x41 ex41 => ?_)
              have hmj := maN_ok hk6 hfm (show x2 < 6 by omega)
              obtain rfl : x41 = nI (maN fm x2) := by rw [ex41, nI_clamp (by omega)]; exact hmj.2
              refine lv_aload_n hx hb dX10_lost_93 rfl (lv_at hl 2 rfl) ?_
              refine va_get (D := G.1) (ci := 6) (v := .ref a_kinds) (C := RX10) (T := TX10) (N := 28) hx hb hts (fun _ h => List.mem_cons_of_mem _ (List.mem_append_right _ h)) hown E.K hP 0 rfl rfl 3 (by decide) (hts (.fieldLink RX10 13 "LastMapModel" "kinds" "[I") (by decide +kernel)) (fun _ h9 => h9) rfl dX10_lost_94 ?_
              refine lv_iload_n hx hb dX10_lost_97 rfl (lv_at hl 4 rfl) ?_
              refine va_iald hx hb E.K hP 2 1 rfl rfl (i := nI j_p1) (vp_in_nI (by omega) (by decide)) dX10_lost_98 ?_
              refine lv_topi (fun x42 ex42 => ?_)
              obtain rfl : x42 = fk j_p1 := by rw [ex42, nI_clamp (by omega)]
              refine ca_v (wr := [(a_maps, .inl (gI G, 6, .inl fm)), (a_kinds, .inl (gI G, 4, .inl fk)), (a_sums, .inl (gI G, 15625, .inl s2))]) (va_runV (As := [.int (nI (maN fm x2)), .int (fk j_p1)]) (rest := []) ⟨hx, hb, hml, hown, hts⟩ (m3_findToward l G H.size h1 (.ref a_maps) (.int told) (.ref a_kinds) v_land v_spades v_pad v_padMany v_slips v_slipMany v_made v_queue v_depth v_by v_from v_come v_offOf v_parent v_best v_trees v_least (.ref a_sums) v_kept v_isKept v_keptAt v_isWriting a_part fp a_toward t2 k (maN fm x2) (fk j_p1) hk2 hk6 hp hmj.1) (cwV 2 hts gX10_lost_X10_findToward rfl rfl rfl (by decide +kernel) ⟨by decide +kernel, by decide +kernel⟩) (pre_V E hP hD hS hA [0, 3, 5] (by decide) rfl 0 6 rfl rfl) rfl rfl hl.1 rfl (lv_room (Nat.le_of_ble_eq_true rfl)) dX10_lost_99 ⟨by decide +kernel, by decide +kernel⟩) hS hP hD hA [0, 3, 5] [1, 2, 4] rfl rfl (by decide) (by decide) (fun u45 H locs w43 hP hD hS => ?_)
              obtain ⟨gt__46, rfl⟩ : ∃ z, z = u45 := ⟨_, rfl⟩
              try dsimp only at w43 hP hD
              have hP := (hP.sub (ws' := [(h1, .inr (6, [.int (nI k), .ref a_maps, .int told, .ref a_kinds, v_land, v_spades, .ref a_part, v_pad, v_padMany, v_slips, v_slipMany, v_made, v_queue, v_depth, v_by, v_from, v_come, v_offOf, v_parent, v_best, v_trees, v_least, .ref a_sums, .ref a_toward, v_kept, v_isKept, v_keptAt, v_isWriting])), (a_maps, .inl (gI G, 6, .inl fm)), (a_kinds, .inl (gI G, 4, .inl fk)), (a_part, .inl (gI G, 6, .inl fp)), (a_sums, .inl (gI G, 15625, .inl s2)), (a_toward, .inl (gI G, 15625, .inl gt__46))]) [3, 0, 1, 4, 2, 5] rfl)
              have hD := (hD.sub (ws' := [(h1, .inr (6, [.int (nI k), .ref a_maps, .int told, .ref a_kinds, v_land, v_spades, .ref a_part, v_pad, v_padMany, v_slips, v_slipMany, v_made, v_queue, v_depth, v_by, v_from, v_come, v_offOf, v_parent, v_best, v_trees, v_least, .ref a_sums, .ref a_toward, v_kept, v_isKept, v_keptAt, v_isWriting])), (a_maps, .inl (gI G, 6, .inl fm)), (a_kinds, .inl (gI G, 4, .inl fk)), (a_part, .inl (gI G, 6, .inl fp)), (a_sums, .inl (gI G, 15625, .inl s2)), (a_toward, .inl (gI G, 15625, .inl gt__46))]) [3, 0, 1, 4, 2, 5] (by decide) rfl)
              refine lv_iconst (v := 0) hx hb dX10_lost_102 (by decide) ?_
              refine lv_istore (lv' := [(6, .int 0), (5, .int (nI x2)), (4, .int (nI (5 ^ k))), (0, .ref h1), (1, .int p0), (2, .int (nI j_p1)), (3, .int p2)]) hx hb dX10_lost_103 hl (by decide) rfl (fun ls hl => ?_)
              refine lp_run (x0 := (0, s2)) (fun xx_ : Nat × (Nat → Int32) => match xx_ with | (y, s3) => [(h1, .inr (6, [.int (nI k), .ref a_maps, .int told, .ref a_kinds, v_land, v_spades, .ref a_part, v_pad, v_padMany, v_slips, v_slipMany, v_made, v_queue, v_depth, v_by, v_from, v_come, v_offOf, v_parent, v_best, v_trees, v_least, .ref a_sums, .ref a_toward, v_kept, v_isKept, v_keptAt, v_isWriting])), (a_maps, .inl (gI G, 6, .inl fm)), (a_kinds, .inl (gI G, 4, .inl fk)), (a_part, .inl (gI G, 6, .inl fp)), (a_sums, .inl (gI G, 15625, .inl s3)), (a_toward, .inl (gI G, 15625, .inl gt__46))]) (fun xx_ : Nat × (Nat → Int32) => match xx_ with | (y, s3) => [(6, .int (nI y)), (5, .int (nI x2)), (4, .int (nI (5 ^ k))), (0, .ref h1), (1, .int p0), (2, .int (nI j_p1)), (3, .int p2)]) (fun xx_ : Nat × (Nat → Int32) => match xx_ with | (y, s3) => (y ≤ 5 ^ k) ∧ (∀ j : Nat, j < y → s3 j = nI (sumN k (bK (fk j_p1)) p0 (maN fm) x2 j + twN k (bK (fk j_p1)) (maN fm x2) j)) ∧ (∀ j : Nat, y ≤ j → j < 5 ^ k → s3 j = nI (sumN k (bK (fk j_p1)) p0 (maN fm) x2 j))) (fun xx_ : Nat × (Nat → Int32) => match xx_ with | (y, s3) => (5 ^ k) - y) (hP.sub [0, 1, 2, 3, 4, 5] rfl) (hD.sub [0, 1, 2, 3, 4, 5] (by decide) rfl) hS (lv_sub hl [0, 1, 2, 3, 4, 5, 6] rfl) ⟨(by omega), by intro j9 h9; omega, fun j9 _ h9 => hs2 j9 h9⟩ ?_
              intro xx_ hI ih105 H locs ls hP hD hS hl
              obtain ⟨y, s3⟩ := xx_
              dsimp only at hI ih105 hP hD hl
              obtain ⟨hy0, hlo, hhi⟩ := hI
              have hl : lv_has ls 7 [(6, .int (nI y)), (5, .int (nI x2)), (4, .int (nI (5 ^ k))), (0, .ref h1), (1, .int p0), (2, .int (nI j_p1)), (3, .int p2)] := hl
              have hP : va_P G.1 vwCl ([(h1, .inr (6, [.int (nI k), .ref a_maps, .int told, .ref a_kinds, v_land, v_spades, .ref a_part, v_pad, v_padMany, v_slips, v_slipMany, v_made, v_queue, v_depth, v_by, v_from, v_come, v_offOf, v_parent, v_best, v_trees, v_least, .ref a_sums, .ref a_toward, v_kept, v_isKept, v_keptAt, v_isWriting])), (a_maps, .inl (gI G, 6, .inl fm)), (a_kinds, .inl (gI G, 4, .inl fk)), (a_part, .inl (gI G, 6, .inl fp)), (a_sums, .inl (gI G, 15625, .inl s3)), (a_toward, .inl (gI G, 15625, .inl gt__46))]) H := hP
              have hD : va_D A ([(h1, .inr (6, [.int (nI k), .ref a_maps, .int told, .ref a_kinds, v_land, v_spades, .ref a_part, v_pad, v_padMany, v_slips, v_slipMany, v_made, v_queue, v_depth, v_by, v_from, v_come, v_offOf, v_parent, v_best, v_trees, v_least, .ref a_sums, .ref a_toward, v_kept, v_isKept, v_keptAt, v_isWriting])), (a_maps, .inl (gI G, 6, .inl fm)), (a_kinds, .inl (gI G, 4, .inl fk)), (a_part, .inl (gI G, 6, .inl fp)), (a_sums, .inl (gI G, 15625, .inl s3)), (a_toward, .inl (gI G, 15625, .inl gt__46))]) := hD
              refine lv_iload hx hb dX10_lost_105 (lv_at hl 0 rfl) ?_
              refine lv_iload hx hb dX10_lost_107 (lv_at hl 2 rfl) ?_
              refine lv_icmp_ge (tgt := 135) hx hb dX10_lost_109 (by decide) (fun c47 => ?_) (fun c47 => ?_)
              · have c47 : (5 ^ k) ≤ y := (nI_leI (a := (5 ^ k)) (b := y) (by omega) (by omega)).mp c47
                obtain ⟨x48, ex48⟩ : ∃ yy_ : Int32, yy_ = (nI x2) + 1 := ⟨_, rfl⟩
                refine lv_iinc (v := x48) (lv' := [(5, .int x48), (6, .int (nI y)), (4, .int (nI (5 ^ k))), (0, .ref h1), (1, .int p0), (2, .int (nI j_p1)), (3, .int p2)]) hx hb dX10_lost_135 hl (k := 1) rfl (by rw [ex48]; rfl) (by decide) rfl (fun ls hl => ?_)
                obtain rfl : x48 = nI (x2 + 1) := by rw [ex48]; exact nI_add x2 1
                refine lv_goto (tgt := 68) hx hb dX10_lost_138 (by decide) ?_
                refine ih68 ((x2 + 1), s3, gt__46) ⟨?_, ?_⟩ (by first | omega | (dsimp only; omega)) H locs ls (hP.sub [0, 1, 2, 3, 4, 5] rfl) (hD.sub [0, 1, 2, 3, 4, 5] (by decide) rfl) hS (lv_sub hl [0, 2, 3, 4, 5, 6] rfl)
                · try dsimp only
                  omega
                · try dsimp only
                  intro j9 h9; rw [sumN_t htd]; exact hlo j9 (by omega)
              · have c47 : ¬ (5 ^ k) ≤ y := fun h9_ => c47 ((nI_leI (a := (5 ^ k)) (b := y) (by omega) (by omega)).mpr h9_)
                refine lv_aload_n hx hb dX10_lost_112 rfl (lv_at hl 3 rfl) ?_
                refine va_get (D := G.1) (ci := 6) (v := .ref a_sums) (C := RX10) (T := TX10) (N := 28) hx hb hts (fun _ h => List.mem_cons_of_mem _ (List.mem_append_right _ h)) hown E.K hP 0 rfl rfl 22 (by decide) (hts (.fieldLink RX10 46 "LastMapModel" "sums" "[I") (by decide +kernel)) (fun _ h9 => h9) rfl dX10_lost_113 ?_
                refine lv_iload hx hb dX10_lost_116 (lv_at hl 0 rfl) ?_
                refine lv_dup2_11 hx hb dX10_lost_118 rfl rfl ?_
                refine va_iald hx hb E.K hP 4 1 rfl rfl (i := nI y) (vp_in_nI (by omega) (by decide)) dX10_lost_119 ?_
                refine lv_topi (fun x49 ex49 => ?_)
                obtain rfl : x49 = nI (sumN k (bK (fk j_p1)) p0 (maN fm) x2 y) := by rw [ex49, nI_clamp (by omega)]; exact hhi y (Nat.le_refl _) (by omega)
                refine lv_aload_n hx hb dX10_lost_120 rfl (lv_at hl 3 rfl) ?_
                refine va_get (D := G.1) (ci := 6) (v := .ref a_toward) (C := RX10) (T := TX10) (N := 28) hx hb hts (fun _ h => List.mem_cons_of_mem _ (List.mem_append_right _ h)) hown E.K hP 0 rfl rfl 23 (by decide) (hts (.fieldLink RX10 49 "LastMapModel" "toward" "[I") (by decide +kernel)) (fun _ h9 => h9) rfl dX10_lost_121 ?_
                refine lv_iload hx hb dX10_lost_124 (lv_at hl 0 rfl) ?_
                refine va_iald hx hb E.K hP 5 1 rfl rfl (i := nI y) (vp_in_nI (by omega) (by decide)) dX10_lost_126 ?_
                refine lv_topi (fun x50 ex50 => ?_)
                obtain rfl : x50 = nI (twN k (bK (fk j_p1)) (maN fm x2) y) := by rw [ex50, nI_clamp (by omega)]; exact w43 y (by omega)
                refine lv_iadd hx hb dX10_lost_127 ?_
                refine lv_topi (fun x51 ex51 => ?_)
                obtain rfl : x51 = nI ((sumN k (bK (fk j_p1)) p0 (maN fm) x2 y) + (twN k (bK (fk j_p1)) (maN fm x2) y)) := by rw [ex51]; exact nI_add (sumN k (bK (fk j_p1)) p0 (maN fm) x2 y) (twN k (bK (fk j_p1)) (maN fm x2) y)
                refine va_iast hx hb E.K hP hD hS 4 1 rfl rfl (i := nI y) (vp_in_nI (by omega) (by decide)) dX10_lost_128 (fun H locs hP hD hS => ?_)
                obtain ⟨f52, ef52⟩ : ∃ yy_ : Nat → Int32, yy_ = upd s3 (nI y).toNatClampNeg (nI ((sumN k (bK (fk j_p1)) p0 (maN fm) x2 y) + (twN k (bK (fk j_p1)) (maN fm x2) y))) := ⟨_, rfl⟩
                have hP : va_P G.1 vwCl ([(h1, .inr (6, [.int (nI k), .ref a_maps, .int told, .ref a_kinds, v_land, v_spades, .ref a_part, v_pad, v_padMany, v_slips, v_slipMany, v_made, v_queue, v_depth, v_by, v_from, v_come, v_offOf, v_parent, v_best, v_trees, v_least, .ref a_sums, .ref a_toward, v_kept, v_isKept, v_keptAt, v_isWriting])), (a_maps, .inl (gI G, 6, .inl fm)), (a_kinds, .inl (gI G, 4, .inl fk)), (a_part, .inl (gI G, 6, .inl fp)), (a_sums, .inl (gI G, 15625, .inl f52)), (a_toward, .inl (gI G, 15625, .inl gt__46))]) H := by rw [ef52]; exact hP
                have hD : va_D A ([(h1, .inr (6, [.int (nI k), .ref a_maps, .int told, .ref a_kinds, v_land, v_spades, .ref a_part, v_pad, v_padMany, v_slips, v_slipMany, v_made, v_queue, v_depth, v_by, v_from, v_come, v_offOf, v_parent, v_best, v_trees, v_least, .ref a_sums, .ref a_toward, v_kept, v_isKept, v_keptAt, v_isWriting])), (a_maps, .inl (gI G, 6, .inl fm)), (a_kinds, .inl (gI G, 4, .inl fk)), (a_part, .inl (gI G, 6, .inl fp)), (a_sums, .inl (gI G, 15625, .inl f52)), (a_toward, .inl (gI G, 15625, .inl gt__46))]) := by rw [ef52]; exact hD
                obtain ⟨x53, ex53⟩ : ∃ yy_ : Int32, yy_ = (nI y) + 1 := ⟨_, rfl⟩
                refine lv_iinc (v := x53) (lv' := [(6, .int x53), (5, .int (nI x2)), (4, .int (nI (5 ^ k))), (0, .ref h1), (1, .int p0), (2, .int (nI j_p1)), (3, .int p2)]) hx hb dX10_lost_129 hl (k := 0) rfl (by rw [ex53]; rfl) (by decide) rfl (fun ls hl => ?_)
                obtain rfl : x53 = nI (y + 1) := by rw [ex53]; exact nI_add y 1
                refine lv_goto (tgt := 105) hx hb dX10_lost_132 (by decide) ?_
                refine ih105 ((y + 1), f52) ⟨?_, ?_, ?_⟩ (by first | omega | (dsimp only; omega)) H locs ls (hP.sub [0, 1, 2, 3, 4, 5] rfl) (hD.sub [0, 1, 2, 3, 4, 5] (by decide) rfl) hS (lv_sub hl [0, 1, 2, 3, 4, 5, 6] rfl)
                · try dsimp only
                  omega
                · try dsimp only
                  intro j9 h9; rw [ef52, nI_clamp (by omega)]
                  by_cases e9 : j9 = y
                  · rw [e9, pk_us]
                  · rw [pk_un e9]; exact hlo j9 (by omega)
                · try dsimp only
                  intro j9 h9 h8; rw [ef52, nI_clamp (by omega), pk_un (by omega)]; exact hhi j9 (by omega) h8
        · have c16 : ¬ (5 ^ k) ≤ x := fun h9_ => c16 ((nI_leI (a := (5 ^ k)) (b := x) (by omega) (by omega)).mpr h9_)
          refine lv_aload_n hx hb dX10_lost_51 rfl (lv_at hl 2 rfl) ?_
          refine va_get (D := G.1) (ci := 6) (v := .ref a_sums) (C := RX10) (T := TX10) (N := 28) hx hb hts (fun _ h => List.mem_cons_of_mem _ (List.mem_append_right _ h)) hown E.K hP 0 rfl rfl 22 (by decide) (hts (.fieldLink RX10 46 "LastMapModel" "sums" "[I") (by decide +kernel)) (fun _ h9 => h9) rfl dX10_lost_52 ?_
          refine lv_iload hx hb dX10_lost_55 (lv_at hl 0 rfl) ?_
          refine lv_iconst (v := 0) hx hb dX10_lost_57 (by decide) ?_
          refine va_iast hx hb E.K hP hD hS 4 1 rfl rfl (i := nI x) (vp_in_nI (by omega) (by decide)) dX10_lost_58 (fun H locs hP hD hS => ?_)
          obtain ⟨f54, ef54⟩ : ∃ yy_ : Nat → Int32, yy_ = upd s1 (nI x).toNatClampNeg 0 := ⟨_, rfl⟩
          have hP : va_P G.1 vwCl ([(h1, .inr (6, [.int (nI k), .ref a_maps, .int told, .ref a_kinds, v_land, v_spades, .ref a_part, v_pad, v_padMany, v_slips, v_slipMany, v_made, v_queue, v_depth, v_by, v_from, v_come, v_offOf, v_parent, v_best, v_trees, v_least, .ref a_sums, .ref a_toward, v_kept, v_isKept, v_keptAt, v_isWriting])), (a_maps, .inl (gI G, 6, .inl fm)), (a_kinds, .inl (gI G, 4, .inl fk)), (a_part, .inl (gI G, 6, .inl fp)), (a_sums, .inl (gI G, 15625, .inl f54)), (a_toward, .inl (gI G, 15625, .inl ft))]) H := by rw [ef54]; exact hP
          have hD : va_D A ([(h1, .inr (6, [.int (nI k), .ref a_maps, .int told, .ref a_kinds, v_land, v_spades, .ref a_part, v_pad, v_padMany, v_slips, v_slipMany, v_made, v_queue, v_depth, v_by, v_from, v_come, v_offOf, v_parent, v_best, v_trees, v_least, .ref a_sums, .ref a_toward, v_kept, v_isKept, v_keptAt, v_isWriting])), (a_maps, .inl (gI G, 6, .inl fm)), (a_kinds, .inl (gI G, 4, .inl fk)), (a_part, .inl (gI G, 6, .inl fp)), (a_sums, .inl (gI G, 15625, .inl f54)), (a_toward, .inl (gI G, 15625, .inl ft))]) := by rw [ef54]; exact hD
          obtain ⟨x55, ex55⟩ : ∃ yy_ : Int32, yy_ = (nI x) + 1 := ⟨_, rfl⟩
          refine lv_iinc (v := x55) (lv' := [(5, .int x55), (4, .int (nI (5 ^ k))), (0, .ref h1), (1, .int p0), (2, .int (nI j_p1)), (3, .int p2)]) hx hb dX10_lost_59 hl (k := 0) rfl (by rw [ex55]; rfl) (by decide) rfl (fun ls hl => ?_)
          obtain rfl : x55 = nI (x + 1) := by rw [ex55]; exact nI_add x 1
          refine lv_goto (tgt := 44) hx hb dX10_lost_62 (by decide) ?_
          refine ih44 ((x + 1), f54) ⟨?_, ?_⟩ (by first | omega | (dsimp only; omega)) H locs ls (hP.sub [0, 1, 2, 3, 4, 5] rfl) (hD.sub [0, 1, 2, 3, 4, 5] (by decide) rfl) hS (lv_sub hl [0, 1, 2, 3, 4, 5] rfl)
          · try dsimp only
            omega
          · try dsimp only
            intro j9 h9; rw [ef54, nI_clamp (by omega)]
            by_cases e9 : j9 = x
            · rw [e9, pk_us]
            · rw [pk_un e9]; exact hs1 j9 (by omega)
      · refine lv_if_ne (tgt := 35) hx hb dX10_lost_29 (by decide) (fun c56 => False.elim (by revert c56; decide)) (fun _ => ?_)
        refine lv_bipush (v := (-3)) hx hb dX10_lost_32 (by decide) ?_
        have hP9 := (hP.sub (ws' := [(h1, .inr (6, [.int (nI k), .ref a_maps, .int told, .ref a_kinds, v_land, v_spades, .ref a_part, v_pad, v_padMany, v_slips, v_slipMany, v_made, v_queue, v_depth, v_by, v_from, v_come, v_offOf, v_parent, v_best, v_trees, v_least, .ref a_sums, .ref a_toward, v_kept, v_isKept, v_keptAt, v_isWriting])), (a_maps, .inl (gI G, 6, .inl fm)), (a_kinds, .inl (gI G, 4, .inl fk)), (a_part, .inl (gI G, 6, .inl fp)), (a_sums, .inl (gI G, 15625, .inl fs)), (a_toward, .inl (gI G, 15625, .inl ft))]) [0, 1, 2, 3, 4, 5] rfl)
        have hD9 := (hD.sub (ws' := [(h1, .inr (6, [.int (nI k), .ref a_maps, .int told, .ref a_kinds, v_land, v_spades, .ref a_part, v_pad, v_padMany, v_slips, v_slipMany, v_made, v_queue, v_depth, v_by, v_from, v_come, v_offOf, v_parent, v_best, v_trees, v_least, .ref a_sums, .ref a_toward, v_kept, v_isKept, v_keptAt, v_isWriting])), (a_maps, .inl (gI G, 6, .inl fm)), (a_kinds, .inl (gI G, 4, .inl fk)), (a_part, .inl (gI G, 6, .inl fp)), (a_sums, .inl (gI G, 15625, .inl fs)), (a_toward, .inl (gI G, 15625, .inl ft))]) [0, 1, 2, 3, 4, 5] (by decide) rfl)
        exact W.iret (v := (-3)) hx hb hr (fun t9_ ht9_ hW9_ => ⟨⟨(-3), (fs, ft), rfl, lsA_3 b3 b8 (fun q9 => b12 (are_of.mp q9)), by rw [ht9_]; exact hP9, hD9⟩, hS.F ht9_⟩) hS.2.2 dX10_lost_34
    · refine lv_if_ne (tgt := 24) hx hb dX10_lost_18 (by decide) (fun c57 => False.elim (by revert c57; decide)) (fun _ => ?_)
      refine lv_bipush (v := (-2)) hx hb dX10_lost_21 (by decide) ?_
      have hP9 := (hP.sub (ws' := [(h1, .inr (6, [.int (nI k), .ref a_maps, .int told, .ref a_kinds, v_land, v_spades, .ref a_part, v_pad, v_padMany, v_slips, v_slipMany, v_made, v_queue, v_depth, v_by, v_from, v_come, v_offOf, v_parent, v_best, v_trees, v_least, .ref a_sums, .ref a_toward, v_kept, v_isKept, v_keptAt, v_isWriting])), (a_maps, .inl (gI G, 6, .inl fm)), (a_kinds, .inl (gI G, 4, .inl fk)), (a_part, .inl (gI G, 6, .inl fp)), (a_sums, .inl (gI G, 15625, .inl fs)), (a_toward, .inl (gI G, 15625, .inl ft))]) [0, 1, 2, 3, 4, 5] rfl)
      have hD9 := (hD.sub (ws' := [(h1, .inr (6, [.int (nI k), .ref a_maps, .int told, .ref a_kinds, v_land, v_spades, .ref a_part, v_pad, v_padMany, v_slips, v_slipMany, v_made, v_queue, v_depth, v_by, v_from, v_come, v_offOf, v_parent, v_best, v_trees, v_least, .ref a_sums, .ref a_toward, v_kept, v_isKept, v_keptAt, v_isWriting])), (a_maps, .inl (gI G, 6, .inl fm)), (a_kinds, .inl (gI G, 4, .inl fk)), (a_part, .inl (gI G, 6, .inl fp)), (a_sums, .inl (gI G, 15625, .inl fs)), (a_toward, .inl (gI G, 15625, .inl ft))]) [0, 1, 2, 3, 4, 5] (by decide) rfl)
      exact W.iret (v := (-2)) hx hb hr (fun t9_ ht9_ hW9_ => ⟨⟨(-2), (fs, ft), rfl, lsA_2 b3 b8, by rw [ht9_]; exact hP9, hD9⟩, hS.F ht9_⟩) hS.2.2 dX10_lost_23
  · refine lv_if_ne (tgt := 9) hx hb dX10_lost_4 (by decide) (fun c58 => False.elim (by revert c58; decide)) (fun _ => ?_)
    refine lv_iconst (v := (-1)) hx hb dX10_lost_7 (by decide) ?_
    have hP9 := (hP.sub (ws' := [(h1, .inr (6, [.int (nI k), .ref a_maps, .int told, .ref a_kinds, v_land, v_spades, .ref a_part, v_pad, v_padMany, v_slips, v_slipMany, v_made, v_queue, v_depth, v_by, v_from, v_come, v_offOf, v_parent, v_best, v_trees, v_least, .ref a_sums, .ref a_toward, v_kept, v_isKept, v_keptAt, v_isWriting])), (a_maps, .inl (gI G, 6, .inl fm)), (a_kinds, .inl (gI G, 4, .inl fk)), (a_part, .inl (gI G, 6, .inl fp)), (a_sums, .inl (gI G, 15625, .inl fs)), (a_toward, .inl (gI G, 15625, .inl ft))]) [0, 1, 2, 3, 4, 5] rfl)
    have hD9 := (hD.sub (ws' := [(h1, .inr (6, [.int (nI k), .ref a_maps, .int told, .ref a_kinds, v_land, v_spades, .ref a_part, v_pad, v_padMany, v_slips, v_slipMany, v_made, v_queue, v_depth, v_by, v_from, v_come, v_offOf, v_parent, v_best, v_trees, v_least, .ref a_sums, .ref a_toward, v_kept, v_isKept, v_keptAt, v_isWriting])), (a_maps, .inl (gI G, 6, .inl fm)), (a_kinds, .inl (gI G, 4, .inl fk)), (a_part, .inl (gI G, 6, .inl fp)), (a_sums, .inl (gI G, 15625, .inl fs)), (a_toward, .inl (gI G, 15625, .inl ft))]) [0, 1, 2, 3, 4, 5] (by decide) rfl)
    exact W.iret (v := (-1)) hx hb hr (fun t9_ ht9_ hW9_ => ⟨⟨(-1), (fs, ft), rfl, lsA_1 b3, by rw [ht9_]; exact hP9, hD9⟩, hS.F ht9_⟩) hS.2.2 dX10_lost_8
