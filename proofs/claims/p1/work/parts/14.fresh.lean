set_option maxHeartbeats 1000000 in
set_option maxRecDepth 100000 in
theorem c_LastMap (l : Launch) (G : Gy) (sz : Nat) (h0 : Nat)  : Cv l G yX9_init wsX9_init ({ frames := 2, cells := 7, slots := 71, locals := 32 }) [.ref h0] [(h0, .inr (5, [.null, .null, .null, .null, .null]))] sz (fun (u : Nat × Nat × Nat × Nat × Nat × Nat × Nat × (Nat → Int32)) => match u with | (pad, pp, im, sg, sl, ac, ak, fk) => ∀ j : Nat, j < 4 → fk j = 15) (fun (u : Nat × Nat × Nat × Nat × Nat × Nat × Nat × (Nat → Int32)) => match u with | (pad, pp, im, sg, sl, ac, ak, fk) => [(h0, .inr (5, [.ref pad, .ref pp, .ref im, .null, .null])), (im, .inl (gP G, 2, .inr (.inr (.inr (.inr (fun _ => none)))))), (pad, .inr (0, [.ref sg, .ref sl, .int 0])), (sg, .inl (gI G, 40, .inl (fun _ => 0))), (sl, .inl (gI G, 10, .inl (fun _ => 0))), (pp, .inr (1, [.int 6, .int 0, .int 1, .int 0, .ref ac, .ref ak])), (ac, .inl (gI G, 6, .inl (fun _ => 0))), (ak, .inl (gI G, 4, .inl fk))]) 7 71 := by
  refine Met.ofW (cc := cX9_init) (maxL := 1) (ret := none) (by decide) rfl ?_
  intro p e s m args below meth c s₁ B hml hv
  obtain ⟨rfl, hsz, hP, hD0, E0⟩ := hv
  have hx := B.exec
  have hb := B.bytes
  have hr := B.returns
  have hts := atoms_spec (ws := wsX9_init) B.pre
  have hown : s.vm.findClass RX9 = some m.cls := findClass_of_methodNamed B.named
  have hlocks := B.notSynchronized
  have hin : meth.name = "<init>" := (name_of_methodNamed B.named B.method).1
  subst hsz
  have hD := hD0.self (sz := s.heap.size)
  generalize hAe : va_A [(h0, .inr (5, [.null, .null, .null, .null, .null]))] s.heap.size = A at hD E0 ⊢
  have E : EV G A s s.heap := E0
  have hA : ∀ q : Nat, s.heap.size ≤ q → A q := fun q h => by rw [← hAe]; exact Or.inr h
  have hS : va_S A s.heap s.heap [] := va_S.rf
  have hl := lv_entry ([.ref h0]) (n := 1) (Nat.le_of_ble_eq_true rfl)
  rw [lg_entry_eq]
  generalize (lg_sl ([.ref h0]) ++ List.replicate (1 - (lg_sl ([.ref h0])).length) Slot.unset).toArray = ls at hl ⊢
  have hl : lv_has ls 1 [(0, .ref h0)] := hl
  have hP : va_P G.1 vwCl [(h0, .inr (5, [.null, .null, .null, .null, .null]))] s.heap := hP
  refine lv_aload_n hx hb dX9_init_0 rfl (lv_at hl 0 rfl) ?_
  refine W.objInit hx hb hown (hts (.methodLink RX9 1 objectInit) (by decide +kernel)) (hts (.instanceMethod objectInit) (by decide +kernel)) (hts (.code objectInit ⟨#[0xb1]⟩ 1 none) (by decide +kernel)) rfl (by rw [hml]; exact hl.1) rfl dX9_init_1 (Nat.le_of_ble_eq_true rfl) (Nat.le_of_ble_eq_true rfl) ?_
  refine W.eq (g2 := F0 m 4 ls []) rfl ?_
  refine lv_aload_n hx hb dX9_init_4 rfl (lv_at hl 0 rfl) ?_
  refine va_new (ci := 0) (fs := [.null, .null, .int 0]) (C := RX2) (T := TX2) (N := 3) hx hb hts (fun _ h => List.mem_cons_of_mem _ (List.mem_append_left _ (List.mem_append_left _ (List.mem_append_right _ h)))) tyX2 tyX2_ok hown (hts (.classLink RX9 7 RX2) (by decide +kernel)) (hts (.instantiable RX2 3) (by decide +kernel)) (hts (.initialized RX2) (by decide +kernel)) E.K hP hD hS hA rfl (by decide +kernel) (by decide +kernel) (by decide +kernel) dX9_init_5 (fun q1 H hP hD hS => ?_)
  have hP : va_P G.1 vwCl [(h0, .inr (5, [.null, .null, .null, .null, .null])), (q1, .inr (0, [.null, .null, .int 0]))] H := hP
  have hD : va_D A [(h0, .inr (5, [.null, .null, .null, .null, .null])), (q1, .inr (0, [.null, .null, .int 0]))] := hD
  refine W.widen (k := 1) (n := 3) (by decide +kernel) (by decide +kernel) ?_
  refine lv_dup hx hb dX9_init_8 rfl ?_
  refine ca_v (wr := [(h0, .inr (5, [.null, .null, .null, .null, .null]))]) (va_runIN (As := []) (rest := [.ref q1, .ref h0]) ⟨hx, hb, hml, hown, hts⟩ (c_Pad l G H.size q1) ⟨va_cnB 0 hts gX9_init_X2_init_n9 rfl rfl rfl E.n9 (hts (.initialized RX2) (by decide +kernel)) (by decide +kernel) ⟨by decide +kernel, by decide +kernel⟩, rfl, hts (.instanceMethod yX2_init) (by decide +kernel)⟩ (pre_S E hP hD hS hA [1] (by decide) rfl) rfl rfl hl.1 rfl (lv_room (Nat.le_of_ble_eq_true rfl)) dX9_init_9 ⟨by decide +kernel, by decide +kernel⟩) hS hP hD hA [1] [0] rfl rfl (by decide) (by decide) (fun u4 H locs w2 hP hD hS => ?_)
  obtain ⟨sg1_5, sl1_6⟩ := u4
  try dsimp only at w2 hP hD
  have hP := hP.sub (ws' := [(h0, .inr (5, [.null, .null, .null, .null, .null])), (q1, .inr (0, [.ref sg1_5, .ref sl1_6, .int 0])), (sg1_5, .inl (gI G, 40, .inl (fun _ => 0))), (sl1_6, .inl (gI G, 10, .inl (fun _ => 0)))]) [0, 1, 2, 3] rfl
  have hD := hD.sub (ws' := [(h0, .inr (5, [.null, .null, .null, .null, .null])), (q1, .inr (0, [.ref sg1_5, .ref sl1_6, .int 0])), (sg1_5, .inl (gI G, 40, .inl (fun _ => 0))), (sl1_6, .inl (gI G, 10, .inl (fun _ => 0)))]) [0, 1, 2, 3] (by decide) rfl
  refine W.widen (k := 3) (n := 53) (by decide +kernel) (by decide +kernel) ?_
  refine va_putF (D := G.1) (ci := 5) (v := .ref q1) (ty := .object "LastMap$Pad") (C := RX9) (T := TX9) (N := 5) hx hb hts (fun _ h => List.mem_cons_of_mem _ (List.mem_append_left _ (List.mem_append_right _ h))) tyX9 tyX9_ok nmX9 hown E.K hP hD hS 0 rfl rfl 0 (by decide) (hts (.fieldLink RX9 10 "LastMap" "pad" "LLastMap$Pad;") (by decide +kernel)) (fun _ h9 => h9) rfl hin rfl (by decide +kernel) rfl rfl (Nat.le_of_ble_eq_true rfl) dX9_init_12 (fun H locs hP hD hS => ?_)
  have hP : va_P G.1 vwCl [(h0, .inr (5, [.ref q1, .null, .null, .null, .null])), (q1, .inr (0, [.ref sg1_5, .ref sl1_6, .int 0])), (sg1_5, .inl (gI G, 40, .inl (fun _ => 0))), (sl1_6, .inl (gI G, 10, .inl (fun _ => 0)))] H := hP
  have hD : va_D A [(h0, .inr (5, [.ref q1, .null, .null, .null, .null])), (q1, .inr (0, [.ref sg1_5, .ref sl1_6, .int 0])), (sg1_5, .inl (gI G, 40, .inl (fun _ => 0))), (sl1_6, .inl (gI G, 10, .inl (fun _ => 0)))] := hD
  refine lv_aload_n hx hb dX9_init_15 rfl (lv_at hl 0 rfl) ?_
  refine va_new (ci := 1) (fs := [.int 0, .int 0, .int 0, .int 0, .null, .null]) (C := RX3) (T := TX3) (N := 6) hx hb hts (fun _ h => List.mem_cons_of_mem _ (List.mem_append_right _ h)) tyX3 tyX3_ok hown (hts (.classLink RX9 16 RX3) (by decide +kernel)) (hts (.instantiable RX3 6) (by decide +kernel)) (hts (.initialized RX3) (by decide +kernel)) E.K hP hD hS hA rfl (by decide +kernel) (by decide +kernel) (by decide +kernel) dX9_init_16 (fun q7 H hP hD hS => ?_)
  have hP : va_P G.1 vwCl [(h0, .inr (5, [.ref q1, .null, .null, .null, .null])), (q1, .inr (0, [.ref sg1_5, .ref sl1_6, .int 0])), (sg1_5, .inl (gI G, 40, .inl (fun _ => 0))), (sl1_6, .inl (gI G, 10, .inl (fun _ => 0))), (q7, .inr (1, [.int 0, .int 0, .int 0, .int 0, .null, .null]))] H := hP
  have hD : va_D A [(h0, .inr (5, [.ref q1, .null, .null, .null, .null])), (q1, .inr (0, [.ref sg1_5, .ref sl1_6, .int 0])), (sg1_5, .inl (gI G, 40, .inl (fun _ => 0))), (sl1_6, .inl (gI G, 10, .inl (fun _ => 0))), (q7, .inr (1, [.int 0, .int 0, .int 0, .int 0, .null, .null]))] := hD
  refine W.widen (k := 4) (n := 59) (by decide +kernel) (by decide +kernel) ?_
  refine lv_dup hx hb dX9_init_19 rfl ?_
  refine ca_v (wr := [(h0, .inr (5, [.ref q1, .null, .null, .null, .null])), (q1, .inr (0, [.ref sg1_5, .ref sl1_6, .int 0])), (sg1_5, .inl (gI G, 40, .inl (fun _ => 0))), (sl1_6, .inl (gI G, 10, .inl (fun _ => 0)))]) (va_runIN (As := []) (rest := [.ref q7, .ref h0]) ⟨hx, hb, hml, hown, hts⟩ (c_Papers l G H.size q7) ⟨va_cnB 0 hts gX9_init_X3_init_n18 rfl rfl rfl E.n18 (hts (.initialized RX3) (by decide +kernel)) (by decide +kernel) ⟨by decide +kernel, by decide +kernel⟩, rfl, hts (.instanceMethod yX3_init) (by decide +kernel)⟩ (pre_S E hP hD hS hA [4] (by decide) rfl) rfl rfl hl.1 rfl (lv_room (Nat.le_of_ble_eq_true rfl)) dX9_init_20 ⟨by decide +kernel, by decide +kernel⟩) hS hP hD hA [4] [0, 1, 2, 3] rfl rfl (by decide) (by decide) (fun u10 H locs w8 hP hD hS => ?_)
  obtain ⟨ac1_11, ak1_12, gk_13⟩ := u10
  try dsimp only at w8 hP hD
  have hP := hP.sub (ws' := [(h0, .inr (5, [.ref q1, .null, .null, .null, .null])), (q1, .inr (0, [.ref sg1_5, .ref sl1_6, .int 0])), (sg1_5, .inl (gI G, 40, .inl (fun _ => 0))), (sl1_6, .inl (gI G, 10, .inl (fun _ => 0))), (q7, .inr (1, [.int 6, .int 0, .int 1, .int 0, .ref ac1_11, .ref ak1_12])), (ac1_11, .inl (gI G, 6, .inl (fun _ => 0))), (ak1_12, .inl (gI G, 4, .inl gk_13))]) [0, 1, 2, 3, 4, 5, 6] rfl
  have hD := hD.sub (ws' := [(h0, .inr (5, [.ref q1, .null, .null, .null, .null])), (q1, .inr (0, [.ref sg1_5, .ref sl1_6, .int 0])), (sg1_5, .inl (gI G, 40, .inl (fun _ => 0))), (sl1_6, .inl (gI G, 10, .inl (fun _ => 0))), (q7, .inr (1, [.int 6, .int 0, .int 1, .int 0, .ref ac1_11, .ref ak1_12])), (ac1_11, .inl (gI G, 6, .inl (fun _ => 0))), (ak1_12, .inl (gI G, 4, .inl gk_13))]) [0, 1, 2, 3, 4, 5, 6] (by decide) rfl
  refine W.widen (k := 6) (n := 69) (by decide +kernel) (by decide +kernel) ?_
  refine va_putF (D := G.1) (ci := 5) (v := .ref q7) (ty := .object "LastMap$Papers") (C := RX9) (T := TX9) (N := 5) hx hb hts (fun _ h => List.mem_cons_of_mem _ (List.mem_append_left _ (List.mem_append_right _ h))) tyX9 tyX9_ok nmX9 hown E.K hP hD hS 0 rfl rfl 1 (by decide) (hts (.fieldLink RX9 19 "LastMap" "papers" "LLastMap$Papers;") (by decide +kernel)) (fun _ h9 => h9) rfl hin rfl (by decide +kernel) rfl rfl (Nat.le_of_ble_eq_true rfl) dX9_init_23 (fun H locs hP hD hS => ?_)
  have hP : va_P G.1 vwCl [(h0, .inr (5, [.ref q1, .ref q7, .null, .null, .null])), (q1, .inr (0, [.ref sg1_5, .ref sl1_6, .int 0])), (sg1_5, .inl (gI G, 40, .inl (fun _ => 0))), (sl1_6, .inl (gI G, 10, .inl (fun _ => 0))), (q7, .inr (1, [.int 6, .int 0, .int 1, .int 0, .ref ac1_11, .ref ak1_12])), (ac1_11, .inl (gI G, 6, .inl (fun _ => 0))), (ak1_12, .inl (gI G, 4, .inl gk_13))] H := hP
  have hD : va_D A [(h0, .inr (5, [.ref q1, .ref q7, .null, .null, .null])), (q1, .inr (0, [.ref sg1_5, .ref sl1_6, .int 0])), (sg1_5, .inl (gI G, 40, .inl (fun _ => 0))), (sl1_6, .inl (gI G, 10, .inl (fun _ => 0))), (q7, .inr (1, [.int 6, .int 0, .int 1, .int 0, .ref ac1_11, .ref ak1_12])), (ac1_11, .inl (gI G, 6, .inl (fun _ => 0))), (ak1_12, .inl (gI G, 4, .inl gk_13))] := hD
  refine lv_aload_n hx hb dX9_init_26 rfl (lv_at hl 0 rfl) ?_
  refine lv_iconst (v := 2) hx hb dX9_init_27 (by decide) ?_
  refine nw_rowq hx hb hown (hts (.classLink RX9 16 RX3) (by decide +kernel)) E.aP E 3 rfl hP hD hS hA (by decide +kernel) (show _ = 2 by decide +kernel) (by decide +kernel) (by decide +kernel) (by decide +kernel) dX9_init_28 (fun q14 H hP hD hS => ?_)
  have hP : va_P G.1 vwCl [(h0, .inr (5, [.ref q1, .ref q7, .null, .null, .null])), (q1, .inr (0, [.ref sg1_5, .ref sl1_6, .int 0])), (sg1_5, .inl (gI G, 40, .inl (fun _ => 0))), (sl1_6, .inl (gI G, 10, .inl (fun _ => 0))), (q7, .inr (1, [.int 6, .int 0, .int 1, .int 0, .ref ac1_11, .ref ak1_12])), (ac1_11, .inl (gI G, 6, .inl (fun _ => 0))), (ak1_12, .inl (gI G, 4, .inl gk_13)), (q14, .inl (gP G, 2, .inr (.inr (.inr (.inr (fun _ => none))))))] H := hP
  have hD : va_D A [(h0, .inr (5, [.ref q1, .ref q7, .null, .null, .null])), (q1, .inr (0, [.ref sg1_5, .ref sl1_6, .int 0])), (sg1_5, .inl (gI G, 40, .inl (fun _ => 0))), (sl1_6, .inl (gI G, 10, .inl (fun _ => 0))), (q7, .inr (1, [.int 6, .int 0, .int 1, .int 0, .ref ac1_11, .ref ak1_12])), (ac1_11, .inl (gI G, 6, .inl (fun _ => 0))), (ak1_12, .inl (gI G, 4, .inl gk_13)), (q14, .inl (gP G, 2, .inr (.inr (.inr (.inr (fun _ => none))))))] := hD
  refine W.widen (k := 7) (n := 71) (by decide +kernel) (by decide +kernel) ?_
  refine va_putF (D := G.1) (ci := 5) (v := .ref q14) (ty := .array (.object "LastMap$Papers")) (C := RX9) (T := TX9) (N := 5) hx hb hts (fun _ h => List.mem_cons_of_mem _ (List.mem_append_left _ (List.mem_append_right _ h))) tyX9 tyX9_ok nmX9 hown E.K hP hD hS 0 rfl rfl 2 (by decide) (hts (.fieldLink RX9 23 "LastMap" "images" "[LLastMap$Papers;") (by decide +kernel)) (fun _ h9 => h9) rfl hin rfl (by decide +kernel) rfl rfl (Nat.le_of_ble_eq_true rfl) dX9_init_31 (fun H locs hP hD hS => ?_)
  have hP : va_P G.1 vwCl [(h0, .inr (5, [.ref q1, .ref q7, .ref q14, .null, .null])), (q1, .inr (0, [.ref sg1_5, .ref sl1_6, .int 0])), (sg1_5, .inl (gI G, 40, .inl (fun _ => 0))), (sl1_6, .inl (gI G, 10, .inl (fun _ => 0))), (q7, .inr (1, [.int 6, .int 0, .int 1, .int 0, .ref ac1_11, .ref ak1_12])), (ac1_11, .inl (gI G, 6, .inl (fun _ => 0))), (ak1_12, .inl (gI G, 4, .inl gk_13)), (q14, .inl (gP G, 2, .inr (.inr (.inr (.inr (fun _ => none))))))] H := hP
  have hD : va_D A [(h0, .inr (5, [.ref q1, .ref q7, .ref q14, .null, .null])), (q1, .inr (0, [.ref sg1_5, .ref sl1_6, .int 0])), (sg1_5, .inl (gI G, 40, .inl (fun _ => 0))), (sl1_6, .inl (gI G, 10, .inl (fun _ => 0))), (q7, .inr (1, [.int 6, .int 0, .int 1, .int 0, .ref ac1_11, .ref ak1_12])), (ac1_11, .inl (gI G, 6, .inl (fun _ => 0))), (ak1_12, .inl (gI G, 4, .inl gk_13)), (q14, .inl (gP G, 2, .inr (.inr (.inr (.inr (fun _ => none))))))] := hD
  have hP9 := hP.sub (ws' := [(h0, .inr (5, [.ref q1, .ref q7, .ref q14, .null, .null])), (q14, .inl (gP G, 2, .inr (.inr (.inr (.inr (fun _ => none)))))), (q1, .inr (0, [.ref sg1_5, .ref sl1_6, .int 0])), (sg1_5, .inl (gI G, 40, .inl (fun _ => 0))), (sl1_6, .inl (gI G, 10, .inl (fun _ => 0))), (q7, .inr (1, [.int 6, .int 0, .int 1, .int 0, .ref ac1_11, .ref ak1_12])), (ac1_11, .inl (gI G, 6, .inl (fun _ => 0))), (ak1_12, .inl (gI G, 4, .inl gk_13))]) [0, 7, 1, 2, 3, 4, 5, 6] rfl
  have hD9 := hD.sub (ws' := [(h0, .inr (5, [.ref q1, .ref q7, .ref q14, .null, .null])), (q14, .inl (gP G, 2, .inr (.inr (.inr (.inr (fun _ => none)))))), (q1, .inr (0, [.ref sg1_5, .ref sl1_6, .int 0])), (sg1_5, .inl (gI G, 40, .inl (fun _ => 0))), (sl1_6, .inl (gI G, 10, .inl (fun _ => 0))), (q7, .inr (1, [.int 6, .int 0, .int 1, .int 0, .ref ac1_11, .ref ak1_12])), (ac1_11, .inl (gI G, 6, .inl (fun _ => 0))), (ak1_12, .inl (gI G, 4, .inl gk_13))]) [0, 7, 1, 2, 3, 4, 5, 6] (by decide) rfl
  exact W.vret hx hb hr (fun t ht hW => ⟨⟨(q1, q7, q14, sg1_5, sl1_6, ac1_11, ak1_12, gk_13), rfl, w8, by rw [ht]; exact hP9, hD9⟩, hS.F ht⟩) hS.2.2 dX9_init_34
