set_option maxHeartbeats 1000000 in
set_option maxRecDepth 100000 in
theorem whole_start {p : Program} {e : Env} {s : State} {m : MethodId} {below : List Frame} {meth : Method} {c : Code} (l : Launch) {b L : Nat} {xs : Nat → Int32} (hL : L ≤ 6) (C0 : lw_At p s m meth c b L xs) : W p l e room_1 s m #[Value.ref b] below meth c s.heap [] 0 0 (lw_Z below #[Value.ref b] s) (entryFrame m ([Value.ref b] : List Value).toArray 4) := by
  obtain ⟨hx, hb, hr, hml, hown, hts0, hX, hbl, hlocks, hgv⟩ := id C0
  have hts : ∀ w ∈ wsL_law, w.before #[Value.ref b] s = true := fun w h => hts0 w (wsL_law_in w h)
  have hA : ∀ q : Nat, s.heap.size ≤ q → (fun q : Nat => s.heap.size ≤ q) q := fun _ h => h
  have hbA : ¬ (fun q : Nat => s.heap.size ≤ q) b := Nat.not_le.mpr hbl
  obtain ⟨G, E⟩ := ev_start C0
  have hS : va_S (fun q : Nat => s.heap.size ≤ q) s.heap s.heap [] := va_S.rf
  have hP : va_P G.1 vwCl [] s.heap := fun k q h => by simp at h
  have hD : va_D (fun q : Nat => s.heap.size ≤ q) [] := ⟨fun i j p q h => by simp at h, fun k q h => by simp at h⟩
  have hl := lv_entry ([.ref b]) (n := 4) (Nat.le_of_ble_eq_true rfl)
  rw [lg_entry_eq]
  generalize (lg_sl ([.ref b]) ++ List.replicate (4 - (lg_sl ([.ref b])).length) Slot.unset).toArray = ls at hl ⊢
  have hl : lv_has ls 4 [(0, .ref b)] := hl
  refine va_new (ci := 5) (fs := [.null, .null, .null, .null, .null]) (C := RX9) (T := TX9) (N := 5) hx hb hts inlX9 tyX9 tyX9_ok hown (hts (.classLink RL 7 RX9) (by decide +kernel)) (hts (.instantiable RX9 5) (by decide +kernel)) (hts (.initialized RX9) (by decide +kernel)) E.K hP hD hS hA rfl (by decide +kernel) (by decide +kernel) (by decide +kernel) dL_law_0 (fun q1 H hP hD hS => ?_)
  have hP : va_P G.1 vwCl [(q1, .inr (5, [.null, .null, .null, .null, .null]))] H := hP
  have hD : va_D (fun q : Nat => s.heap.size ≤ q) [(q1, .inr (5, [.null, .null, .null, .null, .null]))] := hD
  refine W.widen (k := 1) (n := 5) (by decide +kernel) (by decide +kernel) ?_
  refine lv_dup hx hb dL_law_3 rfl ?_
  refine ca_v (wr := []) (va_runI (As := []) (rest := [.ref q1]) ⟨hx, hb, hml, hown, hts⟩ (c_LastMap l G H.size q1) (cwI 0 hts gL_law_X9_init rfl rfl rfl (hts (.initialized RX9) (by decide +kernel)) (hts (.methodLink RL 9 yX9_init) (by decide +kernel)) (hts (.instanceMethod yX9_init) (by decide +kernel)) rfl (by decide +kernel) ⟨by decide +kernel, by decide +kernel⟩) (pre_S E hP hD hS hA [0] (by decide) rfl) rfl rfl hl.1 rfl (lv_room (Nat.le_of_ble_eq_true rfl)) dL_law_4 ⟨by decide +kernel, by decide +kernel⟩) hS hP hD hA [0] [] rfl rfl (by decide) (by decide) (fun u4 H locs w2 hP hD hS => ?_)
  obtain ⟨pad_5, pp_6, im_7, sg_8, sl_9, ac_10, ak_11, fk_12⟩ := u4
  try dsimp only at w2 hP hD
  have hP := hP.sub (ws' := [(q1, .inr (5, [.ref pad_5, .ref pp_6, .ref im_7, .null, .null])), (im_7, .inl (gP G, 2, .inr (.inr (.inr (.inr (fun _ => none)))))), (pad_5, .inr (0, [.ref sg_8, .ref sl_9, .int 0])), (sg_8, .inl (gI G, 40, .inl (fun _ => 0))), (sl_9, .inl (gI G, 10, .inl (fun _ => 0))), (pp_6, .inr (1, [.int 6, .int 0, .int 1, .int 0, .ref ac_10, .ref ak_11])), (ac_10, .inl (gI G, 6, .inl (fun _ => 0))), (ak_11, .inl (gI G, 4, .inl fk_12))]) [0, 1, 2, 3, 4, 5, 6, 7] rfl
  have hD := hD.sub (ws' := [(q1, .inr (5, [.ref pad_5, .ref pp_6, .ref im_7, .null, .null])), (im_7, .inl (gP G, 2, .inr (.inr (.inr (.inr (fun _ => none)))))), (pad_5, .inr (0, [.ref sg_8, .ref sl_9, .int 0])), (sg_8, .inl (gI G, 40, .inl (fun _ => 0))), (sl_9, .inl (gI G, 10, .inl (fun _ => 0))), (pp_6, .inr (1, [.int 6, .int 0, .int 1, .int 0, .ref ac_10, .ref ak_11])), (ac_10, .inl (gI G, 6, .inl (fun _ => 0))), (ak_11, .inl (gI G, 4, .inl fk_12))]) [0, 1, 2, 3, 4, 5, 6, 7] (by decide) rfl
  refine W.widen (k := 8) (n := 76) (by decide +kernel) (by decide +kernel) ?_
  refine lv_astore_n (lv' := [(1, .ref q1), (0, .ref b)]) hx hb dL_law_7 rfl hl (by decide) rfl (fun ls hl => ?_)
  refine va_new (ci := 6) (fs := [.int 0, .null, .int 0, .null, .int 0, .int 0, .null, .null, .int 0, .null, .int 0, .int 0, .null, .null, .null, .null, .int 0, .null, .null, .null, .int 0, .int 0, .null, .null, .null, .null, .int 0, .int 0]) (C := RX10) (T := TX10) (N := 28) hx hb hts inlX10 tyX10 tyX10_ok hown (hts (.classLink RL 10 RX10) (by decide +kernel)) (hts (.instantiable RX10 28) (by decide +kernel)) (hts (.initialized RX10) (by decide +kernel)) E.K hP hD hS hA rfl (by decide +kernel) (by decide +kernel) (by decide +kernel) dL_law_8 (fun q13 H hP hD hS => ?_)
  have hP : va_P G.1 vwCl [(q1, .inr (5, [.ref pad_5, .ref pp_6, .ref im_7, .null, .null])), (im_7, .inl (gP G, 2, .inr (.inr (.inr (.inr (fun _ => none)))))), (pad_5, .inr (0, [.ref sg_8, .ref sl_9, .int 0])), (sg_8, .inl (gI G, 40, .inl (fun _ => 0))), (sl_9, .inl (gI G, 10, .inl (fun _ => 0))), (pp_6, .inr (1, [.int 6, .int 0, .int 1, .int 0, .ref ac_10, .ref ak_11])), (ac_10, .inl (gI G, 6, .inl (fun _ => 0))), (ak_11, .inl (gI G, 4, .inl fk_12)), (q13, .inr (6, [.int 0, .null, .int 0, .null, .int 0, .int 0, .null, .null, .int 0, .null, .int 0, .int 0, .null, .null, .null, .null, .int 0, .null, .null, .null, .int 0, .int 0, .null, .null, .null, .null, .int 0, .int 0]))] H := hP
  have hD : va_D (fun q : Nat => s.heap.size ≤ q) [(q1, .inr (5, [.ref pad_5, .ref pp_6, .ref im_7, .null, .null])), (im_7, .inl (gP G, 2, .inr (.inr (.inr (.inr (fun _ => none)))))), (pad_5, .inr (0, [.ref sg_8, .ref sl_9, .int 0])), (sg_8, .inl (gI G, 40, .inl (fun _ => 0))), (sl_9, .inl (gI G, 10, .inl (fun _ => 0))), (pp_6, .inr (1, [.int 6, .int 0, .int 1, .int 0, .ref ac_10, .ref ak_11])), (ac_10, .inl (gI G, 6, .inl (fun _ => 0))), (ak_11, .inl (gI G, 4, .inl fk_12)), (q13, .inr (6, [.int 0, .null, .int 0, .null, .int 0, .int 0, .null, .null, .int 0, .null, .int 0, .int 0, .null, .null, .null, .null, .int 0, .null, .null, .null, .int 0, .int 0, .null, .null, .null, .null, .int 0, .int 0]))] := hD
  refine W.widen (k := 9) (n := 104) (by decide +kernel) (by decide +kernel) ?_
  refine lv_dup hx hb dL_law_11 rfl ?_
  refine ca_v (wr := [(q1, .inr (5, [.ref pad_5, .ref pp_6, .ref im_7, .null, .null])), (im_7, .inl (gP G, 2, .inr (.inr (.inr (.inr (fun _ => none)))))), (pad_5, .inr (0, [.ref sg_8, .ref sl_9, .int 0])), (sg_8, .inl (gI G, 40, .inl (fun _ => 0))), (sl_9, .inl (gI G, 10, .inl (fun _ => 0))), (pp_6, .inr (1, [.int 6, .int 0, .int 1, .int 0, .ref ac_10, .ref ak_11])), (ac_10, .inl (gI G, 6, .inl (fun _ => 0))), (ak_11, .inl (gI G, 4, .inl fk_12))]) (va_runI (As := []) (rest := [.ref q13]) ⟨hx, hb, hml, hown, hts⟩ (m_LastMapModel l G H.size q13) (cwI 0 hts gL_law_X10_init rfl rfl rfl (hts (.initialized RX10) (by decide +kernel)) (hts (.methodLink RL 12 yX10_init) (by decide +kernel)) (hts (.instanceMethod yX10_init) (by decide +kernel)) rfl (by decide +kernel) ⟨by decide +kernel, by decide +kernel⟩) (pre_S E hP hD hS hA [8] (by decide) rfl) rfl rfl hl.1 rfl (lv_room (Nat.le_of_ble_eq_true rfl)) dL_law_12 ⟨by decide +kernel, by decide +kernel⟩) hS hP hD hA [8] [0, 1, 2, 3, 4, 5, 6, 7] rfl rfl (by decide) (by decide) (fun u16 H locs w14 hP hD hS => ?_)
  obtain ⟨a_maps_17, a_kinds_18, a_part_19, a_pad_20, a_slips_21, a_queue_22, a_depth_23, a_by_24, a_from_25, a_offOf_26, a_parent_27, a_best_28, a_sums_29, a_toward_30, a_kept_31, a_isKept_32, fm_33, fk_34, fp_35⟩ := u16
  try dsimp only at w14 hP hD
  have hP := hP.sub (ws' := [(q1, .inr (5, [.ref pad_5, .ref pp_6, .ref im_7, .null, .null])), (im_7, .inl (gP G, 2, .inr (.inr (.inr (.inr (fun _ => none)))))), (pad_5, .inr (0, [.ref sg_8, .ref sl_9, .int 0])), (sg_8, .inl (gI G, 40, .inl (fun _ => 0))), (sl_9, .inl (gI G, 10, .inl (fun _ => 0))), (pp_6, .inr (1, [.int 6, .int 0, .int 1, .int 0, .ref ac_10, .ref ak_11])), (ac_10, .inl (gI G, 6, .inl (fun _ => 0))), (ak_11, .inl (gI G, 4, .inl fk_12)), (q13, .inr (6, [.int 6, .ref a_maps_17, .int 0, .ref a_kinds_18, .int 0, .int 1, .ref a_part_19, .ref a_pad_20, .int 0, .ref a_slips_21, .int 0, .int 0, .ref a_queue_22, .ref a_depth_23, .ref a_by_24, .ref a_from_25, .int 0, .ref a_offOf_26, .ref a_parent_27, .ref a_best_28, .int 0, .int 0, .ref a_sums_29, .ref a_toward_30, .ref a_kept_31, .ref a_isKept_32, .int 0, .int 0])), (a_maps_17, .inl (gI G, 6, .inl fm_33)), (a_kinds_18, .inl (gI G, 4, .inl fk_34)), (a_part_19, .inl (gI G, 6, .inl fp_35)), (a_pad_20, .inl (gI G, 40, .inl (fun _ => 0))), (a_slips_21, .inl (gI G, 10, .inl (fun _ => 0))), (a_kept_31, .inl (gI G, 80, .inl (fun _ => 0))), (a_isKept_32, .inl (gZ G, 2, .inl (fun _ => 0)))]) [0, 1, 2, 3, 4, 5, 6, 7, 8, 9, 10, 11, 12, 13, 14, 15] rfl
  have hD := hD.sub (ws' := [(q1, .inr (5, [.ref pad_5, .ref pp_6, .ref im_7, .null, .null])), (im_7, .inl (gP G, 2, .inr (.inr (.inr (.inr (fun _ => none)))))), (pad_5, .inr (0, [.ref sg_8, .ref sl_9, .int 0])), (sg_8, .inl (gI G, 40, .inl (fun _ => 0))), (sl_9, .inl (gI G, 10, .inl (fun _ => 0))), (pp_6, .inr (1, [.int 6, .int 0, .int 1, .int 0, .ref ac_10, .ref ak_11])), (ac_10, .inl (gI G, 6, .inl (fun _ => 0))), (ak_11, .inl (gI G, 4, .inl fk_12)), (q13, .inr (6, [.int 6, .ref a_maps_17, .int 0, .ref a_kinds_18, .int 0, .int 1, .ref a_part_19, .ref a_pad_20, .int 0, .ref a_slips_21, .int 0, .int 0, .ref a_queue_22, .ref a_depth_23, .ref a_by_24, .ref a_from_25, .int 0, .ref a_offOf_26, .ref a_parent_27, .ref a_best_28, .int 0, .int 0, .ref a_sums_29, .ref a_toward_30, .ref a_kept_31, .ref a_isKept_32, .int 0, .int 0])), (a_maps_17, .inl (gI G, 6, .inl fm_33)), (a_kinds_18, .inl (gI G, 4, .inl fk_34)), (a_part_19, .inl (gI G, 6, .inl fp_35)), (a_pad_20, .inl (gI G, 40, .inl (fun _ => 0))), (a_slips_21, .inl (gI G, 10, .inl (fun _ => 0))), (a_kept_31, .inl (gI G, 80, .inl (fun _ => 0))), (a_isKept_32, .inl (gZ G, 2, .inl (fun _ => 0)))]) [0, 1, 2, 3, 4, 5, 6, 7, 8, 9, 10, 11, 12, 13, 14, 15] (by decide) rfl
  refine W.widen (k := 25) (n := 94050) (by decide +kernel) (by decide +kernel) ?_
  refine lv_astore_n (lv' := [(2, .ref q13), (1, .ref q1), (0, .ref b)]) hx hb dL_law_15 rfl hl (by decide) rfl (fun ls hl => ?_)
  refine lv_iconst (v := 0) hx hb dL_law_16 (by decide) ?_
  refine lv_istore_n (lv' := [(3, .int 0), (2, .ref q13), (1, .ref q1), (0, .ref b)]) hx hb dL_law_17 rfl hl (by decide) rfl (fun ls hl => ?_)
  refine lv_iload_n hx hb dL_law_18 rfl (lv_at hl 0 rfl) ?_
  refine lv_aload_n hx hb dL_law_19 rfl (lv_at hl 3 rfl) ?_
  refine va_slen hx hb hX hbl hbA hS dL_law_20 ?_
  refine lv_bipush (v := 6) hx hb dL_law_21 (by decide) ?_
  refine lv_isub hx hb dL_law_23 ?_
  refine lv_topi (fun x1 ex1 => ?_)
  have hx1 : x1.toInt = (L : Int) - 6 := by rw [ex1]; exact pk_sub_toInt (a := L) (b := 6) (by omega) (by decide)
  refine lv_icmp_gt (tgt := 932) hx hb dL_law_24 (by decide) (fun c1 => ?_) (fun c1 => ?_)
  · refine lv_iconst (v := 1) hx hb dL_law_932 (by decide) ?_
    refine va_forget (fun q hq => hS.2.2 q hq) ?_
    refine W.widen (k := 600000) (n := 7302249) (by decide +kernel) (by decide +kernel) ?_
    exact lw_ret hx hb hr hlocks dL_law_933
  have hL6 : L = 6 := by rw [i3_lt, hx1] at c1; simp only [Int32.reduceToInt] at c1; omega
  refine lv_aload_n hx hb dL_law_27 rfl (lv_at hl 3 rfl) ?_
  refine lv_iload_n hx hb dL_law_28 rfl (lv_at hl 0 rfl) ?_
  refine va_sld hx hb hX hbl hbA hS (i := 0) (by rw [hL6]; unfold vp_in; decide) dL_law_29 ?_
  refine lv_bipush (v := 31) hx hb dL_law_30 (by decide) ?_
  refine lv_iand hx hb dL_law_32 ?_
  refine lv_topi (fun x2 ex2 => ?_)
  obtain ⟨j, hj, ej⟩ := pk_andE (xs (0 : Int32).toNatClampNeg) (m := 31) 5 (by decide)
  rw [ej] at ex2
  subst ex2
  have hP := hP.sub (ws' := [(q1, .inr (5, [.ref pad_5, .ref pp_6, .ref im_7, .null, .null])), (im_7, .inl (gP G, 2, .inr (.inr (.inr (.inr (fun _ => none)))))), (pad_5, .inr (0, [.ref sg_8, .ref sl_9, .int 0])), (sg_8, .inl (gI G, 40, .inl (fun _ => 0))), (sl_9, .inl (gI G, 10, .inl (fun _ => 0))), (pp_6, .inr (1, [.int 6, .int 0, .int 1, .int 0, .ref ac_10, .ref ak_11])), (ac_10, .inl (gI G, 6, .inl (fun _ => 0))), (ak_11, .inl (gI G, 4, .inl fk_12)), (q13, .inr (6, [.int 6, .ref a_maps_17, .int 0, .ref a_kinds_18, .int 0, .int 1, .ref a_part_19, .ref a_pad_20, .int 0, .ref a_slips_21, .int 0, .int 0, .ref a_queue_22, .ref a_depth_23, .ref a_by_24, .ref a_from_25, .int 0, .ref a_offOf_26, .ref a_parent_27, .ref a_best_28, .int 0, .int 0, .ref a_sums_29, .ref a_toward_30, .ref a_kept_31, .ref a_isKept_32, .int 0, .int 0])), (a_maps_17, .inl (gI G, 6, .inl fm_33)), (a_kinds_18, .inl (gI G, 4, .inl fk_34)), (a_part_19, .inl (gI G, 6, .inl fp_35)), (a_pad_20, .inl (gI G, 40, .inl (fun _ => 0))), (a_slips_21, .inl (gI G, 10, .inl (fun _ => 0))), (a_kept_31, .inl (gI G, 80, .inl (fun _ => 0))), (a_isKept_32, .inl (gZ G, 2, .inl (fun _ => 0)))]) [0, 1, 2, 3, 4, 5, 6, 7, 8, 9, 10, 11, 12, 13, 14, 15] rfl
  have hD := hD.sub (ws' := [(q1, .inr (5, [.ref pad_5, .ref pp_6, .ref im_7, .null, .null])), (im_7, .inl (gP G, 2, .inr (.inr (.inr (.inr (fun _ => none)))))), (pad_5, .inr (0, [.ref sg_8, .ref sl_9, .int 0])), (sg_8, .inl (gI G, 40, .inl (fun _ => 0))), (sl_9, .inl (gI G, 10, .inl (fun _ => 0))), (pp_6, .inr (1, [.int 6, .int 0, .int 1, .int 0, .ref ac_10, .ref ak_11])), (ac_10, .inl (gI G, 6, .inl (fun _ => 0))), (ak_11, .inl (gI G, 4, .inl fk_12)), (q13, .inr (6, [.int 6, .ref a_maps_17, .int 0, .ref a_kinds_18, .int 0, .int 1, .ref a_part_19, .ref a_pad_20, .int 0, .ref a_slips_21, .int 0, .int 0, .ref a_queue_22, .ref a_depth_23, .ref a_by_24, .ref a_from_25, .int 0, .ref a_offOf_26, .ref a_parent_27, .ref a_best_28, .int 0, .int 0, .ref a_sums_29, .ref a_toward_30, .ref a_kept_31, .ref a_isKept_32, .int 0, .int 0])), (a_maps_17, .inl (gI G, 6, .inl fm_33)), (a_kinds_18, .inl (gI G, 4, .inl fk_34)), (a_part_19, .inl (gI G, 6, .inl fp_35)), (a_pad_20, .inl (gI G, 40, .inl (fun _ => 0))), (a_slips_21, .inl (gI G, 10, .inl (fun _ => 0))), (a_kept_31, .inl (gI G, 80, .inl (fun _ => 0))), (a_isKept_32, .inl (gZ G, 2, .inl (fun _ => 0)))]) [0, 1, 2, 3, 4, 5, 6, 7, 8, 9, 10, 11, 12, 13, 14, 15] (by decide) rfl
  have hl := lv_sub hl (l' := [(3, .int 0), (2, .ref q13), (1, .ref q1), (0, .ref b)]) [0, 1, 2, 3] rfl
  have hpm : ∀ j : Nat, j < 6 → ¬ fp_35 j = 0 := fun j hj => by rw [w14.2.2 j hj]; rcases (show j = 0 ∨ j = 1 ∨ j = 2 ∨ j = 3 ∨ j = 4 ∨ j = 5 by omega) with rfl | rfl | rfl | rfl | rfl | rfl <;> decide
  refine W.widen (k := 25) (n := 94050) (by decide +kernel) (by decide +kernel) ?_
  rcases (show j = 0 ∨ j = 1 ∨ j = 2 ∨ j = 3 ∨ j = 4 ∨ j = 5 ∨ j = 6 ∨ j = 7 ∨ j = 8 ∨ j = 9 ∨ j = 10 ∨ j = 11 ∨ j = 12 ∨ j = 13 ∨ j = 14 ∨ j = 15 ∨ j = 16 ∨ j = 17 ∨ j = 18 ∨ j = 19 ∨ j = 20 ∨ j = 21 ∨ j = 22 ∨ j = 23 ∨ 24 ≤ j by omega) with rfl | rfl | rfl | rfl | rfl | rfl | rfl | rfl | rfl | rfl | rfl | rfl | rfl | rfl | rfl | rfl | rfl | rfl | rfl | rfl | rfl | rfl | rfl | rfl | hj2
  · refine lv_tableIn (off := 111) (tgt := 144) hx hb dL_law_33 (by decide) (by decide) (by decide +kernel) (by decide) ?_
    exact law_sites hL hL6 C0 E w2 w14.2.1 hpm hP hD hS hl
  · refine lv_tableIn (off := 134) (tgt := 167) hx hb dL_law_33 (by decide) (by decide) (by decide +kernel) (by decide) ?_
    exact law_say hL hL6 C0 E w2 w14.2.1 hpm hP hD hS hl
  · refine lv_tableIn (off := 157) (tgt := 190) hx hb dL_law_33 (by decide) (by decide) (by decide +kernel) (by decide) ?_
    exact law_wipe hL hL6 C0 E w2 w14.2.1 hpm hP hD hS hl
  · refine lv_tableIn (off := 170) (tgt := 203) hx hb dL_law_33 (by decide) (by decide) (by decide +kernel) (by decide) ?_
    exact law_fault hL hL6 C0 E w2 w14.2.1 hpm hP hD hS hl
  · refine lv_tableIn (off := 193) (tgt := 226) hx hb dL_law_33 (by decide) (by decide) (by decide +kernel) (by decide) ?_
    exact law_map hL hL6 C0 E w2 w14.2.1 hpm hP hD hS hl
  · refine lv_tableIn (off := 216) (tgt := 249) hx hb dL_law_33 (by decide) (by decide) (by decide +kernel) (by decide) ?_
    exact law_at hL hL6 C0 E w2 w14.2.1 hpm hP hD hS hl
  · refine lv_tableIn (off := 249) (tgt := 282) hx hb dL_law_33 (by decide) (by decide) (by decide +kernel) (by decide) ?_
    exact law_hand hL hL6 C0 E w2 w14.2.1 hpm hP hD hS hl
  · refine lv_tableIn (off := 282) (tgt := 315) hx hb dL_law_33 (by decide) (by decide) (by decide +kernel) (by decide) ?_
    exact law_judge hL hL6 C0 E w2 w14.2.1 hpm hP hD hS hl
  · refine lv_tableIn (off := 305) (tgt := 338) hx hb dL_law_33 (by decide) (by decide) (by decide +kernel) (by decide) ?_
    exact law_copy hL hL6 C0 E w2 w14.2.1 hpm hP hD hS hl
  · refine lv_tableIn (off := 338) (tgt := 371) hx hb dL_law_33 (by decide) (by decide) (by decide +kernel) (by decide) ?_
    exact law_far hL hL6 C0 E w2 w14.2.1 hpm hP hD hS hl
  · refine lv_tableIn (off := 391) (tgt := 424) hx hb dL_law_33 (by decide) (by decide) (by decide +kernel) (by decide) ?_
    exact law_who hL hL6 C0 E w2 w14.2.1 hpm hP hD hS hl
  · refine lv_tableIn (off := 434) (tgt := 467) hx hb dL_law_33 (by decide) (by decide) (by decide +kernel) (by decide) ?_
    exact law_between hL hL6 C0 E w2 w14.2.1 hpm hP hD hS hl
  · refine lv_tableIn (off := 487) (tgt := 520) hx hb dL_law_33 (by decide) (by decide) (by decide +kernel) (by decide) ?_
    exact law_tree hL hL6 C0 E w2 w14.2.1 hpm hP hD hS hl
  · refine lv_tableIn (off := 530) (tgt := 563) hx hb dL_law_33 (by decide) (by decide) (by decide +kernel) (by decide) ?_
    exact law_lost hL hL6 C0 E w2 w14.2.1 hpm hP hD hS hl
  · refine lv_tableIn (off := 573) (tgt := 606) hx hb dL_law_33 (by decide) (by decide) (by decide +kernel) (by decide) ?_
    exact law_wished hL hL6 C0 E w2 w14.2.1 hpm hP hD hS hl
  · refine lv_tableIn (off := 626) (tgt := 659) hx hb dL_law_33 (by decide) (by decide) (by decide +kernel) (by decide) ?_
    exact law_holds hL hL6 C0 E w2 w14.2.1 hpm hP hD hS hl
  · refine lv_tableIn (off := 659) (tgt := 692) hx hb dL_law_33 (by decide) (by decide) (by decide +kernel) (by decide) ?_
    exact law_spades hL hL6 C0 E w2 w14.2.1 hpm hP hD hS hl
  · refine lv_tableIn (off := 682) (tgt := 715) hx hb dL_law_33 (by decide) (by decide) (by decide +kernel) (by decide) ?_
    exact law_land hL hL6 C0 E w2 w14.2.1 hpm hP hD hS hl
  · refine lv_tableIn (off := 705) (tgt := 738) hx hb dL_law_33 (by decide) (by decide) (by decide +kernel) (by decide) ?_
    exact law_years hL hL6 C0 E w2 w14.2.1 hpm hP hD hS hl
  · refine lv_tableIn (off := 728) (tgt := 761) hx hb dL_law_33 (by decide) (by decide) (by decide +kernel) (by decide) ?_
    exact law_follow hL hL6 C0 E w2 w14.2.1 hpm hP hD hS hl
  · refine lv_tableIn (off := 761) (tgt := 794) hx hb dL_law_33 (by decide) (by decide) (by decide +kernel) (by decide) ?_
    exact law_drawn hL hL6 C0 E w2 w14.2.1 hpm hP hD hS hl
  · refine lv_tableIn (off := 824) (tgt := 857) hx hb dL_law_33 (by decide) (by decide) (by decide +kernel) (by decide) ?_
    exact law_image hL hL6 C0 E w2 w14.2.1 hpm hP hD hS hl
  · refine lv_tableIn (off := 847) (tgt := 880) hx hb dL_law_33 (by decide) (by decide) (by decide +kernel) (by decide) ?_
    exact law_restore hL hL6 C0 E w2 w14.2.1 hpm hP hD hS hl
  · refine lv_tableIn (off := 870) (tgt := 903) hx hb dL_law_33 (by decide) (by decide) (by decide +kernel) (by decide) ?_
    exact law_told hL hL6 C0 E w2 w14.2.1 hpm hP hD hS hl
  refine lv_tableOut (tgt := 926) hx hb dL_law_33 (by right; rw [nI_toInt (by omega)]; omega) (by decide) ?_
  refine lv_iinc (v := 6) (lv' := [(3, .int 6), (2, .ref q13), (1, .ref q1), (0, .ref b)]) hx hb dL_law_926 hl (k := 0) rfl (by decide) (by decide) rfl (fun ls hl => ?_)
  refine lv_goto (tgt := 18) hx hb dL_law_929 (by decide) ?_
  refine W.widen (k := 600000) (n := 7302249) (by decide +kernel) (by decide +kernel) ?_
  exact law_end hL C0 hS (lv_sub hl [0, 3] rfl)
set_option maxHeartbeats 4000000 in
theorem lw_walk (l : Launch) (b : Addr) (xs : List Int32) : MetFree l x (headSpec (Jvm.Cond.code x code maxLocals ret :: tables_1) room_1) (lw_P b xs) (fun _ _ _ _ _ => True) lw_Q := by
  refine MetFree.of_bodyS (code := code) (maxLocals := maxLocals) (ret := ret) (by decide) ?_ ?_
  · intro args s m h hn
    obtain ⟨meth, c, h1, h2, h3, h4, h5, h6, -, -⟩ := Cond.code_spec hn (atoms_spec (ws := Jvm.Cond.code x code maxLocals ret :: tables_1) h _ List.mem_cons_self)
    exact ⟨meth, c, h1, h2, h3, h4, h5, h6⟩
  · intro p e s m args below meth c s₁ B hml0 hP _
    obtain ⟨rfl, hx, hbd, hgv⟩ := hP
    obtain ⟨scr, harrAt, hlist, hof, hsmall⟩ := hx
    obtain ⟨hcb, hkn, -, -⟩ := State.arrayAt?_spec harrAt
    have hown : s.vm.findClass R_law = some m.cls := findClass_of_methodNamed B.named
    have hts0 : ∀ c ∈ (Jvm.Cond.code x code maxLocals ret :: tables_1), c.before #[Value.ref b] s = true := atoms_spec (ws := Jvm.Cond.code x code maxLocals ret :: tables_1) B.pre
    have hts : ∀ w ∈ lw_tbl, w.before #[Value.ref b] s = true := k2_hts_sels lw_privs (fun w hw => hts0 w (List.mem_cons_of_mem _ hw)) lw_privs_ok
    have hml : c.maxLocals = 4 := B.maxLocals_eq (hts0 _ List.mem_cons_self)
    have X₀ : Stand p l e room_1 s m #[Value.ref b] below meth c s₁ [] 0 0 := Stand.of_body B
    have hh0 : s₁.heap = s.heap := by rw [B.state]; rfl
    have hsz : scr.slots.size = xs.length := by rw [← Array.length_toList, hlist, List.length_map]
    have hval : ∀ j : Nat, j < xs.length → scr.slots[j]? = some (.int (xs.getD j 0)) := fun j hj => by
      rw [← Array.getElem?_toList, hlist]
      simp [hj]
    have hbl : b < s.heap.size := (Array.getElem?_eq_some_iff.mp hcb).1
    have hX : va_X b xs.length (fun j => xs.getD j 0) s s.heap := ⟨scr, hcb, hof, hkn, hsz, hval⟩
    have K : W p l e room_1 s m #[Value.ref b] below meth c s₁.heap [] 0 0 (lw_Z below #[Value.ref b] s) (entryFrame m ([Value.ref b] : List Value).toArray 4) := by
      rw [hh0]
      exact whole_start l hbd ⟨B.exec, B.bytes, B.returns, hml, hown, hts, hX, hbl, B.notSynchronized, hgv⟩
    obtain ⟨t, a1, o, b1, b2, b3⟩ := K s₁ rfl X₀
    exact ⟨t, o, a1, b1, b2, b3⟩
theorem lw_pre_spec {args : Array Value} {s : State} (h : (Jvm.Cond.and given_1 narrow_1).before args s = true) (hr : rest_1_c.before args s = true) : ∃ (b : Addr) (xs : List Int32), lw_P b xs args s := by
  have hs := flat_of_before _ h
  have hq := flat_of_before _ hr
  have hc : (Cond.count 1).before args s = true := hs _ (by decide +kernel)
  have harr : (Cond.arrayOf (.arg 0) .int).before args s = true := hs _ (by decide +kernel)
  have hle : (Cond.le (.length (.arg 0)) (.int 6)).before args s = true := hs _ (by decide +kernel)
  have hlen : (Cond.isInt (.length (.arg 0))).before args s = true := hq _ (by decide +kernel)
  have hall : (Cond.all (.arg 0) (.isInt (.elem (.arg 0) (.index 0)))).before args s = true := hq _ (by decide +kernel)
  obtain ⟨b, xs, hb, hx⟩ := State.ints_of_pre rfl harr hlen hall
  have hsm : xs.length < 2 ^ 31 := hx.choose_spec.2.2.2
  have hev : (Term.length (.arg 0)).eval args s none [] s = some (.int xs.length.toInt32) := hx.length_eval hb
  have hv := Cond.le_ints hev (show (Term.int 6).eval args s none [] s = some (.int 6) from rfl)
  have hd : xs.length.toInt32 ≤ 6 := by
    simpa [Cond.before, Cond.holds, hv] using hle
  have hN : xs.length ≤ 6 := (Int32.ofNat_le_ofNat hsm (by decide)).mp (show Int32.ofNat xs.length ≤ Int32.ofNat 6 from hd)
  exact ⟨b, xs, Cond.one_arg hc (show args[0]? = some (.ref b) from hb), hx, hN, h⟩
theorem lw_comes (l : Launch) : Comes l x (Jvm.Cond.code x code maxLocals ret :: tables_1) room_1 (fun tb e args s => Calls_1 tb e args s ∧ rest_1 tb e args s ∧ Pre_1 tb e args s)
    (fun _ _ args s o t => lw_Q args s o t) := by
  intro p e ha hc hk s m args below hf hfit hheap happ hpre
  obtain ⟨b, xs, hP⟩ := lw_pre_spec hpre.2.2 hpre.2.1
  obtain ⟨k, o, h1, h2, h3, hQ⟩ := lw_walk l b xs p e ha hc hk s m args below hf ((Spec.applies_iff_loose hf).mp happ).1 hP trivial
  exact ⟨k, o, h1, h2, h3, hQ⟩
theorem lw_frame {s t : State} {o : Outcome} {args : Array Value} (h : Framed s o t [] 600000 7302249) :
    Framed s o t (fieldLocs frame_1_writes args s ++ arrayLocs frame_1_arrays args s ++ staticLocs frame_1_statics s) 600000 7302249 := h
theorem lw_limb (L : Cond) (hL : ∀ (args : Array Value) (s t : State), L.after args s (.returned (some (.int 1))) t = true) :
    ArmFor flags0 classFile x code maxLocals ret World_1 tables_1 room_1 Calls_1 rest_1 Pre_1
      (fun tb e a s o t => postC L tb e a s o t ∧ Framed s o t (fieldLocs frame_1_writes a s ++ arrayLocs frame_1_arrays a s ++ staticLocs frame_1_statics s) 600000 7302249) := by
  intro l _ _ _ p e ha hc hk s m args below hf hfit hheap happ hpre
  obtain ⟨k, o, h1, h2, h3, rfl, hF⟩ := lw_comes l p e ha hc hk s m args below hf hfit hheap happ hpre
  exact ⟨k, _, h1, h2, h3, hL args s _, lw_frame hF⟩
theorem i_vc : Claimed_1_1 ∧ Claimed_1_2 := ⟨lw_limb limb_1_1 (fun args s t => by simp [limb_1_1, Cond.after, Cond.holds, Cond.value]), lw_limb limb_1_2 (fun args s t => Cond.after_iff.mpr (by
  first | (rw [show limb_1_2 = Cond.eq .result (.int 1) from rfl, Cond.eq_ints (x := 1) (y := 1) rfl rfl]; simp; done) | (simp [limb_1_2, Cond.value, Term.eval]; done)))⟩

