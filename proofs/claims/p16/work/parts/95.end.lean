set_option maxHeartbeats 1000000 in
set_option maxRecDepth 100000 in
theorem law_loop {p : Program} {l : Launch} {e : Env} {s : State} {m : MethodId} {below : List Frame} {meth : Method} {c : Code} {b L : Nat} {xs : Nat → Int32} {G : Gy} {h0 h1 : Nat} (hL : L ≤ 3072) (C0 : lw_At p s m meth c b L xs) (E : EV G (fun q : Nat => s.heap.size ≤ q) s s.heap) : ∀ (d i : Nat), L + 6 ≤ i + d → i ≤ L + 6 → ∀ (xn : Int32) (xtold : Int32) (xsp : Int32) (xgr : Int32) (xfc : Nat → Int32) (xfk : Nat → Int32) (xlen : Int32) (xfsg : Nat → Int32) (xwa : Option PQ) (xwb : Option PQ) (xc0 : Nat) (xb0 : Nat) (mk : Nat) (mtold : Int32) (mla : Nat) (msp : Int32) (mfm : Nat → Int32) (mfk : Nat → Int32) (mpm : Nat) (mfpd : Nat → Int32) (mfz : Nat → Int32) (mfkp : Nat → Int32) (wx wm : va_W), CWd G h0 (xn, xtold, xsp, xgr, xfc, xfk, xlen, xfsg, xwa, xwb, xc0, xb0) wx → MWd G h1 (mk, mtold, mla, msp, mfm, mfk, mpm, mfpd, mfz, mfkp) wm → RELB xn xtold xsp xgr xfc xfk xlen xfsg xwa xwb mk mtold mla msp mfm mfk mpm mfpd mfz mfkp → ∀ (H : Heap) (locs : List Loc) (ls : Array Slot), va_P G.1 vwCl (wx ++ wm) H → va_D (fun q : Nat => s.heap.size ≤ q) (wx ++ wm) → va_S (fun q : Nat => s.heap.size ≤ q) s.heap H locs → lv_has ls 4 [(3, .int (nI i)), (2, .ref h1), (1, .ref h0), (0, .ref b)] → W p l e room_1 s m #[Value.ref b] below meth c H locs (25 + cqN xwa xwb xc0 xb0) (94050 + sqN xwa xwb xc0 xb0) (lw_Z below #[Value.ref b] s) (F0 m 18 ls []) := by
  intro d
  induction d with
  | zero =>
    intro i hd hi6 xn xtold xsp xgr xfc xfk xlen xfsg xwa xwb xc0 xb0 mk mtold mla msp mfm mfk mpm mfpd mfz mfkp wx wm hC hM hR H locs ls hP hD hS hl
    obtain ⟨hx, hb, hr, hml, hown, hts0, hX, hbl, hlocks, hgv⟩ := id C0
    have hbA : ¬ (fun q : Nat => s.heap.size ≤ q) b := Nat.not_le.mpr hbl
    have hcq := cq_le hC
    refine lv_iload_n hx hb dL_law_18 rfl (lv_at hl 0 rfl) ?_
    refine lv_aload_n hx hb dL_law_19 rfl (lv_at hl 3 rfl) ?_
    refine va_slen hx hb hX hbl hbA hS dL_law_20 ?_
    refine lv_bipush (v := 6) hx hb dL_law_21 (by decide) ?_
    refine lv_isub hx hb dL_law_23 ?_
    refine lv_topi (fun x1 ex1 => ?_)
    have hx1 : x1.toInt = (L : Int) - 6 := by rw [ex1]; exact pk_sub_toInt (a := L) (b := 6) (by omega) (by decide)
    refine lv_icmp_gt (tgt := 932) hx hb dL_law_24 (by decide) (fun c1 => ?_) (fun c1 => absurd (show x1 < nI i by rw [i3_lt, hx1, nI_toInt (by omega)]; omega) c1)
    refine lv_iconst (v := 1) hx hb dL_law_932 (by decide) ?_
    refine va_forget (fun q hq => hS.2.2 q hq) ?_
    refine W.widen (k := 600000) (n := 7302250) (show 25 + cqN xwa xwb xc0 xb0 ≤ 600000 by omega) (show 94050 + sqN xwa xwb xc0 xb0 ≤ 7302250 by omega) ?_
    exact lw_ret hx hb hr hlocks dL_law_933
  | succ d ihd =>
    intro i hd hi6 xn xtold xsp xgr xfc xfk xlen xfsg xwa xwb xc0 xb0 mk mtold mla msp mfm mfk mpm mfpd mfz mfkp wx wm hC hM hR H locs ls hP hD hS hl
    obtain ⟨hx, hb, hr, hml, hown, hts0, hX, hbl, hlocks, hgv⟩ := id C0
    have hbA : ¬ (fun q : Nat => s.heap.size ≤ q) b := Nat.not_le.mpr hbl
    have hcq := cq_le hC
    refine lv_iload_n hx hb dL_law_18 rfl (lv_at hl 0 rfl) ?_
    refine lv_aload_n hx hb dL_law_19 rfl (lv_at hl 3 rfl) ?_
    refine va_slen hx hb hX hbl hbA hS dL_law_20 ?_
    refine lv_bipush (v := 6) hx hb dL_law_21 (by decide) ?_
    refine lv_isub hx hb dL_law_23 ?_
    refine lv_topi (fun x1 ex1 => ?_)
    have hx1 : x1.toInt = (L : Int) - 6 := by rw [ex1]; exact pk_sub_toInt (a := L) (b := 6) (by omega) (by decide)
    refine lv_icmp_gt (tgt := 932) hx hb dL_law_24 (by decide) (fun c1 => ?_) (fun c1 => ?_)
    · refine lv_iconst (v := 1) hx hb dL_law_932 (by decide) ?_
      refine va_forget (fun q hq => hS.2.2 q hq) ?_
      refine W.widen (k := 600000) (n := 7302250) (show 25 + cqN xwa xwb xc0 xb0 ≤ 600000 by omega) (show 94050 + sqN xwa xwb xc0 xb0 ≤ 7302250 by omega) ?_
      exact lw_ret hx hb hr hlocks dL_law_933
    have hi : i + 6 ≤ L := by rw [i3_lt, hx1, nI_toInt (by omega)] at c1; omega
    have ih : ∀ (xn : Int32) (xtold : Int32) (xsp : Int32) (xgr : Int32) (xfc : Nat → Int32) (xfk : Nat → Int32) (xlen : Int32) (xfsg : Nat → Int32) (xwa : Option PQ) (xwb : Option PQ) (xc0 : Nat) (xb0 : Nat) (mk : Nat) (mtold : Int32) (mla : Nat) (msp : Int32) (mfm : Nat → Int32) (mfk : Nat → Int32) (mpm : Nat) (mfpd : Nat → Int32) (mfz : Nat → Int32) (mfkp : Nat → Int32) (wx2 wm2 : va_W), CWd G h0 (xn, xtold, xsp, xgr, xfc, xfk, xlen, xfsg, xwa, xwb, xc0, xb0) wx2 → MWd G h1 (mk, mtold, mla, msp, mfm, mfk, mpm, mfpd, mfz, mfkp) wm2 → RELB xn xtold xsp xgr xfc xfk xlen xfsg xwa xwb mk mtold mla msp mfm mfk mpm mfpd mfz mfkp → ∀ (H1 : Heap) (locs1 : List Loc) (ls1 : Array Slot), va_P G.1 vwCl (wx2 ++ wm2) H1 → va_D (fun q : Nat => s.heap.size ≤ q) (wx2 ++ wm2) → va_S (fun q : Nat => s.heap.size ≤ q) s.heap H1 locs1 → lv_has ls1 4 [(3, .int (nI (i + 6))), (2, .ref h1), (1, .ref h0), (0, .ref b)] → W p l e room_1 s m #[Value.ref b] below meth c H1 locs1 (25 + cqN xwa xwb xc0 xb0) (94050 + sqN xwa xwb xc0 xb0) (lw_Z below #[Value.ref b] s) (F0 m 18 ls1 []) := ihd (i + 6) (by omega) (by omega)
    refine lv_aload_n hx hb dL_law_27 rfl (lv_at hl 3 rfl) ?_
    refine lv_iload_n hx hb dL_law_28 rfl (lv_at hl 0 rfl) ?_
    refine va_sld hx hb hX hbl hbA hS (i := nI i) (vp_in_nI (by omega) (by omega)) dL_law_29 ?_
    refine lv_bipush (v := 31) hx hb dL_law_30 (by decide) ?_
    refine lv_iand hx hb dL_law_32 ?_
    refine lv_topi (fun x2 ex2 => ?_)
    obtain ⟨j, hj, ej⟩ := pk_andE (xs (nI i).toNatClampNeg) (m := 31) 5 (by decide)
    rw [ej] at ex2
    subst ex2
    rcases (show j = 0 ∨ j = 1 ∨ j = 2 ∨ j = 3 ∨ j = 4 ∨ j = 5 ∨ j = 6 ∨ j = 7 ∨ j = 8 ∨ j = 9 ∨ j = 10 ∨ j = 11 ∨ j = 12 ∨ j = 13 ∨ j = 14 ∨ j = 15 ∨ j = 16 ∨ j = 17 ∨ j = 18 ∨ j = 19 ∨ j = 20 ∨ j = 21 ∨ j = 22 ∨ j = 23 ∨ 24 ≤ j by omega) with rfl | rfl | rfl | rfl | rfl | rfl | rfl | rfl | rfl | rfl | rfl | rfl | rfl | rfl | rfl | rfl | rfl | rfl | rfl | rfl | rfl | rfl | rfl | rfl | hj2
    · refine lv_tableIn (off := 111) (tgt := 144) hx hb dL_law_33 (by decide) (by decide) (by decide +kernel) (by decide) ?_
      exact law_sites hL hi C0 E xn xtold xsp xgr xfc xfk xlen xfsg xwa xwb xc0 xb0 mk mtold mla msp mfm mfk mpm mfpd mfz mfkp wx wm hC hM hR hP hD hS hl ih
    · refine lv_tableIn (off := 134) (tgt := 167) hx hb dL_law_33 (by decide) (by decide) (by decide +kernel) (by decide) ?_
      exact law_say hL hi C0 E xn xtold xsp xgr xfc xfk xlen xfsg xwa xwb xc0 xb0 mk mtold mla msp mfm mfk mpm mfpd mfz mfkp wx wm hC hM hR hP hD hS hl ih
    · refine lv_tableIn (off := 157) (tgt := 190) hx hb dL_law_33 (by decide) (by decide) (by decide +kernel) (by decide) ?_
      exact law_wipe hL hi C0 E xn xtold xsp xgr xfc xfk xlen xfsg xwa xwb xc0 xb0 mk mtold mla msp mfm mfk mpm mfpd mfz mfkp wx wm hC hM hR hP hD hS hl ih
    · refine lv_tableIn (off := 170) (tgt := 203) hx hb dL_law_33 (by decide) (by decide) (by decide +kernel) (by decide) ?_
      exact law_fault hL hi C0 E xn xtold xsp xgr xfc xfk xlen xfsg xwa xwb xc0 xb0 mk mtold mla msp mfm mfk mpm mfpd mfz mfkp wx wm hC hM hR hP hD hS hl ih
    · refine lv_tableIn (off := 193) (tgt := 226) hx hb dL_law_33 (by decide) (by decide) (by decide +kernel) (by decide) ?_
      exact law_map hL hi C0 E xn xtold xsp xgr xfc xfk xlen xfsg xwa xwb xc0 xb0 mk mtold mla msp mfm mfk mpm mfpd mfz mfkp wx wm hC hM hR hP hD hS hl ih
    · refine lv_tableIn (off := 216) (tgt := 249) hx hb dL_law_33 (by decide) (by decide) (by decide +kernel) (by decide) ?_
      exact law_at hL hi C0 E xn xtold xsp xgr xfc xfk xlen xfsg xwa xwb xc0 xb0 mk mtold mla msp mfm mfk mpm mfpd mfz mfkp wx wm hC hM hR hP hD hS hl ih
    · refine lv_tableIn (off := 249) (tgt := 282) hx hb dL_law_33 (by decide) (by decide) (by decide +kernel) (by decide) ?_
      exact law_hand hL hi C0 E xn xtold xsp xgr xfc xfk xlen xfsg xwa xwb xc0 xb0 mk mtold mla msp mfm mfk mpm mfpd mfz mfkp wx wm hC hM hR hP hD hS hl ih
    · refine lv_tableIn (off := 282) (tgt := 315) hx hb dL_law_33 (by decide) (by decide) (by decide +kernel) (by decide) ?_
      exact law_judge hL hi C0 E xn xtold xsp xgr xfc xfk xlen xfsg xwa xwb xc0 xb0 mk mtold mla msp mfm mfk mpm mfpd mfz mfkp wx wm hC hM hR hP hD hS hl ih
    · refine lv_tableIn (off := 305) (tgt := 338) hx hb dL_law_33 (by decide) (by decide) (by decide +kernel) (by decide) ?_
      exact law_copy hL hi C0 E xn xtold xsp xgr xfc xfk xlen xfsg xwa xwb xc0 xb0 mk mtold mla msp mfm mfk mpm mfpd mfz mfkp wx wm hC hM hR hP hD hS hl ih
    · refine lv_tableIn (off := 338) (tgt := 371) hx hb dL_law_33 (by decide) (by decide) (by decide +kernel) (by decide) ?_
      exact law_far hL hi C0 E xn xtold xsp xgr xfc xfk xlen xfsg xwa xwb xc0 xb0 mk mtold mla msp mfm mfk mpm mfpd mfz mfkp wx wm hC hM hR hP hD hS hl ih
    · refine lv_tableIn (off := 391) (tgt := 424) hx hb dL_law_33 (by decide) (by decide) (by decide +kernel) (by decide) ?_
      exact law_who hL hi C0 E xn xtold xsp xgr xfc xfk xlen xfsg xwa xwb xc0 xb0 mk mtold mla msp mfm mfk mpm mfpd mfz mfkp wx wm hC hM hR hP hD hS hl ih
    · refine lv_tableIn (off := 434) (tgt := 467) hx hb dL_law_33 (by decide) (by decide) (by decide +kernel) (by decide) ?_
      exact law_between hL hi C0 E xn xtold xsp xgr xfc xfk xlen xfsg xwa xwb xc0 xb0 mk mtold mla msp mfm mfk mpm mfpd mfz mfkp wx wm hC hM hR hP hD hS hl ih
    · refine lv_tableIn (off := 487) (tgt := 520) hx hb dL_law_33 (by decide) (by decide) (by decide +kernel) (by decide) ?_
      exact law_tree hL hi C0 E xn xtold xsp xgr xfc xfk xlen xfsg xwa xwb xc0 xb0 mk mtold mla msp mfm mfk mpm mfpd mfz mfkp wx wm hC hM hR hP hD hS hl ih
    · refine lv_tableIn (off := 530) (tgt := 563) hx hb dL_law_33 (by decide) (by decide) (by decide +kernel) (by decide) ?_
      exact law_lost hL hi C0 E xn xtold xsp xgr xfc xfk xlen xfsg xwa xwb xc0 xb0 mk mtold mla msp mfm mfk mpm mfpd mfz mfkp wx wm hC hM hR hP hD hS hl ih
    · refine lv_tableIn (off := 573) (tgt := 606) hx hb dL_law_33 (by decide) (by decide) (by decide +kernel) (by decide) ?_
      exact law_wished hL hi C0 E xn xtold xsp xgr xfc xfk xlen xfsg xwa xwb xc0 xb0 mk mtold mla msp mfm mfk mpm mfpd mfz mfkp wx wm hC hM hR hP hD hS hl ih
    · refine lv_tableIn (off := 626) (tgt := 659) hx hb dL_law_33 (by decide) (by decide) (by decide +kernel) (by decide) ?_
      exact law_holds hL hi C0 E xn xtold xsp xgr xfc xfk xlen xfsg xwa xwb xc0 xb0 mk mtold mla msp mfm mfk mpm mfpd mfz mfkp wx wm hC hM hR hP hD hS hl ih
    · refine lv_tableIn (off := 659) (tgt := 692) hx hb dL_law_33 (by decide) (by decide) (by decide +kernel) (by decide) ?_
      exact law_spades hL hi C0 E xn xtold xsp xgr xfc xfk xlen xfsg xwa xwb xc0 xb0 mk mtold mla msp mfm mfk mpm mfpd mfz mfkp wx wm hC hM hR hP hD hS hl ih
    · refine lv_tableIn (off := 682) (tgt := 715) hx hb dL_law_33 (by decide) (by decide) (by decide +kernel) (by decide) ?_
      exact law_land hL hi C0 E xn xtold xsp xgr xfc xfk xlen xfsg xwa xwb xc0 xb0 mk mtold mla msp mfm mfk mpm mfpd mfz mfkp wx wm hC hM hR hP hD hS hl ih
    · refine lv_tableIn (off := 705) (tgt := 738) hx hb dL_law_33 (by decide) (by decide) (by decide +kernel) (by decide) ?_
      exact law_years hL hi C0 E xn xtold xsp xgr xfc xfk xlen xfsg xwa xwb xc0 xb0 mk mtold mla msp mfm mfk mpm mfpd mfz mfkp wx wm hC hM hR hP hD hS hl ih
    · refine lv_tableIn (off := 728) (tgt := 761) hx hb dL_law_33 (by decide) (by decide) (by decide +kernel) (by decide) ?_
      exact law_follow hL hi C0 E xn xtold xsp xgr xfc xfk xlen xfsg xwa xwb xc0 xb0 mk mtold mla msp mfm mfk mpm mfpd mfz mfkp wx wm hC hM hR hP hD hS hl ih
    · refine lv_tableIn (off := 761) (tgt := 794) hx hb dL_law_33 (by decide) (by decide) (by decide +kernel) (by decide) ?_
      exact law_drawn hL hi C0 E xn xtold xsp xgr xfc xfk xlen xfsg xwa xwb xc0 xb0 mk mtold mla msp mfm mfk mpm mfpd mfz mfkp wx wm hC hM hR hP hD hS hl ih
    · refine lv_tableIn (off := 824) (tgt := 857) hx hb dL_law_33 (by decide) (by decide) (by decide +kernel) (by decide) ?_
      exact law_image hL hi C0 E xn xtold xsp xgr xfc xfk xlen xfsg xwa xwb xc0 xb0 mk mtold mla msp mfm mfk mpm mfpd mfz mfkp wx wm hC hM hR hP hD hS hl ih
    · refine lv_tableIn (off := 847) (tgt := 880) hx hb dL_law_33 (by decide) (by decide) (by decide +kernel) (by decide) ?_
      exact law_restore hL hi C0 E xn xtold xsp xgr xfc xfk xlen xfsg xwa xwb xc0 xb0 mk mtold mla msp mfm mfk mpm mfpd mfz mfkp wx wm hC hM hR hP hD hS hl ih
    · refine lv_tableIn (off := 870) (tgt := 903) hx hb dL_law_33 (by decide) (by decide) (by decide +kernel) (by decide) ?_
      exact law_told hL hi C0 E xn xtold xsp xgr xfc xfk xlen xfsg xwa xwb xc0 xb0 mk mtold mla msp mfm mfk mpm mfpd mfz mfkp wx wm hC hM hR hP hD hS hl ih
    refine lv_tableOut (tgt := 926) hx hb dL_law_33 (by right; rw [nI_toInt (by omega)]; omega) (by decide) ?_
    obtain ⟨z9, ez9⟩ : ∃ yy_ : Int32, yy_ = nI i + 6 := ⟨_, rfl⟩
    refine lv_iinc (v := z9) (lv' := [(3, .int z9), (2, .ref h1), (1, .ref h0), (0, .ref b)]) hx hb dL_law_926 hl (k := 0) rfl (by rw [ez9]; rfl) (by decide) rfl (fun ls hl => ?_)
    obtain rfl : z9 = nI (i + 6) := by rw [ez9]; exact nI_add i 6
    refine lv_goto (tgt := 18) hx hb dL_law_929 (by decide) ?_
    exact ih xn xtold xsp xgr xfc xfk xlen xfsg xwa xwb xc0 xb0 mk mtold mla msp mfm mfk mpm mfpd mfz mfkp wx wm hC hM hR H locs ls hP hD hS hl

set_option maxHeartbeats 1000000 in
set_option maxRecDepth 100000 in
theorem whole_start {p : Program} {e : Env} {s : State} {m : MethodId} {below : List Frame} {meth : Method} {c : Code} (l : Launch) {b L : Nat} {xs : Nat → Int32} (hL : L ≤ 3072) (C0 : lw_At p s m meth c b L xs) : W p l e room_1 s m #[Value.ref b] below meth c s.heap [] 0 0 (lw_Z below #[Value.ref b] s) (entryFrame m ([Value.ref b] : List Value).toArray 4) := by
  obtain ⟨hx, hb, hr, hml, hown, hts0, hX, hbl, hlocks, hgv⟩ := id C0
  have hts : ∀ w ∈ wsL_law, w.before #[Value.ref b] s = true := fun w h => hts0 w (wsL_law_in w h)
  have hA : ∀ q : Nat, s.heap.size ≤ q → (fun q : Nat => s.heap.size ≤ q) q := fun _ h => h
  obtain ⟨G, E⟩ := ev_start C0
  have hS : va_S (fun q : Nat => s.heap.size ≤ q) s.heap s.heap [] := va_S.rf
  have hP : va_P G.1 vwCl [] s.heap := fun k q h => by simp at h
  have hD : va_D (fun q : Nat => s.heap.size ≤ q) [] := ⟨fun i j p q h => by simp at h, fun k q h => by simp at h⟩
  have hl := lv_entry ([.ref b]) (n := 4) (Nat.le_of_ble_eq_true rfl)
  rw [lg_entry_eq]
  generalize (lg_sl ([.ref b]) ++ List.replicate (4 - (lg_sl ([.ref b])).length) Slot.unset).toArray = ls at hl ⊢
  have hl : lv_has ls 4 [(0, .ref b)] := hl
  refine va_new (ci := 5) (fs := [.null, .null, .null, .null, .null]) (C := RX9) (T := TX9) (N := 5) hx hb hts inlX9 tyX9 tyX9_ok hown (hts (.classLink RL 7 RX9) (by decide +kernel)) (hts (.instantiable RX9 5) (by decide +kernel)) (hts (.initialized RX9) (by decide +kernel)) E.K hP hD hS hA rfl (by decide +kernel) (by decide +kernel) (by decide +kernel) dL_law_0 (fun h0 H hP hD hS => ?_)
  have hP : va_P G.1 vwCl [(h0, .inr (5, [.null, .null, .null, .null, .null]))] H := hP
  have hD : va_D (fun q : Nat => s.heap.size ≤ q) [(h0, .inr (5, [.null, .null, .null, .null, .null]))] := hD
  refine W.widen (k := 1) (n := 5) (by decide +kernel) (by decide +kernel) ?_
  refine lv_dup hx hb dL_law_3 rfl ?_
  refine ca_v (wr := []) (va_runI (As := []) (rest := [.ref h0]) ⟨hx, hb, hml, hown, hts⟩ (c_LastMap l G H.size h0) (cwI 0 hts gL_law_X9_init rfl rfl rfl (hts (.initialized RX9) (by decide +kernel)) (hts (.methodLink RL 9 yX9_init) (by decide +kernel)) (hts (.instanceMethod yX9_init) (by decide +kernel)) rfl (by decide +kernel) ⟨by decide +kernel, by decide +kernel⟩) (pre_S E hP hD hS hA [0] (by decide) rfl) rfl rfl hl.1 rfl (lv_room (Nat.le_of_ble_eq_true rfl)) dL_law_4 ⟨by decide +kernel, by decide +kernel⟩) hS hP hD hA [0] [] rfl rfl (by decide) (by decide) (fun u4 H locs w2 hP hD hS => ?_)
  obtain ⟨pad, pp, im, sg, sl, ac, ak, xfk⟩ := u4
  dsimp only at w2 hP hD
  have hP : va_P G.1 vwCl [(h0, .inr (5, [.ref pad, .ref pp, .ref im, .null, .null])), (im, .inl (gP G, 2, .inr (.inr (.inr (.inr (fun _ => none)))))), (pad, .inr (0, [.ref sg, .ref sl, .int 0])), (sg, .inl (gI G, 40, .inl (fun _ => 0))), (sl, .inl (gI G, 10, .inl (fun _ => 0))), (pp, .inr (1, [.int 6, .int 0, .int 1, .int 0, .ref ac, .ref ak])), (ac, .inl (gI G, 6, .inl (fun _ => 0))), (ak, .inl (gI G, 4, .inl xfk))] H := hP
  have hD : va_D (fun q : Nat => s.heap.size ≤ q) [(h0, .inr (5, [.ref pad, .ref pp, .ref im, .null, .null])), (im, .inl (gP G, 2, .inr (.inr (.inr (.inr (fun _ => none)))))), (pad, .inr (0, [.ref sg, .ref sl, .int 0])), (sg, .inl (gI G, 40, .inl (fun _ => 0))), (sl, .inl (gI G, 10, .inl (fun _ => 0))), (pp, .inr (1, [.int 6, .int 0, .int 1, .int 0, .ref ac, .ref ak])), (ac, .inl (gI G, 6, .inl (fun _ => 0))), (ak, .inl (gI G, 4, .inl xfk))] := hD
  refine W.widen (k := 8) (n := 76) (by decide +kernel) (by decide +kernel) ?_
  refine lv_astore_n (lv' := [(1, .ref h0), (0, .ref b)]) hx hb dL_law_7 rfl hl (by decide) rfl (fun ls hl => ?_)
  refine va_new (ci := 6) (fs := [.int 0, .null, .int 0, .null, .int 0, .int 0, .null, .null, .int 0, .null, .int 0, .int 0, .null, .null, .null, .null, .int 0, .null, .null, .null, .int 0, .int 0, .null, .null, .null, .null, .int 0, .int 0]) (C := RX10) (T := TX10) (N := 28) hx hb hts inlX10 tyX10 tyX10_ok hown (hts (.classLink RL 10 RX10) (by decide +kernel)) (hts (.instantiable RX10 28) (by decide +kernel)) (hts (.initialized RX10) (by decide +kernel)) E.K hP hD hS hA rfl (by decide +kernel) (by decide +kernel) (by decide +kernel) dL_law_8 (fun h1 H hP hD hS => ?_)
  have hP : va_P G.1 vwCl [(h0, .inr (5, [.ref pad, .ref pp, .ref im, .null, .null])), (im, .inl (gP G, 2, .inr (.inr (.inr (.inr (fun _ => none)))))), (pad, .inr (0, [.ref sg, .ref sl, .int 0])), (sg, .inl (gI G, 40, .inl (fun _ => 0))), (sl, .inl (gI G, 10, .inl (fun _ => 0))), (pp, .inr (1, [.int 6, .int 0, .int 1, .int 0, .ref ac, .ref ak])), (ac, .inl (gI G, 6, .inl (fun _ => 0))), (ak, .inl (gI G, 4, .inl xfk)), (h1, .inr (6, [.int 0, .null, .int 0, .null, .int 0, .int 0, .null, .null, .int 0, .null, .int 0, .int 0, .null, .null, .null, .null, .int 0, .null, .null, .null, .int 0, .int 0, .null, .null, .null, .null, .int 0, .int 0]))] H := hP
  have hD : va_D (fun q : Nat => s.heap.size ≤ q) [(h0, .inr (5, [.ref pad, .ref pp, .ref im, .null, .null])), (im, .inl (gP G, 2, .inr (.inr (.inr (.inr (fun _ => none)))))), (pad, .inr (0, [.ref sg, .ref sl, .int 0])), (sg, .inl (gI G, 40, .inl (fun _ => 0))), (sl, .inl (gI G, 10, .inl (fun _ => 0))), (pp, .inr (1, [.int 6, .int 0, .int 1, .int 0, .ref ac, .ref ak])), (ac, .inl (gI G, 6, .inl (fun _ => 0))), (ak, .inl (gI G, 4, .inl xfk)), (h1, .inr (6, [.int 0, .null, .int 0, .null, .int 0, .int 0, .null, .null, .int 0, .null, .int 0, .int 0, .null, .null, .null, .null, .int 0, .null, .null, .null, .int 0, .int 0, .null, .null, .null, .null, .int 0, .int 0]))] := hD
  refine W.widen (k := 9) (n := 104) (by decide +kernel) (by decide +kernel) ?_
  refine lv_dup hx hb dL_law_11 rfl ?_
  refine ca_v (wr := [(h0, .inr (5, [.ref pad, .ref pp, .ref im, .null, .null])), (im, .inl (gP G, 2, .inr (.inr (.inr (.inr (fun _ => none)))))), (pad, .inr (0, [.ref sg, .ref sl, .int 0])), (sg, .inl (gI G, 40, .inl (fun _ => 0))), (sl, .inl (gI G, 10, .inl (fun _ => 0))), (pp, .inr (1, [.int 6, .int 0, .int 1, .int 0, .ref ac, .ref ak])), (ac, .inl (gI G, 6, .inl (fun _ => 0))), (ak, .inl (gI G, 4, .inl xfk))]) (va_runI (As := []) (rest := [.ref h1]) ⟨hx, hb, hml, hown, hts⟩ (m_LastMapModel l G H.size h1) (cwI 0 hts gL_law_X10_init rfl rfl rfl (hts (.initialized RX10) (by decide +kernel)) (hts (.methodLink RL 12 yX10_init) (by decide +kernel)) (hts (.instanceMethod yX10_init) (by decide +kernel)) rfl (by decide +kernel) ⟨by decide +kernel, by decide +kernel⟩) (pre_S E hP hD hS hA [8] (by decide) rfl) rfl rfl hl.1 rfl (lv_room (Nat.le_of_ble_eq_true rfl)) dL_law_12 ⟨by decide +kernel, by decide +kernel⟩) hS hP hD hA [8] [0, 1, 2, 3, 4, 5, 6, 7] rfl rfl (by decide) (by decide) (fun u5 H locs w3 hP hD hS => ?_)
  obtain ⟨a_maps, a_kinds, a_part, a_pad, a_slips, a_queue, a_depth, a_by, a_from, a_offOf, a_parent, a_best, a_sums, a_toward, a_kept, a_isKept, mfm, mfk, mfp⟩ := u5
  dsimp only at w3 hP hD
  refine W.widen (k := 25) (n := 94050) (by decide +kernel) (by decide +kernel) ?_
  refine lv_astore_n (lv' := [(2, .ref h1), (1, .ref h0), (0, .ref b)]) hx hb dL_law_15 rfl hl (by decide) rfl (fun ls hl => ?_)
  refine lv_iconst (v := 0) hx hb dL_law_16 (by decide) ?_
  refine lv_istore_n (lv' := [(3, .int (nI 0)), (2, .ref h1), (1, .ref h0), (0, .ref b)]) hx hb dL_law_17 rfl hl (by decide) rfl (fun ls hl => ?_)
  have hperm : ([(h0, .inr (5, [.ref pad, .ref pp, .ref im, .null, .null])), (im, .inl (gP G, 2, .inr (.inr (.inr (.inr (fun _ => none)))))), (pad, .inr (0, [.ref sg, .ref sl, .int 0])), (sg, .inl (gI G, 40, .inl (fun _ => 0))), (sl, .inl (gI G, 10, .inl (fun _ => 0))), (pp, .inr (1, [.int 6, .int 0, .int 1, .int 0, .ref ac, .ref ak])), (ac, .inl (gI G, 6, .inl (fun _ => 0))), (ak, .inl (gI G, 4, .inl xfk))] : va_W).Perm (([(h0, .inr (5, [.ref pad, .ref pp, .ref im, .null, .null])), (pad, .inr (0, [.ref sg, .ref sl, .int 0])), (sg, .inl (gI G, 40, .inl (fun _ => 0))), (sl, .inl (gI G, 10, .inl (fun _ => 0))), (pp, .inr (1, [.int 6, .int 0, .int 1, .int 0, .ref ac, .ref ak])), (ac, .inl (gI G, 6, .inl (fun _ => 0))), (ak, .inl (gI G, 4, .inl xfk))] : va_W) ++ ([(im, .inl (gP G, 2, .inr (.inr (.inr (.inr (fun _ => none))))))] ++ ([] ++ ([] ++ ([] ++ []))))) := perm_ix (n := 8) [0, 2, 3, 4, 5, 6, 7, 1] rfl (by decide +kernel) rfl
  have hP := P_perm (hperm.append_right _) hP
  have hD := D_perm (hperm.append_right _) hD
  exact law_loop hL C0 E (L + 6) 0 (by omega) (by omega) 6 0 1 0 (fun _ => 0) xfk 0 (fun _ => 0) none none 0 0 6 0 0 1 mfm mfk 0 (fun _ => 0) (fun _ => 0) (fun _ => 0) _ _ ⟨pad, pp, im, ac, ak, sg, sl, .null, .null, (fun _ => 0), (fun _ => none), [], [], [], [], rfl, Or.inl ⟨rfl, rfl, rfl⟩, Or.inl ⟨rfl, rfl, rfl⟩, Or.inl ⟨rfl, rfl, rfl⟩, Or.inl ⟨rfl, rfl, rfl⟩⟩ ⟨a_maps, a_kinds, a_part, a_pad, a_slips, a_queue, a_depth, a_by, a_from, a_offOf, a_parent, a_best, a_sums, a_toward, a_kept, a_isKept, 0, 0, 0, 0, 0, 0, 0, mfp, (fun _ => 0), (fun _ => 0), (fun _ => 0), (fun _ => 0), (fun _ => 0), (fun _ => 0), (fun _ => 0), (fun _ => 0), (fun _ => 0), (fun _ => 0), rfl, by decide, by decide, w3.2.2, w3.1, by decide, by decide, by unfold inR; decide, fun n _ h => absurd rfl h⟩ ⟨rfl, rfl, rfl, sc_zero.symm, rfl, rfl, fun j hj ht => absurd ht (td_none (by omega)), fun j hj => by rw [w2 j hj, w3.2.1 j hj], rfl, rfl⟩ H locs ls hP hD hS hl
set_option maxHeartbeats 4000000 in
theorem lw_walk (l : Launch) (b : Addr) (xs : List Int32) : MetFree l x (headSpec (Jvm.Cond.code x code maxLocals ret :: tables_1) room_1) (lw_P b xs) (fun _ _ _ _ _ => True) lw_Q := by
  refine MetFree.of_bodyS (code := code) (maxLocals := maxLocals) (ret := ret) (by decide) ?_ ?_
  · intro args s m h hn
    obtain ⟨meth, c, h1, h2, h3, h4, h5, h6, -, -⟩ := Cond.code_spec hn (atoms_spec (ws := Jvm.Cond.code x code maxLocals ret :: tables_1) h _ List.mem_cons_self)
    exact ⟨meth, c, h1, h2, h3, h4, h5, h6⟩
  · intro p e s m args below meth c s₁ B hml0 hP _
    obtain ⟨rfl, hx, hbd, hgv⟩ := hP
    obtain ⟨scr, harrAt, hlist, hof, hsmall⟩ := hx
    obtain ⟨hcb, hkn, -, -⟩ := State.arrayAt?_spec harrAt
    have hown : s.vm.findClass R_law = some m.cls := findClass_of_methodNamed B.named
    have hts0 : ∀ c ∈ (Jvm.Cond.code x code maxLocals ret :: tables_1), c.before #[Value.ref b] s = true := atoms_spec (ws := Jvm.Cond.code x code maxLocals ret :: tables_1) B.pre
    have hts : ∀ w ∈ lw_tbl, w.before #[Value.ref b] s = true := k2_hts_sels lw_privs (fun w hw => hts0 w (List.mem_cons_of_mem _ hw)) lw_privs_ok
    have hml : c.maxLocals = 4 := B.maxLocals_eq (hts0 _ List.mem_cons_self)
    have X₀ : Stand p l e room_1 s m #[Value.ref b] below meth c s₁ [] 0 0 := Stand.of_body B
    have hh0 : s₁.heap = s.heap := by rw [B.state]; rfl
    have hsz : scr.slots.size = xs.length := by rw [← Array.length_toList, hlist, List.length_map]
    have hval : ∀ j : Nat, j < xs.length → scr.slots[j]? = some (.int (xs.getD j 0)) := fun j hj => by
      rw [← Array.getElem?_toList, hlist]
      simp [hj]
    have hbl : b < s.heap.size := (Array.getElem?_eq_some_iff.mp hcb).1
    have hX : va_X b xs.length (fun j => xs.getD j 0) s s.heap := ⟨scr, hcb, hof, hkn, hsz, hval⟩
    have K : W p l e room_1 s m #[Value.ref b] below meth c s₁.heap [] 0 0 (lw_Z below #[Value.ref b] s) (entryFrame m ([Value.ref b] : List Value).toArray 4) := by
      rw [hh0]
      exact whole_start l hbd ⟨B.exec, B.bytes, B.returns, hml, hown, hts, hX, hbl, B.notSynchronized, hgv⟩
    obtain ⟨t, a1, o, b1, b2, b3⟩ := K s₁ rfl X₀
    exact ⟨t, o, a1, b1, b2, b3⟩
theorem lw_pre_spec {args : Array Value} {s : State} (h : (Jvm.Cond.and given_1 narrow_1).before args s = true) (hr : rest_1_c.before args s = true) : ∃ (b : Addr) (xs : List Int32), lw_P b xs args s := by
  have hs := flat_of_before _ h
  have hq := flat_of_before _ hr
  have hc : (Cond.count 1).before args s = true := hs _ (by decide +kernel)
  have harr : (Cond.arrayOf (.arg 0) .int).before args s = true := hs _ (by decide +kernel)
  have hle : (Cond.le (.length (.arg 0)) (.int 3072)).before args s = true := hs _ (by decide +kernel)
  have hlen : (Cond.isInt (.length (.arg 0))).before args s = true := hq _ (by decide +kernel)
  have hall : (Cond.all (.arg 0) (.isInt (.elem (.arg 0) (.index 0)))).before args s = true := hq _ (by decide +kernel)
  obtain ⟨b, xs, hb, hx⟩ := State.ints_of_pre rfl harr hlen hall
  have hsm : xs.length < 2 ^ 31 := hx.choose_spec.2.2.2
  have hev : (Term.length (.arg 0)).eval args s none [] s = some (.int xs.length.toInt32) := hx.length_eval hb
  have hv := Cond.le_ints hev (show (Term.int 3072).eval args s none [] s = some (.int 3072) from rfl)
  have hd : xs.length.toInt32 ≤ 3072 := by
    simpa [Cond.before, Cond.holds, hv] using hle
  have hN : xs.length ≤ 3072 := (Int32.ofNat_le_ofNat hsm (by decide)).mp (show Int32.ofNat xs.length ≤ Int32.ofNat 3072 from hd)
  exact ⟨b, xs, Cond.one_arg hc (show args[0]? = some (.ref b) from hb), hx, hN, h⟩
theorem lw_comes (l : Launch) : Comes l x (Jvm.Cond.code x code maxLocals ret :: tables_1) room_1 (fun tb e args s => Calls_1 tb e args s ∧ rest_1 tb e args s ∧ Pre_1 tb e args s)
    (fun _ _ args s o t => lw_Q args s o t) := by
  intro p e ha hc hk s m args below hf hfit hheap happ hpre
  obtain ⟨b, xs, hP⟩ := lw_pre_spec hpre.2.2 hpre.2.1
  obtain ⟨k, o, h1, h2, h3, hQ⟩ := lw_walk l b xs p e ha hc hk s m args below hf ((Spec.applies_iff_loose hf).mp happ).1 hP trivial
  exact ⟨k, o, h1, h2, h3, hQ⟩
theorem lw_frame {s t : State} {o : Outcome} {args : Array Value} (h : Framed s o t [] 600000 7302250) :
    Framed s o t (fieldLocs frame_1_writes args s ++ arrayLocs frame_1_arrays args s ++ staticLocs frame_1_statics s) 600000 7302250 := h
theorem lw_limb (L : Cond) (hL : ∀ (args : Array Value) (s t : State), L.after args s (.returned (some (.int 1))) t = true) :
    ArmFor flags0 classFile x code maxLocals ret World_1 tables_1 room_1 Calls_1 rest_1 Pre_1
      (fun tb e a s o t => postC L tb e a s o t ∧ Framed s o t (fieldLocs frame_1_writes a s ++ arrayLocs frame_1_arrays a s ++ staticLocs frame_1_statics s) 600000 7302250) := by
  intro l _ _ _ p e ha hc hk s m args below hf hfit hheap happ hpre
  obtain ⟨k, o, h1, h2, h3, rfl, hF⟩ := lw_comes l p e ha hc hk s m args below hf hfit hheap happ hpre
  exact ⟨k, _, h1, h2, h3, hL args s _, lw_frame hF⟩
theorem i_vc : Claimed_1_1 ∧ Claimed_1_2 := ⟨lw_limb limb_1_1 (fun args s t => by simp [limb_1_1, Cond.after, Cond.holds, Cond.value]), lw_limb limb_1_2 (fun args s t => Cond.after_iff.mpr (by
  first | (rw [show limb_1_2 = Cond.eq .result (.int 1) from rfl, Cond.eq_ints (x := 1) (y := 1) rfl rfl]; simp; done) | (simp [limb_1_2, Cond.value, Term.eval]; done)))⟩

