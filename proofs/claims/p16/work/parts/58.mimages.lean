/-- g is f with n entries from o on put as v says -/
def PW (o n : Nat) (v f g : Nat → Int32) : Prop := ∀ q, g q = if o ≤ q ∧ q < o + n then v (q - o) else f q
theorem PW0 {o : Nat} {v f : Nat → Int32} : PW o 0 v f f := fun q => by rw [if_neg (by omega)]
theorem PWs {o n i : Nat} {v f g : Nat → Int32} {x : Int32} (h : PW o n v f g) (hi : i = o + n) (hx : x = v n) : PW o (n + 1) v f (upd g i x) := by
  intro q
  subst hi
  by_cases e : q = o + n
  · subst e; rw [pk_us, if_pos (by omega), hx, show o + n - o = n by omega]
  · rw [pk_un e, h q]
    by_cases c : o ≤ q ∧ q < o + n
    · rw [if_pos c, if_pos (by omega)]
    · rw [if_neg c, if_neg (by omega)]
def vseq (s t l p : Int32) (fm fk : Nat → Int32) (i : Nat) : Int32 := if i = 0 then s else if i = 1 then t else if i = 2 then l else if i = 3 then p else if i < 10 then fm (i - 4) else fk (i - 10)
theorem vs_m {s t l p : Int32} {fm fk : Nat → Int32} {i : Nat} (h : i < 6) : vseq s t l p fm fk (4 + i) = fm i := by
  unfold vseq
  rw [if_neg (by omega), if_neg (by omega), if_neg (by omega), if_neg (by omega), if_pos (by omega), show 4 + i - 4 = i by omega]
theorem vs_k {s t l p : Int32} {fm fk : Nat → Int32} {i : Nat} : vseq s t l p fm fk (10 + i) = fk i := by
  unfold vseq
  rw [if_neg (by omega), if_neg (by omega), if_neg (by omega), if_neg (by omega), if_neg (by omega), show 10 + i - 10 = i by omega]
theorem upd_self {f : Nat → Int32} {i : Nat} {x : Int32} (h : x = f i) : upd f i x = f := by
  funext j
  by_cases e : j = i
  · subst e; rw [pk_us, h]
  · rw [pk_un e]
/-- an image that may be restored: its sites k, land, spades and maps -/
def keptOK (f : Nat → Int32) (o k : Nat) : Prop := 2 ≤ k ∧ k ≤ 6 ∧ f o = nI k ∧ (∃ a, a < 5 ^ k ∧ f (o + 2) = nI a) ∧ inR (f (o + 3)) 1 6 ∧ ∀ j, j < 6 → ∃ a, a < 5 ^ k ∧ f (o + 4 + j) = nI a
theorem kept_new {o k la : Nat} {t p : Int32} {fm fk f g : Nat → Int32} (h2 : 2 ≤ k) (h6 : k ≤ 6) (hla : la < 5 ^ k) (hp : inR p 1 6) (hm : mapsOK k fm) (h : PW o 14 (vseq (nI k) t (nI la) p fm fk) f g) : keptOK g o k := by
  refine ⟨h2, h6, ?_, ⟨la, hla, ?_⟩, ?_, fun j hj => ?_⟩
  · rw [h o, if_pos (by omega), show o - o = 0 by omega]; rfl
  · rw [h (o + 2), if_pos (by omega), show o + 2 - o = 2 by omega]; rfl
  · rw [h (o + 3), if_pos (by omega), show o + 3 - o = 3 by omega]; exact hp
  · obtain ⟨a, a1, a2⟩ := hm j hj
    refine ⟨a, a1, ?_⟩
    rw [h (o + 4 + j), if_pos (by omega), show o + 4 + j - o = 4 + j by omega, vs_m hj]; exact a2
theorem kept_out {o o2 k : Nat} {v f g : Nat → Int32} (h : PW o 14 v f g) (hd : o2 + 14 ≤ o ∨ o + 14 ≤ o2) (hk : keptOK f o2 k) : keptOK g o2 k := by
  obtain ⟨h1, h2, h3, ⟨a, h4, h5⟩, h6, h7⟩ := hk
  refine ⟨h1, h2, ?_, ⟨a, h4, ?_⟩, ?_, fun j hj => ?_⟩
  · rw [h o2, if_neg (by omega)]; exact h3
  · rw [h (o2 + 2), if_neg (by omega)]; exact h5
  · rw [h (o2 + 3), if_neg (by omega)]; exact h6
  · obtain ⟨b, b1, b2⟩ := h7 j hj
    exact ⟨b, b1, by rw [h (o2 + 4 + j), if_neg (by omega)]; exact b2⟩
theorem maps0 {k : Nat} {f : Nat → Int32} (h : ∀ j : Nat, j < 6 → f j = 0) : mapsOK k f := fun j hj => ⟨0, p5_pos k, by rw [h j hj]; rfl⟩
theorem site26 {x : Int32} (h : inR x 2 6) : ∃ k : Nat, 2 ≤ k ∧ k ≤ 6 ∧ x = nI k := by
  have h1 := i3_le.mp h.1
  have h2 := i3_le.mp h.2
  simp only [Int32.reduceToInt] at h1 h2
  refine ⟨x.toInt.toNat, by omega, by omega, ?_⟩
  rw [i3_eq, nI_toInt (by omega)]
  omega

set_option maxHeartbeats 1000000 in
set_option maxRecDepth 100000 in
theorem m_findParts (l : Launch) (G : Gy) (sz : Nat) (h1 : Nat) (v_maps : Value) (v_told : Value) (v_kinds : Value) (v_land : Value) (v_spades : Value) (v_pad : Value) (v_padMany : Value) (v_slips : Value) (v_slipMany : Value) (v_made : Value) (v_queue : Value) (v_depth : Value) (v_by : Value) (v_from : Value) (v_come : Value) (v_offOf : Value) (v_parent : Value) (v_best : Value) (v_trees : Value) (v_least : Value) (v_sums : Value) (v_toward : Value) (v_kept : Value) (v_isKept : Value) (v_keptAt : Value) (v_isWriting : Value) (a_part : Nat) (fp : Nat → Int32) (k : Nat) (hk2 : 2 ≤ k) (hk6 : k ≤ 6) : Cv l G yX10_findParts wsX10_findParts ({ frames := 0, cells := 0, slots := 0, locals := 0 }) [.ref h1] ([(h1, .inr (6, [.int (nI k), v_maps, v_told, v_kinds, v_land, v_spades, .ref a_part, v_pad, v_padMany, v_slips, v_slipMany, v_made, v_queue, v_depth, v_by, v_from, v_come, v_offOf, v_parent, v_best, v_trees, v_least, v_sums, v_toward, v_kept, v_isKept, v_keptAt, v_isWriting])), (a_part, .inl (gI G, 6, .inl fp))]) sz (fun (gp : Nat → Int32) => pOK k gp) (fun (gp : Nat → Int32) => [(h1, .inr (6, [.int (nI k), v_maps, v_told, v_kinds, v_land, v_spades, .ref a_part, v_pad, v_padMany, v_slips, v_slipMany, v_made, v_queue, v_depth, v_by, v_from, v_come, v_offOf, v_parent, v_best, v_trees, v_least, v_sums, v_toward, v_kept, v_isKept, v_keptAt, v_isWriting])), (a_part, .inl (gI G, 6, .inl gp))]) 0 0 := by
  refine Met.ofW (cc := cX10_findParts) (maxL := 3) (ret := none) (by decide) rfl ?_
  intro p e s m args below meth c s₁ B hml hv
  obtain ⟨rfl, hsz, hP, hD0, E0⟩ := hv
  have hx := B.exec
  have hb := B.bytes
  have hr := B.returns
  have hts := atoms_spec (ws := wsX10_findParts) B.pre
  have hown : s.vm.findClass RX10 = some m.cls := findClass_of_methodNamed B.named
  have hlocks := B.notSynchronized
  subst hsz
  have hD := hD0.self (sz := s.heap.size)
  generalize hAe : va_A ([(h1, .inr (6, [.int (nI k), v_maps, v_told, v_kinds, v_land, v_spades, .ref a_part, v_pad, v_padMany, v_slips, v_slipMany, v_made, v_queue, v_depth, v_by, v_from, v_come, v_offOf, v_parent, v_best, v_trees, v_least, v_sums, v_toward, v_kept, v_isKept, v_keptAt, v_isWriting])), (a_part, .inl (gI G, 6, .inl fp))]) s.heap.size = A at hD E0 ⊢
  have E : EV G A s s.heap := E0
  have hA : ∀ q : Nat, s.heap.size ≤ q → A q := fun q h => by rw [← hAe]; exact Or.inr h
  have hS : va_S A s.heap s.heap [] := va_S.rf
  have hl := lv_entry ([.ref h1]) (n := 3) (Nat.le_of_ble_eq_true rfl)
  rw [lg_entry_eq]
  generalize (lg_sl ([.ref h1]) ++ List.replicate (3 - (lg_sl ([.ref h1])).length) Slot.unset).toArray = ls at hl ⊢
  have hl : lv_has ls 3 [(0, .ref h1)] := hl
  have hP : va_P G.1 vwCl ([(h1, .inr (6, [.int (nI k), v_maps, v_told, v_kinds, v_land, v_spades, .ref a_part, v_pad, v_padMany, v_slips, v_slipMany, v_made, v_queue, v_depth, v_by, v_from, v_come, v_offOf, v_parent, v_best, v_trees, v_least, v_sums, v_toward, v_kept, v_isKept, v_keptAt, v_isWriting])), (a_part, .inl (gI G, 6, .inl fp))]) s.heap := hP
  refine lv_iconst (v := 1) hx hb dX10_findParts_0 (by decide) ?_
  refine lv_istore_n (lv' := [(1, .int 1), (0, .ref h1)]) hx hb dX10_findParts_1 rfl hl (by decide) rfl (fun ls hl => ?_)
  refine lv_aload_n hx hb dX10_findParts_2 rfl (lv_at hl 1 rfl) ?_
  refine va_get (D := G.1) (ci := 6) (v := .int (nI k)) (C := RX10) (T := TX10) (N := 28) hx hb hts (fun _ h => List.mem_cons_of_mem _ (List.mem_append_right _ h)) hown E.K hP 0 rfl rfl 0 (by decide) (hts (.fieldLink RX10 67 "LastMapModel" "sites" "I") (by decide +kernel)) (fun _ h9 => h9) rfl dX10_findParts_3 ?_
  refine lv_iconst (v := 1) hx hb dX10_findParts_6 (by decide) ?_
  refine lv_isub hx hb dX10_findParts_7 ?_
  refine lv_topi (fun x1 ex1 => ?_)
  refine lv_istore_n (lv' := [(2, .int x1), (1, .int 1), (0, .ref h1)]) hx hb dX10_findParts_8 rfl hl (by decide) rfl (fun ls hl => ?_)
  have hs0 : x1 = nI (k - 0) - 1 := by rw [ex1]; rfl
  subst hs0
  have hl : lv_has ls 3 [(2, .int (nI (k - 0) - 1)), (1, .int 1), (0, .ref h1)] := hl
  refine lp_run (x0 := (0, fp)) (fun xx_ : Nat × (Nat → Int32) => match xx_ with | (cz, f) => [(h1, .inr (6, [.int (nI k), v_maps, v_told, v_kinds, v_land, v_spades, .ref a_part, v_pad, v_padMany, v_slips, v_slipMany, v_made, v_queue, v_depth, v_by, v_from, v_come, v_offOf, v_parent, v_best, v_trees, v_least, v_sums, v_toward, v_kept, v_isKept, v_keptAt, v_isWriting])), (a_part, .inl (gI G, 6, .inl f))]) (fun xx_ : Nat × (Nat → Int32) => match xx_ with | (cz, f) => [(2, .int (nI (k - cz) - 1)), (1, .int (nI (5 ^ cz))), (0, .ref h1)]) (fun xx_ : Nat × (Nat → Int32) => match xx_ with | (cz, f) => (cz ≤ k) ∧ (∀ j : Nat, k - cz ≤ j → j < k → f j = nI (5 ^ (k - 1 - j)))) (fun xx_ : Nat × (Nat → Int32) => match xx_ with | (cz, f) => k - cz) (hP.sub [0, 1] rfl) (hD.sub [0, 1] (by decide) rfl) hS (lv_sub hl [0, 1, 2] rfl) ⟨by omega, by intro j h1 h2; omega⟩ ?_
  intro xx_ hI ih9 H locs ls hP hD hS hl
  obtain ⟨cz, f⟩ := xx_
  dsimp only at hI ih9 hP hD hl
  obtain ⟨hc, hf⟩ := hI
  have hl : lv_has ls 3 [(2, .int (nI (k - cz) - 1)), (1, .int (nI (5 ^ cz))), (0, .ref h1)] := hl
  have hP : va_P G.1 vwCl ([(h1, .inr (6, [.int (nI k), v_maps, v_told, v_kinds, v_land, v_spades, .ref a_part, v_pad, v_padMany, v_slips, v_slipMany, v_made, v_queue, v_depth, v_by, v_from, v_come, v_offOf, v_parent, v_best, v_trees, v_least, v_sums, v_toward, v_kept, v_isKept, v_keptAt, v_isWriting])), (a_part, .inl (gI G, 6, .inl f))]) H := hP
  have hD : va_D A ([(h1, .inr (6, [.int (nI k), v_maps, v_told, v_kinds, v_land, v_spades, .ref a_part, v_pad, v_padMany, v_slips, v_slipMany, v_made, v_queue, v_depth, v_by, v_from, v_come, v_offOf, v_parent, v_best, v_trees, v_least, v_sums, v_toward, v_kept, v_isKept, v_keptAt, v_isWriting])), (a_part, .inl (gI G, 6, .inl f))]) := hD
  refine lv_iload_n hx hb dX10_findParts_9 rfl (lv_at hl 0 rfl) ?_
  refine lv_if_lt (tgt := 30) hx hb dX10_findParts_10 (by decide) (fun c2 => ?_) (fun c2 => ?_)
  · have hck : cz = k := by (rcases Nat.lt_or_ge cz k with q | q <;> first | omega | exact absurd c2 (by rw [show k - cz = (k - cz - 1) + 1 by omega, nI_pred]; exact nI_pos (by omega)))
    have hP9 := (hP.sub (ws' := [(h1, .inr (6, [.int (nI k), v_maps, v_told, v_kinds, v_land, v_spades, .ref a_part, v_pad, v_padMany, v_slips, v_slipMany, v_made, v_queue, v_depth, v_by, v_from, v_come, v_offOf, v_parent, v_best, v_trees, v_least, v_sums, v_toward, v_kept, v_isKept, v_keptAt, v_isWriting])), (a_part, .inl (gI G, 6, .inl f))]) [0, 1] rfl)
    have hD9 := (hD.sub (ws' := [(h1, .inr (6, [.int (nI k), v_maps, v_told, v_kinds, v_land, v_spades, .ref a_part, v_pad, v_padMany, v_slips, v_slipMany, v_made, v_queue, v_depth, v_by, v_from, v_come, v_offOf, v_parent, v_best, v_trees, v_least, v_sums, v_toward, v_kept, v_isKept, v_keptAt, v_isWriting])), (a_part, .inl (gI G, 6, .inl f))]) [0, 1] (by decide) rfl)
    exact W.vret hx hb hr (fun t9_ ht9_ hW9_ => ⟨⟨f, rfl, by intro j hj; exact hf j (by omega) hj, by rw [ht9_]; exact hP9, hD9⟩, hS.F ht9_⟩) hS.2.2 dX10_findParts_30
  · have hck : cz < k := by (rcases Nat.lt_or_ge cz k with q | q <;> first | exact q | exact absurd (show nI (k - cz) - 1 < 0 by rw [show k - cz = 0 by omega]; decide) c2)
    refine lv_aload_n hx hb dX10_findParts_13 rfl (lv_at hl 2 rfl) ?_
    refine va_get (D := G.1) (ci := 6) (v := .ref a_part) (C := RX10) (T := TX10) (N := 28) hx hb hts (fun _ h => List.mem_cons_of_mem _ (List.mem_append_right _ h)) hown E.K hP 0 rfl rfl 6 (by decide) (hts (.fieldLink RX10 16 "LastMapModel" "part" "[I") (by decide +kernel)) (fun _ h9 => h9) rfl dX10_findParts_14 ?_
    refine lv_iload_n hx hb dX10_findParts_17 rfl (lv_at hl 0 rfl) ?_
    refine lv_iload_n hx hb dX10_findParts_18 rfl (lv_at hl 1 rfl) ?_
    refine va_iast hx hb E.K hP hD hS 1 1 rfl rfl (i := nI (k - cz) - 1) (by rw [show k - cz = (k - cz - 1) + 1 by omega, nI_pred]; exact vp_in_nI (by omega) (by decide)) dX10_findParts_19 (fun H locs hP hD hS => ?_)
    obtain ⟨f3, ef3⟩ : ∃ yy_ : Nat → Int32, yy_ = upd f (nI (k - cz) - 1).toNatClampNeg (nI (5 ^ cz)) := ⟨_, rfl⟩
    have hP : va_P G.1 vwCl ([(h1, .inr (6, [.int (nI k), v_maps, v_told, v_kinds, v_land, v_spades, .ref a_part, v_pad, v_padMany, v_slips, v_slipMany, v_made, v_queue, v_depth, v_by, v_from, v_come, v_offOf, v_parent, v_best, v_trees, v_least, v_sums, v_toward, v_kept, v_isKept, v_keptAt, v_isWriting])), (a_part, .inl (gI G, 6, .inl f3))]) H := by rw [ef3]; exact hP
    have hD : va_D A ([(h1, .inr (6, [.int (nI k), v_maps, v_told, v_kinds, v_land, v_spades, .ref a_part, v_pad, v_padMany, v_slips, v_slipMany, v_made, v_queue, v_depth, v_by, v_from, v_come, v_offOf, v_parent, v_best, v_trees, v_least, v_sums, v_toward, v_kept, v_isKept, v_keptAt, v_isWriting])), (a_part, .inl (gI G, 6, .inl f3))]) := by rw [ef3]; exact hD
    refine lv_iload_n hx hb dX10_findParts_20 rfl (lv_at hl 1 rfl) ?_
    refine lv_iconst (v := 5) hx hb dX10_findParts_21 (by decide) ?_
    refine lv_imul hx hb dX10_findParts_22 ?_
    refine lv_topi (fun x4 ex4 => ?_)
    refine lv_istore_n (lv' := [(1, .int x4), (2, .int (nI (k - cz) - 1)), (0, .ref h1)]) hx hb dX10_findParts_23 rfl hl (by decide) rfl (fun ls hl => ?_)
    obtain ⟨x5, ex5⟩ : ∃ yy_ : Int32, yy_ = (nI (k - cz) - 1) + (-1) := ⟨_, rfl⟩
    refine lv_iinc (v := x5) (lv' := [(2, .int x5), (1, .int x4), (0, .ref h1)]) hx hb dX10_findParts_24 hl (k := 1) rfl (by rw [ex5]; rfl) (by decide) rfl (fun ls hl => ?_)
    refine lv_goto (tgt := 9) hx hb dX10_findParts_27 (by decide) ?_
    have hs1 : x4 = nI (5 ^ (cz + 1)) := by rw [ex4, Nat.pow_succ]; exact pk_mul (5 ^ cz) 5
    subst hs1
    have hs2 : x5 = nI (k - (cz + 1)) - 1 := by rw [ex5, show k - cz = (k - (cz + 1)) + 1 by omega, nI_pred, Int32.sub_eq_add_neg]
    subst hs2
    refine ih9 (cz + 1, f3) ⟨?_, ?_⟩ (by first | omega | (dsimp only; omega)) H locs ls (hP.sub [0, 1] rfl) (hD.sub [0, 1] (by decide) rfl) hS (lv_sub hl [0, 1, 2] rfl)
    · try dsimp only
      omega
    · try dsimp only
      intro j h1 h2; rw [ef3, show k - cz = (k - cz - 1) + 1 by omega, nI_pred, nI_clamp (by omega)]
      by_cases hj : j = k - cz - 1
      · subst hj; rw [pk_us]; congr 2; omega
      · rw [pk_un hj]; exact hf j (by omega) h2

set_option maxHeartbeats 1000000 in
set_option maxRecDepth 100000 in
theorem m_begin (l : Launch) (G : Gy) (sz : Nat) (h1 : Nat) (v_kinds : Value) (v_spades : Value) (v_pad : Value) (v_padMany : Value) (v_slips : Value) (v_slipMany : Value) (v_made : Value) (v_queue : Value) (v_depth : Value) (v_by : Value) (v_from : Value) (v_come : Value) (v_offOf : Value) (v_parent : Value) (v_best : Value) (v_trees : Value) (v_least : Value) (v_sums : Value) (v_toward : Value) (v_kept : Value) (v_isKept : Value) (v_keptAt : Value) (v_isWriting : Value) (s0 : Int32) (t0 : Int32) (l0 : Int32) (a_maps : Nat) (fm : Nat → Int32) (a_part : Nat) (fp : Nat → Int32) (k : Nat) (hk2 : 2 ≤ k) (hk6 : k ≤ 6) : Cv l G yX10_begin wsX10_begin ({ frames := 1, cells := 0, slots := 0, locals := 22 }) [.ref h1, .int (nI k)] ([(h1, .inr (6, [.int s0, .ref a_maps, .int t0, v_kinds, .int l0, v_spades, .ref a_part, v_pad, v_padMany, v_slips, v_slipMany, v_made, v_queue, v_depth, v_by, v_from, v_come, v_offOf, v_parent, v_best, v_trees, v_least, v_sums, v_toward, v_kept, v_isKept, v_keptAt, v_isWriting])), (a_maps, .inl (gI G, 6, .inl fm)), (a_part, .inl (gI G, 6, .inl fp))]) sz (fun (u : (Nat → Int32) × (Nat → Int32)) => match u with | (gm, gp) => mapsOK k gm ∧ pOK k gp) (fun (u : (Nat → Int32) × (Nat → Int32)) => match u with | (gm, gp) => [(h1, .inr (6, [.int (nI k), .ref a_maps, .int 0, v_kinds, .int 0, v_spades, .ref a_part, v_pad, v_padMany, v_slips, v_slipMany, v_made, v_queue, v_depth, v_by, v_from, v_come, v_offOf, v_parent, v_best, v_trees, v_least, v_sums, v_toward, v_kept, v_isKept, v_keptAt, v_isWriting])), (a_maps, .inl (gI G, 6, .inl gm)), (a_part, .inl (gI G, 6, .inl gp))]) 0 0 := by
  refine Met.ofW (cc := cX10_begin) (maxL := 3) (ret := none) (by decide) rfl ?_
  intro p e s m args below meth c s₁ B hml hv
  obtain ⟨rfl, hsz, hP, hD0, E0⟩ := hv
  have hx := B.exec
  have hb := B.bytes
  have hr := B.returns
  have hts := atoms_spec (ws := wsX10_begin) B.pre
  have hown : s.vm.findClass RX10 = some m.cls := findClass_of_methodNamed B.named
  have hlocks := B.notSynchronized
  subst hsz
  have hD := hD0.self (sz := s.heap.size)
  generalize hAe : va_A ([(h1, .inr (6, [.int s0, .ref a_maps, .int t0, v_kinds, .int l0, v_spades, .ref a_part, v_pad, v_padMany, v_slips, v_slipMany, v_made, v_queue, v_depth, v_by, v_from, v_come, v_offOf, v_parent, v_best, v_trees, v_least, v_sums, v_toward, v_kept, v_isKept, v_keptAt, v_isWriting])), (a_maps, .inl (gI G, 6, .inl fm)), (a_part, .inl (gI G, 6, .inl fp))]) s.heap.size = A at hD E0 ⊢
  have E : EV G A s s.heap := E0
  have hA : ∀ q : Nat, s.heap.size ≤ q → A q := fun q h => by rw [← hAe]; exact Or.inr h
  have hS : va_S A s.heap s.heap [] := va_S.rf
  have hl := lv_entry ([.ref h1, .int (nI k)]) (n := 3) (Nat.le_of_ble_eq_true rfl)
  rw [lg_entry_eq]
  generalize (lg_sl ([.ref h1, .int (nI k)]) ++ List.replicate (3 - (lg_sl ([.ref h1, .int (nI k)])).length) Slot.unset).toArray = ls at hl ⊢
  have hl : lv_has ls 3 [(0, .ref h1), (1, .int (nI k))] := hl
  have hP : va_P G.1 vwCl ([(h1, .inr (6, [.int s0, .ref a_maps, .int t0, v_kinds, .int l0, v_spades, .ref a_part, v_pad, v_padMany, v_slips, v_slipMany, v_made, v_queue, v_depth, v_by, v_from, v_come, v_offOf, v_parent, v_best, v_trees, v_least, v_sums, v_toward, v_kept, v_isKept, v_keptAt, v_isWriting])), (a_maps, .inl (gI G, 6, .inl fm)), (a_part, .inl (gI G, 6, .inl fp))]) s.heap := hP
  refine lv_aload_n hx hb dX10_begin_0 rfl (lv_at hl 0 rfl) ?_
  refine lv_iload_n hx hb dX10_begin_1 rfl (lv_at hl 1 rfl) ?_
  refine va_put (D := G.1) (ci := 6) (v := .int (nI k)) (ty := .int) (C := RX10) (T := TX10) (N := 28) hx hb hts (fun _ h => List.mem_cons_of_mem _ (List.mem_append_right _ h)) tyX10 tyX10_ok nmX10 hown E.K hP hD hS 0 rfl rfl 0 (by decide) (hts (.fieldLink RX10 67 "LastMapModel" "sites" "I") (by decide +kernel)) (fun _ h9 => h9) rfl (by decide +kernel) rfl rfl (Nat.le_of_ble_eq_true rfl) dX10_begin_2 (fun H locs hP hD hS => ?_)
  have hP : va_P G.1 vwCl ([(h1, .inr (6, [.int (nI k), .ref a_maps, .int t0, v_kinds, .int l0, v_spades, .ref a_part, v_pad, v_padMany, v_slips, v_slipMany, v_made, v_queue, v_depth, v_by, v_from, v_come, v_offOf, v_parent, v_best, v_trees, v_least, v_sums, v_toward, v_kept, v_isKept, v_keptAt, v_isWriting])), (a_maps, .inl (gI G, 6, .inl fm)), (a_part, .inl (gI G, 6, .inl fp))]) H := hP
  have hD : va_D A ([(h1, .inr (6, [.int (nI k), .ref a_maps, .int t0, v_kinds, .int l0, v_spades, .ref a_part, v_pad, v_padMany, v_slips, v_slipMany, v_made, v_queue, v_depth, v_by, v_from, v_come, v_offOf, v_parent, v_best, v_trees, v_least, v_sums, v_toward, v_kept, v_isKept, v_keptAt, v_isWriting])), (a_maps, .inl (gI G, 6, .inl fm)), (a_part, .inl (gI G, 6, .inl fp))]) := hD
  refine lv_aload_n hx hb dX10_begin_5 rfl (lv_at hl 0 rfl) ?_
  refine lv_iconst (v := 0) hx hb dX10_begin_6 (by decide) ?_
  refine va_put (D := G.1) (ci := 6) (v := .int 0) (ty := .int) (C := RX10) (T := TX10) (N := 28) hx hb hts (fun _ h => List.mem_cons_of_mem _ (List.mem_append_right _ h)) tyX10 tyX10_ok nmX10 hown E.K hP hD hS 0 rfl rfl 2 (by decide) (hts (.fieldLink RX10 70 "LastMapModel" "told" "I") (by decide +kernel)) (fun _ h9 => h9) rfl (by decide +kernel) rfl rfl (Nat.le_of_ble_eq_true rfl) dX10_begin_7 (fun H locs hP hD hS => ?_)
  have hP : va_P G.1 vwCl ([(h1, .inr (6, [.int (nI k), .ref a_maps, .int 0, v_kinds, .int l0, v_spades, .ref a_part, v_pad, v_padMany, v_slips, v_slipMany, v_made, v_queue, v_depth, v_by, v_from, v_come, v_offOf, v_parent, v_best, v_trees, v_least, v_sums, v_toward, v_kept, v_isKept, v_keptAt, v_isWriting])), (a_maps, .inl (gI G, 6, .inl fm)), (a_part, .inl (gI G, 6, .inl fp))]) H := hP
  have hD : va_D A ([(h1, .inr (6, [.int (nI k), .ref a_maps, .int 0, v_kinds, .int l0, v_spades, .ref a_part, v_pad, v_padMany, v_slips, v_slipMany, v_made, v_queue, v_depth, v_by, v_from, v_come, v_offOf, v_parent, v_best, v_trees, v_least, v_sums, v_toward, v_kept, v_isKept, v_keptAt, v_isWriting])), (a_maps, .inl (gI G, 6, .inl fm)), (a_part, .inl (gI G, 6, .inl fp))]) := hD
  refine lv_aload_n hx hb dX10_begin_10 rfl (lv_at hl 0 rfl) ?_
  refine lv_iconst (v := 0) hx hb dX10_begin_11 (by decide) ?_
  refine va_put (D := G.1) (ci := 6) (v := .int 0) (ty := .int) (C := RX10) (T := TX10) (N := 28) hx hb hts (fun _ h => List.mem_cons_of_mem _ (List.mem_append_right _ h)) tyX10 tyX10_ok nmX10 hown E.K hP hD hS 0 rfl rfl 4 (by decide) (hts (.fieldLink RX10 73 "LastMapModel" "land" "I") (by decide +kernel)) (fun _ h9 => h9) rfl (by decide +kernel) rfl rfl (Nat.le_of_ble_eq_true rfl) dX10_begin_12 (fun H locs hP hD hS => ?_)
  have hP : va_P G.1 vwCl ([(h1, .inr (6, [.int (nI k), .ref a_maps, .int 0, v_kinds, .int 0, v_spades, .ref a_part, v_pad, v_padMany, v_slips, v_slipMany, v_made, v_queue, v_depth, v_by, v_from, v_come, v_offOf, v_parent, v_best, v_trees, v_least, v_sums, v_toward, v_kept, v_isKept, v_keptAt, v_isWriting])), (a_maps, .inl (gI G, 6, .inl fm)), (a_part, .inl (gI G, 6, .inl fp))]) H := hP
  have hD : va_D A ([(h1, .inr (6, [.int (nI k), .ref a_maps, .int 0, v_kinds, .int 0, v_spades, .ref a_part, v_pad, v_padMany, v_slips, v_slipMany, v_made, v_queue, v_depth, v_by, v_from, v_come, v_offOf, v_parent, v_best, v_trees, v_least, v_sums, v_toward, v_kept, v_isKept, v_keptAt, v_isWriting])), (a_maps, .inl (gI G, 6, .inl fm)), (a_part, .inl (gI G, 6, .inl fp))]) := hD
  refine lv_iconst (v := 0) hx hb dX10_begin_15 (by decide) ?_
  refine lv_istore_n (lv' := [(2, .int 0), (0, .ref h1), (1, .int (nI k))]) hx hb dX10_begin_16 rfl hl (by decide) rfl (fun ls hl => ?_)
  refine lp_run (x0 := (0, fm)) (fun xx_ : Nat × (Nat → Int32) => match xx_ with | (x, f) => [(h1, .inr (6, [.int (nI k), .ref a_maps, .int 0, v_kinds, .int 0, v_spades, .ref a_part, v_pad, v_padMany, v_slips, v_slipMany, v_made, v_queue, v_depth, v_by, v_from, v_come, v_offOf, v_parent, v_best, v_trees, v_least, v_sums, v_toward, v_kept, v_isKept, v_keptAt, v_isWriting])), (a_maps, .inl (gI G, 6, .inl f)), (a_part, .inl (gI G, 6, .inl fp))]) (fun xx_ : Nat × (Nat → Int32) => match xx_ with | (x, f) => [(2, .int (nI x)), (0, .ref h1), (1, .int (nI k))]) (fun xx_ : Nat × (Nat → Int32) => match xx_ with | (x, f) => (x ≤ 6) ∧ (∀ j : Nat, j < x → f j = 0)) (fun xx_ : Nat × (Nat → Int32) => match xx_ with | (x, f) => 6 - x) (hP.sub [0, 1, 2] rfl) (hD.sub [0, 1, 2] (by decide) rfl) hS (lv_sub hl [0, 1, 2] rfl) ⟨(by omega), by intro j hj; omega⟩ ?_
  intro xx_ hI ih17 H locs ls hP hD hS hl
  obtain ⟨x, f⟩ := xx_
  dsimp only at hI ih17 hP hD hl
  obtain ⟨hx0, hf⟩ := hI
  have hl : lv_has ls 3 [(2, .int (nI x)), (0, .ref h1), (1, .int (nI k))] := hl
  have hP : va_P G.1 vwCl ([(h1, .inr (6, [.int (nI k), .ref a_maps, .int 0, v_kinds, .int 0, v_spades, .ref a_part, v_pad, v_padMany, v_slips, v_slipMany, v_made, v_queue, v_depth, v_by, v_from, v_come, v_offOf, v_parent, v_best, v_trees, v_least, v_sums, v_toward, v_kept, v_isKept, v_keptAt, v_isWriting])), (a_maps, .inl (gI G, 6, .inl f)), (a_part, .inl (gI G, 6, .inl fp))]) H := hP
  have hD : va_D A ([(h1, .inr (6, [.int (nI k), .ref a_maps, .int 0, v_kinds, .int 0, v_spades, .ref a_part, v_pad, v_padMany, v_slips, v_slipMany, v_made, v_queue, v_depth, v_by, v_from, v_come, v_offOf, v_parent, v_best, v_trees, v_least, v_sums, v_toward, v_kept, v_isKept, v_keptAt, v_isWriting])), (a_maps, .inl (gI G, 6, .inl f)), (a_part, .inl (gI G, 6, .inl fp))]) := hD
  refine lv_iload_n hx hb dX10_begin_17 rfl (lv_at hl 0 rfl) ?_
  refine lv_bipush (v := 6) hx hb dX10_begin_18 (by decide) ?_
  refine lv_icmp_ge (tgt := 36) hx hb dX10_begin_20 (by decide) (fun c1 => ?_) (fun c1 => ?_)
  · have c1 : 6 ≤ x := (nI_leI (a := 6) (b := x) (by omega) (by omega)).mp c1
    refine lv_aload_n hx hb dX10_begin_36 rfl (lv_at hl 1 rfl) ?_
    refine ca_v (wr := [(a_maps, .inl (gI G, 6, .inl f))]) (va_runV (As := []) (rest := []) ⟨hx, hb, hml, hown, hts⟩ (m_findParts l G H.size h1 (.ref a_maps) (.int 0) v_kinds (.int 0) v_spades v_pad v_padMany v_slips v_slipMany v_made v_queue v_depth v_by v_from v_come v_offOf v_parent v_best v_trees v_least v_sums v_toward v_kept v_isKept v_keptAt v_isWriting a_part fp k hk2 hk6) (cwV 0 hts gX10_begin_X10_findParts rfl rfl rfl (by decide +kernel) ⟨by decide +kernel, by decide +kernel⟩) (pre_V E hP hD hS hA [0, 2] (by decide) rfl 0 6 rfl rfl) rfl rfl hl.1 rfl (lv_room (Nat.le_of_ble_eq_true rfl)) dX10_begin_37 ⟨by decide +kernel, by decide +kernel⟩) hS hP hD hA [0, 2] [1] rfl rfl (by decide) (by decide) (fun u4 H locs w2 hP hD hS => ?_)
    obtain ⟨gp_5, rfl⟩ : ∃ z, z = u4 := ⟨_, rfl⟩
    try dsimp only at w2 hP hD
    have hP := (hP.sub (ws' := [(h1, .inr (6, [.int (nI k), .ref a_maps, .int 0, v_kinds, .int 0, v_spades, .ref a_part, v_pad, v_padMany, v_slips, v_slipMany, v_made, v_queue, v_depth, v_by, v_from, v_come, v_offOf, v_parent, v_best, v_trees, v_least, v_sums, v_toward, v_kept, v_isKept, v_keptAt, v_isWriting])), (a_maps, .inl (gI G, 6, .inl f)), (a_part, .inl (gI G, 6, .inl gp_5))]) [1, 0, 2] rfl)
    have hD := (hD.sub (ws' := [(h1, .inr (6, [.int (nI k), .ref a_maps, .int 0, v_kinds, .int 0, v_spades, .ref a_part, v_pad, v_padMany, v_slips, v_slipMany, v_made, v_queue, v_depth, v_by, v_from, v_come, v_offOf, v_parent, v_best, v_trees, v_least, v_sums, v_toward, v_kept, v_isKept, v_keptAt, v_isWriting])), (a_maps, .inl (gI G, 6, .inl f)), (a_part, .inl (gI G, 6, .inl gp_5))]) [1, 0, 2] (by decide) rfl)
    have hP9 := (hP.sub (ws' := [(h1, .inr (6, [.int (nI k), .ref a_maps, .int 0, v_kinds, .int 0, v_spades, .ref a_part, v_pad, v_padMany, v_slips, v_slipMany, v_made, v_queue, v_depth, v_by, v_from, v_come, v_offOf, v_parent, v_best, v_trees, v_least, v_sums, v_toward, v_kept, v_isKept, v_keptAt, v_isWriting])), (a_maps, .inl (gI G, 6, .inl f)), (a_part, .inl (gI G, 6, .inl gp_5))]) [0, 1, 2] rfl)
    have hD9 := (hD.sub (ws' := [(h1, .inr (6, [.int (nI k), .ref a_maps, .int 0, v_kinds, .int 0, v_spades, .ref a_part, v_pad, v_padMany, v_slips, v_slipMany, v_made, v_queue, v_depth, v_by, v_from, v_come, v_offOf, v_parent, v_best, v_trees, v_least, v_sums, v_toward, v_kept, v_isKept, v_keptAt, v_isWriting])), (a_maps, .inl (gI G, 6, .inl f)), (a_part, .inl (gI G, 6, .inl gp_5))]) [0, 1, 2] (by decide) rfl)
    exact W.vret hx hb hr (fun t9_ ht9_ hW9_ => ⟨⟨(f, gp_5), rfl, ⟨maps0 (fun j hj => hf j (by omega)), w2⟩, by rw [ht9_]; exact hP9, hD9⟩, hS.F ht9_⟩) hS.2.2 dX10_begin_40
  · have c1 : ¬ 6 ≤ x := fun h9_ => c1 ((nI_leI (a := 6) (b := x) (by omega) (by omega)).mpr h9_)
    refine lv_aload_n hx hb dX10_begin_23 rfl (lv_at hl 1 rfl) ?_
    refine va_get (D := G.1) (ci := 6) (v := .ref a_maps) (C := RX10) (T := TX10) (N := 28) hx hb hts (fun _ h => List.mem_cons_of_mem _ (List.mem_append_right _ h)) hown E.K hP 0 rfl rfl 1 (by decide) (hts (.fieldLink RX10 7 "LastMapModel" "maps" "[I") (by decide +kernel)) (fun _ h9 => h9) rfl dX10_begin_24 ?_
    refine lv_iload_n hx hb dX10_begin_27 rfl (lv_at hl 0 rfl) ?_
    refine lv_iconst (v := 0) hx hb dX10_begin_28 (by decide) ?_
    refine va_iast hx hb E.K hP hD hS 1 1 rfl rfl (i := nI x) (vp_in_nI (by omega) (by decide)) dX10_begin_29 (fun H locs hP hD hS => ?_)
    obtain ⟨f6, ef6⟩ : ∃ yy_ : Nat → Int32, yy_ = upd f (nI x).toNatClampNeg 0 := ⟨_, rfl⟩
    have hP : va_P G.1 vwCl ([(h1, .inr (6, [.int (nI k), .ref a_maps, .int 0, v_kinds, .int 0, v_spades, .ref a_part, v_pad, v_padMany, v_slips, v_slipMany, v_made, v_queue, v_depth, v_by, v_from, v_come, v_offOf, v_parent, v_best, v_trees, v_least, v_sums, v_toward, v_kept, v_isKept, v_keptAt, v_isWriting])), (a_maps, .inl (gI G, 6, .inl f6)), (a_part, .inl (gI G, 6, .inl fp))]) H := by rw [ef6]; exact hP
    have hD : va_D A ([(h1, .inr (6, [.int (nI k), .ref a_maps, .int 0, v_kinds, .int 0, v_spades, .ref a_part, v_pad, v_padMany, v_slips, v_slipMany, v_made, v_queue, v_depth, v_by, v_from, v_come, v_offOf, v_parent, v_best, v_trees, v_least, v_sums, v_toward, v_kept, v_isKept, v_keptAt, v_isWriting])), (a_maps, .inl (gI G, 6, .inl f6)), (a_part, .inl (gI G, 6, .inl fp))]) := by rw [ef6]; exact hD
    obtain ⟨x7, ex7⟩ : ∃ yy_ : Int32, yy_ = (nI x) + 1 := ⟨_, rfl⟩
    refine lv_iinc (v := x7) (lv' := [(2, .int x7), (0, .ref h1), (1, .int (nI k))]) hx hb dX10_begin_30 hl (k := 0) rfl (by rw [ex7]; rfl) (by decide) rfl (fun ls hl => ?_)
    obtain rfl : x7 = nI (x + 1) := by rw [ex7]; exact nI_add x 1
    refine lv_goto (tgt := 17) hx hb dX10_begin_33 (by decide) ?_
    refine ih17 ((x + 1), f6) ⟨?_, ?_⟩ (by first | omega | (dsimp only; omega)) H locs ls (hP.sub [0, 1, 2] rfl) (hD.sub [0, 1, 2] (by decide) rfl) hS (lv_sub hl [0, 1, 2] rfl)
    · try dsimp only
      omega
    · try dsimp only
      intro j hj; rw [ef6, nI_clamp (by omega)]
      by_cases hji : j = x
      · subst hji; rw [pk_us]
      · rw [pk_un hji]; exact hf j (by omega)

set_option maxHeartbeats 1000000 in
set_option maxRecDepth 100000 in
theorem m_pass_w (l : Launch) (G : Gy) (sz : Nat) (h1 : Nat) (v_sites : Value) (v_maps : Value) (v_told : Value) (v_kinds : Value) (v_land : Value) (v_spades : Value) (v_part : Value) (v_pad : Value) (v_padMany : Value) (v_slips : Value) (v_slipMany : Value) (v_made : Value) (v_queue : Value) (v_depth : Value) (v_by : Value) (v_from : Value) (v_come : Value) (v_offOf : Value) (v_parent : Value) (v_best : Value) (v_trees : Value) (v_least : Value) (v_sums : Value) (v_toward : Value) (v_isKept : Value) (a_kept : Nat) (ka : Nat) (fq : Nat → Int32) (p0 : Int32) (hka : ka < 80) : Ci l G yX10_pass wsX10_pass ({ frames := 0, cells := 0, slots := 0, locals := 0 }) [.ref h1, .int p0] ([(h1, .inr (6, [v_sites, v_maps, v_told, v_kinds, v_land, v_spades, v_part, v_pad, v_padMany, v_slips, v_slipMany, v_made, v_queue, v_depth, v_by, v_from, v_come, v_offOf, v_parent, v_best, v_trees, v_least, v_sums, v_toward, .ref a_kept, v_isKept, .int (nI ka), .int 1])), (a_kept, .inl (gI G, 80, .inl fq))]) sz (fun (r : Int32) (gq : Nat → Int32) => r = p0 ∧ gq = upd fq ka p0) (fun (gq : Nat → Int32) => [(h1, .inr (6, [v_sites, v_maps, v_told, v_kinds, v_land, v_spades, v_part, v_pad, v_padMany, v_slips, v_slipMany, v_made, v_queue, v_depth, v_by, v_from, v_come, v_offOf, v_parent, v_best, v_trees, v_least, v_sums, v_toward, .ref a_kept, v_isKept, .int (nI (ka + 1)), .int 1])), (a_kept, .inl (gI G, 80, .inl gq))]) 0 0 := by
  refine Met.ofW (cc := cX10_pass) (maxL := 3) (ret := (some .int)) (by decide) rfl ?_
  intro p e s m args below meth c s₁ B hml hv
  obtain ⟨rfl, hsz, hP, hD0, E0⟩ := hv
  have hx := B.exec
  have hb := B.bytes
  have hr := B.returns
  have hts := atoms_spec (ws := wsX10_pass) B.pre
  have hown : s.vm.findClass RX10 = some m.cls := findClass_of_methodNamed B.named
  have hlocks := B.notSynchronized
  subst hsz
  have hD := hD0.self (sz := s.heap.size)
  generalize hAe : va_A ([(h1, .inr (6, [v_sites, v_maps, v_told, v_kinds, v_land, v_spades, v_part, v_pad, v_padMany, v_slips, v_slipMany, v_made, v_queue, v_depth, v_by, v_from, v_come, v_offOf, v_parent, v_best, v_trees, v_least, v_sums, v_toward, .ref a_kept, v_isKept, .int (nI ka), .int 1])), (a_kept, .inl (gI G, 80, .inl fq))]) s.heap.size = A at hD E0 ⊢
  have E : EV G A s s.heap := E0
  have hA : ∀ q : Nat, s.heap.size ≤ q → A q := fun q h => by rw [← hAe]; exact Or.inr h
  have hS : va_S A s.heap s.heap [] := va_S.rf
  have hl := lv_entry ([.ref h1, .int p0]) (n := 3) (Nat.le_of_ble_eq_true rfl)
  rw [lg_entry_eq]
  generalize (lg_sl ([.ref h1, .int p0]) ++ List.replicate (3 - (lg_sl ([.ref h1, .int p0])).length) Slot.unset).toArray = ls at hl ⊢
  have hl : lv_has ls 3 [(0, .ref h1), (1, .int p0)] := hl
  have hP : va_P G.1 vwCl ([(h1, .inr (6, [v_sites, v_maps, v_told, v_kinds, v_land, v_spades, v_part, v_pad, v_padMany, v_slips, v_slipMany, v_made, v_queue, v_depth, v_by, v_from, v_come, v_offOf, v_parent, v_best, v_trees, v_least, v_sums, v_toward, .ref a_kept, v_isKept, .int (nI ka), .int 1])), (a_kept, .inl (gI G, 80, .inl fq))]) s.heap := hP
  refine lv_aload_n hx hb dX10_pass_0 rfl (lv_at hl 0 rfl) ?_
  refine va_get (D := G.1) (ci := 6) (v := .int 1) (C := RX10) (T := TX10) (N := 28) hx hb hts (fun _ h => List.mem_cons_of_mem _ (List.mem_append_right _ h)) hown E.K hP 0 rfl rfl 27 (by decide) (hts (.fieldLink RX10 243 "LastMapModel" "isWriting" "Z") (by decide +kernel)) (fun _ h9 => h9) rfl dX10_pass_1 ?_
  refine lv_if_eq (tgt := 11) hx hb dX10_pass_4 (by decide) (fun c1 => False.elim (by revert c1; decide)) (fun _ => ?_)
  refine lv_iload_n hx hb dX10_pass_7 rfl (lv_at hl 1 rfl) ?_
  refine lv_goto (tgt := 20) hx hb dX10_pass_8 (by decide) ?_
  refine lv_istore_n (lv' := [(2, .int p0), (0, .ref h1), (1, .int p0)]) hx hb dX10_pass_20 rfl hl (by decide) rfl (fun ls hl => ?_)
  refine lv_aload_n hx hb dX10_pass_21 rfl (lv_at hl 1 rfl) ?_
  refine va_get (D := G.1) (ci := 6) (v := .ref a_kept) (C := RX10) (T := TX10) (N := 28) hx hb hts (fun _ h => List.mem_cons_of_mem _ (List.mem_append_right _ h)) hown E.K hP 0 rfl rfl 24 (by decide) (hts (.fieldLink RX10 52 "LastMapModel" "kept" "[I") (by decide +kernel)) (fun _ h9 => h9) rfl dX10_pass_22 ?_
  refine lv_aload_n hx hb dX10_pass_25 rfl (lv_at hl 1 rfl) ?_
  refine va_get (D := G.1) (ci := 6) (v := .int (nI ka)) (C := RX10) (T := TX10) (N := 28) hx hb hts (fun _ h => List.mem_cons_of_mem _ (List.mem_append_right _ h)) hown E.K hP 0 rfl rfl 26 (by decide) (hts (.fieldLink RX10 247 "LastMapModel" "keptAt" "I") (by decide +kernel)) (fun _ h9 => h9) rfl dX10_pass_26 ?_
  refine lv_iload_n hx hb dX10_pass_29 rfl (lv_at hl 0 rfl) ?_
  refine va_iast hx hb E.K hP hD hS 1 1 rfl rfl (i := nI ka) (vp_in_nI (by omega) (by decide)) dX10_pass_30 (fun H locs hP hD hS => ?_)
  obtain ⟨f2, ef2⟩ : ∃ yy_ : Nat → Int32, yy_ = upd fq (nI ka).toNatClampNeg p0 := ⟨_, rfl⟩
  have hP : va_P G.1 vwCl ([(h1, .inr (6, [v_sites, v_maps, v_told, v_kinds, v_land, v_spades, v_part, v_pad, v_padMany, v_slips, v_slipMany, v_made, v_queue, v_depth, v_by, v_from, v_come, v_offOf, v_parent, v_best, v_trees, v_least, v_sums, v_toward, .ref a_kept, v_isKept, .int (nI ka), .int 1])), (a_kept, .inl (gI G, 80, .inl f2))]) H := by rw [ef2]; exact hP
  have hD : va_D A ([(h1, .inr (6, [v_sites, v_maps, v_told, v_kinds, v_land, v_spades, v_part, v_pad, v_padMany, v_slips, v_slipMany, v_made, v_queue, v_depth, v_by, v_from, v_come, v_offOf, v_parent, v_best, v_trees, v_least, v_sums, v_toward, .ref a_kept, v_isKept, .int (nI ka), .int 1])), (a_kept, .inl (gI G, 80, .inl f2))]) := by rw [ef2]; exact hD
  refine lv_aload_n hx hb dX10_pass_31 rfl (lv_at hl 1 rfl) ?_
  refine lv_dup hx hb dX10_pass_32 rfl ?_
  refine va_get (D := G.1) (ci := 6) (v := .int (nI ka)) (C := RX10) (T := TX10) (N := 28) hx hb hts (fun _ h => List.mem_cons_of_mem _ (List.mem_append_right _ h)) hown E.K hP 0 rfl rfl 26 (by decide) (hts (.fieldLink RX10 247 "LastMapModel" "keptAt" "I") (by decide +kernel)) (fun _ h9 => h9) rfl dX10_pass_33 ?_
  refine lv_iconst (v := 1) hx hb dX10_pass_36 (by decide) ?_
  refine lv_iadd hx hb dX10_pass_37 ?_
  refine lv_topi (fun x3 ex3 => ?_)
  obtain rfl : x3 = nI (ka + 1) := by rw [ex3]; exact nI_add ka 1
  refine va_put (D := G.1) (ci := 6) (v := .int (nI (ka + 1))) (ty := .int) (C := RX10) (T := TX10) (N := 28) hx hb hts (fun _ h => List.mem_cons_of_mem _ (List.mem_append_right _ h)) tyX10 tyX10_ok nmX10 hown E.K hP hD hS 0 rfl rfl 26 (by decide) (hts (.fieldLink RX10 247 "LastMapModel" "keptAt" "I") (by decide +kernel)) (fun _ h9 => h9) rfl (by decide +kernel) rfl rfl (Nat.le_of_ble_eq_true rfl) dX10_pass_38 (fun H locs hP hD hS => ?_)
  have hP : va_P G.1 vwCl ([(h1, .inr (6, [v_sites, v_maps, v_told, v_kinds, v_land, v_spades, v_part, v_pad, v_padMany, v_slips, v_slipMany, v_made, v_queue, v_depth, v_by, v_from, v_come, v_offOf, v_parent, v_best, v_trees, v_least, v_sums, v_toward, .ref a_kept, v_isKept, .int (nI (ka + 1)), .int 1])), (a_kept, .inl (gI G, 80, .inl f2))]) H := hP
  have hD : va_D A ([(h1, .inr (6, [v_sites, v_maps, v_told, v_kinds, v_land, v_spades, v_part, v_pad, v_padMany, v_slips, v_slipMany, v_made, v_queue, v_depth, v_by, v_from, v_come, v_offOf, v_parent, v_best, v_trees, v_least, v_sums, v_toward, .ref a_kept, v_isKept, .int (nI (ka + 1)), .int 1])), (a_kept, .inl (gI G, 80, .inl f2))]) := hD
  refine lv_iload_n hx hb dX10_pass_41 rfl (lv_at hl 0 rfl) ?_
  have hP9 := (hP.sub (ws' := [(h1, .inr (6, [v_sites, v_maps, v_told, v_kinds, v_land, v_spades, v_part, v_pad, v_padMany, v_slips, v_slipMany, v_made, v_queue, v_depth, v_by, v_from, v_come, v_offOf, v_parent, v_best, v_trees, v_least, v_sums, v_toward, .ref a_kept, v_isKept, .int (nI (ka + 1)), .int 1])), (a_kept, .inl (gI G, 80, .inl f2))]) [0, 1] rfl)
  have hD9 := (hD.sub (ws' := [(h1, .inr (6, [v_sites, v_maps, v_told, v_kinds, v_land, v_spades, v_part, v_pad, v_padMany, v_slips, v_slipMany, v_made, v_queue, v_depth, v_by, v_from, v_come, v_offOf, v_parent, v_best, v_trees, v_least, v_sums, v_toward, .ref a_kept, v_isKept, .int (nI (ka + 1)), .int 1])), (a_kept, .inl (gI G, 80, .inl f2))]) [0, 1] (by decide) rfl)
  exact W.iret (v := p0) hx hb hr (fun t9_ ht9_ hW9_ => ⟨⟨p0, f2, rfl, ⟨rfl, by rw [ef2, nI_clamp (by omega)]⟩, by rw [ht9_]; exact hP9, hD9⟩, hS.F ht9_⟩) hS.2.2 dX10_pass_42

set_option maxHeartbeats 1000000 in
set_option maxRecDepth 100000 in
theorem m_pass_r (l : Launch) (G : Gy) (sz : Nat) (h1 : Nat) (v_sites : Value) (v_maps : Value) (v_told : Value) (v_kinds : Value) (v_land : Value) (v_spades : Value) (v_part : Value) (v_pad : Value) (v_padMany : Value) (v_slips : Value) (v_slipMany : Value) (v_made : Value) (v_queue : Value) (v_depth : Value) (v_by : Value) (v_from : Value) (v_come : Value) (v_offOf : Value) (v_parent : Value) (v_best : Value) (v_trees : Value) (v_least : Value) (v_sums : Value) (v_toward : Value) (v_isKept : Value) (a_kept : Nat) (ka : Nat) (fq : Nat → Int32) (p0 : Int32) (hka : ka < 80) : Ci l G yX10_pass wsX10_pass ({ frames := 0, cells := 0, slots := 0, locals := 0 }) [.ref h1, .int p0] ([(h1, .inr (6, [v_sites, v_maps, v_told, v_kinds, v_land, v_spades, v_part, v_pad, v_padMany, v_slips, v_slipMany, v_made, v_queue, v_depth, v_by, v_from, v_come, v_offOf, v_parent, v_best, v_trees, v_least, v_sums, v_toward, .ref a_kept, v_isKept, .int (nI ka), .int 0])), (a_kept, .inl (gI G, 80, .inl fq))]) sz (fun (r : Int32) (_ : Unit) => r = fq ka) (fun (_ : Unit) => [(h1, .inr (6, [v_sites, v_maps, v_told, v_kinds, v_land, v_spades, v_part, v_pad, v_padMany, v_slips, v_slipMany, v_made, v_queue, v_depth, v_by, v_from, v_come, v_offOf, v_parent, v_best, v_trees, v_least, v_sums, v_toward, .ref a_kept, v_isKept, .int (nI (ka + 1)), .int 0])), (a_kept, .inl (gI G, 80, .inl fq))]) 0 0 := by
  refine Met.ofW (cc := cX10_pass) (maxL := 3) (ret := (some .int)) (by decide) rfl ?_
  intro p e s m args below meth c s₁ B hml hv
  obtain ⟨rfl, hsz, hP, hD0, E0⟩ := hv
  have hx := B.exec
  have hb := B.bytes
  have hr := B.returns
  have hts := atoms_spec (ws := wsX10_pass) B.pre
  have hown : s.vm.findClass RX10 = some m.cls := findClass_of_methodNamed B.named
  have hlocks := B.notSynchronized
  subst hsz
  have hD := hD0.self (sz := s.heap.size)
  generalize hAe : va_A ([(h1, .inr (6, [v_sites, v_maps, v_told, v_kinds, v_land, v_spades, v_part, v_pad, v_padMany, v_slips, v_slipMany, v_made, v_queue, v_depth, v_by, v_from, v_come, v_offOf, v_parent, v_best, v_trees, v_least, v_sums, v_toward, .ref a_kept, v_isKept, .int (nI ka), .int 0])), (a_kept, .inl (gI G, 80, .inl fq))]) s.heap.size = A at hD E0 ⊢
  have E : EV G A s s.heap := E0
  have hA : ∀ q : Nat, s.heap.size ≤ q → A q := fun q h => by rw [← hAe]; exact Or.inr h
  have hS : va_S A s.heap s.heap [] := va_S.rf
  have hl := lv_entry ([.ref h1, .int p0]) (n := 3) (Nat.le_of_ble_eq_true rfl)
  rw [lg_entry_eq]
  generalize (lg_sl ([.ref h1, .int p0]) ++ List.replicate (3 - (lg_sl ([.ref h1, .int p0])).length) Slot.unset).toArray = ls at hl ⊢
  have hl : lv_has ls 3 [(0, .ref h1), (1, .int p0)] := hl
  have hP : va_P G.1 vwCl ([(h1, .inr (6, [v_sites, v_maps, v_told, v_kinds, v_land, v_spades, v_part, v_pad, v_padMany, v_slips, v_slipMany, v_made, v_queue, v_depth, v_by, v_from, v_come, v_offOf, v_parent, v_best, v_trees, v_least, v_sums, v_toward, .ref a_kept, v_isKept, .int (nI ka), .int 0])), (a_kept, .inl (gI G, 80, .inl fq))]) s.heap := hP
  refine lv_aload_n hx hb dX10_pass_0 rfl (lv_at hl 0 rfl) ?_
  refine va_get (D := G.1) (ci := 6) (v := .int 0) (C := RX10) (T := TX10) (N := 28) hx hb hts (fun _ h => List.mem_cons_of_mem _ (List.mem_append_right _ h)) hown E.K hP 0 rfl rfl 27 (by decide) (hts (.fieldLink RX10 243 "LastMapModel" "isWriting" "Z") (by decide +kernel)) (fun _ h9 => h9) rfl dX10_pass_1 ?_
  refine lv_if_eq (tgt := 11) hx hb dX10_pass_4 (by decide) (fun _ => ?_) (fun c1 => False.elim (by revert c1; decide))
  refine lv_aload_n hx hb dX10_pass_11 rfl (lv_at hl 0 rfl) ?_
  refine va_get (D := G.1) (ci := 6) (v := .ref a_kept) (C := RX10) (T := TX10) (N := 28) hx hb hts (fun _ h => List.mem_cons_of_mem _ (List.mem_append_right _ h)) hown E.K hP 0 rfl rfl 24 (by decide) (hts (.fieldLink RX10 52 "LastMapModel" "kept" "[I") (by decide +kernel)) (fun _ h9 => h9) rfl dX10_pass_12 ?_
  refine lv_aload_n hx hb dX10_pass_15 rfl (lv_at hl 0 rfl) ?_
  refine va_get (D := G.1) (ci := 6) (v := .int (nI ka)) (C := RX10) (T := TX10) (N := 28) hx hb hts (fun _ h => List.mem_cons_of_mem _ (List.mem_append_right _ h)) hown E.K hP 0 rfl rfl 26 (by decide) (hts (.fieldLink RX10 247 "LastMapModel" "keptAt" "I") (by decide +kernel)) (fun _ h9 => h9) rfl dX10_pass_16 ?_
  refine va_iald hx hb E.K hP 1 1 rfl rfl (i := nI ka) (vp_in_nI (by omega) (by decide)) dX10_pass_19 ?_
  refine lv_topi (fun x2 ex2 => ?_)
  refine lv_istore_n (lv' := [(2, .int x2), (0, .ref h1), (1, .int p0)]) hx hb dX10_pass_20 rfl hl (by decide) rfl (fun ls hl => ?_)
  refine lv_aload_n hx hb dX10_pass_21 rfl (lv_at hl 1 rfl) ?_
  refine va_get (D := G.1) (ci := 6) (v := .ref a_kept) (C := RX10) (T := TX10) (N := 28) hx hb hts (fun _ h => List.mem_cons_of_mem _ (List.mem_append_right _ h)) hown E.K hP 0 rfl rfl 24 (by decide) (hts (.fieldLink RX10 52 "LastMapModel" "kept" "[I") (by decide +kernel)) (fun _ h9 => h9) rfl dX10_pass_22 ?_
  refine lv_aload_n hx hb dX10_pass_25 rfl (lv_at hl 1 rfl) ?_
  refine va_get (D := G.1) (ci := 6) (v := .int (nI ka)) (C := RX10) (T := TX10) (N := 28) hx hb hts (fun _ h => List.mem_cons_of_mem _ (List.mem_append_right _ h)) hown E.K hP 0 rfl rfl 26 (by decide) (hts (.fieldLink RX10 247 "LastMapModel" "keptAt" "I") (by decide +kernel)) (fun _ h9 => h9) rfl dX10_pass_26 ?_
  refine lv_iload_n hx hb dX10_pass_29 rfl (lv_at hl 0 rfl) ?_
  refine va_iast hx hb E.K hP hD hS 1 1 rfl rfl (i := nI ka) (vp_in_nI (by omega) (by decide)) dX10_pass_30 (fun H locs hP hD hS => ?_)
  obtain ⟨f3, ef3⟩ : ∃ yy_ : Nat → Int32, yy_ = upd fq (nI ka).toNatClampNeg x2 := ⟨_, rfl⟩
  have hP : va_P G.1 vwCl ([(h1, .inr (6, [v_sites, v_maps, v_told, v_kinds, v_land, v_spades, v_part, v_pad, v_padMany, v_slips, v_slipMany, v_made, v_queue, v_depth, v_by, v_from, v_come, v_offOf, v_parent, v_best, v_trees, v_least, v_sums, v_toward, .ref a_kept, v_isKept, .int (nI ka), .int 0])), (a_kept, .inl (gI G, 80, .inl f3))]) H := by rw [ef3]; exact hP
  have hD : va_D A ([(h1, .inr (6, [v_sites, v_maps, v_told, v_kinds, v_land, v_spades, v_part, v_pad, v_padMany, v_slips, v_slipMany, v_made, v_queue, v_depth, v_by, v_from, v_come, v_offOf, v_parent, v_best, v_trees, v_least, v_sums, v_toward, .ref a_kept, v_isKept, .int (nI ka), .int 0])), (a_kept, .inl (gI G, 80, .inl f3))]) := by rw [ef3]; exact hD
  have hbk_f3 : f3 = fq := by rw [ef3]; exact upd_self ex2
  have hP : va_P G.1 vwCl ([(h1, .inr (6, [v_sites, v_maps, v_told, v_kinds, v_land, v_spades, v_part, v_pad, v_padMany, v_slips, v_slipMany, v_made, v_queue, v_depth, v_by, v_from, v_come, v_offOf, v_parent, v_best, v_trees, v_least, v_sums, v_toward, .ref a_kept, v_isKept, .int (nI ka), .int 0])), (a_kept, .inl (gI G, 80, .inl fq))]) H := by have q := hP; rw [hbk_f3] at q; exact q
  have hD : va_D A ([(h1, .inr (6, [v_sites, v_maps, v_told, v_kinds, v_land, v_spades, v_part, v_pad, v_padMany, v_slips, v_slipMany, v_made, v_queue, v_depth, v_by, v_from, v_come, v_offOf, v_parent, v_best, v_trees, v_least, v_sums, v_toward, .ref a_kept, v_isKept, .int (nI ka), .int 0])), (a_kept, .inl (gI G, 80, .inl fq))]) := by have q := hD; rw [hbk_f3] at q; exact q
  refine lv_aload_n hx hb dX10_pass_31 rfl (lv_at hl 1 rfl) ?_
  refine lv_dup hx hb dX10_pass_32 rfl ?_
  refine va_get (D := G.1) (ci := 6) (v := .int (nI ka)) (C := RX10) (T := TX10) (N := 28) hx hb hts (fun _ h => List.mem_cons_of_mem _ (List.mem_append_right _ h)) hown E.K hP 0 rfl rfl 26 (by decide) (hts (.fieldLink RX10 247 "LastMapModel" "keptAt" "I") (by decide +kernel)) (fun _ h9 => h9) rfl dX10_pass_33 ?_
  refine lv_iconst (v := 1) hx hb dX10_pass_36 (by decide) ?_
  refine lv_iadd hx hb dX10_pass_37 ?_
  refine lv_topi (fun x4 ex4 => ?_)
  obtain rfl : x4 = nI (ka + 1) := by rw [ex4]; exact nI_add ka 1
  refine va_put (D := G.1) (ci := 6) (v := .int (nI (ka + 1))) (ty := .int) (C := RX10) (T := TX10) (N := 28) hx hb hts (fun _ h => List.mem_cons_of_mem _ (List.mem_append_right _ h)) tyX10 tyX10_ok nmX10 hown E.K hP hD hS 0 rfl rfl 26 (by decide) (hts (.fieldLink RX10 247 "LastMapModel" "keptAt" "I") (by decide +kernel)) (fun _ h9 => h9) rfl (by decide +kernel) rfl rfl (Nat.le_of_ble_eq_true rfl) dX10_pass_38 (fun H locs hP hD hS => ?_)
  have hP : va_P G.1 vwCl ([(h1, .inr (6, [v_sites, v_maps, v_told, v_kinds, v_land, v_spades, v_part, v_pad, v_padMany, v_slips, v_slipMany, v_made, v_queue, v_depth, v_by, v_from, v_come, v_offOf, v_parent, v_best, v_trees, v_least, v_sums, v_toward, .ref a_kept, v_isKept, .int (nI (ka + 1)), .int 0])), (a_kept, .inl (gI G, 80, .inl fq))]) H := hP
  have hD : va_D A ([(h1, .inr (6, [v_sites, v_maps, v_told, v_kinds, v_land, v_spades, v_part, v_pad, v_padMany, v_slips, v_slipMany, v_made, v_queue, v_depth, v_by, v_from, v_come, v_offOf, v_parent, v_best, v_trees, v_least, v_sums, v_toward, .ref a_kept, v_isKept, .int (nI (ka + 1)), .int 0])), (a_kept, .inl (gI G, 80, .inl fq))]) := hD
  refine lv_iload_n hx hb dX10_pass_41 rfl (lv_at hl 0 rfl) ?_
  have hP9 := (hP.sub (ws' := [(h1, .inr (6, [v_sites, v_maps, v_told, v_kinds, v_land, v_spades, v_part, v_pad, v_padMany, v_slips, v_slipMany, v_made, v_queue, v_depth, v_by, v_from, v_come, v_offOf, v_parent, v_best, v_trees, v_least, v_sums, v_toward, .ref a_kept, v_isKept, .int (nI (ka + 1)), .int 0])), (a_kept, .inl (gI G, 80, .inl fq))]) [0, 1] rfl)
  have hD9 := (hD.sub (ws' := [(h1, .inr (6, [v_sites, v_maps, v_told, v_kinds, v_land, v_spades, v_part, v_pad, v_padMany, v_slips, v_slipMany, v_made, v_queue, v_depth, v_by, v_from, v_come, v_offOf, v_parent, v_best, v_trees, v_least, v_sums, v_toward, .ref a_kept, v_isKept, .int (nI (ka + 1)), .int 0])), (a_kept, .inl (gI G, 80, .inl fq))]) [0, 1] (by decide) rfl)
  exact W.iret (v := x2) hx hb hr (fun t9_ ht9_ hW9_ => ⟨⟨x2, (), rfl, by rw [ex2, nI_clamp (by omega)], by rw [ht9_]; exact hP9, hD9⟩, hS.F ht9_⟩) hS.2.2 dX10_pass_42

set_option maxHeartbeats 1000000 in
set_option maxRecDepth 100000 in
theorem m_passAll_w (l : Launch) (G : Gy) (sz : Nat) (h1 : Nat) (v_pad : Value) (v_padMany : Value) (v_slips : Value) (v_slipMany : Value) (v_made : Value) (v_queue : Value) (v_depth : Value) (v_by : Value) (v_from : Value) (v_come : Value) (v_offOf : Value) (v_parent : Value) (v_best : Value) (v_trees : Value) (v_least : Value) (v_sums : Value) (v_toward : Value) (v_isKept : Value) (a_maps : Nat) (fm : Nat → Int32) (a_kinds : Nat) (a_kept : Nat) (ka : Nat) (k : Nat) (a_part : Nat) (fp : Nat → Int32) (fk : Nat → Int32) (fq : Nat → Int32) (t0 : Int32) (l0 : Int32) (s0 : Int32) (hk2 : 2 ≤ k) (hk6 : k ≤ 6) (hka : ka + 14 ≤ 80) : Cv l G yX10_passAll wsX10_passAll ({ frames := 1, cells := 0, slots := 0, locals := 22 }) [.ref h1] ([(h1, .inr (6, [.int (nI k), .ref a_maps, .int t0, .ref a_kinds, .int l0, .int s0, .ref a_part, v_pad, v_padMany, v_slips, v_slipMany, v_made, v_queue, v_depth, v_by, v_from, v_come, v_offOf, v_parent, v_best, v_trees, v_least, v_sums, v_toward, .ref a_kept, v_isKept, .int (nI ka), .int 1])), (a_maps, .inl (gI G, 6, .inl fm)), (a_kinds, .inl (gI G, 4, .inl fk)), (a_part, .inl (gI G, 6, .inl fp)), (a_kept, .inl (gI G, 80, .inl fq))]) sz (fun (u : (Nat → Int32) × (Nat → Int32)) => match u with | (gp, gq) => pOK k gp ∧ PW ka 14 (vseq (nI k) t0 l0 s0 fm fk) fq gq) (fun (u : (Nat → Int32) × (Nat → Int32)) => match u with | (gp, gq) => [(h1, .inr (6, [.int (nI k), .ref a_maps, .int t0, .ref a_kinds, .int l0, .int s0, .ref a_part, v_pad, v_padMany, v_slips, v_slipMany, v_made, v_queue, v_depth, v_by, v_from, v_come, v_offOf, v_parent, v_best, v_trees, v_least, v_sums, v_toward, .ref a_kept, v_isKept, .int (nI (ka + 10 + 4)), .int 1])), (a_maps, .inl (gI G, 6, .inl fm)), (a_kinds, .inl (gI G, 4, .inl fk)), (a_part, .inl (gI G, 6, .inl gp)), (a_kept, .inl (gI G, 80, .inl gq))]) 0 0 := by
  refine Met.ofW (cc := cX10_passAll) (maxL := 2) (ret := none) (by decide) rfl ?_
  intro p e s m args below meth c s₁ B hml hv
  obtain ⟨rfl, hsz, hP, hD0, E0⟩ := hv
  have hx := B.exec
  have hb := B.bytes
  have hr := B.returns
  have hts := atoms_spec (ws := wsX10_passAll) B.pre
  have hown : s.vm.findClass RX10 = some m.cls := findClass_of_methodNamed B.named
  have hlocks := B.notSynchronized
  subst hsz
  have hD := hD0.self (sz := s.heap.size)
  generalize hAe : va_A ([(h1, .inr (6, [.int (nI k), .ref a_maps, .int t0, .ref a_kinds, .int l0, .int s0, .ref a_part, v_pad, v_padMany, v_slips, v_slipMany, v_made, v_queue, v_depth, v_by, v_from, v_come, v_offOf, v_parent, v_best, v_trees, v_least, v_sums, v_toward, .ref a_kept, v_isKept, .int (nI ka), .int 1])), (a_maps, .inl (gI G, 6, .inl fm)), (a_kinds, .inl (gI G, 4, .inl fk)), (a_part, .inl (gI G, 6, .inl fp)), (a_kept, .inl (gI G, 80, .inl fq))]) s.heap.size = A at hD E0 ⊢
  have E : EV G A s s.heap := E0
  have hA : ∀ q : Nat, s.heap.size ≤ q → A q := fun q h => by rw [← hAe]; exact Or.inr h
  have hS : va_S A s.heap s.heap [] := va_S.rf
  have hl := lv_entry ([.ref h1]) (n := 2) (Nat.le_of_ble_eq_true rfl)
  rw [lg_entry_eq]
  generalize (lg_sl ([.ref h1]) ++ List.replicate (2 - (lg_sl ([.ref h1])).length) Slot.unset).toArray = ls at hl ⊢
  have hl : lv_has ls 2 [(0, .ref h1)] := hl
  have hP : va_P G.1 vwCl ([(h1, .inr (6, [.int (nI k), .ref a_maps, .int t0, .ref a_kinds, .int l0, .int s0, .ref a_part, v_pad, v_padMany, v_slips, v_slipMany, v_made, v_queue, v_depth, v_by, v_from, v_come, v_offOf, v_parent, v_best, v_trees, v_least, v_sums, v_toward, .ref a_kept, v_isKept, .int (nI ka), .int 1])), (a_maps, .inl (gI G, 6, .inl fm)), (a_kinds, .inl (gI G, 4, .inl fk)), (a_part, .inl (gI G, 6, .inl fp)), (a_kept, .inl (gI G, 80, .inl fq))]) s.heap := hP
  have hpw0 : PW ka 0 (vseq (nI k) t0 l0 s0 fm fk) fq fq := PW0
  refine lv_aload_n hx hb dX10_passAll_0 rfl (lv_at hl 0 rfl) ?_
  refine lv_aload_n hx hb dX10_passAll_1 rfl (lv_at hl 0 rfl) ?_
  refine lv_aload_n hx hb dX10_passAll_2 rfl (lv_at hl 0 rfl) ?_
  refine va_get (D := G.1) (ci := 6) (v := .int (nI k)) (C := RX10) (T := TX10) (N := 28) hx hb hts (fun _ h => List.mem_cons_of_mem _ (List.mem_append_right _ h)) hown E.K hP 0 rfl rfl 0 (by decide) (hts (.fieldLink RX10 67 "LastMapModel" "sites" "I") (by decide +kernel)) (fun _ h9 => h9) rfl dX10_passAll_3 ?_
  refine ca_i (wr := [(a_maps, .inl (gI G, 6, .inl fm)), (a_kinds, .inl (gI G, 4, .inl fk)), (a_part, .inl (gI G, 6, .inl fp))]) (va_runV (As := [.int (nI k)]) (rest := [.ref h1]) ⟨hx, hb, hml, hown, hts⟩ (m_pass_w l G s.heap.size h1 (.int (nI k)) (.ref a_maps) (.int t0) (.ref a_kinds) (.int l0) (.int s0) (.ref a_part) v_pad v_padMany v_slips v_slipMany v_made v_queue v_depth v_by v_from v_come v_offOf v_parent v_best v_trees v_least v_sums v_toward v_isKept a_kept ka fq (nI k) (by omega)) (cwV 1 hts gX10_passAll_X10_pass rfl rfl rfl (by decide +kernel) ⟨by decide +kernel, by decide +kernel⟩) (pre_V E hP hD hS hA [0, 4] (by decide) rfl 0 6 rfl rfl) rfl rfl hl.1 rfl (lv_room (Nat.le_of_ble_eq_true rfl)) dX10_passAll_6 ⟨by decide +kernel, by decide +kernel⟩) hS hP hD hA [0, 4] [1, 2, 3] rfl rfl (by decide) (by decide) (fun r2 u3 H locs w1 hP hD hS => ?_)
  obtain ⟨gq_4, rfl⟩ : ∃ z, z = u3 := ⟨_, rfl⟩
  try dsimp only at w1 hP hD
  have hP := (hP.sub (ws' := [(h1, .inr (6, [.int (nI k), .ref a_maps, .int t0, .ref a_kinds, .int l0, .int s0, .ref a_part, v_pad, v_padMany, v_slips, v_slipMany, v_made, v_queue, v_depth, v_by, v_from, v_come, v_offOf, v_parent, v_best, v_trees, v_least, v_sums, v_toward, .ref a_kept, v_isKept, .int (nI (ka + 1)), .int 1])), (a_maps, .inl (gI G, 6, .inl fm)), (a_kinds, .inl (gI G, 4, .inl fk)), (a_part, .inl (gI G, 6, .inl fp)), (a_kept, .inl (gI G, 80, .inl gq_4))]) [3, 0, 1, 2, 4] rfl)
  have hD := (hD.sub (ws' := [(h1, .inr (6, [.int (nI k), .ref a_maps, .int t0, .ref a_kinds, .int l0, .int s0, .ref a_part, v_pad, v_padMany, v_slips, v_slipMany, v_made, v_queue, v_depth, v_by, v_from, v_come, v_offOf, v_parent, v_best, v_trees, v_least, v_sums, v_toward, .ref a_kept, v_isKept, .int (nI (ka + 1)), .int 1])), (a_maps, .inl (gI G, 6, .inl fm)), (a_kinds, .inl (gI G, 4, .inl fk)), (a_part, .inl (gI G, 6, .inl fp)), (a_kept, .inl (gI G, 80, .inl gq_4))]) [3, 0, 1, 2, 4] (by decide) rfl)
  have hpw1 : PW ka 1 (vseq (nI k) t0 l0 s0 fm fk) fq gq_4 := by rw [w1.2]; exact PWs hpw0 rfl rfl
  refine W.eq (g2 := F0 m 9 ls [.int (nI k), .ref h1]) (by rw [w1.1]) ?_
  refine va_put (D := G.1) (ci := 6) (v := .int (nI k)) (ty := .int) (C := RX10) (T := TX10) (N := 28) hx hb hts (fun _ h => List.mem_cons_of_mem _ (List.mem_append_right _ h)) tyX10 tyX10_ok nmX10 hown E.K hP hD hS 0 rfl rfl 0 (by decide) (hts (.fieldLink RX10 67 "LastMapModel" "sites" "I") (by decide +kernel)) (fun _ h9 => h9) rfl (by decide +kernel) rfl rfl (Nat.le_of_ble_eq_true rfl) dX10_passAll_9 (fun H locs hP hD hS => ?_)
  have hP : va_P G.1 vwCl ([(h1, .inr (6, [.int (nI k), .ref a_maps, .int t0, .ref a_kinds, .int l0, .int s0, .ref a_part, v_pad, v_padMany, v_slips, v_slipMany, v_made, v_queue, v_depth, v_by, v_from, v_come, v_offOf, v_parent, v_best, v_trees, v_least, v_sums, v_toward, .ref a_kept, v_isKept, .int (nI (ka + 1)), .int 1])), (a_maps, .inl (gI G, 6, .inl fm)), (a_kinds, .inl (gI G, 4, .inl fk)), (a_part, .inl (gI G, 6, .inl fp)), (a_kept, .inl (gI G, 80, .inl gq_4))]) H := hP
  have hD : va_D A ([(h1, .inr (6, [.int (nI k), .ref a_maps, .int t0, .ref a_kinds, .int l0, .int s0, .ref a_part, v_pad, v_padMany, v_slips, v_slipMany, v_made, v_queue, v_depth, v_by, v_from, v_come, v_offOf, v_parent, v_best, v_trees, v_least, v_sums, v_toward, .ref a_kept, v_isKept, .int (nI (ka + 1)), .int 1])), (a_maps, .inl (gI G, 6, .inl fm)), (a_kinds, .inl (gI G, 4, .inl fk)), (a_part, .inl (gI G, 6, .inl fp)), (a_kept, .inl (gI G, 80, .inl gq_4))]) := hD
  refine lv_aload_n hx hb dX10_passAll_12 rfl (lv_at hl 0 rfl) ?_
  refine lv_aload_n hx hb dX10_passAll_13 rfl (lv_at hl 0 rfl) ?_
  refine lv_aload_n hx hb dX10_passAll_14 rfl (lv_at hl 0 rfl) ?_
  refine va_get (D := G.1) (ci := 6) (v := .int t0) (C := RX10) (T := TX10) (N := 28) hx hb hts (fun _ h => List.mem_cons_of_mem _ (List.mem_append_right _ h)) hown E.K hP 0 rfl rfl 2 (by decide) (hts (.fieldLink RX10 70 "LastMapModel" "told" "I") (by decide +kernel)) (fun _ h9 => h9) rfl dX10_passAll_15 ?_
  refine ca_i (wr := [(a_maps, .inl (gI G, 6, .inl fm)), (a_kinds, .inl (gI G, 4, .inl fk)), (a_part, .inl (gI G, 6, .inl fp))]) (va_runV (As := [.int t0]) (rest := [.ref h1]) ⟨hx, hb, hml, hown, hts⟩ (m_pass_w l G H.size h1 (.int (nI k)) (.ref a_maps) (.int t0) (.ref a_kinds) (.int l0) (.int s0) (.ref a_part) v_pad v_padMany v_slips v_slipMany v_made v_queue v_depth v_by v_from v_come v_offOf v_parent v_best v_trees v_least v_sums v_toward v_isKept a_kept (ka + 1) gq_4 t0 (by omega)) (cwV 1 hts gX10_passAll_X10_pass rfl rfl rfl (by decide +kernel) ⟨by decide +kernel, by decide +kernel⟩) (pre_V E hP hD hS hA [0, 4] (by decide) rfl 0 6 rfl rfl) rfl rfl hl.1 rfl (lv_room (Nat.le_of_ble_eq_true rfl)) dX10_passAll_18 ⟨by decide +kernel, by decide +kernel⟩) hS hP hD hA [0, 4] [1, 2, 3] rfl rfl (by decide) (by decide) (fun r6 u7 H locs w5 hP hD hS => ?_)
  obtain ⟨gq_8, rfl⟩ : ∃ z, z = u7 := ⟨_, rfl⟩
  try dsimp only at w5 hP hD
  have hP := (hP.sub (ws' := [(h1, .inr (6, [.int (nI k), .ref a_maps, .int t0, .ref a_kinds, .int l0, .int s0, .ref a_part, v_pad, v_padMany, v_slips, v_slipMany, v_made, v_queue, v_depth, v_by, v_from, v_come, v_offOf, v_parent, v_best, v_trees, v_least, v_sums, v_toward, .ref a_kept, v_isKept, .int (nI ((ka + 1) + 1)), .int 1])), (a_maps, .inl (gI G, 6, .inl fm)), (a_kinds, .inl (gI G, 4, .inl fk)), (a_part, .inl (gI G, 6, .inl fp)), (a_kept, .inl (gI G, 80, .inl gq_8))]) [3, 0, 1, 2, 4] rfl)
  have hD := (hD.sub (ws' := [(h1, .inr (6, [.int (nI k), .ref a_maps, .int t0, .ref a_kinds, .int l0, .int s0, .ref a_part, v_pad, v_padMany, v_slips, v_slipMany, v_made, v_queue, v_depth, v_by, v_from, v_come, v_offOf, v_parent, v_best, v_trees, v_least, v_sums, v_toward, .ref a_kept, v_isKept, .int (nI ((ka + 1) + 1)), .int 1])), (a_maps, .inl (gI G, 6, .inl fm)), (a_kinds, .inl (gI G, 4, .inl fk)), (a_part, .inl (gI G, 6, .inl fp)), (a_kept, .inl (gI G, 80, .inl gq_8))]) [3, 0, 1, 2, 4] (by decide) rfl)
  have hpw2 : PW ka 2 (vseq (nI k) t0 l0 s0 fm fk) fq gq_8 := by rw [w5.2]; exact PWs hpw1 rfl rfl
  refine W.eq (g2 := F0 m 21 ls [.int t0, .ref h1]) (by rw [w5.1]) ?_
  refine va_put (D := G.1) (ci := 6) (v := .int t0) (ty := .int) (C := RX10) (T := TX10) (N := 28) hx hb hts (fun _ h => List.mem_cons_of_mem _ (List.mem_append_right _ h)) tyX10 tyX10_ok nmX10 hown E.K hP hD hS 0 rfl rfl 2 (by decide) (hts (.fieldLink RX10 70 "LastMapModel" "told" "I") (by decide +kernel)) (fun _ h9 => h9) rfl (by decide +kernel) rfl rfl (Nat.le_of_ble_eq_true rfl) dX10_passAll_21 (fun H locs hP hD hS => ?_)
  have hP : va_P G.1 vwCl ([(h1, .inr (6, [.int (nI k), .ref a_maps, .int t0, .ref a_kinds, .int l0, .int s0, .ref a_part, v_pad, v_padMany, v_slips, v_slipMany, v_made, v_queue, v_depth, v_by, v_from, v_come, v_offOf, v_parent, v_best, v_trees, v_least, v_sums, v_toward, .ref a_kept, v_isKept, .int (nI ((ka + 1) + 1)), .int 1])), (a_maps, .inl (gI G, 6, .inl fm)), (a_kinds, .inl (gI G, 4, .inl fk)), (a_part, .inl (gI G, 6, .inl fp)), (a_kept, .inl (gI G, 80, .inl gq_8))]) H := hP
  have hD : va_D A ([(h1, .inr (6, [.int (nI k), .ref a_maps, .int t0, .ref a_kinds, .int l0, .int s0, .ref a_part, v_pad, v_padMany, v_slips, v_slipMany, v_made, v_queue, v_depth, v_by, v_from, v_come, v_offOf, v_parent, v_best, v_trees, v_least, v_sums, v_toward, .ref a_kept, v_isKept, .int (nI ((ka + 1) + 1)), .int 1])), (a_maps, .inl (gI G, 6, .inl fm)), (a_kinds, .inl (gI G, 4, .inl fk)), (a_part, .inl (gI G, 6, .inl fp)), (a_kept, .inl (gI G, 80, .inl gq_8))]) := hD
  refine lv_aload_n hx hb dX10_passAll_24 rfl (lv_at hl 0 rfl) ?_
  refine lv_aload_n hx hb dX10_passAll_25 rfl (lv_at hl 0 rfl) ?_
  refine lv_aload_n hx hb dX10_passAll_26 rfl (lv_at hl 0 rfl) ?_
  refine va_get (D := G.1) (ci := 6) (v := .int l0) (C := RX10) (T := TX10) (N := 28) hx hb hts (fun _ h => List.mem_cons_of_mem _ (List.mem_append_right _ h)) hown E.K hP 0 rfl rfl 4 (by decide) (hts (.fieldLink RX10 73 "LastMapModel" "land" "I") (by decide +kernel)) (fun _ h9 => h9) rfl dX10_passAll_27 ?_
  refine ca_i (wr := [(a_maps, .inl (gI G, 6, .inl fm)), (a_kinds, .inl (gI G, 4, .inl fk)), (a_part, .inl (gI G, 6, .inl fp))]) (va_runV (As := [.int l0]) (rest := [.ref h1]) ⟨hx, hb, hml, hown, hts⟩ (m_pass_w l G H.size h1 (.int (nI k)) (.ref a_maps) (.int t0) (.ref a_kinds) (.int l0) (.int s0) (.ref a_part) v_pad v_padMany v_slips v_slipMany v_made v_queue v_depth v_by v_from v_come v_offOf v_parent v_best v_trees v_least v_sums v_toward v_isKept a_kept ((ka + 1) + 1) gq_8 l0 (by omega)) (cwV 1 hts gX10_passAll_X10_pass rfl rfl rfl (by decide +kernel) ⟨by decide +kernel, by decide +kernel⟩) (pre_V E hP hD hS hA [0, 4] (by decide) rfl 0 6 rfl rfl) rfl rfl hl.1 rfl (lv_room (Nat.le_of_ble_eq_true rfl)) dX10_passAll_30 ⟨by decide +kernel, by decide +kernel⟩) hS hP hD hA [0, 4] [1, 2, 3] rfl rfl (by decide) (by decide) (fun r10 u11 H locs w9 hP hD hS => ?_)
  obtain ⟨gq_12, rfl⟩ : ∃ z, z = u11 := ⟨_, rfl⟩
  try dsimp only at w9 hP hD
  have hP := (hP.sub (ws' := [(h1, .inr (6, [.int (nI k), .ref a_maps, .int t0, .ref a_kinds, .int l0, .int s0, .ref a_part, v_pad, v_padMany, v_slips, v_slipMany, v_made, v_queue, v_depth, v_by, v_from, v_come, v_offOf, v_parent, v_best, v_trees, v_least, v_sums, v_toward, .ref a_kept, v_isKept, .int (nI (((ka + 1) + 1) + 1)), .int 1])), (a_maps, .inl (gI G, 6, .inl fm)), (a_kinds, .inl (gI G, 4, .inl fk)), (a_part, .inl (gI G, 6, .inl fp)), (a_kept, .inl (gI G, 80, .inl gq_12))]) [3, 0, 1, 2, 4] rfl)
  have hD := (hD.sub (ws' := [(h1, .inr (6, [.int (nI k), .ref a_maps, .int t0, .ref a_kinds, .int l0, .int s0, .ref a_part, v_pad, v_padMany, v_slips, v_slipMany, v_made, v_queue, v_depth, v_by, v_from, v_come, v_offOf, v_parent, v_best, v_trees, v_least, v_sums, v_toward, .ref a_kept, v_isKept, .int (nI (((ka + 1) + 1) + 1)), .int 1])), (a_maps, .inl (gI G, 6, .inl fm)), (a_kinds, .inl (gI G, 4, .inl fk)), (a_part, .inl (gI G, 6, .inl fp)), (a_kept, .inl (gI G, 80, .inl gq_12))]) [3, 0, 1, 2, 4] (by decide) rfl)
  have hpw3 : PW ka 3 (vseq (nI k) t0 l0 s0 fm fk) fq gq_12 := by rw [w9.2]; exact PWs hpw2 rfl rfl
  refine W.eq (g2 := F0 m 33 ls [.int l0, .ref h1]) (by rw [w9.1]) ?_
  refine va_put (D := G.1) (ci := 6) (v := .int l0) (ty := .int) (C := RX10) (T := TX10) (N := 28) hx hb hts (fun _ h => List.mem_cons_of_mem _ (List.mem_append_right _ h)) tyX10 tyX10_ok nmX10 hown E.K hP hD hS 0 rfl rfl 4 (by decide) (hts (.fieldLink RX10 73 "LastMapModel" "land" "I") (by decide +kernel)) (fun _ h9 => h9) rfl (by decide +kernel) rfl rfl (Nat.le_of_ble_eq_true rfl) dX10_passAll_33 (fun H locs hP hD hS => ?_)
  have hP : va_P G.1 vwCl ([(h1, .inr (6, [.int (nI k), .ref a_maps, .int t0, .ref a_kinds, .int l0, .int s0, .ref a_part, v_pad, v_padMany, v_slips, v_slipMany, v_made, v_queue, v_depth, v_by, v_from, v_come, v_offOf, v_parent, v_best, v_trees, v_least, v_sums, v_toward, .ref a_kept, v_isKept, .int (nI (((ka + 1) + 1) + 1)), .int 1])), (a_maps, .inl (gI G, 6, .inl fm)), (a_kinds, .inl (gI G, 4, .inl fk)), (a_part, .inl (gI G, 6, .inl fp)), (a_kept, .inl (gI G, 80, .inl gq_12))]) H := hP
  have hD : va_D A ([(h1, .inr (6, [.int (nI k), .ref a_maps, .int t0, .ref a_kinds, .int l0, .int s0, .ref a_part, v_pad, v_padMany, v_slips, v_slipMany, v_made, v_queue, v_depth, v_by, v_from, v_come, v_offOf, v_parent, v_best, v_trees, v_least, v_sums, v_toward, .ref a_kept, v_isKept, .int (nI (((ka + 1) + 1) + 1)), .int 1])), (a_maps, .inl (gI G, 6, .inl fm)), (a_kinds, .inl (gI G, 4, .inl fk)), (a_part, .inl (gI G, 6, .inl fp)), (a_kept, .inl (gI G, 80, .inl gq_12))]) := hD
  refine lv_aload_n hx hb dX10_passAll_36 rfl (lv_at hl 0 rfl) ?_
  refine lv_aload_n hx hb dX10_passAll_37 rfl (lv_at hl 0 rfl) ?_
  refine lv_aload_n hx hb dX10_passAll_38 rfl (lv_at hl 0 rfl) ?_
  refine va_get (D := G.1) (ci := 6) (v := .int s0) (C := RX10) (T := TX10) (N := 28) hx hb hts (fun _ h => List.mem_cons_of_mem _ (List.mem_append_right _ h)) hown E.K hP 0 rfl rfl 5 (by decide) (hts (.fieldLink RX10 59 "LastMapModel" "spades" "I") (by decide +kernel)) (fun _ h9 => h9) rfl dX10_passAll_39 ?_
  refine ca_i (wr := [(a_maps, .inl (gI G, 6, .inl fm)), (a_kinds, .inl (gI G, 4, .inl fk)), (a_part, .inl (gI G, 6, .inl fp))]) (va_runV (As := [.int s0]) (rest := [.ref h1]) ⟨hx, hb, hml, hown, hts⟩ (m_pass_w l G H.size h1 (.int (nI k)) (.ref a_maps) (.int t0) (.ref a_kinds) (.int l0) (.int s0) (.ref a_part) v_pad v_padMany v_slips v_slipMany v_made v_queue v_depth v_by v_from v_come v_offOf v_parent v_best v_trees v_least v_sums v_toward v_isKept a_kept (((ka + 1) + 1) + 1) gq_12 s0 (by omega)) (cwV 1 hts gX10_passAll_X10_pass rfl rfl rfl (by decide +kernel) ⟨by decide +kernel, by decide +kernel⟩) (pre_V E hP hD hS hA [0, 4] (by decide) rfl 0 6 rfl rfl) rfl rfl hl.1 rfl (lv_room (Nat.le_of_ble_eq_true rfl)) dX10_passAll_42 ⟨by decide +kernel, by decide +kernel⟩) hS hP hD hA [0, 4] [1, 2, 3] rfl rfl (by decide) (by decide) (fun r14 u15 H locs w13 hP hD hS => ?_)
  obtain ⟨gq_16, rfl⟩ : ∃ z, z = u15 := ⟨_, rfl⟩
  try dsimp only at w13 hP hD
  have hP := (hP.sub (ws' := [(h1, .inr (6, [.int (nI k), .ref a_maps, .int t0, .ref a_kinds, .int l0, .int s0, .ref a_part, v_pad, v_padMany, v_slips, v_slipMany, v_made, v_queue, v_depth, v_by, v_from, v_come, v_offOf, v_parent, v_best, v_trees, v_least, v_sums, v_toward, .ref a_kept, v_isKept, .int (nI ((((ka + 1) + 1) + 1) + 1)), .int 1])), (a_maps, .inl (gI G, 6, .inl fm)), (a_kinds, .inl (gI G, 4, .inl fk)), (a_part, .inl (gI G, 6, .inl fp)), (a_kept, .inl (gI G, 80, .inl gq_16))]) [3, 0, 1, 2, 4] rfl)
  have hD := (hD.sub (ws' := [(h1, .inr (6, [.int (nI k), .ref a_maps, .int t0, .ref a_kinds, .int l0, .int s0, .ref a_part, v_pad, v_padMany, v_slips, v_slipMany, v_made, v_queue, v_depth, v_by, v_from, v_come, v_offOf, v_parent, v_best, v_trees, v_least, v_sums, v_toward, .ref a_kept, v_isKept, .int (nI ((((ka + 1) + 1) + 1) + 1)), .int 1])), (a_maps, .inl (gI G, 6, .inl fm)), (a_kinds, .inl (gI G, 4, .inl fk)), (a_part, .inl (gI G, 6, .inl fp)), (a_kept, .inl (gI G, 80, .inl gq_16))]) [3, 0, 1, 2, 4] (by decide) rfl)
  have hpw4 : PW ka 4 (vseq (nI k) t0 l0 s0 fm fk) fq gq_16 := by rw [w13.2]; exact PWs hpw3 rfl rfl
  refine W.eq (g2 := F0 m 45 ls [.int s0, .ref h1]) (by rw [w13.1]) ?_
  refine va_put (D := G.1) (ci := 6) (v := .int s0) (ty := .int) (C := RX10) (T := TX10) (N := 28) hx hb hts (fun _ h => List.mem_cons_of_mem _ (List.mem_append_right _ h)) tyX10 tyX10_ok nmX10 hown E.K hP hD hS 0 rfl rfl 5 (by decide) (hts (.fieldLink RX10 59 "LastMapModel" "spades" "I") (by decide +kernel)) (fun _ h9 => h9) rfl (by decide +kernel) rfl rfl (Nat.le_of_ble_eq_true rfl) dX10_passAll_45 (fun H locs hP hD hS => ?_)
  have hP : va_P G.1 vwCl ([(h1, .inr (6, [.int (nI k), .ref a_maps, .int t0, .ref a_kinds, .int l0, .int s0, .ref a_part, v_pad, v_padMany, v_slips, v_slipMany, v_made, v_queue, v_depth, v_by, v_from, v_come, v_offOf, v_parent, v_best, v_trees, v_least, v_sums, v_toward, .ref a_kept, v_isKept, .int (nI ((((ka + 1) + 1) + 1) + 1)), .int 1])), (a_maps, .inl (gI G, 6, .inl fm)), (a_kinds, .inl (gI G, 4, .inl fk)), (a_part, .inl (gI G, 6, .inl fp)), (a_kept, .inl (gI G, 80, .inl gq_16))]) H := hP
  have hD : va_D A ([(h1, .inr (6, [.int (nI k), .ref a_maps, .int t0, .ref a_kinds, .int l0, .int s0, .ref a_part, v_pad, v_padMany, v_slips, v_slipMany, v_made, v_queue, v_depth, v_by, v_from, v_come, v_offOf, v_parent, v_best, v_trees, v_least, v_sums, v_toward, .ref a_kept, v_isKept, .int (nI ((((ka + 1) + 1) + 1) + 1)), .int 1])), (a_maps, .inl (gI G, 6, .inl fm)), (a_kinds, .inl (gI G, 4, .inl fk)), (a_part, .inl (gI G, 6, .inl fp)), (a_kept, .inl (gI G, 80, .inl gq_16))]) := hD
  refine lv_iconst (v := 0) hx hb dX10_passAll_48 (by decide) ?_
  refine lv_istore_n (lv' := [(1, .int 0), (0, .ref h1)]) hx hb dX10_passAll_49 rfl hl (by decide) rfl (fun ls hl => ?_)
  refine lp_run (x0 := (0, gq_16)) (fun xx_ : Nat × (Nat → Int32) => match xx_ with | (i, g1) => [(h1, .inr (6, [.int (nI k), .ref a_maps, .int t0, .ref a_kinds, .int l0, .int s0, .ref a_part, v_pad, v_padMany, v_slips, v_slipMany, v_made, v_queue, v_depth, v_by, v_from, v_come, v_offOf, v_parent, v_best, v_trees, v_least, v_sums, v_toward, .ref a_kept, v_isKept, .int (nI (ka + 4 + i)), .int 1])), (a_maps, .inl (gI G, 6, .inl fm)), (a_kinds, .inl (gI G, 4, .inl fk)), (a_part, .inl (gI G, 6, .inl fp)), (a_kept, .inl (gI G, 80, .inl g1))]) (fun xx_ : Nat × (Nat → Int32) => match xx_ with | (i, g1) => [(1, .int (nI i)), (0, .ref h1)]) (fun xx_ : Nat × (Nat → Int32) => match xx_ with | (i, g1) => (i ≤ 6) ∧ (PW ka (4 + i) (vseq (nI k) t0 l0 s0 fm fk) fq g1)) (fun xx_ : Nat × (Nat → Int32) => match xx_ with | (i, g1) => 6 - i) (hP.sub [0, 1, 2, 3, 4] rfl) (hD.sub [0, 1, 2, 3, 4] (by decide) rfl) hS (lv_sub hl [0, 1] rfl) ⟨Nat.zero_le _, hpw4⟩ ?_
  intro xx_ hI ih50 H locs ls hP hD hS hl
  obtain ⟨i, g1⟩ := xx_
  dsimp only at hI ih50 hP hD hl
  obtain ⟨hi0, hpw_i⟩ := hI
  have hl : lv_has ls 2 [(1, .int (nI i)), (0, .ref h1)] := hl
  have hP : va_P G.1 vwCl ([(h1, .inr (6, [.int (nI k), .ref a_maps, .int t0, .ref a_kinds, .int l0, .int s0, .ref a_part, v_pad, v_padMany, v_slips, v_slipMany, v_made, v_queue, v_depth, v_by, v_from, v_come, v_offOf, v_parent, v_best, v_trees, v_least, v_sums, v_toward, .ref a_kept, v_isKept, .int (nI (ka + 4 + i)), .int 1])), (a_maps, .inl (gI G, 6, .inl fm)), (a_kinds, .inl (gI G, 4, .inl fk)), (a_part, .inl (gI G, 6, .inl fp)), (a_kept, .inl (gI G, 80, .inl g1))]) H := hP
  have hD : va_D A ([(h1, .inr (6, [.int (nI k), .ref a_maps, .int t0, .ref a_kinds, .int l0, .int s0, .ref a_part, v_pad, v_padMany, v_slips, v_slipMany, v_made, v_queue, v_depth, v_by, v_from, v_come, v_offOf, v_parent, v_best, v_trees, v_least, v_sums, v_toward, .ref a_kept, v_isKept, .int (nI (ka + 4 + i)), .int 1])), (a_maps, .inl (gI G, 6, .inl fm)), (a_kinds, .inl (gI G, 4, .inl fk)), (a_part, .inl (gI G, 6, .inl fp)), (a_kept, .inl (gI G, 80, .inl g1))]) := hD
  refine lv_iload_n hx hb dX10_passAll_50 rfl (lv_at hl 0 rfl) ?_
  refine lv_bipush (v := 6) hx hb dX10_passAll_51 (by decide) ?_
  refine lv_icmp_ge (tgt := 78) hx hb dX10_passAll_53 (by decide) (fun c17 => ?_) (fun c17 => ?_)
  · have c17 : 6 ≤ i := (nI_leI (a := 6) (b := i) (by omega) (by omega)).mp c17
    obtain rfl : i = 6 := by omega
    refine lv_iconst (v := 0) hx hb dX10_passAll_78 (by decide) ?_
    refine lv_istore_n (lv' := [(1, .int 0), (0, .ref h1)]) hx hb dX10_passAll_79 rfl hl (by decide) rfl (fun ls hl => ?_)
    refine lp_run (x0 := (0, g1)) (fun xx_ : Nat × (Nat → Int32) => match xx_ with | (i2, g2) => [(h1, .inr (6, [.int (nI k), .ref a_maps, .int t0, .ref a_kinds, .int l0, .int s0, .ref a_part, v_pad, v_padMany, v_slips, v_slipMany, v_made, v_queue, v_depth, v_by, v_from, v_come, v_offOf, v_parent, v_best, v_trees, v_least, v_sums, v_toward, .ref a_kept, v_isKept, .int (nI (ka + 10 + i2)), .int 1])), (a_maps, .inl (gI G, 6, .inl fm)), (a_kinds, .inl (gI G, 4, .inl fk)), (a_part, .inl (gI G, 6, .inl fp)), (a_kept, .inl (gI G, 80, .inl g2))]) (fun xx_ : Nat × (Nat → Int32) => match xx_ with | (i2, g2) => [(1, .int (nI i2)), (0, .ref h1)]) (fun xx_ : Nat × (Nat → Int32) => match xx_ with | (i2, g2) => (i2 ≤ 4) ∧ (PW ka (10 + i2) (vseq (nI k) t0 l0 s0 fm fk) fq g2)) (fun xx_ : Nat × (Nat → Int32) => match xx_ with | (i2, g2) => 4 - i2) (hP.sub [0, 1, 2, 3, 4] rfl) (hD.sub [0, 1, 2, 3, 4] (by decide) rfl) hS (lv_sub hl [0, 1] rfl) ⟨Nat.zero_le _, hpw_i⟩ ?_
    intro xx_ hI ih80 H locs ls hP hD hS hl
    obtain ⟨i2, g2⟩ := xx_
    dsimp only at hI ih80 hP hD hl
    obtain ⟨hi20, hpw_i2⟩ := hI
    have hl : lv_has ls 2 [(1, .int (nI i2)), (0, .ref h1)] := hl
    have hP : va_P G.1 vwCl ([(h1, .inr (6, [.int (nI k), .ref a_maps, .int t0, .ref a_kinds, .int l0, .int s0, .ref a_part, v_pad, v_padMany, v_slips, v_slipMany, v_made, v_queue, v_depth, v_by, v_from, v_come, v_offOf, v_parent, v_best, v_trees, v_least, v_sums, v_toward, .ref a_kept, v_isKept, .int (nI (ka + 10 + i2)), .int 1])), (a_maps, .inl (gI G, 6, .inl fm)), (a_kinds, .inl (gI G, 4, .inl fk)), (a_part, .inl (gI G, 6, .inl fp)), (a_kept, .inl (gI G, 80, .inl g2))]) H := hP
    have hD : va_D A ([(h1, .inr (6, [.int (nI k), .ref a_maps, .int t0, .ref a_kinds, .int l0, .int s0, .ref a_part, v_pad, v_padMany, v_slips, v_slipMany, v_made, v_queue, v_depth, v_by, v_from, v_come, v_offOf, v_parent, v_best, v_trees, v_least, v_sums, v_toward, .ref a_kept, v_isKept, .int (nI (ka + 10 + i2)), .int 1])), (a_maps, .inl (gI G, 6, .inl fm)), (a_kinds, .inl (gI G, 4, .inl fk)), (a_part, .inl (gI G, 6, .inl fp)), (a_kept, .inl (gI G, 80, .inl g2))]) := hD
    refine lv_iload_n hx hb dX10_passAll_80 rfl (lv_at hl 0 rfl) ?_
    refine lv_iconst (v := 4) hx hb dX10_passAll_81 (by decide) ?_
    refine lv_icmp_ge (tgt := 107) hx hb dX10_passAll_82 (by decide) (fun c18 => ?_) (fun c18 => ?_)
    · have c18 : 4 ≤ i2 := (nI_leI (a := 4) (b := i2) (by omega) (by omega)).mp c18
      obtain rfl : i2 = 4 := by omega
      refine lv_aload_n hx hb dX10_passAll_107 rfl (lv_at hl 1 rfl) ?_
      refine ca_v (wr := [(a_maps, .inl (gI G, 6, .inl fm)), (a_kinds, .inl (gI G, 4, .inl fk)), (a_kept, .inl (gI G, 80, .inl g2))]) (va_runV (As := []) (rest := []) ⟨hx, hb, hml, hown, hts⟩ (m_findParts l G H.size h1 (.ref a_maps) (.int t0) (.ref a_kinds) (.int l0) (.int s0) v_pad v_padMany v_slips v_slipMany v_made v_queue v_depth v_by v_from v_come v_offOf v_parent v_best v_trees v_least v_sums v_toward (.ref a_kept) v_isKept (.int (nI (ka + 10 + 4))) (.int 1) a_part fp k hk2 hk6) (cwV 0 hts gX10_passAll_X10_findParts rfl rfl rfl (by decide +kernel) ⟨by decide +kernel, by decide +kernel⟩) (pre_V E hP hD hS hA [0, 3] (by decide) rfl 0 6 rfl rfl) rfl rfl hl.1 rfl (lv_room (Nat.le_of_ble_eq_true rfl)) dX10_passAll_108 ⟨by decide +kernel, by decide +kernel⟩) hS hP hD hA [0, 3] [1, 2, 4] rfl rfl (by decide) (by decide) (fun u21 H locs w19 hP hD hS => ?_)
      obtain ⟨gp_22, rfl⟩ : ∃ z, z = u21 := ⟨_, rfl⟩
      try dsimp only at w19 hP hD
      have hP := (hP.sub (ws' := [(h1, .inr (6, [.int (nI k), .ref a_maps, .int t0, .ref a_kinds, .int l0, .int s0, .ref a_part, v_pad, v_padMany, v_slips, v_slipMany, v_made, v_queue, v_depth, v_by, v_from, v_come, v_offOf, v_parent, v_best, v_trees, v_least, v_sums, v_toward, .ref a_kept, v_isKept, .int (nI (ka + 10 + 4)), .int 1])), (a_maps, .inl (gI G, 6, .inl fm)), (a_kinds, .inl (gI G, 4, .inl fk)), (a_part, .inl (gI G, 6, .inl gp_22)), (a_kept, .inl (gI G, 80, .inl g2))]) [3, 0, 1, 4, 2] rfl)
      have hD := (hD.sub (ws' := [(h1, .inr (6, [.int (nI k), .ref a_maps, .int t0, .ref a_kinds, .int l0, .int s0, .ref a_part, v_pad, v_padMany, v_slips, v_slipMany, v_made, v_queue, v_depth, v_by, v_from, v_come, v_offOf, v_parent, v_best, v_trees, v_least, v_sums, v_toward, .ref a_kept, v_isKept, .int (nI (ka + 10 + 4)), .int 1])), (a_maps, .inl (gI G, 6, .inl fm)), (a_kinds, .inl (gI G, 4, .inl fk)), (a_part, .inl (gI G, 6, .inl gp_22)), (a_kept, .inl (gI G, 80, .inl g2))]) [3, 0, 1, 4, 2] (by decide) rfl)
      have hP9 := (hP.sub (ws' := [(h1, .inr (6, [.int (nI k), .ref a_maps, .int t0, .ref a_kinds, .int l0, .int s0, .ref a_part, v_pad, v_padMany, v_slips, v_slipMany, v_made, v_queue, v_depth, v_by, v_from, v_come, v_offOf, v_parent, v_best, v_trees, v_least, v_sums, v_toward, .ref a_kept, v_isKept, .int (nI (ka + 10 + 4)), .int 1])), (a_maps, .inl (gI G, 6, .inl fm)), (a_kinds, .inl (gI G, 4, .inl fk)), (a_part, .inl (gI G, 6, .inl gp_22)), (a_kept, .inl (gI G, 80, .inl g2))]) [0, 1, 2, 3, 4] rfl)
      have hD9 := (hD.sub (ws' := [(h1, .inr (6, [.int (nI k), .ref a_maps, .int t0, .ref a_kinds, .int l0, .int s0, .ref a_part, v_pad, v_padMany, v_slips, v_slipMany, v_made, v_queue, v_depth, v_by, v_from, v_come, v_offOf, v_parent, v_best, v_trees, v_least, v_sums, v_toward, .ref a_kept, v_isKept, .int (nI (ka + 10 + 4)), .int 1])), (a_maps, .inl (gI G, 6, .inl fm)), (a_kinds, .inl (gI G, 4, .inl fk)), (a_part, .inl (gI G, 6, .inl gp_22)), (a_kept, .inl (gI G, 80, .inl g2))]) [0, 1, 2, 3, 4] (by decide) rfl)
      exact W.vret hx hb hr (fun t9_ ht9_ hW9_ => ⟨⟨(gp_22, g2), rfl, ⟨w19, hpw_i2⟩, by rw [ht9_]; exact hP9, hD9⟩, hS.F ht9_⟩) hS.2.2 dX10_passAll_111
    · have c18 : ¬ 4 ≤ i2 := fun h9_ => c18 ((nI_leI (a := 4) (b := i2) (by omega) (by omega)).mpr h9_)
      refine lv_aload_n hx hb dX10_passAll_85 rfl (lv_at hl 1 rfl) ?_
      refine va_get (D := G.1) (ci := 6) (v := .ref a_kinds) (C := RX10) (T := TX10) (N := 28) hx hb hts (fun _ h => List.mem_cons_of_mem _ (List.mem_append_right _ h)) hown E.K hP 0 rfl rfl 3 (by decide) (hts (.fieldLink RX10 13 "LastMapModel" "kinds" "[I") (by decide +kernel)) (fun _ h9 => h9) rfl dX10_passAll_86 ?_
      refine lv_iload_n hx hb dX10_passAll_89 rfl (lv_at hl 0 rfl) ?_
      refine lv_aload_n hx hb dX10_passAll_90 rfl (lv_at hl 1 rfl) ?_
      refine lv_aload_n hx hb dX10_passAll_91 rfl (lv_at hl 1 rfl) ?_
      refine va_get (D := G.1) (ci := 6) (v := .ref a_kinds) (C := RX10) (T := TX10) (N := 28) hx hb hts (fun _ h => List.mem_cons_of_mem _ (List.mem_append_right _ h)) hown E.K hP 0 rfl rfl 3 (by decide) (hts (.fieldLink RX10 13 "LastMapModel" "kinds" "[I") (by decide +kernel)) (fun _ h9 => h9) rfl dX10_passAll_92 ?_
      refine lv_iload_n hx hb dX10_passAll_95 rfl (lv_at hl 0 rfl) ?_
      refine va_iald hx hb E.K hP 2 1 rfl rfl (i := nI i2) (vp_in_nI (by omega) (by decide)) dX10_passAll_96 ?_
      refine lv_topi (fun x23 ex23 => ?_)
      refine ca_i (wr := [(a_maps, .inl (gI G, 6, .inl fm)), (a_kinds, .inl (gI G, 4, .inl fk)), (a_part, .inl (gI G, 6, .inl fp))]) (va_runV (As := [.int x23]) (rest := [.int (nI i2), .ref a_kinds]) ⟨hx, hb, hml, hown, hts⟩ (m_pass_w l G H.size h1 (.int (nI k)) (.ref a_maps) (.int t0) (.ref a_kinds) (.int l0) (.int s0) (.ref a_part) v_pad v_padMany v_slips v_slipMany v_made v_queue v_depth v_by v_from v_come v_offOf v_parent v_best v_trees v_least v_sums v_toward v_isKept a_kept (ka + 10 + i2) g2 x23 (by omega)) (cwV 1 hts gX10_passAll_X10_pass rfl rfl rfl (by decide +kernel) ⟨by decide +kernel, by decide +kernel⟩) (pre_V E hP hD hS hA [0, 4] (by decide) rfl 0 6 rfl rfl) rfl rfl hl.1 rfl (lv_room (Nat.le_of_ble_eq_true rfl)) dX10_passAll_97 ⟨by decide +kernel, by decide +kernel⟩) hS hP hD hA [0, 4] [1, 2, 3] rfl rfl (by decide) (by decide) (fun r25 u26 H locs w24 hP hD hS => ?_)
      obtain ⟨gq_27, rfl⟩ : ∃ z, z = u26 := ⟨_, rfl⟩
      try dsimp only at w24 hP hD
      have hP := (hP.sub (ws' := [(h1, .inr (6, [.int (nI k), .ref a_maps, .int t0, .ref a_kinds, .int l0, .int s0, .ref a_part, v_pad, v_padMany, v_slips, v_slipMany, v_made, v_queue, v_depth, v_by, v_from, v_come, v_offOf, v_parent, v_best, v_trees, v_least, v_sums, v_toward, .ref a_kept, v_isKept, .int (nI ((ka + 10 + i2) + 1)), .int 1])), (a_maps, .inl (gI G, 6, .inl fm)), (a_kinds, .inl (gI G, 4, .inl fk)), (a_part, .inl (gI G, 6, .inl fp)), (a_kept, .inl (gI G, 80, .inl gq_27))]) [3, 0, 1, 2, 4] rfl)
      have hD := (hD.sub (ws' := [(h1, .inr (6, [.int (nI k), .ref a_maps, .int t0, .ref a_kinds, .int l0, .int s0, .ref a_part, v_pad, v_padMany, v_slips, v_slipMany, v_made, v_queue, v_depth, v_by, v_from, v_come, v_offOf, v_parent, v_best, v_trees, v_least, v_sums, v_toward, .ref a_kept, v_isKept, .int (nI ((ka + 10 + i2) + 1)), .int 1])), (a_maps, .inl (gI G, 6, .inl fm)), (a_kinds, .inl (gI G, 4, .inl fk)), (a_part, .inl (gI G, 6, .inl fp)), (a_kept, .inl (gI G, 80, .inl gq_27))]) [3, 0, 1, 2, 4] (by decide) rfl)
      refine W.eq (g2 := F0 m 100 ls [.int x23, .int (nI i2), .ref a_kinds]) (by rw [w24.1]) ?_
      refine va_iast hx hb E.K hP hD hS 2 1 rfl rfl (i := nI i2) (vp_in_nI (by omega) (by decide)) dX10_passAll_100 (fun H locs hP hD hS => ?_)
      obtain ⟨f28, ef28⟩ : ∃ yy_ : Nat → Int32, yy_ = upd fk (nI i2).toNatClampNeg x23 := ⟨_, rfl⟩
      have hP : va_P G.1 vwCl ([(h1, .inr (6, [.int (nI k), .ref a_maps, .int t0, .ref a_kinds, .int l0, .int s0, .ref a_part, v_pad, v_padMany, v_slips, v_slipMany, v_made, v_queue, v_depth, v_by, v_from, v_come, v_offOf, v_parent, v_best, v_trees, v_least, v_sums, v_toward, .ref a_kept, v_isKept, .int (nI ((ka + 10 + i2) + 1)), .int 1])), (a_maps, .inl (gI G, 6, .inl fm)), (a_kinds, .inl (gI G, 4, .inl f28)), (a_part, .inl (gI G, 6, .inl fp)), (a_kept, .inl (gI G, 80, .inl gq_27))]) H := by rw [ef28]; exact hP
      have hD : va_D A ([(h1, .inr (6, [.int (nI k), .ref a_maps, .int t0, .ref a_kinds, .int l0, .int s0, .ref a_part, v_pad, v_padMany, v_slips, v_slipMany, v_made, v_queue, v_depth, v_by, v_from, v_come, v_offOf, v_parent, v_best, v_trees, v_least, v_sums, v_toward, .ref a_kept, v_isKept, .int (nI ((ka + 10 + i2) + 1)), .int 1])), (a_maps, .inl (gI G, 6, .inl fm)), (a_kinds, .inl (gI G, 4, .inl f28)), (a_part, .inl (gI G, 6, .inl fp)), (a_kept, .inl (gI G, 80, .inl gq_27))]) := by rw [ef28]; exact hD
      have hbk_f28 : f28 = fk := by rw [ef28]; exact upd_self ex23
      have hP : va_P G.1 vwCl ([(h1, .inr (6, [.int (nI k), .ref a_maps, .int t0, .ref a_kinds, .int l0, .int s0, .ref a_part, v_pad, v_padMany, v_slips, v_slipMany, v_made, v_queue, v_depth, v_by, v_from, v_come, v_offOf, v_parent, v_best, v_trees, v_least, v_sums, v_toward, .ref a_kept, v_isKept, .int (nI ((ka + 10 + i2) + 1)), .int 1])), (a_maps, .inl (gI G, 6, .inl fm)), (a_kinds, .inl (gI G, 4, .inl fk)), (a_part, .inl (gI G, 6, .inl fp)), (a_kept, .inl (gI G, 80, .inl gq_27))]) H := by have q := hP; rw [hbk_f28] at q; exact q
      have hD : va_D A ([(h1, .inr (6, [.int (nI k), .ref a_maps, .int t0, .ref a_kinds, .int l0, .int s0, .ref a_part, v_pad, v_padMany, v_slips, v_slipMany, v_made, v_queue, v_depth, v_by, v_from, v_come, v_offOf, v_parent, v_best, v_trees, v_least, v_sums, v_toward, .ref a_kept, v_isKept, .int (nI ((ka + 10 + i2) + 1)), .int 1])), (a_maps, .inl (gI G, 6, .inl fm)), (a_kinds, .inl (gI G, 4, .inl fk)), (a_part, .inl (gI G, 6, .inl fp)), (a_kept, .inl (gI G, 80, .inl gq_27))]) := by have q := hD; rw [hbk_f28] at q; exact q
      obtain ⟨x29, ex29⟩ : ∃ yy_ : Int32, yy_ = (nI i2) + 1 := ⟨_, rfl⟩
      refine lv_iinc (v := x29) (lv' := [(1, .int x29), (0, .ref h1)]) hx hb dX10_passAll_101 hl (k := 0) rfl (by rw [ex29]; rfl) (by decide) rfl (fun ls hl => ?_)
      obtain rfl : x29 = nI (i2 + 1) := by rw [ex29]; exact nI_add i2 1
      refine lv_goto (tgt := 80) hx hb dX10_passAll_104 (by decide) ?_
      refine ih80 (i2 + 1, gq_27) ⟨?_, ?_⟩ (by first | omega | (dsimp only; omega)) H locs ls (hP.sub [0, 1, 2, 3, 4] rfl) (hD.sub [0, 1, 2, 3, 4] (by decide) rfl) hS (lv_sub hl [0, 1] rfl)
      · try dsimp only
        omega
      · try dsimp only
        rw [w24.2]; exact PWs (n := 10 + i2) hpw_i2 (by omega) (by rw [ex23, nI_clamp (by omega)]; exact (vs_k).symm)
  · have c17 : ¬ 6 ≤ i := fun h9_ => c17 ((nI_leI (a := 6) (b := i) (by omega) (by omega)).mpr h9_)
    refine lv_aload_n hx hb dX10_passAll_56 rfl (lv_at hl 1 rfl) ?_
    refine va_get (D := G.1) (ci := 6) (v := .ref a_maps) (C := RX10) (T := TX10) (N := 28) hx hb hts (fun _ h => List.mem_cons_of_mem _ (List.mem_append_right _ h)) hown E.K hP 0 rfl rfl 1 (by decide) (hts (.fieldLink RX10 7 "LastMapModel" "maps" "[I") (by decide +kernel)) (fun _ h9 => h9) rfl dX10_passAll_57 ?_
    refine lv_iload_n hx hb dX10_passAll_60 rfl (lv_at hl 0 rfl) ?_
    refine lv_aload_n hx hb dX10_passAll_61 rfl (lv_at hl 1 rfl) ?_
    refine lv_aload_n hx hb dX10_passAll_62 rfl (lv_at hl 1 rfl) ?_
    refine va_get (D := G.1) (ci := 6) (v := .ref a_maps) (C := RX10) (T := TX10) (N := 28) hx hb hts (fun _ h => List.mem_cons_of_mem _ (List.mem_append_right _ h)) hown E.K hP 0 rfl rfl 1 (by decide) (hts (.fieldLink RX10 7 "LastMapModel" "maps" "[I") (by decide +kernel)) (fun _ h9 => h9) rfl dX10_passAll_63 ?_
    refine lv_iload_n hx hb dX10_passAll_66 rfl (lv_at hl 0 rfl) ?_
    refine va_iald hx hb E.K hP 1 1 rfl rfl (i := nI i) (vp_in_nI (by omega) (by decide)) dX10_passAll_67 ?_
    refine lv_topi (fun x30 ex30 => ?_)
    refine ca_i (wr := [(a_maps, .inl (gI G, 6, .inl fm)), (a_kinds, .inl (gI G, 4, .inl fk)), (a_part, .inl (gI G, 6, .inl fp))]) (va_runV (As := [.int x30]) (rest := [.int (nI i), .ref a_maps]) ⟨hx, hb, hml, hown, hts⟩ (m_pass_w l G H.size h1 (.int (nI k)) (.ref a_maps) (.int t0) (.ref a_kinds) (.int l0) (.int s0) (.ref a_part) v_pad v_padMany v_slips v_slipMany v_made v_queue v_depth v_by v_from v_come v_offOf v_parent v_best v_trees v_least v_sums v_toward v_isKept a_kept (ka + 4 + i) g1 x30 (by omega)) (cwV 1 hts gX10_passAll_X10_pass rfl rfl rfl (by decide +kernel) ⟨by decide +kernel, by decide +kernel⟩) (pre_V E hP hD hS hA [0, 4] (by decide) rfl 0 6 rfl rfl) rfl rfl hl.1 rfl (lv_room (Nat.le_of_ble_eq_true rfl)) dX10_passAll_68 ⟨by decide +kernel, by decide +kernel⟩) hS hP hD hA [0, 4] [1, 2, 3] rfl rfl (by decide) (by decide) (fun r32 u33 H locs w31 hP hD hS => ?_)
    obtain ⟨gq_34, rfl⟩ : ∃ z, z = u33 := ⟨_, rfl⟩
    try dsimp only at w31 hP hD
    have hP := (hP.sub (ws' := [(h1, .inr (6, [.int (nI k), .ref a_maps, .int t0, .ref a_kinds, .int l0, .int s0, .ref a_part, v_pad, v_padMany, v_slips, v_slipMany, v_made, v_queue, v_depth, v_by, v_from, v_come, v_offOf, v_parent, v_best, v_trees, v_least, v_sums, v_toward, .ref a_kept, v_isKept, .int (nI ((ka + 4 + i) + 1)), .int 1])), (a_maps, .inl (gI G, 6, .inl fm)), (a_kinds, .inl (gI G, 4, .inl fk)), (a_part, .inl (gI G, 6, .inl fp)), (a_kept, .inl (gI G, 80, .inl gq_34))]) [3, 0, 1, 2, 4] rfl)
    have hD := (hD.sub (ws' := [(h1, .inr (6, [.int (nI k), .ref a_maps, .int t0, .ref a_kinds, .int l0, .int s0, .ref a_part, v_pad, v_padMany, v_slips, v_slipMany, v_made, v_queue, v_depth, v_by, v_from, v_come, v_offOf, v_parent, v_best, v_trees, v_least, v_sums, v_toward, .ref a_kept, v_isKept, .int (nI ((ka + 4 + i) + 1)), .int 1])), (a_maps, .inl (gI G, 6, .inl fm)), (a_kinds, .inl (gI G, 4, .inl fk)), (a_part, .inl (gI G, 6, .inl fp)), (a_kept, .inl (gI G, 80, .inl gq_34))]) [3, 0, 1, 2, 4] (by decide) rfl)
    refine W.eq (g2 := F0 m 71 ls [.int x30, .int (nI i), .ref a_maps]) (by rw [w31.1]) ?_
    refine va_iast hx hb E.K hP hD hS 1 1 rfl rfl (i := nI i) (vp_in_nI (by omega) (by decide)) dX10_passAll_71 (fun H locs hP hD hS => ?_)
    obtain ⟨f35, ef35⟩ : ∃ yy_ : Nat → Int32, yy_ = upd fm (nI i).toNatClampNeg x30 := ⟨_, rfl⟩
    have hP : va_P G.1 vwCl ([(h1, .inr (6, [.int (nI k), .ref a_maps, .int t0, .ref a_kinds, .int l0, .int s0, .ref a_part, v_pad, v_padMany, v_slips, v_slipMany, v_made, v_queue, v_depth, v_by, v_from, v_come, v_offOf, v_parent, v_best, v_trees, v_least, v_sums, v_toward, .ref a_kept, v_isKept, .int (nI ((ka + 4 + i) + 1)), .int 1])), (a_maps, .inl (gI G, 6, .inl f35)), (a_kinds, .inl (gI G, 4, .inl fk)), (a_part, .inl (gI G, 6, .inl fp)), (a_kept, .inl (gI G, 80, .inl gq_34))]) H := by rw [ef35]; exact hP
    have hD : va_D A ([(h1, .inr (6, [.int (nI k), .ref a_maps, .int t0, .ref a_kinds, .int l0, .int s0, .ref a_part, v_pad, v_padMany, v_slips, v_slipMany, v_made, v_queue, v_depth, v_by, v_from, v_come, v_offOf, v_parent, v_best, v_trees, v_least, v_sums, v_toward, .ref a_kept, v_isKept, .int (nI ((ka + 4 + i) + 1)), .int 1])), (a_maps, .inl (gI G, 6, .inl f35)), (a_kinds, .inl (gI G, 4, .inl fk)), (a_part, .inl (gI G, 6, .inl fp)), (a_kept, .inl (gI G, 80, .inl gq_34))]) := by rw [ef35]; exact hD
    have hbk_f35 : f35 = fm := by rw [ef35]; exact upd_self ex30
    have hP : va_P G.1 vwCl ([(h1, .inr (6, [.int (nI k), .ref a_maps, .int t0, .ref a_kinds, .int l0, .int s0, .ref a_part, v_pad, v_padMany, v_slips, v_slipMany, v_made, v_queue, v_depth, v_by, v_from, v_come, v_offOf, v_parent, v_best, v_trees, v_least, v_sums, v_toward, .ref a_kept, v_isKept, .int (nI ((ka + 4 + i) + 1)), .int 1])), (a_maps, .inl (gI G, 6, .inl fm)), (a_kinds, .inl (gI G, 4, .inl fk)), (a_part, .inl (gI G, 6, .inl fp)), (a_kept, .inl (gI G, 80, .inl gq_34))]) H := by have q := hP; rw [hbk_f35] at q; exact q
    have hD : va_D A ([(h1, .inr (6, [.int (nI k), .ref a_maps, .int t0, .ref a_kinds, .int l0, .int s0, .ref a_part, v_pad, v_padMany, v_slips, v_slipMany, v_made, v_queue, v_depth, v_by, v_from, v_come, v_offOf, v_parent, v_best, v_trees, v_least, v_sums, v_toward, .ref a_kept, v_isKept, .int (nI ((ka + 4 + i) + 1)), .int 1])), (a_maps, .inl (gI G, 6, .inl fm)), (a_kinds, .inl (gI G, 4, .inl fk)), (a_part, .inl (gI G, 6, .inl fp)), (a_kept, .inl (gI G, 80, .inl gq_34))]) := by have q := hD; rw [hbk_f35] at q; exact q
    obtain ⟨x36, ex36⟩ : ∃ yy_ : Int32, yy_ = (nI i) + 1 := ⟨_, rfl⟩
    refine lv_iinc (v := x36) (lv' := [(1, .int x36), (0, .ref h1)]) hx hb dX10_passAll_72 hl (k := 0) rfl (by rw [ex36]; rfl) (by decide) rfl (fun ls hl => ?_)
    obtain rfl : x36 = nI (i + 1) := by rw [ex36]; exact nI_add i 1
    refine lv_goto (tgt := 50) hx hb dX10_passAll_75 (by decide) ?_
    refine ih50 (i + 1, gq_34) ⟨?_, ?_⟩ (by first | omega | (dsimp only; omega)) H locs ls (hP.sub [0, 1, 2, 3, 4] rfl) (hD.sub [0, 1, 2, 3, 4] (by decide) rfl) hS (lv_sub hl [0, 1] rfl)
    · try dsimp only
      omega
    · try dsimp only
      rw [w31.2]; exact PWs (n := 4 + i) hpw_i (by omega) (by rw [ex30, nI_clamp (by omega)]; exact (vs_m (by omega)).symm)

set_option maxHeartbeats 1000000 in
set_option maxRecDepth 100000 in
theorem m_passAll_r (l : Launch) (G : Gy) (sz : Nat) (h1 : Nat) (v_pad : Value) (v_padMany : Value) (v_slips : Value) (v_slipMany : Value) (v_made : Value) (v_queue : Value) (v_depth : Value) (v_by : Value) (v_from : Value) (v_come : Value) (v_offOf : Value) (v_parent : Value) (v_best : Value) (v_trees : Value) (v_least : Value) (v_sums : Value) (v_toward : Value) (v_isKept : Value) (a_maps : Nat) (fm : Nat → Int32) (a_kinds : Nat) (a_kept : Nat) (ka : Nat) (k1 : Nat) (a_part : Nat) (fp : Nat → Int32) (fk : Nat → Int32) (fq : Nat → Int32) (q0 : Int32) (t0 : Int32) (l0 : Int32) (s0 : Int32) (hk2 : 2 ≤ k1) (hk6 : k1 ≤ 6) (hka : ka + 14 ≤ 80) (hk0 : fq ka = nI k1) : Cv l G yX10_passAll wsX10_passAll ({ frames := 1, cells := 0, slots := 0, locals := 22 }) [.ref h1] ([(h1, .inr (6, [.int q0, .ref a_maps, .int t0, .ref a_kinds, .int l0, .int s0, .ref a_part, v_pad, v_padMany, v_slips, v_slipMany, v_made, v_queue, v_depth, v_by, v_from, v_come, v_offOf, v_parent, v_best, v_trees, v_least, v_sums, v_toward, .ref a_kept, v_isKept, .int (nI ka), .int 0])), (a_maps, .inl (gI G, 6, .inl fm)), (a_kinds, .inl (gI G, 4, .inl fk)), (a_part, .inl (gI G, 6, .inl fp)), (a_kept, .inl (gI G, 80, .inl fq))]) sz (fun (u : Int32 × Int32 × Int32 × (Nat → Int32) × (Nat → Int32) × (Nat → Int32)) => match u with | (t1, l1, s1, gm, gk, gp) => t1 = fq (ka + 1) ∧ l1 = fq (ka + 2) ∧ s1 = fq (ka + 3) ∧ (∀ j : Nat, j < 6 → gm j = fq (ka + 4 + j)) ∧ (∀ j : Nat, j < 4 → gk j = fq (ka + 10 + j)) ∧ pOK k1 gp) (fun (u : Int32 × Int32 × Int32 × (Nat → Int32) × (Nat → Int32) × (Nat → Int32)) => match u with | (t1, l1, s1, gm, gk, gp) => [(h1, .inr (6, [.int (nI k1), .ref a_maps, .int t1, .ref a_kinds, .int l1, .int s1, .ref a_part, v_pad, v_padMany, v_slips, v_slipMany, v_made, v_queue, v_depth, v_by, v_from, v_come, v_offOf, v_parent, v_best, v_trees, v_least, v_sums, v_toward, .ref a_kept, v_isKept, .int (nI (ka + 10 + 4)), .int 0])), (a_maps, .inl (gI G, 6, .inl gm)), (a_kinds, .inl (gI G, 4, .inl gk)), (a_part, .inl (gI G, 6, .inl gp)), (a_kept, .inl (gI G, 80, .inl fq))]) 0 0 := by
  refine Met.ofW (cc := cX10_passAll) (maxL := 2) (ret := none) (by decide) rfl ?_
  intro p e s m args below meth c s₁ B hml hv
  obtain ⟨rfl, hsz, hP, hD0, E0⟩ := hv
  have hx := B.exec
  have hb := B.bytes
  have hr := B.returns
  have hts := atoms_spec (ws := wsX10_passAll) B.pre
  have hown : s.vm.findClass RX10 = some m.cls := findClass_of_methodNamed B.named
  have hlocks := B.notSynchronized
  subst hsz
  have hD := hD0.self (sz := s.heap.size)
  generalize hAe : va_A ([(h1, .inr (6, [.int q0, .ref a_maps, .int t0, .ref a_kinds, .int l0, .int s0, .ref a_part, v_pad, v_padMany, v_slips, v_slipMany, v_made, v_queue, v_depth, v_by, v_from, v_come, v_offOf, v_parent, v_best, v_trees, v_least, v_sums, v_toward, .ref a_kept, v_isKept, .int (nI ka), .int 0])), (a_maps, .inl (gI G, 6, .inl fm)), (a_kinds, .inl (gI G, 4, .inl fk)), (a_part, .inl (gI G, 6, .inl fp)), (a_kept, .inl (gI G, 80, .inl fq))]) s.heap.size = A at hD E0 ⊢
  have E : EV G A s s.heap := E0
  have hA : ∀ q : Nat, s.heap.size ≤ q → A q := fun q h => by rw [← hAe]; exact Or.inr h
  have hS : va_S A s.heap s.heap [] := va_S.rf
  have hl := lv_entry ([.ref h1]) (n := 2) (Nat.le_of_ble_eq_true rfl)
  rw [lg_entry_eq]
  generalize (lg_sl ([.ref h1]) ++ List.replicate (2 - (lg_sl ([.ref h1])).length) Slot.unset).toArray = ls at hl ⊢
  have hl : lv_has ls 2 [(0, .ref h1)] := hl
  have hP : va_P G.1 vwCl ([(h1, .inr (6, [.int q0, .ref a_maps, .int t0, .ref a_kinds, .int l0, .int s0, .ref a_part, v_pad, v_padMany, v_slips, v_slipMany, v_made, v_queue, v_depth, v_by, v_from, v_come, v_offOf, v_parent, v_best, v_trees, v_least, v_sums, v_toward, .ref a_kept, v_isKept, .int (nI ka), .int 0])), (a_maps, .inl (gI G, 6, .inl fm)), (a_kinds, .inl (gI G, 4, .inl fk)), (a_part, .inl (gI G, 6, .inl fp)), (a_kept, .inl (gI G, 80, .inl fq))]) s.heap := hP
  refine lv_aload_n hx hb dX10_passAll_0 rfl (lv_at hl 0 rfl) ?_
  refine lv_aload_n hx hb dX10_passAll_1 rfl (lv_at hl 0 rfl) ?_
  refine lv_aload_n hx hb dX10_passAll_2 rfl (lv_at hl 0 rfl) ?_
  refine va_get (D := G.1) (ci := 6) (v := .int q0) (C := RX10) (T := TX10) (N := 28) hx hb hts (fun _ h => List.mem_cons_of_mem _ (List.mem_append_right _ h)) hown E.K hP 0 rfl rfl 0 (by decide) (hts (.fieldLink RX10 67 "LastMapModel" "sites" "I") (by decide +kernel)) (fun _ h9 => h9) rfl dX10_passAll_3 ?_
  refine ca_i (wr := [(a_maps, .inl (gI G, 6, .inl fm)), (a_kinds, .inl (gI G, 4, .inl fk)), (a_part, .inl (gI G, 6, .inl fp))]) (va_runV (As := [.int q0]) (rest := [.ref h1]) ⟨hx, hb, hml, hown, hts⟩ (m_pass_r l G s.heap.size h1 (.int q0) (.ref a_maps) (.int t0) (.ref a_kinds) (.int l0) (.int s0) (.ref a_part) v_pad v_padMany v_slips v_slipMany v_made v_queue v_depth v_by v_from v_come v_offOf v_parent v_best v_trees v_least v_sums v_toward v_isKept a_kept ka fq q0 (by omega)) (cwV 1 hts gX10_passAll_X10_pass rfl rfl rfl (by decide +kernel) ⟨by decide +kernel, by decide +kernel⟩) (pre_V E hP hD hS hA [0, 4] (by decide) rfl 0 6 rfl rfl) rfl rfl hl.1 rfl (lv_room (Nat.le_of_ble_eq_true rfl)) dX10_passAll_6 ⟨by decide +kernel, by decide +kernel⟩) hS hP hD hA [0, 4] [1, 2, 3] rfl rfl (by decide) (by decide) (fun r2 u3 H locs w1 hP hD hS => ?_)
  try dsimp only at w1 hP hD
  have hP := (hP.sub (ws' := [(h1, .inr (6, [.int q0, .ref a_maps, .int t0, .ref a_kinds, .int l0, .int s0, .ref a_part, v_pad, v_padMany, v_slips, v_slipMany, v_made, v_queue, v_depth, v_by, v_from, v_come, v_offOf, v_parent, v_best, v_trees, v_least, v_sums, v_toward, .ref a_kept, v_isKept, .int (nI (ka + 1)), .int 0])), (a_maps, .inl (gI G, 6, .inl fm)), (a_kinds, .inl (gI G, 4, .inl fk)), (a_part, .inl (gI G, 6, .inl fp)), (a_kept, .inl (gI G, 80, .inl fq))]) [3, 0, 1, 2, 4] rfl)
  have hD := (hD.sub (ws' := [(h1, .inr (6, [.int q0, .ref a_maps, .int t0, .ref a_kinds, .int l0, .int s0, .ref a_part, v_pad, v_padMany, v_slips, v_slipMany, v_made, v_queue, v_depth, v_by, v_from, v_come, v_offOf, v_parent, v_best, v_trees, v_least, v_sums, v_toward, .ref a_kept, v_isKept, .int (nI (ka + 1)), .int 0])), (a_maps, .inl (gI G, 6, .inl fm)), (a_kinds, .inl (gI G, 4, .inl fk)), (a_part, .inl (gI G, 6, .inl fp)), (a_kept, .inl (gI G, 80, .inl fq))]) [3, 0, 1, 2, 4] (by decide) rfl)
  refine W.eq (g2 := F0 m 9 ls [.int (nI k1), .ref h1]) (by rw [w1, hk0]) ?_
  refine va_put (D := G.1) (ci := 6) (v := .int (nI k1)) (ty := .int) (C := RX10) (T := TX10) (N := 28) hx hb hts (fun _ h => List.mem_cons_of_mem _ (List.mem_append_right _ h)) tyX10 tyX10_ok nmX10 hown E.K hP hD hS 0 rfl rfl 0 (by decide) (hts (.fieldLink RX10 67 "LastMapModel" "sites" "I") (by decide +kernel)) (fun _ h9 => h9) rfl (by decide +kernel) rfl rfl (Nat.le_of_ble_eq_true rfl) dX10_passAll_9 (fun H locs hP hD hS => ?_)
  have hP : va_P G.1 vwCl ([(h1, .inr (6, [.int (nI k1), .ref a_maps, .int t0, .ref a_kinds, .int l0, .int s0, .ref a_part, v_pad, v_padMany, v_slips, v_slipMany, v_made, v_queue, v_depth, v_by, v_from, v_come, v_offOf, v_parent, v_best, v_trees, v_least, v_sums, v_toward, .ref a_kept, v_isKept, .int (nI (ka + 1)), .int 0])), (a_maps, .inl (gI G, 6, .inl fm)), (a_kinds, .inl (gI G, 4, .inl fk)), (a_part, .inl (gI G, 6, .inl fp)), (a_kept, .inl (gI G, 80, .inl fq))]) H := hP
  have hD : va_D A ([(h1, .inr (6, [.int (nI k1), .ref a_maps, .int t0, .ref a_kinds, .int l0, .int s0, .ref a_part, v_pad, v_padMany, v_slips, v_slipMany, v_made, v_queue, v_depth, v_by, v_from, v_come, v_offOf, v_parent, v_best, v_trees, v_least, v_sums, v_toward, .ref a_kept, v_isKept, .int (nI (ka + 1)), .int 0])), (a_maps, .inl (gI G, 6, .inl fm)), (a_kinds, .inl (gI G, 4, .inl fk)), (a_part, .inl (gI G, 6, .inl fp)), (a_kept, .inl (gI G, 80, .inl fq))]) := hD
  refine lv_aload_n hx hb dX10_passAll_12 rfl (lv_at hl 0 rfl) ?_
  refine lv_aload_n hx hb dX10_passAll_13 rfl (lv_at hl 0 rfl) ?_
  refine lv_aload_n hx hb dX10_passAll_14 rfl (lv_at hl 0 rfl) ?_
  refine va_get (D := G.1) (ci := 6) (v := .int t0) (C := RX10) (T := TX10) (N := 28) hx hb hts (fun _ h => List.mem_cons_of_mem _ (List.mem_append_right _ h)) hown E.K hP 0 rfl rfl 2 (by decide) (hts (.fieldLink RX10 70 "LastMapModel" "told" "I") (by decide +kernel)) (fun _ h9 => h9) rfl dX10_passAll_15 ?_
  refine ca_i (wr := [(a_maps, .inl (gI G, 6, .inl fm)), (a_kinds, .inl (gI G, 4, .inl fk)), (a_part, .inl (gI G, 6, .inl fp))]) (va_runV (As := [.int t0]) (rest := [.ref h1]) ⟨hx, hb, hml, hown, hts⟩ (m_pass_r l G H.size h1 (.int (nI k1)) (.ref a_maps) (.int t0) (.ref a_kinds) (.int l0) (.int s0) (.ref a_part) v_pad v_padMany v_slips v_slipMany v_made v_queue v_depth v_by v_from v_come v_offOf v_parent v_best v_trees v_least v_sums v_toward v_isKept a_kept (ka + 1) fq t0 (by omega)) (cwV 1 hts gX10_passAll_X10_pass rfl rfl rfl (by decide +kernel) ⟨by decide +kernel, by decide +kernel⟩) (pre_V E hP hD hS hA [0, 4] (by decide) rfl 0 6 rfl rfl) rfl rfl hl.1 rfl (lv_room (Nat.le_of_ble_eq_true rfl)) dX10_passAll_18 ⟨by decide +kernel, by decide +kernel⟩) hS hP hD hA [0, 4] [1, 2, 3] rfl rfl (by decide) (by decide) (fun r5 u6 H locs w4 hP hD hS => ?_)
  try dsimp only at w4 hP hD
  have hP := (hP.sub (ws' := [(h1, .inr (6, [.int (nI k1), .ref a_maps, .int t0, .ref a_kinds, .int l0, .int s0, .ref a_part, v_pad, v_padMany, v_slips, v_slipMany, v_made, v_queue, v_depth, v_by, v_from, v_come, v_offOf, v_parent, v_best, v_trees, v_least, v_sums, v_toward, .ref a_kept, v_isKept, .int (nI ((ka + 1) + 1)), .int 0])), (a_maps, .inl (gI G, 6, .inl fm)), (a_kinds, .inl (gI G, 4, .inl fk)), (a_part, .inl (gI G, 6, .inl fp)), (a_kept, .inl (gI G, 80, .inl fq))]) [3, 0, 1, 2, 4] rfl)
  have hD := (hD.sub (ws' := [(h1, .inr (6, [.int (nI k1), .ref a_maps, .int t0, .ref a_kinds, .int l0, .int s0, .ref a_part, v_pad, v_padMany, v_slips, v_slipMany, v_made, v_queue, v_depth, v_by, v_from, v_come, v_offOf, v_parent, v_best, v_trees, v_least, v_sums, v_toward, .ref a_kept, v_isKept, .int (nI ((ka + 1) + 1)), .int 0])), (a_maps, .inl (gI G, 6, .inl fm)), (a_kinds, .inl (gI G, 4, .inl fk)), (a_part, .inl (gI G, 6, .inl fp)), (a_kept, .inl (gI G, 80, .inl fq))]) [3, 0, 1, 2, 4] (by decide) rfl)
  refine va_put (D := G.1) (ci := 6) (v := .int r5) (ty := .int) (C := RX10) (T := TX10) (N := 28) hx hb hts (fun _ h => List.mem_cons_of_mem _ (List.mem_append_right _ h)) tyX10 tyX10_ok nmX10 hown E.K hP hD hS 0 rfl rfl 2 (by decide) (hts (.fieldLink RX10 70 "LastMapModel" "told" "I") (by decide +kernel)) (fun _ h9 => h9) rfl (by decide +kernel) rfl rfl (Nat.le_of_ble_eq_true rfl) dX10_passAll_21 (fun H locs hP hD hS => ?_)
  have hP : va_P G.1 vwCl ([(h1, .inr (6, [.int (nI k1), .ref a_maps, .int r5, .ref a_kinds, .int l0, .int s0, .ref a_part, v_pad, v_padMany, v_slips, v_slipMany, v_made, v_queue, v_depth, v_by, v_from, v_come, v_offOf, v_parent, v_best, v_trees, v_least, v_sums, v_toward, .ref a_kept, v_isKept, .int (nI ((ka + 1) + 1)), .int 0])), (a_maps, .inl (gI G, 6, .inl fm)), (a_kinds, .inl (gI G, 4, .inl fk)), (a_part, .inl (gI G, 6, .inl fp)), (a_kept, .inl (gI G, 80, .inl fq))]) H := hP
  have hD : va_D A ([(h1, .inr (6, [.int (nI k1), .ref a_maps, .int r5, .ref a_kinds, .int l0, .int s0, .ref a_part, v_pad, v_padMany, v_slips, v_slipMany, v_made, v_queue, v_depth, v_by, v_from, v_come, v_offOf, v_parent, v_best, v_trees, v_least, v_sums, v_toward, .ref a_kept, v_isKept, .int (nI ((ka + 1) + 1)), .int 0])), (a_maps, .inl (gI G, 6, .inl fm)), (a_kinds, .inl (gI G, 4, .inl fk)), (a_part, .inl (gI G, 6, .inl fp)), (a_kept, .inl (gI G, 80, .inl fq))]) := hD
  refine lv_aload_n hx hb dX10_passAll_24 rfl (lv_at hl 0 rfl) ?_
  refine lv_aload_n hx hb dX10_passAll_25 rfl (lv_at hl 0 rfl) ?_
  refine lv_aload_n hx hb dX10_passAll_26 rfl (lv_at hl 0 rfl) ?_
  refine va_get (D := G.1) (ci := 6) (v := .int l0) (C := RX10) (T := TX10) (N := 28) hx hb hts (fun _ h => List.mem_cons_of_mem _ (List.mem_append_right _ h)) hown E.K hP 0 rfl rfl 4 (by decide) (hts (.fieldLink RX10 73 "LastMapModel" "land" "I") (by decide +kernel)) (fun _ h9 => h9) rfl dX10_passAll_27 ?_
  refine ca_i (wr := [(a_maps, .inl (gI G, 6, .inl fm)), (a_kinds, .inl (gI G, 4, .inl fk)), (a_part, .inl (gI G, 6, .inl fp))]) (va_runV (As := [.int l0]) (rest := [.ref h1]) ⟨hx, hb, hml, hown, hts⟩ (m_pass_r l G H.size h1 (.int (nI k1)) (.ref a_maps) (.int r5) (.ref a_kinds) (.int l0) (.int s0) (.ref a_part) v_pad v_padMany v_slips v_slipMany v_made v_queue v_depth v_by v_from v_come v_offOf v_parent v_best v_trees v_least v_sums v_toward v_isKept a_kept ((ka + 1) + 1) fq l0 (by omega)) (cwV 1 hts gX10_passAll_X10_pass rfl rfl rfl (by decide +kernel) ⟨by decide +kernel, by decide +kernel⟩) (pre_V E hP hD hS hA [0, 4] (by decide) rfl 0 6 rfl rfl) rfl rfl hl.1 rfl (lv_room (Nat.le_of_ble_eq_true rfl)) dX10_passAll_30 ⟨by decide +kernel, by decide +kernel⟩) hS hP hD hA [0, 4] [1, 2, 3] rfl rfl (by decide) (by decide) (fun r8 u9 H locs w7 hP hD hS => ?_)
  try dsimp only at w7 hP hD
  have hP := (hP.sub (ws' := [(h1, .inr (6, [.int (nI k1), .ref a_maps, .int r5, .ref a_kinds, .int l0, .int s0, .ref a_part, v_pad, v_padMany, v_slips, v_slipMany, v_made, v_queue, v_depth, v_by, v_from, v_come, v_offOf, v_parent, v_best, v_trees, v_least, v_sums, v_toward, .ref a_kept, v_isKept, .int (nI (((ka + 1) + 1) + 1)), .int 0])), (a_maps, .inl (gI G, 6, .inl fm)), (a_kinds, .inl (gI G, 4, .inl fk)), (a_part, .inl (gI G, 6, .inl fp)), (a_kept, .inl (gI G, 80, .inl fq))]) [3, 0, 1, 2, 4] rfl)
  have hD := (hD.sub (ws' := [(h1, .inr (6, [.int (nI k1), .ref a_maps, .int r5, .ref a_kinds, .int l0, .int s0, .ref a_part, v_pad, v_padMany, v_slips, v_slipMany, v_made, v_queue, v_depth, v_by, v_from, v_come, v_offOf, v_parent, v_best, v_trees, v_least, v_sums, v_toward, .ref a_kept, v_isKept, .int (nI (((ka + 1) + 1) + 1)), .int 0])), (a_maps, .inl (gI G, 6, .inl fm)), (a_kinds, .inl (gI G, 4, .inl fk)), (a_part, .inl (gI G, 6, .inl fp)), (a_kept, .inl (gI G, 80, .inl fq))]) [3, 0, 1, 2, 4] (by decide) rfl)
  refine va_put (D := G.1) (ci := 6) (v := .int r8) (ty := .int) (C := RX10) (T := TX10) (N := 28) hx hb hts (fun _ h => List.mem_cons_of_mem _ (List.mem_append_right _ h)) tyX10 tyX10_ok nmX10 hown E.K hP hD hS 0 rfl rfl 4 (by decide) (hts (.fieldLink RX10 73 "LastMapModel" "land" "I") (by decide +kernel)) (fun _ h9 => h9) rfl (by decide +kernel) rfl rfl (Nat.le_of_ble_eq_true rfl) dX10_passAll_33 (fun H locs hP hD hS => ?_)
  have hP : va_P G.1 vwCl ([(h1, .inr (6, [.int (nI k1), .ref a_maps, .int r5, .ref a_kinds, .int r8, .int s0, .ref a_part, v_pad, v_padMany, v_slips, v_slipMany, v_made, v_queue, v_depth, v_by, v_from, v_come, v_offOf, v_parent, v_best, v_trees, v_least, v_sums, v_toward, .ref a_kept, v_isKept, .int (nI (((ka + 1) + 1) + 1)), .int 0])), (a_maps, .inl (gI G, 6, .inl fm)), (a_kinds, .inl (gI G, 4, .inl fk)), (a_part, .inl (gI G, 6, .inl fp)), (a_kept, .inl (gI G, 80, .inl fq))]) H := hP
  have hD : va_D A ([(h1, .inr (6, [.int (nI k1), .ref a_maps, .int r5, .ref a_kinds, .int r8, .int s0, .ref a_part, v_pad, v_padMany, v_slips, v_slipMany, v_made, v_queue, v_depth, v_by, v_from, v_come, v_offOf, v_parent, v_best, v_trees, v_least, v_sums, v_toward, .ref a_kept, v_isKept, .int (nI (((ka + 1) + 1) + 1)), .int 0])), (a_maps, .inl (gI G, 6, .inl fm)), (a_kinds, .inl (gI G, 4, .inl fk)), (a_part, .inl (gI G, 6, .inl fp)), (a_kept, .inl (gI G, 80, .inl fq))]) := hD
  refine lv_aload_n hx hb dX10_passAll_36 rfl (lv_at hl 0 rfl) ?_
  refine lv_aload_n hx hb dX10_passAll_37 rfl (lv_at hl 0 rfl) ?_
  refine lv_aload_n hx hb dX10_passAll_38 rfl (lv_at hl 0 rfl) ?_
  refine va_get (D := G.1) (ci := 6) (v := .int s0) (C := RX10) (T := TX10) (N := 28) hx hb hts (fun _ h => List.mem_cons_of_mem _ (List.mem_append_right _ h)) hown E.K hP 0 rfl rfl 5 (by decide) (hts (.fieldLink RX10 59 "LastMapModel" "spades" "I") (by decide +kernel)) (fun _ h9 => h9) rfl dX10_passAll_39 ?_
  refine ca_i (wr := [(a_maps, .inl (gI G, 6, .inl fm)), (a_kinds, .inl (gI G, 4, .inl fk)), (a_part, .inl (gI G, 6, .inl fp))]) (va_runV (As := [.int s0]) (rest := [.ref h1]) ⟨hx, hb, hml, hown, hts⟩ (m_pass_r l G H.size h1 (.int (nI k1)) (.ref a_maps) (.int r5) (.ref a_kinds) (.int r8) (.int s0) (.ref a_part) v_pad v_padMany v_slips v_slipMany v_made v_queue v_depth v_by v_from v_come v_offOf v_parent v_best v_trees v_least v_sums v_toward v_isKept a_kept (((ka + 1) + 1) + 1) fq s0 (by omega)) (cwV 1 hts gX10_passAll_X10_pass rfl rfl rfl (by decide +kernel) ⟨by decide +kernel, by decide +kernel⟩) (pre_V E hP hD hS hA [0, 4] (by decide) rfl 0 6 rfl rfl) rfl rfl hl.1 rfl (lv_room (Nat.le_of_ble_eq_true rfl)) dX10_passAll_42 ⟨by decide +kernel, by decide +kernel⟩) hS hP hD hA [0, 4] [1, 2, 3] rfl rfl (by decide) (by decide) (fun r11 u12 H locs w10 hP hD hS => ?_)
  try dsimp only at w10 hP hD
  have hP := (hP.sub (ws' := [(h1, .inr (6, [.int (nI k1), .ref a_maps, .int r5, .ref a_kinds, .int r8, .int s0, .ref a_part, v_pad, v_padMany, v_slips, v_slipMany, v_made, v_queue, v_depth, v_by, v_from, v_come, v_offOf, v_parent, v_best, v_trees, v_least, v_sums, v_toward, .ref a_kept, v_isKept, .int (nI ((((ka + 1) + 1) + 1) + 1)), .int 0])), (a_maps, .inl (gI G, 6, .inl fm)), (a_kinds, .inl (gI G, 4, .inl fk)), (a_part, .inl (gI G, 6, .inl fp)), (a_kept, .inl (gI G, 80, .inl fq))]) [3, 0, 1, 2, 4] rfl)
  have hD := (hD.sub (ws' := [(h1, .inr (6, [.int (nI k1), .ref a_maps, .int r5, .ref a_kinds, .int r8, .int s0, .ref a_part, v_pad, v_padMany, v_slips, v_slipMany, v_made, v_queue, v_depth, v_by, v_from, v_come, v_offOf, v_parent, v_best, v_trees, v_least, v_sums, v_toward, .ref a_kept, v_isKept, .int (nI ((((ka + 1) + 1) + 1) + 1)), .int 0])), (a_maps, .inl (gI G, 6, .inl fm)), (a_kinds, .inl (gI G, 4, .inl fk)), (a_part, .inl (gI G, 6, .inl fp)), (a_kept, .inl (gI G, 80, .inl fq))]) [3, 0, 1, 2, 4] (by decide) rfl)
  refine va_put (D := G.1) (ci := 6) (v := .int r11) (ty := .int) (C := RX10) (T := TX10) (N := 28) hx hb hts (fun _ h => List.mem_cons_of_mem _ (List.mem_append_right _ h)) tyX10 tyX10_ok nmX10 hown E.K hP hD hS 0 rfl rfl 5 (by decide) (hts (.fieldLink RX10 59 "LastMapModel" "spades" "I") (by decide +kernel)) (fun _ h9 => h9) rfl (by decide +kernel) rfl rfl (Nat.le_of_ble_eq_true rfl) dX10_passAll_45 (fun H locs hP hD hS => ?_)
  have hP : va_P G.1 vwCl ([(h1, .inr (6, [.int (nI k1), .ref a_maps, .int r5, .ref a_kinds, .int r8, .int r11, .ref a_part, v_pad, v_padMany, v_slips, v_slipMany, v_made, v_queue, v_depth, v_by, v_from, v_come, v_offOf, v_parent, v_best, v_trees, v_least, v_sums, v_toward, .ref a_kept, v_isKept, .int (nI ((((ka + 1) + 1) + 1) + 1)), .int 0])), (a_maps, .inl (gI G, 6, .inl fm)), (a_kinds, .inl (gI G, 4, .inl fk)), (a_part, .inl (gI G, 6, .inl fp)), (a_kept, .inl (gI G, 80, .inl fq))]) H := hP
  have hD : va_D A ([(h1, .inr (6, [.int (nI k1), .ref a_maps, .int r5, .ref a_kinds, .int r8, .int r11, .ref a_part, v_pad, v_padMany, v_slips, v_slipMany, v_made, v_queue, v_depth, v_by, v_from, v_come, v_offOf, v_parent, v_best, v_trees, v_least, v_sums, v_toward, .ref a_kept, v_isKept, .int (nI ((((ka + 1) + 1) + 1) + 1)), .int 0])), (a_maps, .inl (gI G, 6, .inl fm)), (a_kinds, .inl (gI G, 4, .inl fk)), (a_part, .inl (gI G, 6, .inl fp)), (a_kept, .inl (gI G, 80, .inl fq))]) := hD
  refine lv_iconst (v := 0) hx hb dX10_passAll_48 (by decide) ?_
  refine lv_istore_n (lv' := [(1, .int 0), (0, .ref h1)]) hx hb dX10_passAll_49 rfl hl (by decide) rfl (fun ls hl => ?_)
  refine lp_run (x0 := (0, fm)) (fun xx_ : Nat × (Nat → Int32) => match xx_ with | (i, f1) => [(h1, .inr (6, [.int (nI k1), .ref a_maps, .int r5, .ref a_kinds, .int r8, .int r11, .ref a_part, v_pad, v_padMany, v_slips, v_slipMany, v_made, v_queue, v_depth, v_by, v_from, v_come, v_offOf, v_parent, v_best, v_trees, v_least, v_sums, v_toward, .ref a_kept, v_isKept, .int (nI (ka + 4 + i)), .int 0])), (a_maps, .inl (gI G, 6, .inl f1)), (a_kinds, .inl (gI G, 4, .inl fk)), (a_part, .inl (gI G, 6, .inl fp)), (a_kept, .inl (gI G, 80, .inl fq))]) (fun xx_ : Nat × (Nat → Int32) => match xx_ with | (i, f1) => [(1, .int (nI i)), (0, .ref h1)]) (fun xx_ : Nat × (Nat → Int32) => match xx_ with | (i, f1) => (i ≤ 6) ∧ (∀ j : Nat, j < i → f1 j = fq (ka + 4 + j))) (fun xx_ : Nat × (Nat → Int32) => match xx_ with | (i, f1) => 6 - i) (hP.sub [0, 1, 2, 3, 4] rfl) (hD.sub [0, 1, 2, 3, 4] (by decide) rfl) hS (lv_sub hl [0, 1] rfl) ⟨Nat.zero_le _, by intro j hj; omega⟩ ?_
  intro xx_ hI ih50 H locs ls hP hD hS hl
  obtain ⟨i, f1⟩ := xx_
  dsimp only at hI ih50 hP hD hl
  obtain ⟨hi0, hf_i⟩ := hI
  have hl : lv_has ls 2 [(1, .int (nI i)), (0, .ref h1)] := hl
  have hP : va_P G.1 vwCl ([(h1, .inr (6, [.int (nI k1), .ref a_maps, .int r5, .ref a_kinds, .int r8, .int r11, .ref a_part, v_pad, v_padMany, v_slips, v_slipMany, v_made, v_queue, v_depth, v_by, v_from, v_come, v_offOf, v_parent, v_best, v_trees, v_least, v_sums, v_toward, .ref a_kept, v_isKept, .int (nI (ka + 4 + i)), .int 0])), (a_maps, .inl (gI G, 6, .inl f1)), (a_kinds, .inl (gI G, 4, .inl fk)), (a_part, .inl (gI G, 6, .inl fp)), (a_kept, .inl (gI G, 80, .inl fq))]) H := hP
  have hD : va_D A ([(h1, .inr (6, [.int (nI k1), .ref a_maps, .int r5, .ref a_kinds, .int r8, .int r11, .ref a_part, v_pad, v_padMany, v_slips, v_slipMany, v_made, v_queue, v_depth, v_by, v_from, v_come, v_offOf, v_parent, v_best, v_trees, v_least, v_sums, v_toward, .ref a_kept, v_isKept, .int (nI (ka + 4 + i)), .int 0])), (a_maps, .inl (gI G, 6, .inl f1)), (a_kinds, .inl (gI G, 4, .inl fk)), (a_part, .inl (gI G, 6, .inl fp)), (a_kept, .inl (gI G, 80, .inl fq))]) := hD
  refine lv_iload_n hx hb dX10_passAll_50 rfl (lv_at hl 0 rfl) ?_
  refine lv_bipush (v := 6) hx hb dX10_passAll_51 (by decide) ?_
  refine lv_icmp_ge (tgt := 78) hx hb dX10_passAll_53 (by decide) (fun c13 => ?_) (fun c13 => ?_)
  · have c13 : 6 ≤ i := (nI_leI (a := 6) (b := i) (by omega) (by omega)).mp c13
    obtain rfl : i = 6 := by omega
    refine lv_iconst (v := 0) hx hb dX10_passAll_78 (by decide) ?_
    refine lv_istore_n (lv' := [(1, .int 0), (0, .ref h1)]) hx hb dX10_passAll_79 rfl hl (by decide) rfl (fun ls hl => ?_)
    refine lp_run (x0 := (0, fk)) (fun xx_ : Nat × (Nat → Int32) => match xx_ with | (i2, f2) => [(h1, .inr (6, [.int (nI k1), .ref a_maps, .int r5, .ref a_kinds, .int r8, .int r11, .ref a_part, v_pad, v_padMany, v_slips, v_slipMany, v_made, v_queue, v_depth, v_by, v_from, v_come, v_offOf, v_parent, v_best, v_trees, v_least, v_sums, v_toward, .ref a_kept, v_isKept, .int (nI (ka + 10 + i2)), .int 0])), (a_maps, .inl (gI G, 6, .inl f1)), (a_kinds, .inl (gI G, 4, .inl f2)), (a_part, .inl (gI G, 6, .inl fp)), (a_kept, .inl (gI G, 80, .inl fq))]) (fun xx_ : Nat × (Nat → Int32) => match xx_ with | (i2, f2) => [(1, .int (nI i2)), (0, .ref h1)]) (fun xx_ : Nat × (Nat → Int32) => match xx_ with | (i2, f2) => (i2 ≤ 4) ∧ (∀ j : Nat, j < i2 → f2 j = fq (ka + 10 + j))) (fun xx_ : Nat × (Nat → Int32) => match xx_ with | (i2, f2) => 4 - i2) (hP.sub [0, 1, 2, 3, 4] rfl) (hD.sub [0, 1, 2, 3, 4] (by decide) rfl) hS (lv_sub hl [0, 1] rfl) ⟨Nat.zero_le _, by intro j hj; omega⟩ ?_
    intro xx_ hI ih80 H locs ls hP hD hS hl
    obtain ⟨i2, f2⟩ := xx_
    dsimp only at hI ih80 hP hD hl
    obtain ⟨hi20, hf_i2⟩ := hI
    have hl : lv_has ls 2 [(1, .int (nI i2)), (0, .ref h1)] := hl
    have hP : va_P G.1 vwCl ([(h1, .inr (6, [.int (nI k1), .ref a_maps, .int r5, .ref a_kinds, .int r8, .int r11, .ref a_part, v_pad, v_padMany, v_slips, v_slipMany, v_made, v_queue, v_depth, v_by, v_from, v_come, v_offOf, v_parent, v_best, v_trees, v_least, v_sums, v_toward, .ref a_kept, v_isKept, .int (nI (ka + 10 + i2)), .int 0])), (a_maps, .inl (gI G, 6, .inl f1)), (a_kinds, .inl (gI G, 4, .inl f2)), (a_part, .inl (gI G, 6, .inl fp)), (a_kept, .inl (gI G, 80, .inl fq))]) H := hP
    have hD : va_D A ([(h1, .inr (6, [.int (nI k1), .ref a_maps, .int r5, .ref a_kinds, .int r8, .int r11, .ref a_part, v_pad, v_padMany, v_slips, v_slipMany, v_made, v_queue, v_depth, v_by, v_from, v_come, v_offOf, v_parent, v_best, v_trees, v_least, v_sums, v_toward, .ref a_kept, v_isKept, .int (nI (ka + 10 + i2)), .int 0])), (a_maps, .inl (gI G, 6, .inl f1)), (a_kinds, .inl (gI G, 4, .inl f2)), (a_part, .inl (gI G, 6, .inl fp)), (a_kept, .inl (gI G, 80, .inl fq))]) := hD
    refine lv_iload_n hx hb dX10_passAll_80 rfl (lv_at hl 0 rfl) ?_
    refine lv_iconst (v := 4) hx hb dX10_passAll_81 (by decide) ?_
    refine lv_icmp_ge (tgt := 107) hx hb dX10_passAll_82 (by decide) (fun c14 => ?_) (fun c14 => ?_)
    · have c14 : 4 ≤ i2 := (nI_leI (a := 4) (b := i2) (by omega) (by omega)).mp c14
      obtain rfl : i2 = 4 := by omega
      refine lv_aload_n hx hb dX10_passAll_107 rfl (lv_at hl 1 rfl) ?_
      refine ca_v (wr := [(a_maps, .inl (gI G, 6, .inl f1)), (a_kinds, .inl (gI G, 4, .inl f2)), (a_kept, .inl (gI G, 80, .inl fq))]) (va_runV (As := []) (rest := []) ⟨hx, hb, hml, hown, hts⟩ (m_findParts l G H.size h1 (.ref a_maps) (.int r5) (.ref a_kinds) (.int r8) (.int r11) v_pad v_padMany v_slips v_slipMany v_made v_queue v_depth v_by v_from v_come v_offOf v_parent v_best v_trees v_least v_sums v_toward (.ref a_kept) v_isKept (.int (nI (ka + 10 + 4))) (.int 0) a_part fp k1 hk2 hk6) (cwV 0 hts gX10_passAll_X10_findParts rfl rfl rfl (by decide +kernel) ⟨by decide +kernel, by decide +kernel⟩) (pre_V E hP hD hS hA [0, 3] (by decide) rfl 0 6 rfl rfl) rfl rfl hl.1 rfl (lv_room (Nat.le_of_ble_eq_true rfl)) dX10_passAll_108 ⟨by decide +kernel, by decide +kernel⟩) hS hP hD hA [0, 3] [1, 2, 4] rfl rfl (by decide) (by decide) (fun u17 H locs w15 hP hD hS => ?_)
      obtain ⟨gp_18, rfl⟩ : ∃ z, z = u17 := ⟨_, rfl⟩
      try dsimp only at w15 hP hD
      have hP := (hP.sub (ws' := [(h1, .inr (6, [.int (nI k1), .ref a_maps, .int r5, .ref a_kinds, .int r8, .int r11, .ref a_part, v_pad, v_padMany, v_slips, v_slipMany, v_made, v_queue, v_depth, v_by, v_from, v_come, v_offOf, v_parent, v_best, v_trees, v_least, v_sums, v_toward, .ref a_kept, v_isKept, .int (nI (ka + 10 + 4)), .int 0])), (a_maps, .inl (gI G, 6, .inl f1)), (a_kinds, .inl (gI G, 4, .inl f2)), (a_part, .inl (gI G, 6, .inl gp_18)), (a_kept, .inl (gI G, 80, .inl fq))]) [3, 0, 1, 4, 2] rfl)
      have hD := (hD.sub (ws' := [(h1, .inr (6, [.int (nI k1), .ref a_maps, .int r5, .ref a_kinds, .int r8, .int r11, .ref a_part, v_pad, v_padMany, v_slips, v_slipMany, v_made, v_queue, v_depth, v_by, v_from, v_come, v_offOf, v_parent, v_best, v_trees, v_least, v_sums, v_toward, .ref a_kept, v_isKept, .int (nI (ka + 10 + 4)), .int 0])), (a_maps, .inl (gI G, 6, .inl f1)), (a_kinds, .inl (gI G, 4, .inl f2)), (a_part, .inl (gI G, 6, .inl gp_18)), (a_kept, .inl (gI G, 80, .inl fq))]) [3, 0, 1, 4, 2] (by decide) rfl)
      have hP9 := (hP.sub (ws' := [(h1, .inr (6, [.int (nI k1), .ref a_maps, .int r5, .ref a_kinds, .int r8, .int r11, .ref a_part, v_pad, v_padMany, v_slips, v_slipMany, v_made, v_queue, v_depth, v_by, v_from, v_come, v_offOf, v_parent, v_best, v_trees, v_least, v_sums, v_toward, .ref a_kept, v_isKept, .int (nI (ka + 10 + 4)), .int 0])), (a_maps, .inl (gI G, 6, .inl f1)), (a_kinds, .inl (gI G, 4, .inl f2)), (a_part, .inl (gI G, 6, .inl gp_18)), (a_kept, .inl (gI G, 80, .inl fq))]) [0, 1, 2, 3, 4] rfl)
      have hD9 := (hD.sub (ws' := [(h1, .inr (6, [.int (nI k1), .ref a_maps, .int r5, .ref a_kinds, .int r8, .int r11, .ref a_part, v_pad, v_padMany, v_slips, v_slipMany, v_made, v_queue, v_depth, v_by, v_from, v_come, v_offOf, v_parent, v_best, v_trees, v_least, v_sums, v_toward, .ref a_kept, v_isKept, .int (nI (ka + 10 + 4)), .int 0])), (a_maps, .inl (gI G, 6, .inl f1)), (a_kinds, .inl (gI G, 4, .inl f2)), (a_part, .inl (gI G, 6, .inl gp_18)), (a_kept, .inl (gI G, 80, .inl fq))]) [0, 1, 2, 3, 4] (by decide) rfl)
      exact W.vret hx hb hr (fun t9_ ht9_ hW9_ => ⟨⟨(r5, r8, r11, f1, f2, gp_18), rfl, ⟨w4, w7, w10, hf_i, hf_i2, w15⟩, by rw [ht9_]; exact hP9, hD9⟩, hS.F ht9_⟩) hS.2.2 dX10_passAll_111
    · have c14 : ¬ 4 ≤ i2 := fun h9_ => c14 ((nI_leI (a := 4) (b := i2) (by omega) (by omega)).mpr h9_)
      refine lv_aload_n hx hb dX10_passAll_85 rfl (lv_at hl 1 rfl) ?_
      refine va_get (D := G.1) (ci := 6) (v := .ref a_kinds) (C := RX10) (T := TX10) (N := 28) hx hb hts (fun _ h => List.mem_cons_of_mem _ (List.mem_append_right _ h)) hown E.K hP 0 rfl rfl 3 (by decide) (hts (.fieldLink RX10 13 "LastMapModel" "kinds" "[I") (by decide +kernel)) (fun _ h9 => h9) rfl dX10_passAll_86 ?_
      refine lv_iload_n hx hb dX10_passAll_89 rfl (lv_at hl 0 rfl) ?_
      refine lv_aload_n hx hb dX10_passAll_90 rfl (lv_at hl 1 rfl) ?_
      refine lv_aload_n hx hb dX10_passAll_91 rfl (lv_at hl 1 rfl) ?_
      refine va_get (D := G.1) (ci := 6) (v := .ref a_kinds) (C := RX10) (T := TX10) (N := 28) hx hb hts (fun _ h => List.mem_cons_of_mem _ (List.mem_append_right _ h)) hown E.K hP 0 rfl rfl 3 (by decide) (hts (.fieldLink RX10 13 "LastMapModel" "kinds" "[I") (by decide +kernel)) (fun _ h9 => h9) rfl dX10_passAll_92 ?_
      refine lv_iload_n hx hb dX10_passAll_95 rfl (lv_at hl 0 rfl) ?_
      refine va_iald hx hb E.K hP 2 1 rfl rfl (i := nI i2) (vp_in_nI (by omega) (by decide)) dX10_passAll_96 ?_
      refine lv_topi (fun x19 ex19 => ?_)
      refine ca_i (wr := [(a_maps, .inl (gI G, 6, .inl f1)), (a_kinds, .inl (gI G, 4, .inl f2)), (a_part, .inl (gI G, 6, .inl fp))]) (va_runV (As := [.int x19]) (rest := [.int (nI i2), .ref a_kinds]) ⟨hx, hb, hml, hown, hts⟩ (m_pass_r l G H.size h1 (.int (nI k1)) (.ref a_maps) (.int r5) (.ref a_kinds) (.int r8) (.int r11) (.ref a_part) v_pad v_padMany v_slips v_slipMany v_made v_queue v_depth v_by v_from v_come v_offOf v_parent v_best v_trees v_least v_sums v_toward v_isKept a_kept (ka + 10 + i2) fq x19 (by omega)) (cwV 1 hts gX10_passAll_X10_pass rfl rfl rfl (by decide +kernel) ⟨by decide +kernel, by decide +kernel⟩) (pre_V E hP hD hS hA [0, 4] (by decide) rfl 0 6 rfl rfl) rfl rfl hl.1 rfl (lv_room (Nat.le_of_ble_eq_true rfl)) dX10_passAll_97 ⟨by decide +kernel, by decide +kernel⟩) hS hP hD hA [0, 4] [1, 2, 3] rfl rfl (by decide) (by decide) (fun r21 u22 H locs w20 hP hD hS => ?_)
      try dsimp only at w20 hP hD
      have hP := (hP.sub (ws' := [(h1, .inr (6, [.int (nI k1), .ref a_maps, .int r5, .ref a_kinds, .int r8, .int r11, .ref a_part, v_pad, v_padMany, v_slips, v_slipMany, v_made, v_queue, v_depth, v_by, v_from, v_come, v_offOf, v_parent, v_best, v_trees, v_least, v_sums, v_toward, .ref a_kept, v_isKept, .int (nI ((ka + 10 + i2) + 1)), .int 0])), (a_maps, .inl (gI G, 6, .inl f1)), (a_kinds, .inl (gI G, 4, .inl f2)), (a_part, .inl (gI G, 6, .inl fp)), (a_kept, .inl (gI G, 80, .inl fq))]) [3, 0, 1, 2, 4] rfl)
      have hD := (hD.sub (ws' := [(h1, .inr (6, [.int (nI k1), .ref a_maps, .int r5, .ref a_kinds, .int r8, .int r11, .ref a_part, v_pad, v_padMany, v_slips, v_slipMany, v_made, v_queue, v_depth, v_by, v_from, v_come, v_offOf, v_parent, v_best, v_trees, v_least, v_sums, v_toward, .ref a_kept, v_isKept, .int (nI ((ka + 10 + i2) + 1)), .int 0])), (a_maps, .inl (gI G, 6, .inl f1)), (a_kinds, .inl (gI G, 4, .inl f2)), (a_part, .inl (gI G, 6, .inl fp)), (a_kept, .inl (gI G, 80, .inl fq))]) [3, 0, 1, 2, 4] (by decide) rfl)
      refine va_iast hx hb E.K hP hD hS 2 1 rfl rfl (i := nI i2) (vp_in_nI (by omega) (by decide)) dX10_passAll_100 (fun H locs hP hD hS => ?_)
      obtain ⟨f23, ef23⟩ : ∃ yy_ : Nat → Int32, yy_ = upd f2 (nI i2).toNatClampNeg r21 := ⟨_, rfl⟩
      have hP : va_P G.1 vwCl ([(h1, .inr (6, [.int (nI k1), .ref a_maps, .int r5, .ref a_kinds, .int r8, .int r11, .ref a_part, v_pad, v_padMany, v_slips, v_slipMany, v_made, v_queue, v_depth, v_by, v_from, v_come, v_offOf, v_parent, v_best, v_trees, v_least, v_sums, v_toward, .ref a_kept, v_isKept, .int (nI ((ka + 10 + i2) + 1)), .int 0])), (a_maps, .inl (gI G, 6, .inl f1)), (a_kinds, .inl (gI G, 4, .inl f23)), (a_part, .inl (gI G, 6, .inl fp)), (a_kept, .inl (gI G, 80, .inl fq))]) H := by rw [ef23]; exact hP
      have hD : va_D A ([(h1, .inr (6, [.int (nI k1), .ref a_maps, .int r5, .ref a_kinds, .int r8, .int r11, .ref a_part, v_pad, v_padMany, v_slips, v_slipMany, v_made, v_queue, v_depth, v_by, v_from, v_come, v_offOf, v_parent, v_best, v_trees, v_least, v_sums, v_toward, .ref a_kept, v_isKept, .int (nI ((ka + 10 + i2) + 1)), .int 0])), (a_maps, .inl (gI G, 6, .inl f1)), (a_kinds, .inl (gI G, 4, .inl f23)), (a_part, .inl (gI G, 6, .inl fp)), (a_kept, .inl (gI G, 80, .inl fq))]) := by rw [ef23]; exact hD
      obtain ⟨x24, ex24⟩ : ∃ yy_ : Int32, yy_ = (nI i2) + 1 := ⟨_, rfl⟩
      refine lv_iinc (v := x24) (lv' := [(1, .int x24), (0, .ref h1)]) hx hb dX10_passAll_101 hl (k := 0) rfl (by rw [ex24]; rfl) (by decide) rfl (fun ls hl => ?_)
      obtain rfl : x24 = nI (i2 + 1) := by rw [ex24]; exact nI_add i2 1
      refine lv_goto (tgt := 80) hx hb dX10_passAll_104 (by decide) ?_
      refine ih80 (i2 + 1, f23) ⟨?_, ?_⟩ (by first | omega | (dsimp only; omega)) H locs ls (hP.sub [0, 1, 2, 3, 4] rfl) (hD.sub [0, 1, 2, 3, 4] (by decide) rfl) hS (lv_sub hl [0, 1] rfl)
      · try dsimp only
        omega
      · try dsimp only
        intro j hj; rw [ef23, nI_clamp (by omega)]
        by_cases e9 : j = i2
        · subst e9; rw [pk_us, w20]
        · rw [pk_un e9]; exact hf_i2 j (by omega)
  · have c13 : ¬ 6 ≤ i := fun h9_ => c13 ((nI_leI (a := 6) (b := i) (by omega) (by omega)).mpr h9_)
    refine lv_aload_n hx hb dX10_passAll_56 rfl (lv_at hl 1 rfl) ?_
    refine va_get (D := G.1) (ci := 6) (v := .ref a_maps) (C := RX10) (T := TX10) (N := 28) hx hb hts (fun _ h => List.mem_cons_of_mem _ (List.mem_append_right _ h)) hown E.K hP 0 rfl rfl 1 (by decide) (hts (.fieldLink RX10 7 "LastMapModel" "maps" "[I") (by decide +kernel)) (fun _ h9 => h9) rfl dX10_passAll_57 ?_
    refine lv_iload_n hx hb dX10_passAll_60 rfl (lv_at hl 0 rfl) ?_
    refine lv_aload_n hx hb dX10_passAll_61 rfl (lv_at hl 1 rfl) ?_
    refine lv_aload_n hx hb dX10_passAll_62 rfl (lv_at hl 1 rfl) ?_
    refine va_get (D := G.1) (ci := 6) (v := .ref a_maps) (C := RX10) (T := TX10) (N := 28) hx hb hts (fun _ h => List.mem_cons_of_mem _ (List.mem_append_right _ h)) hown E.K hP 0 rfl rfl 1 (by decide) (hts (.fieldLink RX10 7 "LastMapModel" "maps" "[I") (by decide +kernel)) (fun _ h9 => h9) rfl dX10_passAll_63 ?_
    refine lv_iload_n hx hb dX10_passAll_66 rfl (lv_at hl 0 rfl) ?_
    refine va_iald hx hb E.K hP 1 1 rfl rfl (i := nI i) (vp_in_nI (by omega) (by decide)) dX10_passAll_67 ?_
    refine lv_topi (fun x25 ex25 => ?_)
    refine ca_i (wr := [(a_maps, .inl (gI G, 6, .inl f1)), (a_kinds, .inl (gI G, 4, .inl fk)), (a_part, .inl (gI G, 6, .inl fp))]) (va_runV (As := [.int x25]) (rest := [.int (nI i), .ref a_maps]) ⟨hx, hb, hml, hown, hts⟩ (m_pass_r l G H.size h1 (.int (nI k1)) (.ref a_maps) (.int r5) (.ref a_kinds) (.int r8) (.int r11) (.ref a_part) v_pad v_padMany v_slips v_slipMany v_made v_queue v_depth v_by v_from v_come v_offOf v_parent v_best v_trees v_least v_sums v_toward v_isKept a_kept (ka + 4 + i) fq x25 (by omega)) (cwV 1 hts gX10_passAll_X10_pass rfl rfl rfl (by decide +kernel) ⟨by decide +kernel, by decide +kernel⟩) (pre_V E hP hD hS hA [0, 4] (by decide) rfl 0 6 rfl rfl) rfl rfl hl.1 rfl (lv_room (Nat.le_of_ble_eq_true rfl)) dX10_passAll_68 ⟨by decide +kernel, by decide +kernel⟩) hS hP hD hA [0, 4] [1, 2, 3] rfl rfl (by decide) (by decide) (fun r27 u28 H locs w26 hP hD hS => ?_)
    try dsimp only at w26 hP hD
    have hP := (hP.sub (ws' := [(h1, .inr (6, [.int (nI k1), .ref a_maps, .int r5, .ref a_kinds, .int r8, .int r11, .ref a_part, v_pad, v_padMany, v_slips, v_slipMany, v_made, v_queue, v_depth, v_by, v_from, v_come, v_offOf, v_parent, v_best, v_trees, v_least, v_sums, v_toward, .ref a_kept, v_isKept, .int (nI ((ka + 4 + i) + 1)), .int 0])), (a_maps, .inl (gI G, 6, .inl f1)), (a_kinds, .inl (gI G, 4, .inl fk)), (a_part, .inl (gI G, 6, .inl fp)), (a_kept, .inl (gI G, 80, .inl fq))]) [3, 0, 1, 2, 4] rfl)
    have hD := (hD.sub (ws' := [(h1, .inr (6, [.int (nI k1), .ref a_maps, .int r5, .ref a_kinds, .int r8, .int r11, .ref a_part, v_pad, v_padMany, v_slips, v_slipMany, v_made, v_queue, v_depth, v_by, v_from, v_come, v_offOf, v_parent, v_best, v_trees, v_least, v_sums, v_toward, .ref a_kept, v_isKept, .int (nI ((ka + 4 + i) + 1)), .int 0])), (a_maps, .inl (gI G, 6, .inl f1)), (a_kinds, .inl (gI G, 4, .inl fk)), (a_part, .inl (gI G, 6, .inl fp)), (a_kept, .inl (gI G, 80, .inl fq))]) [3, 0, 1, 2, 4] (by decide) rfl)
    refine va_iast hx hb E.K hP hD hS 1 1 rfl rfl (i := nI i) (vp_in_nI (by omega) (by decide)) dX10_passAll_71 (fun H locs hP hD hS => ?_)
    obtain ⟨f29, ef29⟩ : ∃ yy_ : Nat → Int32, yy_ = upd f1 (nI i).toNatClampNeg r27 := ⟨_, rfl⟩
    have hP : va_P G.1 vwCl ([(h1, .inr (6, [.int (nI k1), .ref a_maps, .int r5, .ref a_kinds, .int r8, .int r11, .ref a_part, v_pad, v_padMany, v_slips, v_slipMany, v_made, v_queue, v_depth, v_by, v_from, v_come, v_offOf, v_parent, v_best, v_trees, v_least, v_sums, v_toward, .ref a_kept, v_isKept, .int (nI ((ka + 4 + i) + 1)), .int 0])), (a_maps, .inl (gI G, 6, .inl f29)), (a_kinds, .inl (gI G, 4, .inl fk)), (a_part, .inl (gI G, 6, .inl fp)), (a_kept, .inl (gI G, 80, .inl fq))]) H := by rw [ef29]; exact hP
    have hD : va_D A ([(h1, .inr (6, [.int (nI k1), .ref a_maps, .int r5, .ref a_kinds, .int r8, .int r11, .ref a_part, v_pad, v_padMany, v_slips, v_slipMany, v_made, v_queue, v_depth, v_by, v_from, v_come, v_offOf, v_parent, v_best, v_trees, v_least, v_sums, v_toward, .ref a_kept, v_isKept, .int (nI ((ka + 4 + i) + 1)), .int 0])), (a_maps, .inl (gI G, 6, .inl f29)), (a_kinds, .inl (gI G, 4, .inl fk)), (a_part, .inl (gI G, 6, .inl fp)), (a_kept, .inl (gI G, 80, .inl fq))]) := by rw [ef29]; exact hD
    obtain ⟨x30, ex30⟩ : ∃ yy_ : Int32, yy_ = (nI i) + 1 := ⟨_, rfl⟩
    refine lv_iinc (v := x30) (lv' := [(1, .int x30), (0, .ref h1)]) hx hb dX10_passAll_72 hl (k := 0) rfl (by rw [ex30]; rfl) (by decide) rfl (fun ls hl => ?_)
    obtain rfl : x30 = nI (i + 1) := by rw [ex30]; exact nI_add i 1
    refine lv_goto (tgt := 50) hx hb dX10_passAll_75 (by decide) ?_
    refine ih50 (i + 1, f29) ⟨?_, ?_⟩ (by first | omega | (dsimp only; omega)) H locs ls (hP.sub [0, 1, 2, 3, 4] rfl) (hD.sub [0, 1, 2, 3, 4] (by decide) rfl) hS (lv_sub hl [0, 1] rfl)
    · try dsimp only
      omega
    · try dsimp only
      intro j hj; rw [ef29, nI_clamp (by omega)]
      by_cases e9 : j = i
      · subst e9; rw [pk_us, w26]
      · rw [pk_un e9]; exact hf_i j (by omega)

set_option maxHeartbeats 1000000 in
set_option maxRecDepth 100000 in
theorem m_image (l : Launch) (G : Gy) (sz : Nat) (h1 : Nat) (v_pad : Value) (v_padMany : Value) (v_slips : Value) (v_slipMany : Value) (v_made : Value) (v_queue : Value) (v_depth : Value) (v_by : Value) (v_from : Value) (v_come : Value) (v_offOf : Value) (v_parent : Value) (v_best : Value) (v_trees : Value) (v_least : Value) (v_sums : Value) (v_toward : Value) (a_maps : Nat) (fm : Nat → Int32) (a_kinds : Nat) (a_kept : Nat) (a_isKept : Nat) (k : Nat) (la : Nat) (a_part : Nat) (fp : Nat → Int32) (fk : Nat → Int32) (fq : Nat → Int32) (fz : Nat → Int32) (told : Int32) (sp : Int32) (ka0 : Int32) (iw0 : Int32) (p0 : Int32) (hk2 : 2 ≤ k) (hk6 : k ≤ 6) (hp : pOK k fp) : Ci l G yX10_image wsX10_image ({ frames := 2, cells := 0, slots := 0, locals := 43 }) [.ref h1, .int p0] ([(h1, .inr (6, [.int (nI k), .ref a_maps, .int told, .ref a_kinds, .int (nI la), .int sp, .ref a_part, v_pad, v_padMany, v_slips, v_slipMany, v_made, v_queue, v_depth, v_by, v_from, v_come, v_offOf, v_parent, v_best, v_trees, v_least, v_sums, v_toward, .ref a_kept, .ref a_isKept, .int ka0, .int iw0])), (a_maps, .inl (gI G, 6, .inl fm)), (a_kinds, .inl (gI G, 4, .inl fk)), (a_part, .inl (gI G, 6, .inl fp)), (a_kept, .inl (gI G, 80, .inl fq)), (a_isKept, .inl (gZ G, 2, .inl fz))]) sz (fun (r : Int32) (u : Int32 × Int32 × (Nat → Int32) × (Nat → Int32) × (Nat → Int32)) => match u with | (ka1, iw1, gp, gq, gz) => pOK k gp ∧ ((¬ inR p0 0 1 ∧ r = (-2) ∧ gq = fq ∧ gz = fz) ∨ ∃ j, j < 2 ∧ p0 = nI j ∧ r = 1 ∧ gz = upd fz j (vp_nar .boolean 1) ∧ PW (40 * j) 14 (vseq (nI k) told (nI la) sp fm fk) fq gq)) (fun (u : Int32 × Int32 × (Nat → Int32) × (Nat → Int32) × (Nat → Int32)) => match u with | (ka1, iw1, gp, gq, gz) => [(h1, .inr (6, [.int (nI k), .ref a_maps, .int told, .ref a_kinds, .int (nI la), .int sp, .ref a_part, v_pad, v_padMany, v_slips, v_slipMany, v_made, v_queue, v_depth, v_by, v_from, v_come, v_offOf, v_parent, v_best, v_trees, v_least, v_sums, v_toward, .ref a_kept, .ref a_isKept, .int ka1, .int iw1])), (a_maps, .inl (gI G, 6, .inl fm)), (a_kinds, .inl (gI G, 4, .inl fk)), (a_part, .inl (gI G, 6, .inl gp)), (a_kept, .inl (gI G, 80, .inl gq)), (a_isKept, .inl (gZ G, 2, .inl gz))]) 0 0 := by
  refine Met.ofW (cc := cX10_image) (maxL := 2) (ret := (some .int)) (by decide) rfl ?_
  intro p e s m args below meth c s₁ B hml hv
  obtain ⟨rfl, hsz, hP, hD0, E0⟩ := hv
  have hx := B.exec
  have hb := B.bytes
  have hr := B.returns
  have hts := atoms_spec (ws := wsX10_image) B.pre
  have hown : s.vm.findClass RX10 = some m.cls := findClass_of_methodNamed B.named
  have hlocks := B.notSynchronized
  subst hsz
  have hD := hD0.self (sz := s.heap.size)
  generalize hAe : va_A ([(h1, .inr (6, [.int (nI k), .ref a_maps, .int told, .ref a_kinds, .int (nI la), .int sp, .ref a_part, v_pad, v_padMany, v_slips, v_slipMany, v_made, v_queue, v_depth, v_by, v_from, v_come, v_offOf, v_parent, v_best, v_trees, v_least, v_sums, v_toward, .ref a_kept, .ref a_isKept, .int ka0, .int iw0])), (a_maps, .inl (gI G, 6, .inl fm)), (a_kinds, .inl (gI G, 4, .inl fk)), (a_part, .inl (gI G, 6, .inl fp)), (a_kept, .inl (gI G, 80, .inl fq)), (a_isKept, .inl (gZ G, 2, .inl fz))]) s.heap.size = A at hD E0 ⊢
  have E : EV G A s s.heap := E0
  have hA : ∀ q : Nat, s.heap.size ≤ q → A q := fun q h => by rw [← hAe]; exact Or.inr h
  have hS : va_S A s.heap s.heap [] := va_S.rf
  have hl := lv_entry ([.ref h1, .int p0]) (n := 2) (Nat.le_of_ble_eq_true rfl)
  rw [lg_entry_eq]
  generalize (lg_sl ([.ref h1, .int p0]) ++ List.replicate (2 - (lg_sl ([.ref h1, .int p0])).length) Slot.unset).toArray = ls at hl ⊢
  have hl : lv_has ls 2 [(0, .ref h1), (1, .int p0)] := hl
  have hP : va_P G.1 vwCl ([(h1, .inr (6, [.int (nI k), .ref a_maps, .int told, .ref a_kinds, .int (nI la), .int sp, .ref a_part, v_pad, v_padMany, v_slips, v_slipMany, v_made, v_queue, v_depth, v_by, v_from, v_come, v_offOf, v_parent, v_best, v_trees, v_least, v_sums, v_toward, .ref a_kept, .ref a_isKept, .int ka0, .int iw0])), (a_maps, .inl (gI G, 6, .inl fm)), (a_kinds, .inl (gI G, 4, .inl fk)), (a_part, .inl (gI G, 6, .inl fp)), (a_kept, .inl (gI G, 80, .inl fq)), (a_isKept, .inl (gZ G, 2, .inl fz))]) s.heap := hP
  refine lv_iload_n hx hb dX10_image_0 rfl (lv_at hl 1 rfl) ?_
  refine lv_i2l hx hb dX10_image_1 rfl ?_
  refine lv_topl (fun x1 ex1 => ?_)
  refine lv_lconst (v := 0) hx hb dX10_image_2 (by decide) ?_
  refine lv_lconst (v := 1) hx hb dX10_image_3 (by decide) ?_
  refine ca_iR (va_runS (As := [.long x1, .long 0, .long 1]) (rest := []) ⟨hx, hb, hml, hown, hts⟩ (m_in l G s.heap.size x1 0 1 p0 0 1 ex1 (by decide) (by decide)) (va_cwS 3 hts gX10_image_X10_in rfl rfl rfl (by decide +kernel) ⟨by decide +kernel, by decide +kernel⟩) (pre_S E hP hD hS hA [] (by decide) rfl) rfl rfl hl.1 rfl (lv_room (Nat.le_of_ble_eq_true rfl)) dX10_image_4 ⟨by decide +kernel, by decide +kernel⟩) hS hP hD hA [] rfl (fun r3 _ H locs w2 hP hS => ?_)
  rcases w2 with ⟨rfl, b4⟩ | ⟨rfl, b4⟩
  · refine lv_if_ne (tgt := 13) hx hb dX10_image_7 (by decide) (fun _ => ?_) (fun c5 => False.elim (by revert c5; decide))
    obtain ⟨j_p0, hj_p0, ej_p0⟩ := inR2 b4
    have hl : lv_has ls 2 [(0, .ref h1), (1, .int (nI j_p0))] := by have q := hl; rw [ej_p0] at q; exact q
    refine lv_aload_n hx hb dX10_image_13 rfl (lv_at hl 0 rfl) ?_
    refine lv_bipush (v := 40) hx hb dX10_image_14 (by decide) ?_
    refine lv_iload_n hx hb dX10_image_16 rfl (lv_at hl 1 rfl) ?_
    refine lv_imul hx hb dX10_image_17 ?_
    refine lv_topi (fun x6 ex6 => ?_)
    obtain rfl : x6 = nI (40 * j_p0) := by rw [ex6]; exact pk_mul 40 j_p0
    refine va_put (D := G.1) (ci := 6) (v := .int (nI (40 * j_p0))) (ty := .int) (C := RX10) (T := TX10) (N := 28) hx hb hts (fun _ h => List.mem_cons_of_mem _ (List.mem_append_right _ h)) tyX10 tyX10_ok nmX10 hown E.K hP hD hS 0 rfl rfl 26 (by decide) (hts (.fieldLink RX10 247 "LastMapModel" "keptAt" "I") (by decide +kernel)) (fun _ h9 => h9) rfl (by decide +kernel) rfl rfl (Nat.le_of_ble_eq_true rfl) dX10_image_18 (fun H locs hP hD hS => ?_)
    have hP : va_P G.1 vwCl ([(h1, .inr (6, [.int (nI k), .ref a_maps, .int told, .ref a_kinds, .int (nI la), .int sp, .ref a_part, v_pad, v_padMany, v_slips, v_slipMany, v_made, v_queue, v_depth, v_by, v_from, v_come, v_offOf, v_parent, v_best, v_trees, v_least, v_sums, v_toward, .ref a_kept, .ref a_isKept, .int (nI (40 * j_p0)), .int iw0])), (a_maps, .inl (gI G, 6, .inl fm)), (a_kinds, .inl (gI G, 4, .inl fk)), (a_part, .inl (gI G, 6, .inl fp)), (a_kept, .inl (gI G, 80, .inl fq)), (a_isKept, .inl (gZ G, 2, .inl fz))]) H := hP
    have hD : va_D A ([(h1, .inr (6, [.int (nI k), .ref a_maps, .int told, .ref a_kinds, .int (nI la), .int sp, .ref a_part, v_pad, v_padMany, v_slips, v_slipMany, v_made, v_queue, v_depth, v_by, v_from, v_come, v_offOf, v_parent, v_best, v_trees, v_least, v_sums, v_toward, .ref a_kept, .ref a_isKept, .int (nI (40 * j_p0)), .int iw0])), (a_maps, .inl (gI G, 6, .inl fm)), (a_kinds, .inl (gI G, 4, .inl fk)), (a_part, .inl (gI G, 6, .inl fp)), (a_kept, .inl (gI G, 80, .inl fq)), (a_isKept, .inl (gZ G, 2, .inl fz))]) := hD
    refine lv_aload_n hx hb dX10_image_21 rfl (lv_at hl 0 rfl) ?_
    refine lv_iconst (v := 1) hx hb dX10_image_22 (by decide) ?_
    refine va_put (D := G.1) (ci := 6) (v := .int 1) (ty := .boolean) (C := RX10) (T := TX10) (N := 28) hx hb hts (fun _ h => List.mem_cons_of_mem _ (List.mem_append_right _ h)) tyX10 tyX10_ok nmX10 hown E.K hP hD hS 0 rfl rfl 27 (by decide) (hts (.fieldLink RX10 243 "LastMapModel" "isWriting" "Z") (by decide +kernel)) (fun _ h9 => h9) rfl (by decide +kernel) rfl rfl (Nat.le_of_ble_eq_true rfl) dX10_image_23 (fun H locs hP hD hS => ?_)
    have hP : va_P G.1 vwCl ([(h1, .inr (6, [.int (nI k), .ref a_maps, .int told, .ref a_kinds, .int (nI la), .int sp, .ref a_part, v_pad, v_padMany, v_slips, v_slipMany, v_made, v_queue, v_depth, v_by, v_from, v_come, v_offOf, v_parent, v_best, v_trees, v_least, v_sums, v_toward, .ref a_kept, .ref a_isKept, .int (nI (40 * j_p0)), .int 1])), (a_maps, .inl (gI G, 6, .inl fm)), (a_kinds, .inl (gI G, 4, .inl fk)), (a_part, .inl (gI G, 6, .inl fp)), (a_kept, .inl (gI G, 80, .inl fq)), (a_isKept, .inl (gZ G, 2, .inl fz))]) H := hP
    have hD : va_D A ([(h1, .inr (6, [.int (nI k), .ref a_maps, .int told, .ref a_kinds, .int (nI la), .int sp, .ref a_part, v_pad, v_padMany, v_slips, v_slipMany, v_made, v_queue, v_depth, v_by, v_from, v_come, v_offOf, v_parent, v_best, v_trees, v_least, v_sums, v_toward, .ref a_kept, .ref a_isKept, .int (nI (40 * j_p0)), .int 1])), (a_maps, .inl (gI G, 6, .inl fm)), (a_kinds, .inl (gI G, 4, .inl fk)), (a_part, .inl (gI G, 6, .inl fp)), (a_kept, .inl (gI G, 80, .inl fq)), (a_isKept, .inl (gZ G, 2, .inl fz))]) := hD
    refine lv_aload_n hx hb dX10_image_26 rfl (lv_at hl 0 rfl) ?_
    refine ca_v (wr := [(a_isKept, .inl (gZ G, 2, .inl fz))]) (va_runV (As := []) (rest := []) ⟨hx, hb, hml, hown, hts⟩ (m_passAll_w l G H.size h1 v_pad v_padMany v_slips v_slipMany v_made v_queue v_depth v_by v_from v_come v_offOf v_parent v_best v_trees v_least v_sums v_toward (.ref a_isKept) a_maps fm a_kinds a_kept (40 * j_p0) k a_part fp fk fq told (nI la) sp hk2 hk6 (by omega)) (cwV 0 hts gX10_image_X10_passAll rfl rfl rfl (by decide +kernel) ⟨by decide +kernel, by decide +kernel⟩) (pre_V E hP hD hS hA [0, 1, 2, 3, 4] (by decide) rfl 0 6 rfl rfl) rfl rfl hl.1 rfl (lv_room (Nat.le_of_ble_eq_true rfl)) dX10_image_27 ⟨by decide +kernel, by decide +kernel⟩) hS hP hD hA [0, 1, 2, 3, 4] [5] rfl rfl (by decide) (by decide) (fun u9 H locs w7 hP hD hS => ?_)
    obtain ⟨gp_10, gq_11⟩ := u9
    try dsimp only at w7 hP hD
    have hP := (hP.sub (ws' := [(h1, .inr (6, [.int (nI k), .ref a_maps, .int told, .ref a_kinds, .int (nI la), .int sp, .ref a_part, v_pad, v_padMany, v_slips, v_slipMany, v_made, v_queue, v_depth, v_by, v_from, v_come, v_offOf, v_parent, v_best, v_trees, v_least, v_sums, v_toward, .ref a_kept, .ref a_isKept, .int (nI ((40 * j_p0) + 10 + 4)), .int 1])), (a_maps, .inl (gI G, 6, .inl fm)), (a_kinds, .inl (gI G, 4, .inl fk)), (a_part, .inl (gI G, 6, .inl gp_10)), (a_kept, .inl (gI G, 80, .inl gq_11)), (a_isKept, .inl (gZ G, 2, .inl fz))]) [1, 2, 3, 4, 5, 0] rfl)
    have hD := (hD.sub (ws' := [(h1, .inr (6, [.int (nI k), .ref a_maps, .int told, .ref a_kinds, .int (nI la), .int sp, .ref a_part, v_pad, v_padMany, v_slips, v_slipMany, v_made, v_queue, v_depth, v_by, v_from, v_come, v_offOf, v_parent, v_best, v_trees, v_least, v_sums, v_toward, .ref a_kept, .ref a_isKept, .int (nI ((40 * j_p0) + 10 + 4)), .int 1])), (a_maps, .inl (gI G, 6, .inl fm)), (a_kinds, .inl (gI G, 4, .inl fk)), (a_part, .inl (gI G, 6, .inl gp_10)), (a_kept, .inl (gI G, 80, .inl gq_11)), (a_isKept, .inl (gZ G, 2, .inl fz))]) [1, 2, 3, 4, 5, 0] (by decide) rfl)
    refine lv_aload_n hx hb dX10_image_30 rfl (lv_at hl 0 rfl) ?_
    refine va_get (D := G.1) (ci := 6) (v := .ref a_isKept) (C := RX10) (T := TX10) (N := 28) hx hb hts (fun _ h => List.mem_cons_of_mem _ (List.mem_append_right _ h)) hown E.K hP 0 rfl rfl 25 (by decide) (hts (.fieldLink RX10 55 "LastMapModel" "isKept" "[Z") (by decide +kernel)) (fun _ h9 => h9) rfl dX10_image_31 ?_
    refine lv_iload_n hx hb dX10_image_34 rfl (lv_at hl 1 rfl) ?_
    refine lv_iconst (v := 1) hx hb dX10_image_35 (by decide) ?_
    refine va_zast hx hb E.K hP hD hS 5 2 rfl rfl (i := nI j_p0) (vp_in_nI (by omega) (by decide)) dX10_image_36 (fun H locs hP hD hS => ?_)
    obtain ⟨f12, ef12⟩ : ∃ yy_ : Nat → Int32, yy_ = upd fz (nI j_p0).toNatClampNeg (vp_nar .boolean 1) := ⟨_, rfl⟩
    have hP : va_P G.1 vwCl ([(h1, .inr (6, [.int (nI k), .ref a_maps, .int told, .ref a_kinds, .int (nI la), .int sp, .ref a_part, v_pad, v_padMany, v_slips, v_slipMany, v_made, v_queue, v_depth, v_by, v_from, v_come, v_offOf, v_parent, v_best, v_trees, v_least, v_sums, v_toward, .ref a_kept, .ref a_isKept, .int (nI ((40 * j_p0) + 10 + 4)), .int 1])), (a_maps, .inl (gI G, 6, .inl fm)), (a_kinds, .inl (gI G, 4, .inl fk)), (a_part, .inl (gI G, 6, .inl gp_10)), (a_kept, .inl (gI G, 80, .inl gq_11)), (a_isKept, .inl (gZ G, 2, .inl f12))]) H := by rw [ef12]; exact hP
    have hD : va_D A ([(h1, .inr (6, [.int (nI k), .ref a_maps, .int told, .ref a_kinds, .int (nI la), .int sp, .ref a_part, v_pad, v_padMany, v_slips, v_slipMany, v_made, v_queue, v_depth, v_by, v_from, v_come, v_offOf, v_parent, v_best, v_trees, v_least, v_sums, v_toward, .ref a_kept, .ref a_isKept, .int (nI ((40 * j_p0) + 10 + 4)), .int 1])), (a_maps, .inl (gI G, 6, .inl fm)), (a_kinds, .inl (gI G, 4, .inl fk)), (a_part, .inl (gI G, 6, .inl gp_10)), (a_kept, .inl (gI G, 80, .inl gq_11)), (a_isKept, .inl (gZ G, 2, .inl f12))]) := by rw [ef12]; exact hD
    refine lv_iconst (v := 1) hx hb dX10_image_37 (by decide) ?_
    have hP9 := (hP.sub (ws' := [(h1, .inr (6, [.int (nI k), .ref a_maps, .int told, .ref a_kinds, .int (nI la), .int sp, .ref a_part, v_pad, v_padMany, v_slips, v_slipMany, v_made, v_queue, v_depth, v_by, v_from, v_come, v_offOf, v_parent, v_best, v_trees, v_least, v_sums, v_toward, .ref a_kept, .ref a_isKept, .int (nI ((40 * j_p0) + 10 + 4)), .int 1])), (a_maps, .inl (gI G, 6, .inl fm)), (a_kinds, .inl (gI G, 4, .inl fk)), (a_part, .inl (gI G, 6, .inl gp_10)), (a_kept, .inl (gI G, 80, .inl gq_11)), (a_isKept, .inl (gZ G, 2, .inl f12))]) [0, 1, 2, 3, 4, 5] rfl)
    have hD9 := (hD.sub (ws' := [(h1, .inr (6, [.int (nI k), .ref a_maps, .int told, .ref a_kinds, .int (nI la), .int sp, .ref a_part, v_pad, v_padMany, v_slips, v_slipMany, v_made, v_queue, v_depth, v_by, v_from, v_come, v_offOf, v_parent, v_best, v_trees, v_least, v_sums, v_toward, .ref a_kept, .ref a_isKept, .int (nI ((40 * j_p0) + 10 + 4)), .int 1])), (a_maps, .inl (gI G, 6, .inl fm)), (a_kinds, .inl (gI G, 4, .inl fk)), (a_part, .inl (gI G, 6, .inl gp_10)), (a_kept, .inl (gI G, 80, .inl gq_11)), (a_isKept, .inl (gZ G, 2, .inl f12))]) [0, 1, 2, 3, 4, 5] (by decide) rfl)
    exact W.iret (v := 1) hx hb hr (fun t9_ ht9_ hW9_ => ⟨⟨1, (nI ((40 * j_p0) + 10 + 4), 1, gp_10, gq_11, f12), rfl, ⟨w7.1, Or.inr ⟨j_p0, hj_p0, ej_p0, rfl, by rw [ef12, nI_clamp (by omega)], w7.2⟩⟩, by rw [ht9_]; exact hP9, hD9⟩, hS.F ht9_⟩) hS.2.2 dX10_image_38
  · refine lv_if_ne (tgt := 13) hx hb dX10_image_7 (by decide) (fun c13 => False.elim (by revert c13; decide)) (fun _ => ?_)
    refine lv_bipush (v := (-2)) hx hb dX10_image_10 (by decide) ?_
    have hP9 := (hP.sub (ws' := [(h1, .inr (6, [.int (nI k), .ref a_maps, .int told, .ref a_kinds, .int (nI la), .int sp, .ref a_part, v_pad, v_padMany, v_slips, v_slipMany, v_made, v_queue, v_depth, v_by, v_from, v_come, v_offOf, v_parent, v_best, v_trees, v_least, v_sums, v_toward, .ref a_kept, .ref a_isKept, .int ka0, .int iw0])), (a_maps, .inl (gI G, 6, .inl fm)), (a_kinds, .inl (gI G, 4, .inl fk)), (a_part, .inl (gI G, 6, .inl fp)), (a_kept, .inl (gI G, 80, .inl fq)), (a_isKept, .inl (gZ G, 2, .inl fz))]) [0, 1, 2, 3, 4, 5] rfl)
    have hD9 := (hD.sub (ws' := [(h1, .inr (6, [.int (nI k), .ref a_maps, .int told, .ref a_kinds, .int (nI la), .int sp, .ref a_part, v_pad, v_padMany, v_slips, v_slipMany, v_made, v_queue, v_depth, v_by, v_from, v_come, v_offOf, v_parent, v_best, v_trees, v_least, v_sums, v_toward, .ref a_kept, .ref a_isKept, .int ka0, .int iw0])), (a_maps, .inl (gI G, 6, .inl fm)), (a_kinds, .inl (gI G, 4, .inl fk)), (a_part, .inl (gI G, 6, .inl fp)), (a_kept, .inl (gI G, 80, .inl fq)), (a_isKept, .inl (gZ G, 2, .inl fz))]) [0, 1, 2, 3, 4, 5] (by decide) rfl)
    exact W.iret (v := (-2)) hx hb hr (fun t9_ ht9_ hW9_ => ⟨⟨(-2), (ka0, iw0, fp, fq, fz), rfl, ⟨hp, Or.inl ⟨b4, rfl, rfl, rfl⟩⟩, by rw [ht9_]; exact hP9, hD9⟩, hS.F ht9_⟩) hS.2.2 dX10_image_12

set_option maxHeartbeats 1000000 in
set_option maxRecDepth 100000 in
theorem m_restore (l : Launch) (G : Gy) (sz : Nat) (h1 : Nat) (v_pad : Value) (v_padMany : Value) (v_slips : Value) (v_slipMany : Value) (v_made : Value) (v_queue : Value) (v_depth : Value) (v_by : Value) (v_from : Value) (v_come : Value) (v_offOf : Value) (v_parent : Value) (v_best : Value) (v_trees : Value) (v_least : Value) (v_sums : Value) (v_toward : Value) (a_maps : Nat) (fm : Nat → Int32) (a_kinds : Nat) (a_kept : Nat) (a_isKept : Nat) (k : Nat) (la : Nat) (a_part : Nat) (fp : Nat → Int32) (fk : Nat → Int32) (fq : Nat → Int32) (fz : Nat → Int32) (told : Int32) (sp : Int32) (ka0 : Int32) (iw0 : Int32) (p0 : Int32) (hk2 : 2 ≤ k) (hk6 : k ≤ 6) (hp : pOK k fp) (hfm : mapsOK k fm) (hla : la < 5 ^ k) (hsp : inR sp 1 6) (hks : ∀ n : Nat, n < 2 → ¬ fz n = 0 → ∃ q, keptOK fq (40 * n) q) : Ci l G yX10_restore wsX10_restore ({ frames := 2, cells := 0, slots := 0, locals := 43 }) [.ref h1, .int p0] ([(h1, .inr (6, [.int (nI k), .ref a_maps, .int told, .ref a_kinds, .int (nI la), .int sp, .ref a_part, v_pad, v_padMany, v_slips, v_slipMany, v_made, v_queue, v_depth, v_by, v_from, v_come, v_offOf, v_parent, v_best, v_trees, v_least, v_sums, v_toward, .ref a_kept, .ref a_isKept, .int ka0, .int iw0])), (a_maps, .inl (gI G, 6, .inl fm)), (a_kinds, .inl (gI G, 4, .inl fk)), (a_part, .inl (gI G, 6, .inl fp)), (a_kept, .inl (gI G, 80, .inl fq)), (a_isKept, .inl (gZ G, 2, .inl fz))]) sz (fun (r : Int32) (u : Int32 × Int32 × Nat × Int32 × Nat × Int32 × (Nat → Int32) × (Nat → Int32) × (Nat → Int32)) => match u with | (ka1, iw1, k1, told1, la1, sp1, gm, gk, gp) => 2 ≤ k1 ∧ k1 ≤ 6 ∧ la1 < 5 ^ k1 ∧ inR sp1 1 6 ∧ mapsOK k1 gm ∧ pOK k1 gp ∧ ((((¬ inR p0 0 1 ∧ r = (-2)) ∨ ∃ j, j < 2 ∧ p0 = nI j ∧ fz j = 0 ∧ r = (-3)) ∧ k1 = k ∧ told1 = told ∧ la1 = la ∧ sp1 = sp ∧ gm = fm ∧ gk = fk) ∨ ∃ j, j < 2 ∧ p0 = nI j ∧ ¬ fz j = 0 ∧ r = 1 ∧ fq (40 * j) = nI k1 ∧ told1 = fq (40 * j + 1) ∧ fq (40 * j + 2) = nI la1 ∧ sp1 = fq (40 * j + 3) ∧ (∀ i : Nat, i < 6 → gm i = fq (40 * j + 4 + i)) ∧ ∀ i : Nat, i < 4 → gk i = fq (40 * j + 10 + i))) (fun (u : Int32 × Int32 × Nat × Int32 × Nat × Int32 × (Nat → Int32) × (Nat → Int32) × (Nat → Int32)) => match u with | (ka1, iw1, k1, told1, la1, sp1, gm, gk, gp) => [(h1, .inr (6, [.int (nI k1), .ref a_maps, .int told1, .ref a_kinds, .int (nI la1), .int sp1, .ref a_part, v_pad, v_padMany, v_slips, v_slipMany, v_made, v_queue, v_depth, v_by, v_from, v_come, v_offOf, v_parent, v_best, v_trees, v_least, v_sums, v_toward, .ref a_kept, .ref a_isKept, .int ka1, .int iw1])), (a_maps, .inl (gI G, 6, .inl gm)), (a_kinds, .inl (gI G, 4, .inl gk)), (a_part, .inl (gI G, 6, .inl gp)), (a_kept, .inl (gI G, 80, .inl fq)), (a_isKept, .inl (gZ G, 2, .inl fz))]) 0 0 := by
  refine Met.ofW (cc := cX10_restore) (maxL := 2) (ret := (some .int)) (by decide) rfl ?_
  intro p e s m args below meth c s₁ B hml hv
  obtain ⟨rfl, hsz, hP, hD0, E0⟩ := hv
  have hx := B.exec
  have hb := B.bytes
  have hr := B.returns
  have hts := atoms_spec (ws := wsX10_restore) B.pre
  have hown : s.vm.findClass RX10 = some m.cls := findClass_of_methodNamed B.named
  have hlocks := B.notSynchronized
  subst hsz
  have hD := hD0.self (sz := s.heap.size)
  generalize hAe : va_A ([(h1, .inr (6, [.int (nI k), .ref a_maps, .int told, .ref a_kinds, .int (nI la), .int sp, .ref a_part, v_pad, v_padMany, v_slips, v_slipMany, v_made, v_queue, v_depth, v_by, v_from, v_come, v_offOf, v_parent, v_best, v_trees, v_least, v_sums, v_toward, .ref a_kept, .ref a_isKept, .int ka0, .int iw0])), (a_maps, .inl (gI G, 6, .inl fm)), (a_kinds, .inl (gI G, 4, .inl fk)), (a_part, .inl (gI G, 6, .inl fp)), (a_kept, .inl (gI G, 80, .inl fq)), (a_isKept, .inl (gZ G, 2, .inl fz))]) s.heap.size = A at hD E0 ⊢
  have E : EV G A s s.heap := E0
  have hA : ∀ q : Nat, s.heap.size ≤ q → A q := fun q h => by rw [← hAe]; exact Or.inr h
  have hS : va_S A s.heap s.heap [] := va_S.rf
  have hl := lv_entry ([.ref h1, .int p0]) (n := 2) (Nat.le_of_ble_eq_true rfl)
  rw [lg_entry_eq]
  generalize (lg_sl ([.ref h1, .int p0]) ++ List.replicate (2 - (lg_sl ([.ref h1, .int p0])).length) Slot.unset).toArray = ls at hl ⊢
  have hl : lv_has ls 2 [(0, .ref h1), (1, .int p0)] := hl
  have hP : va_P G.1 vwCl ([(h1, .inr (6, [.int (nI k), .ref a_maps, .int told, .ref a_kinds, .int (nI la), .int sp, .ref a_part, v_pad, v_padMany, v_slips, v_slipMany, v_made, v_queue, v_depth, v_by, v_from, v_come, v_offOf, v_parent, v_best, v_trees, v_least, v_sums, v_toward, .ref a_kept, .ref a_isKept, .int ka0, .int iw0])), (a_maps, .inl (gI G, 6, .inl fm)), (a_kinds, .inl (gI G, 4, .inl fk)), (a_part, .inl (gI G, 6, .inl fp)), (a_kept, .inl (gI G, 80, .inl fq)), (a_isKept, .inl (gZ G, 2, .inl fz))]) s.heap := hP
  refine lv_iload_n hx hb dX10_restore_0 rfl (lv_at hl 1 rfl) ?_
  refine lv_i2l hx hb dX10_restore_1 rfl ?_
  refine lv_topl (fun x1 ex1 => ?_)
  refine lv_lconst (v := 0) hx hb dX10_restore_2 (by decide) ?_
  refine lv_lconst (v := 1) hx hb dX10_restore_3 (by decide) ?_
  refine ca_iR (va_runS (As := [.long x1, .long 0, .long 1]) (rest := []) ⟨hx, hb, hml, hown, hts⟩ (m_in l G s.heap.size x1 0 1 p0 0 1 ex1 (by decide) (by decide)) (va_cwS 3 hts gX10_restore_X10_in rfl rfl rfl (by decide +kernel) ⟨by decide +kernel, by decide +kernel⟩) (pre_S E hP hD hS hA [] (by decide) rfl) rfl rfl hl.1 rfl (lv_room (Nat.le_of_ble_eq_true rfl)) dX10_restore_4 ⟨by decide +kernel, by decide +kernel⟩) hS hP hD hA [] rfl (fun r3 _ H locs w2 hP hS => ?_)
  rcases w2 with ⟨rfl, b4⟩ | ⟨rfl, b4⟩
  · refine lv_if_ne (tgt := 13) hx hb dX10_restore_7 (by decide) (fun _ => ?_) (fun c5 => False.elim (by revert c5; decide))
    obtain ⟨j_p0, hj_p0, ej_p0⟩ := inR2 b4
    have hl : lv_has ls 2 [(0, .ref h1), (1, .int (nI j_p0))] := by have q := hl; rw [ej_p0] at q; exact q
    refine lv_aload_n hx hb dX10_restore_13 rfl (lv_at hl 0 rfl) ?_
    refine va_get (D := G.1) (ci := 6) (v := .ref a_isKept) (C := RX10) (T := TX10) (N := 28) hx hb hts (fun _ h => List.mem_cons_of_mem _ (List.mem_append_right _ h)) hown E.K hP 0 rfl rfl 25 (by decide) (hts (.fieldLink RX10 55 "LastMapModel" "isKept" "[Z") (by decide +kernel)) (fun _ h9 => h9) rfl dX10_restore_14 ?_
    refine lv_iload_n hx hb dX10_restore_17 rfl (lv_at hl 1 rfl) ?_
    refine va_zald hx hb E.K hP 5 2 rfl rfl (i := nI j_p0) (vp_in_nI (by omega) (by decide)) dX10_restore_18 ?_
    refine lv_topi (fun x6 ex6 => ?_)
    refine lv_if_ne (tgt := 25) hx hb dX10_restore_19 (by decide) (fun c7 => ?_) (fun c7 => ?_)
    · have hz9 : ¬ fz j_p0 = 0 := by have q9 := c7; rw [ex6, nI_clamp (by omega)] at q9; exact q9
      obtain ⟨k9, hko⟩ := hks j_p0 hj_p0 hz9
      obtain ⟨hk29, hk69, hk09, ⟨la9, hla9, ela9⟩, hsp9, hfm9⟩ := id hko
      refine lv_aload_n hx hb dX10_restore_25 rfl (lv_at hl 0 rfl) ?_
      refine lv_bipush (v := 40) hx hb dX10_restore_26 (by decide) ?_
      refine lv_iload_n hx hb dX10_restore_28 rfl (lv_at hl 1 rfl) ?_
      refine lv_imul hx hb dX10_restore_29 ?_
      refine lv_topi (fun x8 ex8 => ?_)
      obtain rfl : x8 = nI (40 * j_p0) := by rw [ex8]; exact pk_mul 40 j_p0
      refine va_put (D := G.1) (ci := 6) (v := .int (nI (40 * j_p0))) (ty := .int) (C := RX10) (T := TX10) (N := 28) hx hb hts (fun _ h => List.mem_cons_of_mem _ (List.mem_append_right _ h)) tyX10 tyX10_ok nmX10 hown E.K hP hD hS 0 rfl rfl 26 (by decide) (hts (.fieldLink RX10 247 "LastMapModel" "keptAt" "I") (by decide +kernel)) (fun _ h9 => h9) rfl (by decide +kernel) rfl rfl (Nat.le_of_ble_eq_true rfl) dX10_restore_30 (fun H locs hP hD hS => ?_)
      have hP : va_P G.1 vwCl ([(h1, .inr (6, [.int (nI k), .ref a_maps, .int told, .ref a_kinds, .int (nI la), .int sp, .ref a_part, v_pad, v_padMany, v_slips, v_slipMany, v_made, v_queue, v_depth, v_by, v_from, v_come, v_offOf, v_parent, v_best, v_trees, v_least, v_sums, v_toward, .ref a_kept, .ref a_isKept, .int (nI (40 * j_p0)), .int iw0])), (a_maps, .inl (gI G, 6, .inl fm)), (a_kinds, .inl (gI G, 4, .inl fk)), (a_part, .inl (gI G, 6, .inl fp)), (a_kept, .inl (gI G, 80, .inl fq)), (a_isKept, .inl (gZ G, 2, .inl fz))]) H := hP
      have hD : va_D A ([(h1, .inr (6, [.int (nI k), .ref a_maps, .int told, .ref a_kinds, .int (nI la), .int sp, .ref a_part, v_pad, v_padMany, v_slips, v_slipMany, v_made, v_queue, v_depth, v_by, v_from, v_come, v_offOf, v_parent, v_best, v_trees, v_least, v_sums, v_toward, .ref a_kept, .ref a_isKept, .int (nI (40 * j_p0)), .int iw0])), (a_maps, .inl (gI G, 6, .inl fm)), (a_kinds, .inl (gI G, 4, .inl fk)), (a_part, .inl (gI G, 6, .inl fp)), (a_kept, .inl (gI G, 80, .inl fq)), (a_isKept, .inl (gZ G, 2, .inl fz))]) := hD
      refine lv_aload_n hx hb dX10_restore_33 rfl (lv_at hl 0 rfl) ?_
      refine lv_iconst (v := 0) hx hb dX10_restore_34 (by decide) ?_
      refine va_put (D := G.1) (ci := 6) (v := .int 0) (ty := .boolean) (C := RX10) (T := TX10) (N := 28) hx hb hts (fun _ h => List.mem_cons_of_mem _ (List.mem_append_right _ h)) tyX10 tyX10_ok nmX10 hown E.K hP hD hS 0 rfl rfl 27 (by decide) (hts (.fieldLink RX10 243 "LastMapModel" "isWriting" "Z") (by decide +kernel)) (fun _ h9 => h9) rfl (by decide +kernel) rfl rfl (Nat.le_of_ble_eq_true rfl) dX10_restore_35 (fun H locs hP hD hS => ?_)
      have hP : va_P G.1 vwCl ([(h1, .inr (6, [.int (nI k), .ref a_maps, .int told, .ref a_kinds, .int (nI la), .int sp, .ref a_part, v_pad, v_padMany, v_slips, v_slipMany, v_made, v_queue, v_depth, v_by, v_from, v_come, v_offOf, v_parent, v_best, v_trees, v_least, v_sums, v_toward, .ref a_kept, .ref a_isKept, .int (nI (40 * j_p0)), .int 0])), (a_maps, .inl (gI G, 6, .inl fm)), (a_kinds, .inl (gI G, 4, .inl fk)), (a_part, .inl (gI G, 6, .inl fp)), (a_kept, .inl (gI G, 80, .inl fq)), (a_isKept, .inl (gZ G, 2, .inl fz))]) H := hP
      have hD : va_D A ([(h1, .inr (6, [.int (nI k), .ref a_maps, .int told, .ref a_kinds, .int (nI la), .int sp, .ref a_part, v_pad, v_padMany, v_slips, v_slipMany, v_made, v_queue, v_depth, v_by, v_from, v_come, v_offOf, v_parent, v_best, v_trees, v_least, v_sums, v_toward, .ref a_kept, .ref a_isKept, .int (nI (40 * j_p0)), .int 0])), (a_maps, .inl (gI G, 6, .inl fm)), (a_kinds, .inl (gI G, 4, .inl fk)), (a_part, .inl (gI G, 6, .inl fp)), (a_kept, .inl (gI G, 80, .inl fq)), (a_isKept, .inl (gZ G, 2, .inl fz))]) := hD
      refine lv_aload_n hx hb dX10_restore_38 rfl (lv_at hl 0 rfl) ?_
      refine ca_v (wr := [(a_isKept, .inl (gZ G, 2, .inl fz))]) (va_runV (As := []) (rest := []) ⟨hx, hb, hml, hown, hts⟩ (m_passAll_r l G H.size h1 v_pad v_padMany v_slips v_slipMany v_made v_queue v_depth v_by v_from v_come v_offOf v_parent v_best v_trees v_least v_sums v_toward (.ref a_isKept) a_maps fm a_kinds a_kept (40 * j_p0) k9 a_part fp fk fq (nI k) told (nI la) sp hk29 hk69 (by omega) hk09) (cwV 0 hts gX10_restore_X10_passAll rfl rfl rfl (by decide +kernel) ⟨by decide +kernel, by decide +kernel⟩) (pre_V E hP hD hS hA [0, 1, 2, 3, 4] (by decide) rfl 0 6 rfl rfl) rfl rfl hl.1 rfl (lv_room (Nat.le_of_ble_eq_true rfl)) dX10_restore_39 ⟨by decide +kernel, by decide +kernel⟩) hS hP hD hA [0, 1, 2, 3, 4] [5] rfl rfl (by decide) (by decide) (fun u11 H locs w9 hP hD hS => ?_)
      obtain ⟨t1_12, l1_13, s1_14, gm_15, gk_16, gp_17⟩ := u11
      try dsimp only at w9 hP hD
      have hP := (hP.sub (ws' := [(h1, .inr (6, [.int (nI k9), .ref a_maps, .int t1_12, .ref a_kinds, .int l1_13, .int s1_14, .ref a_part, v_pad, v_padMany, v_slips, v_slipMany, v_made, v_queue, v_depth, v_by, v_from, v_come, v_offOf, v_parent, v_best, v_trees, v_least, v_sums, v_toward, .ref a_kept, .ref a_isKept, .int (nI ((40 * j_p0) + 10 + 4)), .int 0])), (a_maps, .inl (gI G, 6, .inl gm_15)), (a_kinds, .inl (gI G, 4, .inl gk_16)), (a_part, .inl (gI G, 6, .inl gp_17)), (a_kept, .inl (gI G, 80, .inl fq)), (a_isKept, .inl (gZ G, 2, .inl fz))]) [1, 2, 3, 4, 5, 0] rfl)
      have hD := (hD.sub (ws' := [(h1, .inr (6, [.int (nI k9), .ref a_maps, .int t1_12, .ref a_kinds, .int l1_13, .int s1_14, .ref a_part, v_pad, v_padMany, v_slips, v_slipMany, v_made, v_queue, v_depth, v_by, v_from, v_come, v_offOf, v_parent, v_best, v_trees, v_least, v_sums, v_toward, .ref a_kept, .ref a_isKept, .int (nI ((40 * j_p0) + 10 + 4)), .int 0])), (a_maps, .inl (gI G, 6, .inl gm_15)), (a_kinds, .inl (gI G, 4, .inl gk_16)), (a_part, .inl (gI G, 6, .inl gp_17)), (a_kept, .inl (gI G, 80, .inl fq)), (a_isKept, .inl (gZ G, 2, .inl fz))]) [1, 2, 3, 4, 5, 0] (by decide) rfl)
      obtain rfl : l1_13 = nI la9 := by rw [w9.2.1]; exact ela9
      have hP : va_P G.1 vwCl ([(h1, .inr (6, [.int (nI k9), .ref a_maps, .int t1_12, .ref a_kinds, .int (nI la9), .int s1_14, .ref a_part, v_pad, v_padMany, v_slips, v_slipMany, v_made, v_queue, v_depth, v_by, v_from, v_come, v_offOf, v_parent, v_best, v_trees, v_least, v_sums, v_toward, .ref a_kept, .ref a_isKept, .int (nI ((40 * j_p0) + 10 + 4)), .int 0])), (a_maps, .inl (gI G, 6, .inl gm_15)), (a_kinds, .inl (gI G, 4, .inl gk_16)), (a_part, .inl (gI G, 6, .inl gp_17)), (a_kept, .inl (gI G, 80, .inl fq)), (a_isKept, .inl (gZ G, 2, .inl fz))]) H := hP
      have hD : va_D A ([(h1, .inr (6, [.int (nI k9), .ref a_maps, .int t1_12, .ref a_kinds, .int (nI la9), .int s1_14, .ref a_part, v_pad, v_padMany, v_slips, v_slipMany, v_made, v_queue, v_depth, v_by, v_from, v_come, v_offOf, v_parent, v_best, v_trees, v_least, v_sums, v_toward, .ref a_kept, .ref a_isKept, .int (nI ((40 * j_p0) + 10 + 4)), .int 0])), (a_maps, .inl (gI G, 6, .inl gm_15)), (a_kinds, .inl (gI G, 4, .inl gk_16)), (a_part, .inl (gI G, 6, .inl gp_17)), (a_kept, .inl (gI G, 80, .inl fq)), (a_isKept, .inl (gZ G, 2, .inl fz))]) := hD
      refine lv_iconst (v := 1) hx hb dX10_restore_42 (by decide) ?_
      have hP9 := (hP.sub (ws' := [(h1, .inr (6, [.int (nI k9), .ref a_maps, .int t1_12, .ref a_kinds, .int (nI la9), .int s1_14, .ref a_part, v_pad, v_padMany, v_slips, v_slipMany, v_made, v_queue, v_depth, v_by, v_from, v_come, v_offOf, v_parent, v_best, v_trees, v_least, v_sums, v_toward, .ref a_kept, .ref a_isKept, .int (nI ((40 * j_p0) + 10 + 4)), .int 0])), (a_maps, .inl (gI G, 6, .inl gm_15)), (a_kinds, .inl (gI G, 4, .inl gk_16)), (a_part, .inl (gI G, 6, .inl gp_17)), (a_kept, .inl (gI G, 80, .inl fq)), (a_isKept, .inl (gZ G, 2, .inl fz))]) [0, 1, 2, 3, 4, 5] rfl)
      have hD9 := (hD.sub (ws' := [(h1, .inr (6, [.int (nI k9), .ref a_maps, .int t1_12, .ref a_kinds, .int (nI la9), .int s1_14, .ref a_part, v_pad, v_padMany, v_slips, v_slipMany, v_made, v_queue, v_depth, v_by, v_from, v_come, v_offOf, v_parent, v_best, v_trees, v_least, v_sums, v_toward, .ref a_kept, .ref a_isKept, .int (nI ((40 * j_p0) + 10 + 4)), .int 0])), (a_maps, .inl (gI G, 6, .inl gm_15)), (a_kinds, .inl (gI G, 4, .inl gk_16)), (a_part, .inl (gI G, 6, .inl gp_17)), (a_kept, .inl (gI G, 80, .inl fq)), (a_isKept, .inl (gZ G, 2, .inl fz))]) [0, 1, 2, 3, 4, 5] (by decide) rfl)
      exact W.iret (v := 1) hx hb hr (fun t9_ ht9_ hW9_ => ⟨⟨1, (nI ((40 * j_p0) + 10 + 4), 0, k9, t1_12, la9, s1_14, gm_15, gk_16, gp_17), rfl, ⟨hk29, hk69, hla9, by rw [w9.2.2.1]; exact hsp9, fun j hj => by rw [w9.2.2.2.1 j hj]; exact hfm9 j hj, w9.2.2.2.2.2, Or.inr ⟨j_p0, hj_p0, ej_p0, hz9, rfl, hk09, w9.1, ela9, w9.2.2.1, w9.2.2.2.1, w9.2.2.2.2.1⟩⟩, by rw [ht9_]; exact hP9, hD9⟩, hS.F ht9_⟩) hS.2.2 dX10_restore_43
    · refine lv_bipush (v := (-3)) hx hb dX10_restore_22 (by decide) ?_
      have hP9 := (hP.sub (ws' := [(h1, .inr (6, [.int (nI k), .ref a_maps, .int told, .ref a_kinds, .int (nI la), .int sp, .ref a_part, v_pad, v_padMany, v_slips, v_slipMany, v_made, v_queue, v_depth, v_by, v_from, v_come, v_offOf, v_parent, v_best, v_trees, v_least, v_sums, v_toward, .ref a_kept, .ref a_isKept, .int ka0, .int iw0])), (a_maps, .inl (gI G, 6, .inl fm)), (a_kinds, .inl (gI G, 4, .inl fk)), (a_part, .inl (gI G, 6, .inl fp)), (a_kept, .inl (gI G, 80, .inl fq)), (a_isKept, .inl (gZ G, 2, .inl fz))]) [0, 1, 2, 3, 4, 5] rfl)
      have hD9 := (hD.sub (ws' := [(h1, .inr (6, [.int (nI k), .ref a_maps, .int told, .ref a_kinds, .int (nI la), .int sp, .ref a_part, v_pad, v_padMany, v_slips, v_slipMany, v_made, v_queue, v_depth, v_by, v_from, v_come, v_offOf, v_parent, v_best, v_trees, v_least, v_sums, v_toward, .ref a_kept, .ref a_isKept, .int ka0, .int iw0])), (a_maps, .inl (gI G, 6, .inl fm)), (a_kinds, .inl (gI G, 4, .inl fk)), (a_part, .inl (gI G, 6, .inl fp)), (a_kept, .inl (gI G, 80, .inl fq)), (a_isKept, .inl (gZ G, 2, .inl fz))]) [0, 1, 2, 3, 4, 5] (by decide) rfl)
      exact W.iret (v := (-3)) hx hb hr (fun t9_ ht9_ hW9_ => ⟨⟨(-3), (ka0, iw0, k, told, la, sp, fm, fk, fp), rfl, ⟨hk2, hk6, hla, hsp, hfm, hp, Or.inl ⟨Or.inr ⟨j_p0, hj_p0, ej_p0, by have q9 := c7; rw [ex6, nI_clamp (by omega)] at q9; exact q9, rfl⟩, rfl, rfl, rfl, rfl, rfl, rfl⟩⟩, by rw [ht9_]; exact hP9, hD9⟩, hS.F ht9_⟩) hS.2.2 dX10_restore_24
  · refine lv_if_ne (tgt := 13) hx hb dX10_restore_7 (by decide) (fun c18 => False.elim (by revert c18; decide)) (fun _ => ?_)
    refine lv_bipush (v := (-2)) hx hb dX10_restore_10 (by decide) ?_
    have hP9 := (hP.sub (ws' := [(h1, .inr (6, [.int (nI k), .ref a_maps, .int told, .ref a_kinds, .int (nI la), .int sp, .ref a_part, v_pad, v_padMany, v_slips, v_slipMany, v_made, v_queue, v_depth, v_by, v_from, v_come, v_offOf, v_parent, v_best, v_trees, v_least, v_sums, v_toward, .ref a_kept, .ref a_isKept, .int ka0, .int iw0])), (a_maps, .inl (gI G, 6, .inl fm)), (a_kinds, .inl (gI G, 4, .inl fk)), (a_part, .inl (gI G, 6, .inl fp)), (a_kept, .inl (gI G, 80, .inl fq)), (a_isKept, .inl (gZ G, 2, .inl fz))]) [0, 1, 2, 3, 4, 5] rfl)
    have hD9 := (hD.sub (ws' := [(h1, .inr (6, [.int (nI k), .ref a_maps, .int told, .ref a_kinds, .int (nI la), .int sp, .ref a_part, v_pad, v_padMany, v_slips, v_slipMany, v_made, v_queue, v_depth, v_by, v_from, v_come, v_offOf, v_parent, v_best, v_trees, v_least, v_sums, v_toward, .ref a_kept, .ref a_isKept, .int ka0, .int iw0])), (a_maps, .inl (gI G, 6, .inl fm)), (a_kinds, .inl (gI G, 4, .inl fk)), (a_part, .inl (gI G, 6, .inl fp)), (a_kept, .inl (gI G, 80, .inl fq)), (a_isKept, .inl (gZ G, 2, .inl fz))]) [0, 1, 2, 3, 4, 5] (by decide) rfl)
    exact W.iret (v := (-2)) hx hb hr (fun t9_ ht9_ hW9_ => ⟨⟨(-2), (ka0, iw0, k, told, la, sp, fm, fk, fp), rfl, ⟨hk2, hk6, hla, hsp, hfm, hp, Or.inl ⟨Or.inl ⟨b4, rfl⟩, rfl, rfl, rfl, rfl, rfl, rfl⟩⟩, by rw [ht9_]; exact hP9, hD9⟩, hS.F ht9_⟩) hS.2.2 dX10_restore_12

noncomputable def tdA (p0 : Int32) (fk : Nat → Int32) (pm k : Nat) (told sp : Int32) : Int32 := cIf (inR p0 10 13) (fk (p0 - 10).toNatClampNeg) (cIf (p0 = 0) (nI pm) (cIf (p0 = 1) (nI k) (cIf (p0 = 2) told (cIf (p0 = 3) sp (-2)))))

set_option maxHeartbeats 1000000 in
set_option maxRecDepth 100000 in
theorem m_told (l : Launch) (G : Gy) (sz : Nat) (h1 : Nat) (v_maps : Value) (v_land : Value) (v_part : Value) (v_pad : Value) (v_slips : Value) (v_slipMany : Value) (v_made : Value) (v_queue : Value) (v_depth : Value) (v_by : Value) (v_from : Value) (v_come : Value) (v_offOf : Value) (v_parent : Value) (v_best : Value) (v_trees : Value) (v_least : Value) (v_sums : Value) (v_toward : Value) (v_kept : Value) (v_isKept : Value) (v_keptAt : Value) (v_isWriting : Value) (a_kinds : Nat) (k : Nat) (pm : Nat) (fk : Nat → Int32) (told : Int32) (sp : Int32) (p0 : Int32)  : Ci l G yX10_told wsX10_told ({ frames := 1, cells := 0, slots := 0, locals := 25 }) [.ref h1, .int p0] ([(h1, .inr (6, [.int (nI k), v_maps, .int told, .ref a_kinds, v_land, .int sp, v_part, v_pad, .int (nI pm), v_slips, v_slipMany, v_made, v_queue, v_depth, v_by, v_from, v_come, v_offOf, v_parent, v_best, v_trees, v_least, v_sums, v_toward, v_kept, v_isKept, v_keptAt, v_isWriting])), (a_kinds, .inl (gI G, 4, .inl fk))]) sz (fun (r : Int32) (_ : Unit) => r = tdA p0 fk pm k told sp) (fun (_ : Unit) => [(h1, .inr (6, [.int (nI k), v_maps, .int told, .ref a_kinds, v_land, .int sp, v_part, v_pad, .int (nI pm), v_slips, v_slipMany, v_made, v_queue, v_depth, v_by, v_from, v_come, v_offOf, v_parent, v_best, v_trees, v_least, v_sums, v_toward, v_kept, v_isKept, v_keptAt, v_isWriting])), (a_kinds, .inl (gI G, 4, .inl fk))]) 0 0 := by
  refine Met.ofW (cc := cX10_told) (maxL := 2) (ret := (some .int)) (by decide) rfl ?_
  intro p e s m args below meth c s₁ B hml hv
  obtain ⟨rfl, hsz, hP, hD0, E0⟩ := hv
  have hx := B.exec
  have hb := B.bytes
  have hr := B.returns
  have hts := atoms_spec (ws := wsX10_told) B.pre
  have hown : s.vm.findClass RX10 = some m.cls := findClass_of_methodNamed B.named
  have hlocks := B.notSynchronized
  subst hsz
  have hD := hD0.self (sz := s.heap.size)
  generalize hAe : va_A ([(h1, .inr (6, [.int (nI k), v_maps, .int told, .ref a_kinds, v_land, .int sp, v_part, v_pad, .int (nI pm), v_slips, v_slipMany, v_made, v_queue, v_depth, v_by, v_from, v_come, v_offOf, v_parent, v_best, v_trees, v_least, v_sums, v_toward, v_kept, v_isKept, v_keptAt, v_isWriting])), (a_kinds, .inl (gI G, 4, .inl fk))]) s.heap.size = A at hD E0 ⊢
  have E : EV G A s s.heap := E0
  have hA : ∀ q : Nat, s.heap.size ≤ q → A q := fun q h => by rw [← hAe]; exact Or.inr h
  have hS : va_S A s.heap s.heap [] := va_S.rf
  have hl := lv_entry ([.ref h1, .int p0]) (n := 2) (Nat.le_of_ble_eq_true rfl)
  rw [lg_entry_eq]
  generalize (lg_sl ([.ref h1, .int p0]) ++ List.replicate (2 - (lg_sl ([.ref h1, .int p0])).length) Slot.unset).toArray = ls at hl ⊢
  have hl : lv_has ls 2 [(0, .ref h1), (1, .int p0)] := hl
  have hP : va_P G.1 vwCl ([(h1, .inr (6, [.int (nI k), v_maps, .int told, .ref a_kinds, v_land, .int sp, v_part, v_pad, .int (nI pm), v_slips, v_slipMany, v_made, v_queue, v_depth, v_by, v_from, v_come, v_offOf, v_parent, v_best, v_trees, v_least, v_sums, v_toward, v_kept, v_isKept, v_keptAt, v_isWriting])), (a_kinds, .inl (gI G, 4, .inl fk))]) s.heap := hP
  refine lv_iload_n hx hb dX10_told_0 rfl (lv_at hl 1 rfl) ?_
  refine lv_i2l hx hb dX10_told_1 rfl ?_
  refine lv_topl (fun x1 ex1 => ?_)
  refine lv_ldc2 (v := 10) hx hb hown (hts (.constantLong RX10 256 (10)) (by decide +kernel)) dX10_told_2 ?_
  refine lv_ldc2 (v := 13) hx hb hown (hts (.constantLong RX10 258 (13)) (by decide +kernel)) dX10_told_5 ?_
  refine ca_iR (va_runS (As := [.long x1, .long 10, .long 13]) (rest := []) ⟨hx, hb, hml, hown, hts⟩ (m_in l G s.heap.size x1 10 13 p0 10 13 ex1 (by decide) (by decide)) (va_cwS 3 hts gX10_told_X10_in rfl rfl rfl (by decide +kernel) ⟨by decide +kernel, by decide +kernel⟩) (pre_S E hP hD hS hA [] (by decide) rfl) rfl rfl hl.1 rfl (lv_room (Nat.le_of_ble_eq_true rfl)) dX10_told_8 ⟨by decide +kernel, by decide +kernel⟩) hS hP hD hA [] rfl (fun r3 _ H locs w2 hP hS => ?_)
  rcases w2 with ⟨rfl, b4⟩ | ⟨rfl, b4⟩
  · refine lv_if_eq (tgt := 24) hx hb dX10_told_11 (by decide) (fun c5 => False.elim (by revert c5; decide)) (fun _ => ?_)
    refine lv_aload_n hx hb dX10_told_14 rfl (lv_at hl 0 rfl) ?_
    refine va_get (D := G.1) (ci := 6) (v := .ref a_kinds) (C := RX10) (T := TX10) (N := 28) hx hb hts (fun _ h => List.mem_cons_of_mem _ (List.mem_append_right _ h)) hown E.K hP 0 rfl rfl 3 (by decide) (hts (.fieldLink RX10 13 "LastMapModel" "kinds" "[I") (by decide +kernel)) (fun _ h9 => h9) rfl dX10_told_15 ?_
    refine lv_iload_n hx hb dX10_told_18 rfl (lv_at hl 1 rfl) ?_
    refine lv_bipush (v := 10) hx hb dX10_told_19 (by decide) ?_
    refine lv_isub hx hb dX10_told_21 ?_
    refine lv_topi (fun x6 ex6 => ?_)
    refine va_iald hx hb E.K hP 1 1 rfl rfl (i := x6) (vp_in_iff.mpr (by rw [ex6, sub10 (x := p0) (by first | assumption | ((try simp only [inR, inS, i3_lt, i3_le, i3_eq, i6_lt, i6_le, Int32.toInt_toInt64, lg_cmp_lt, lg_cmp_gt, lg_cmp_ge, lg_cmp_le, Int32.reduceToInt, Int64.reduceToInt] at b4 ⊢); omega))]; ((try simp only [inR, inS, i3_lt, i3_le, i3_eq, i6_lt, i6_le, Int32.toInt_toInt64, lg_cmp_lt, lg_cmp_gt, lg_cmp_ge, lg_cmp_le, Int32.reduceToInt, Int64.reduceToInt] at b4 ⊢); omega))) dX10_told_22 ?_
    refine lv_topi (fun x7 ex7 => ?_)
    have hP9 := (hP.sub (ws' := [(h1, .inr (6, [.int (nI k), v_maps, .int told, .ref a_kinds, v_land, .int sp, v_part, v_pad, .int (nI pm), v_slips, v_slipMany, v_made, v_queue, v_depth, v_by, v_from, v_come, v_offOf, v_parent, v_best, v_trees, v_least, v_sums, v_toward, v_kept, v_isKept, v_keptAt, v_isWriting])), (a_kinds, .inl (gI G, 4, .inl fk))]) [0, 1] rfl)
    have hD9 := (hD.sub (ws' := [(h1, .inr (6, [.int (nI k), v_maps, .int told, .ref a_kinds, v_land, .int sp, v_part, v_pad, .int (nI pm), v_slips, v_slipMany, v_made, v_queue, v_depth, v_by, v_from, v_come, v_offOf, v_parent, v_best, v_trees, v_least, v_sums, v_toward, v_kept, v_isKept, v_keptAt, v_isWriting])), (a_kinds, .inl (gI G, 4, .inl fk))]) [0, 1] (by decide) rfl)
    exact W.iret (v := x7) hx hb hr (fun t9_ ht9_ hW9_ => ⟨⟨x7, (), rfl, by dsimp only; (try simp only [ex1, ex6, ex7]); symm; unfold tdA; (repeat (first | (refine Eq.trans (cIf_t ?_) ?_; · first | assumption | ((try simp only [inR, inS, i3_lt, i3_le, i3_eq, i6_lt, i6_le, Int32.toInt_toInt64, lg_cmp_lt, lg_cmp_gt, lg_cmp_ge, lg_cmp_le, Int32.reduceToInt, Int64.reduceToInt] at b4 ⊢); omega)) | (refine Eq.trans (cIf_f ?_) ?_; · first | assumption | ((try simp only [inR, inS, i3_lt, i3_le, i3_eq, i6_lt, i6_le, Int32.toInt_toInt64, lg_cmp_lt, lg_cmp_gt, lg_cmp_ge, lg_cmp_le, Int32.reduceToInt, Int64.reduceToInt] at b4 ⊢); omega)))); first | rfl | (exfalso; ((try simp only [inR, inS, i3_lt, i3_le, i3_eq, i6_lt, i6_le, Int32.toInt_toInt64, lg_cmp_lt, lg_cmp_gt, lg_cmp_ge, lg_cmp_le, Int32.reduceToInt, Int64.reduceToInt] at b4); omega)), by rw [ht9_]; exact hP9, hD9⟩, hS.F ht9_⟩) hS.2.2 dX10_told_23
  · refine lv_if_eq (tgt := 24) hx hb dX10_told_11 (by decide) (fun _ => ?_) (fun c8 => False.elim (by revert c8; decide))
    refine lv_iload_n hx hb dX10_told_24 rfl (lv_at hl 1 rfl) ?_
    refine lv_if_ne (tgt := 35) hx hb dX10_told_25 (by decide) (fun c9 => ?_) (fun c9 => ?_)
    · refine lv_iload_n hx hb dX10_told_35 rfl (lv_at hl 1 rfl) ?_
      refine lv_iconst (v := 1) hx hb dX10_told_36 (by decide) ?_
      refine lv_icmp_ne (tgt := 47) hx hb dX10_told_37 (by decide) (fun c10 => ?_) (fun c10 => ?_)
      · refine lv_iload_n hx hb dX10_told_47 rfl (lv_at hl 1 rfl) ?_
        refine lv_iconst (v := 2) hx hb dX10_told_48 (by decide) ?_
        refine lv_icmp_ne (tgt := 59) hx hb dX10_told_49 (by decide) (fun c11 => ?_) (fun c11 => ?_)
        · refine lv_iload_n hx hb dX10_told_59 rfl (lv_at hl 1 rfl) ?_
          refine lv_iconst (v := 3) hx hb dX10_told_60 (by decide) ?_
          refine lv_icmp_ne (tgt := 71) hx hb dX10_told_61 (by decide) (fun c12 => ?_) (fun c12 => ?_)
          · refine lv_bipush (v := (-2)) hx hb dX10_told_71 (by decide) ?_
            have hP9 := (hP.sub (ws' := [(h1, .inr (6, [.int (nI k), v_maps, .int told, .ref a_kinds, v_land, .int sp, v_part, v_pad, .int (nI pm), v_slips, v_slipMany, v_made, v_queue, v_depth, v_by, v_from, v_come, v_offOf, v_parent, v_best, v_trees, v_least, v_sums, v_toward, v_kept, v_isKept, v_keptAt, v_isWriting])), (a_kinds, .inl (gI G, 4, .inl fk))]) [0, 1] rfl)
            have hD9 := (hD.sub (ws' := [(h1, .inr (6, [.int (nI k), v_maps, .int told, .ref a_kinds, v_land, .int sp, v_part, v_pad, .int (nI pm), v_slips, v_slipMany, v_made, v_queue, v_depth, v_by, v_from, v_come, v_offOf, v_parent, v_best, v_trees, v_least, v_sums, v_toward, v_kept, v_isKept, v_keptAt, v_isWriting])), (a_kinds, .inl (gI G, 4, .inl fk))]) [0, 1] (by decide) rfl)
            exact W.iret (v := (-2)) hx hb hr (fun t9_ ht9_ hW9_ => ⟨⟨(-2), (), rfl, by dsimp only; (try simp only [ex1]); symm; unfold tdA; (repeat (first | (refine Eq.trans (cIf_t ?_) ?_; · first | assumption | ((try simp only [inR, inS, i3_lt, i3_le, i3_eq, i6_lt, i6_le, Int32.toInt_toInt64, lg_cmp_lt, lg_cmp_gt, lg_cmp_ge, lg_cmp_le, Int32.reduceToInt, Int64.reduceToInt] at b4 c9 c10 c11 c12 ⊢); omega)) | (refine Eq.trans (cIf_f ?_) ?_; · first | assumption | ((try simp only [inR, inS, i3_lt, i3_le, i3_eq, i6_lt, i6_le, Int32.toInt_toInt64, lg_cmp_lt, lg_cmp_gt, lg_cmp_ge, lg_cmp_le, Int32.reduceToInt, Int64.reduceToInt] at b4 c9 c10 c11 c12 ⊢); omega)))); first | rfl | (exfalso; ((try simp only [inR, inS, i3_lt, i3_le, i3_eq, i6_lt, i6_le, Int32.toInt_toInt64, lg_cmp_lt, lg_cmp_gt, lg_cmp_ge, lg_cmp_le, Int32.reduceToInt, Int64.reduceToInt] at b4 c9 c10 c11 c12); omega)), by rw [ht9_]; exact hP9, hD9⟩, hS.F ht9_⟩) hS.2.2 dX10_told_73
          · refine lv_aload_n hx hb dX10_told_64 rfl (lv_at hl 0 rfl) ?_
            refine va_get (D := G.1) (ci := 6) (v := .int sp) (C := RX10) (T := TX10) (N := 28) hx hb hts (fun _ h => List.mem_cons_of_mem _ (List.mem_append_right _ h)) hown E.K hP 0 rfl rfl 5 (by decide) (hts (.fieldLink RX10 59 "LastMapModel" "spades" "I") (by decide +kernel)) (fun _ h9 => h9) rfl dX10_told_65 ?_
            refine lv_goto (tgt := 73) hx hb dX10_told_68 (by decide) ?_
            have hP9 := (hP.sub (ws' := [(h1, .inr (6, [.int (nI k), v_maps, .int told, .ref a_kinds, v_land, .int sp, v_part, v_pad, .int (nI pm), v_slips, v_slipMany, v_made, v_queue, v_depth, v_by, v_from, v_come, v_offOf, v_parent, v_best, v_trees, v_least, v_sums, v_toward, v_kept, v_isKept, v_keptAt, v_isWriting])), (a_kinds, .inl (gI G, 4, .inl fk))]) [0, 1] rfl)
            have hD9 := (hD.sub (ws' := [(h1, .inr (6, [.int (nI k), v_maps, .int told, .ref a_kinds, v_land, .int sp, v_part, v_pad, .int (nI pm), v_slips, v_slipMany, v_made, v_queue, v_depth, v_by, v_from, v_come, v_offOf, v_parent, v_best, v_trees, v_least, v_sums, v_toward, v_kept, v_isKept, v_keptAt, v_isWriting])), (a_kinds, .inl (gI G, 4, .inl fk))]) [0, 1] (by decide) rfl)
            exact W.iret (v := sp) hx hb hr (fun t9_ ht9_ hW9_ => ⟨⟨sp, (), rfl, by dsimp only; (try simp only [ex1]); symm; unfold tdA; (repeat (first | (refine Eq.trans (cIf_t ?_) ?_; · first | assumption | ((try simp only [inR, inS, i3_lt, i3_le, i3_eq, i6_lt, i6_le, Int32.toInt_toInt64, lg_cmp_lt, lg_cmp_gt, lg_cmp_ge, lg_cmp_le, Int32.reduceToInt, Int64.reduceToInt] at b4 c9 c10 c11 c12 ⊢); omega)) | (refine Eq.trans (cIf_f ?_) ?_; · first | assumption | ((try simp only [inR, inS, i3_lt, i3_le, i3_eq, i6_lt, i6_le, Int32.toInt_toInt64, lg_cmp_lt, lg_cmp_gt, lg_cmp_ge, lg_cmp_le, Int32.reduceToInt, Int64.reduceToInt] at b4 c9 c10 c11 c12 ⊢); omega)))); first | rfl | (exfalso; ((try simp only [inR, inS, i3_lt, i3_le, i3_eq, i6_lt, i6_le, Int32.toInt_toInt64, lg_cmp_lt, lg_cmp_gt, lg_cmp_ge, lg_cmp_le, Int32.reduceToInt, Int64.reduceToInt] at b4 c9 c10 c11 c12); omega)), by rw [ht9_]; exact hP9, hD9⟩, hS.F ht9_⟩) hS.2.2 dX10_told_73
        · refine lv_aload_n hx hb dX10_told_52 rfl (lv_at hl 0 rfl) ?_
          refine va_get (D := G.1) (ci := 6) (v := .int told) (C := RX10) (T := TX10) (N := 28) hx hb hts (fun _ h => List.mem_cons_of_mem _ (List.mem_append_right _ h)) hown E.K hP 0 rfl rfl 2 (by decide) (hts (.fieldLink RX10 70 "LastMapModel" "told" "I") (by decide +kernel)) (fun _ h9 => h9) rfl dX10_told_53 ?_
          refine lv_goto (tgt := 73) hx hb dX10_told_56 (by decide) ?_
          have hP9 := (hP.sub (ws' := [(h1, .inr (6, [.int (nI k), v_maps, .int told, .ref a_kinds, v_land, .int sp, v_part, v_pad, .int (nI pm), v_slips, v_slipMany, v_made, v_queue, v_depth, v_by, v_from, v_come, v_offOf, v_parent, v_best, v_trees, v_least, v_sums, v_toward, v_kept, v_isKept, v_keptAt, v_isWriting])), (a_kinds, .inl (gI G, 4, .inl fk))]) [0, 1] rfl)
          have hD9 := (hD.sub (ws' := [(h1, .inr (6, [.int (nI k), v_maps, .int told, .ref a_kinds, v_land, .int sp, v_part, v_pad, .int (nI pm), v_slips, v_slipMany, v_made, v_queue, v_depth, v_by, v_from, v_come, v_offOf, v_parent, v_best, v_trees, v_least, v_sums, v_toward, v_kept, v_isKept, v_keptAt, v_isWriting])), (a_kinds, .inl (gI G, 4, .inl fk))]) [0, 1] (by decide) rfl)
          exact W.iret (v := told) hx hb hr (fun t9_ ht9_ hW9_ => ⟨⟨told, (), rfl, by dsimp only; (try simp only [ex1]); symm; unfold tdA; (repeat (first | (refine Eq.trans (cIf_t ?_) ?_; · first | assumption | ((try simp only [inR, inS, i3_lt, i3_le, i3_eq, i6_lt, i6_le, Int32.toInt_toInt64, lg_cmp_lt, lg_cmp_gt, lg_cmp_ge, lg_cmp_le, Int32.reduceToInt, Int64.reduceToInt] at b4 c9 c10 c11 ⊢); omega)) | (refine Eq.trans (cIf_f ?_) ?_; · first | assumption | ((try simp only [inR, inS, i3_lt, i3_le, i3_eq, i6_lt, i6_le, Int32.toInt_toInt64, lg_cmp_lt, lg_cmp_gt, lg_cmp_ge, lg_cmp_le, Int32.reduceToInt, Int64.reduceToInt] at b4 c9 c10 c11 ⊢); omega)))); first | rfl | (exfalso; ((try simp only [inR, inS, i3_lt, i3_le, i3_eq, i6_lt, i6_le, Int32.toInt_toInt64, lg_cmp_lt, lg_cmp_gt, lg_cmp_ge, lg_cmp_le, Int32.reduceToInt, Int64.reduceToInt] at b4 c9 c10 c11); omega)), by rw [ht9_]; exact hP9, hD9⟩, hS.F ht9_⟩) hS.2.2 dX10_told_73
      · refine lv_aload_n hx hb dX10_told_40 rfl (lv_at hl 0 rfl) ?_
        refine va_get (D := G.1) (ci := 6) (v := .int (nI k)) (C := RX10) (T := TX10) (N := 28) hx hb hts (fun _ h => List.mem_cons_of_mem _ (List.mem_append_right _ h)) hown E.K hP 0 rfl rfl 0 (by decide) (hts (.fieldLink RX10 67 "LastMapModel" "sites" "I") (by decide +kernel)) (fun _ h9 => h9) rfl dX10_told_41 ?_
        refine lv_goto (tgt := 73) hx hb dX10_told_44 (by decide) ?_
        have hP9 := (hP.sub (ws' := [(h1, .inr (6, [.int (nI k), v_maps, .int told, .ref a_kinds, v_land, .int sp, v_part, v_pad, .int (nI pm), v_slips, v_slipMany, v_made, v_queue, v_depth, v_by, v_from, v_come, v_offOf, v_parent, v_best, v_trees, v_least, v_sums, v_toward, v_kept, v_isKept, v_keptAt, v_isWriting])), (a_kinds, .inl (gI G, 4, .inl fk))]) [0, 1] rfl)
        have hD9 := (hD.sub (ws' := [(h1, .inr (6, [.int (nI k), v_maps, .int told, .ref a_kinds, v_land, .int sp, v_part, v_pad, .int (nI pm), v_slips, v_slipMany, v_made, v_queue, v_depth, v_by, v_from, v_come, v_offOf, v_parent, v_best, v_trees, v_least, v_sums, v_toward, v_kept, v_isKept, v_keptAt, v_isWriting])), (a_kinds, .inl (gI G, 4, .inl fk))]) [0, 1] (by decide) rfl)
        exact W.iret (v := (nI k)) hx hb hr (fun t9_ ht9_ hW9_ => ⟨⟨nI k, (), rfl, by dsimp only; (try simp only [ex1]); symm; unfold tdA; (repeat (first | (refine Eq.trans (cIf_t ?_) ?_; · first | assumption | ((try simp only [inR, inS, i3_lt, i3_le, i3_eq, i6_lt, i6_le, Int32.toInt_toInt64, lg_cmp_lt, lg_cmp_gt, lg_cmp_ge, lg_cmp_le, Int32.reduceToInt, Int64.reduceToInt] at b4 c9 c10 ⊢); omega)) | (refine Eq.trans (cIf_f ?_) ?_; · first | assumption | ((try simp only [inR, inS, i3_lt, i3_le, i3_eq, i6_lt, i6_le, Int32.toInt_toInt64, lg_cmp_lt, lg_cmp_gt, lg_cmp_ge, lg_cmp_le, Int32.reduceToInt, Int64.reduceToInt] at b4 c9 c10 ⊢); omega)))); first | rfl | (exfalso; ((try simp only [inR, inS, i3_lt, i3_le, i3_eq, i6_lt, i6_le, Int32.toInt_toInt64, lg_cmp_lt, lg_cmp_gt, lg_cmp_ge, lg_cmp_le, Int32.reduceToInt, Int64.reduceToInt] at b4 c9 c10); omega)), by rw [ht9_]; exact hP9, hD9⟩, hS.F ht9_⟩) hS.2.2 dX10_told_73
    · refine lv_aload_n hx hb dX10_told_28 rfl (lv_at hl 0 rfl) ?_
      refine va_get (D := G.1) (ci := 6) (v := .int (nI pm)) (C := RX10) (T := TX10) (N := 28) hx hb hts (fun _ h => List.mem_cons_of_mem _ (List.mem_append_right _ h)) hown E.K hP 0 rfl rfl 8 (by decide) (hts (.fieldLink RX10 103 "LastMapModel" "padMany" "I") (by decide +kernel)) (fun _ h9 => h9) rfl dX10_told_29 ?_
      refine lv_goto (tgt := 73) hx hb dX10_told_32 (by decide) ?_
      have hP9 := (hP.sub (ws' := [(h1, .inr (6, [.int (nI k), v_maps, .int told, .ref a_kinds, v_land, .int sp, v_part, v_pad, .int (nI pm), v_slips, v_slipMany, v_made, v_queue, v_depth, v_by, v_from, v_come, v_offOf, v_parent, v_best, v_trees, v_least, v_sums, v_toward, v_kept, v_isKept, v_keptAt, v_isWriting])), (a_kinds, .inl (gI G, 4, .inl fk))]) [0, 1] rfl)
      have hD9 := (hD.sub (ws' := [(h1, .inr (6, [.int (nI k), v_maps, .int told, .ref a_kinds, v_land, .int sp, v_part, v_pad, .int (nI pm), v_slips, v_slipMany, v_made, v_queue, v_depth, v_by, v_from, v_come, v_offOf, v_parent, v_best, v_trees, v_least, v_sums, v_toward, v_kept, v_isKept, v_keptAt, v_isWriting])), (a_kinds, .inl (gI G, 4, .inl fk))]) [0, 1] (by decide) rfl)
      exact W.iret (v := (nI pm)) hx hb hr (fun t9_ ht9_ hW9_ => ⟨⟨nI pm, (), rfl, by dsimp only; (try simp only [ex1]); symm; unfold tdA; (repeat (first | (refine Eq.trans (cIf_t ?_) ?_; · first | assumption | ((try simp only [inR, inS, i3_lt, i3_le, i3_eq, i6_lt, i6_le, Int32.toInt_toInt64, lg_cmp_lt, lg_cmp_gt, lg_cmp_ge, lg_cmp_le, Int32.reduceToInt, Int64.reduceToInt] at b4 c9 ⊢); omega)) | (refine Eq.trans (cIf_f ?_) ?_; · first | assumption | ((try simp only [inR, inS, i3_lt, i3_le, i3_eq, i6_lt, i6_le, Int32.toInt_toInt64, lg_cmp_lt, lg_cmp_gt, lg_cmp_ge, lg_cmp_le, Int32.reduceToInt, Int64.reduceToInt] at b4 c9 ⊢); omega)))); first | rfl | (exfalso; ((try simp only [inR, inS, i3_lt, i3_le, i3_eq, i6_lt, i6_le, Int32.toInt_toInt64, lg_cmp_lt, lg_cmp_gt, lg_cmp_ge, lg_cmp_le, Int32.reduceToInt, Int64.reduceToInt] at b4 c9); omega)), by rw [ht9_]; exact hP9, hD9⟩, hS.F ht9_⟩) hS.2.2 dX10_told_73
