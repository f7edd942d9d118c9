set_option maxHeartbeats 1000000 in
set_option maxRecDepth 100000 in
theorem c_isSome (l : Launch) (G : Gy) (sz : Nat) (h0 : Nat) (pad : Nat) (pp : Nat) (im : Nat) (vse : Value) (vtr : Value) (ac : Nat) (ak : Nat) (n : Int32) (told : Int32) (sp : Int32) (gr : Int32) (p0 : Int32) (p1 : Int32) (p2 : Int32)  : Ci l G yX9_isSome wsX9_isSome ({ frames := 4, cells := 0, slots := 0, locals := 87 }) [.ref h0, .int p0, .int p1, .int p2] [(h0, .inr (5, [.ref pad, .ref pp, .ref im, vse, vtr])), (pp, .inr (1, [.int n, .int told, .int sp, .int gr, .ref ac, .ref ak]))] sz (fun (r : Int32) (_ : Unit) => (r = 1 ∧ (mdP p1 p2 n ∧ ¬ aft p0 p1 = p0)) ∨ (r = 0 ∧ ¬ (mdP p1 p2 n ∧ ¬ aft p0 p1 = p0))) (fun (_ : Unit) => [(h0, .inr (5, [.ref pad, .ref pp, .ref im, vse, vtr])), (pp, .inr (1, [.int n, .int told, .int sp, .int gr, .ref ac, .ref ak]))]) 0 0 := by
  refine Met.ofW (cc := cX9_isSome) (maxL := 4) (ret := (some .boolean)) (by decide) rfl ?_
  intro p e s m args below meth c s₁ B hml hv
  obtain ⟨rfl, hsz, hP, hD0, E0⟩ := hv
  have hx := B.exec
  have hb := B.bytes
  have hr := B.returns
  have hts := atoms_spec (ws := wsX9_isSome) B.pre
  have hown : s.vm.findClass RX9 = some m.cls := findClass_of_methodNamed B.named
  have hlocks := B.notSynchronized
  subst hsz
  have hD := hD0.self (sz := s.heap.size)
  generalize hAe : va_A [(h0, .inr (5, [.ref pad, .ref pp, .ref im, vse, vtr])), (pp, .inr (1, [.int n, .int told, .int sp, .int gr, .ref ac, .ref ak]))] s.heap.size = A at hD E0 ⊢
  have E : EV G A s s.heap := E0
  have hA : ∀ q : Nat, s.heap.size ≤ q → A q := fun q h => by rw [← hAe]; exact Or.inr h
  have hS : va_S A s.heap s.heap [] := va_S.rf
  have hl := lv_entry ([.ref h0, .int p0, .int p1, .int p2]) (n := 4) (Nat.le_of_ble_eq_true rfl)
  rw [lg_entry_eq]
  generalize (lg_sl ([.ref h0, .int p0, .int p1, .int p2]) ++ List.replicate (4 - (lg_sl ([.ref h0, .int p0, .int p1, .int p2])).length) Slot.unset).toArray = ls at hl ⊢
  have hl : lv_has ls 4 [(0, .ref h0), (1, .int p0), (2, .int p1), (3, .int p2)] := hl
  have hP : va_P G.1 vwCl [(h0, .inr (5, [.ref pad, .ref pp, .ref im, vse, vtr])), (pp, .inr (1, [.int n, .int told, .int sp, .int gr, .ref ac, .ref ak]))] s.heap := hP
  refine lv_iload_n hx hb dX9_isSome_0 rfl (lv_at hl 2 rfl) ?_
  refine lv_iload_n hx hb dX9_isSome_1 rfl (lv_at hl 3 rfl) ?_
  refine lv_aload_n hx hb dX9_isSome_2 rfl (lv_at hl 0 rfl) ?_
  refine va_get (D := G.1) (ci := 5) (v := .ref pp) (C := RX9) (T := TX9) (N := 5) hx hb hts (fun _ h => List.mem_cons_of_mem _ (List.mem_append_left _ (List.mem_append_right _ h))) hown E.K hP 0 rfl rfl 1 (by decide) (hts (.fieldLink RX9 19 "LastMap" "papers" "LLastMap$Papers;") (by decide +kernel)) (fun _ h9 => h9) rfl dX9_isSome_3 ?_
  refine va_get (D := G.1) (ci := 1) (v := .int n) (C := RX3) (T := TX3) (N := 6) hx hb hts (fun _ h => List.mem_cons_of_mem _ (List.mem_append_right _ h)) hown E.K hP 1 rfl rfl 0 (by decide) (hts (.fieldLink RX9 27 "LastMap$Papers" "siteCount" "I") (by decide +kernel)) (fun _ h9 => h9) rfl dX9_isSome_6 ?_
  refine ca_iR (va_runS (As := [.int p1, .int p2, .int n]) (rest := []) ⟨hx, hb, hml, hown, hts⟩ (c_isMade l G s.heap.size p1 p2 n) (va_cwS 3 hts gX9_isSome_X6_isMade rfl rfl rfl (by decide +kernel) ⟨by decide +kernel, by decide +kernel⟩) (pre_S E hP hD hS hA [] (by decide) rfl) rfl rfl hl.1 rfl (lv_room (Nat.le_of_ble_eq_true rfl)) dX9_isSome_9 ⟨by decide +kernel, by decide +kernel⟩) hS hP hD hA [] rfl (fun r2 _ H locs w1 hP hS => ?_)
  rcases w1 with ⟨rfl, b3⟩ | ⟨rfl, b3⟩
  · refine lv_if_eq (tgt := 28) hx hb dX9_isSome_12 (by decide) (fun c4 => False.elim (by revert c4; decide)) (fun _ => ?_)
    refine lv_iload_n hx hb dX9_isSome_15 rfl (lv_at hl 1 rfl) ?_
    refine lv_iload_n hx hb dX9_isSome_16 rfl (lv_at hl 2 rfl) ?_
    refine ca_iR (va_runS (As := [.int p0, .int p1]) (rest := []) ⟨hx, hb, hml, hown, hts⟩ (c_after l G H.size p0 p1) (va_cwS 2 hts gX9_isSome_X6_after rfl rfl rfl (by decide +kernel) ⟨by decide +kernel, by decide +kernel⟩) (pre_S E hP hD hS hA [] (by decide) rfl) rfl rfl hl.1 rfl (lv_room (Nat.le_of_ble_eq_true rfl)) dX9_isSome_17 ⟨by decide +kernel, by decide +kernel⟩) hS hP hD hA [] rfl (fun r6 _ H locs w5 hP hS => ?_)
    refine lv_iload_n hx hb dX9_isSome_20 rfl (lv_at hl 1 rfl) ?_
    refine lv_icmp_eq (tgt := 28) hx hb dX9_isSome_21 (by decide) (fun c7 => ?_) (fun c7 => ?_)
    · refine lv_iconst (v := 0) hx hb dX9_isSome_28 (by decide) ?_
      have hP9 := hP.sub (ws' := [(h0, .inr (5, [.ref pad, .ref pp, .ref im, vse, vtr])), (pp, .inr (1, [.int n, .int told, .int sp, .int gr, .ref ac, .ref ak]))]) [0, 1] rfl
      have hD9 := hD.sub (ws' := [(h0, .inr (5, [.ref pad, .ref pp, .ref im, vse, vtr])), (pp, .inr (1, [.int n, .int told, .int sp, .int gr, .ref ac, .ref ak]))]) [0, 1] (by decide) rfl
      exact W.zret (v := 0) hx hb hr (by decide) (fun t ht hW => ⟨⟨0, (), rfl, Or.inr ⟨rfl, fun h => h.2 (by rw [← w5]; assumption)⟩, by rw [ht]; exact hP9, hD9⟩, hS.F ht⟩) hS.2.2 dX9_isSome_29
    · refine lv_iconst (v := 1) hx hb dX9_isSome_24 (by decide) ?_
      refine lv_goto (tgt := 29) hx hb dX9_isSome_25 (by decide) ?_
      have hP9 := hP.sub (ws' := [(h0, .inr (5, [.ref pad, .ref pp, .ref im, vse, vtr])), (pp, .inr (1, [.int n, .int told, .int sp, .int gr, .ref ac, .ref ak]))]) [0, 1] rfl
      have hD9 := hD.sub (ws' := [(h0, .inr (5, [.ref pad, .ref pp, .ref im, vse, vtr])), (pp, .inr (1, [.int n, .int told, .int sp, .int gr, .ref ac, .ref ak]))]) [0, 1] (by decide) rfl
      exact W.zret (v := 1) hx hb hr (by decide) (fun t ht hW => ⟨⟨1, (), rfl, Or.inl ⟨rfl, ⟨b3, by rw [← w5]; assumption⟩⟩, by rw [ht]; exact hP9, hD9⟩, hS.F ht⟩) hS.2.2 dX9_isSome_29
  · refine lv_if_eq (tgt := 28) hx hb dX9_isSome_12 (by decide) (fun _ => ?_) (fun c8 => False.elim (by revert c8; decide))
    refine lv_iconst (v := 0) hx hb dX9_isSome_28 (by decide) ?_
    have hP9 := hP.sub (ws' := [(h0, .inr (5, [.ref pad, .ref pp, .ref im, vse, vtr])), (pp, .inr (1, [.int n, .int told, .int sp, .int gr, .ref ac, .ref ak]))]) [0, 1] rfl
    have hD9 := hD.sub (ws' := [(h0, .inr (5, [.ref pad, .ref pp, .ref im, vse, vtr])), (pp, .inr (1, [.int n, .int told, .int sp, .int gr, .ref ac, .ref ak]))]) [0, 1] (by decide) rfl
    exact W.zret (v := 0) hx hb hr (by decide) (fun t ht hW => ⟨⟨0, (), rfl, Or.inr ⟨rfl, fun h => b3 h.1⟩, by rw [ht]; exact hP9, hD9⟩, hS.F ht⟩) hS.2.2 dX9_isSome_29
