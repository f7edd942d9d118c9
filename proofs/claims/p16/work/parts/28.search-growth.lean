/-- how many slots of a Search hold a table -/
def cntS (ft : Nat → Option Nat) : Nat → Nat
  | 0 => 0
  | n + 1 => cntS ft n + (if (ft n).isSome then 1 else 0)
theorem cntS_le (ft : Nat → Option Nat) : ∀ n : Nat, cntS ft n ≤ n
  | 0 => Nat.le_refl _
  | n + 1 => by
    show cntS ft n + _ ≤ n + 1
    have := cntS_le ft n
    by_cases h : (ft n).isSome
    · rw [if_pos h]; omega
    · rw [if_neg h]; omega
theorem cntS_up {ft : Nat → Option Nat} {j t : Nat} : ∀ n : Nat, n ≤ j → cntS (va_up ft j (some t)) n = cntS ft n
  | 0, _ => rfl
  | n + 1, h => by
    show cntS (va_up ft j (some t)) n + _ = cntS ft n + _
    rw [cntS_up n (by omega), show va_up ft j (some t) n = ft n from if_neg (by omega)]
theorem cntS_add {ft : Nat → Option Nat} {j t : Nat} (h : ft j = none) : ∀ n : Nat, j < n → cntS (va_up ft j (some t)) n = cntS ft n + 1
  | 0, hj => absurd hj (Nat.not_lt_zero _)
  | n + 1, hj => by
    show cntS (va_up ft j (some t)) n + _ = cntS ft n + _ + 1
    by_cases e : j = n
    · subst e
      rw [cntS_up j (Nat.le_refl _), show va_up ft j (some t) j = some t from if_pos rfl, h]
      rfl
    · rw [cntS_add h n (by omega), show va_up ft j (some t) n = ft n from if_neg (fun q => e q.symm)]
      omega
/-- the field search, the cells behind it, and how many units (a Search, its tables) they are -/
def SK (G : Gy) (v : Value) (T : va_W) (u : Nat) : Prop := (v = .null ∧ T = [] ∧ u = 0) ∨ ∃ (sr rt ru : Nat) (ol : Int32) (ft : Nat → Option Nat) (gu : Nat → Int32) (T2 : va_W), v = .ref sr ∧ PL G ft T2 ∧ T = [(sr, .inr (2, [.ref rt, .ref ru, .int ol])), (rt, .inl (gT G, 8, .inr (.inr (.inr (.inr ft))))), (ru, .inl (gI G, 15625, .inl gu))] ++ T2 ∧ u = 1 + cntS ft 8

set_option maxHeartbeats 1000000 in
set_option maxRecDepth 100000 in
theorem d_ready_n (l : Launch) (G : Gy) (H0 : Heap) (h0 : Nat) (pad : Nat) (pp : Nat) (im : Nat) (vtr : Value) (T : va_W)  : ChR l G yX9_readySearch wsX9_readySearch ({ frames := 2, cells := 3, slots := 15636, locals := 32 }) [.ref h0] ([(h0, .inr (5, [.ref pad, .ref pp, .ref im, .null, vtr]))] ++ T) H0 (fun (u : Nat × Nat × Nat) => match u with | (sr1, rt1, ru1) => True) (fun (u : Nat × Nat × Nat) => match u with | (sr1, rt1, ru1) => sr1) (fun (u : Nat × Nat × Nat) => (match u with | (sr1, rt1, ru1) => [(h0, .inr (5, [.ref pad, .ref pp, .ref im, .ref sr1, vtr])), (sr1, .inr (2, [.ref rt1, .ref ru1, .int 0])), (rt1, .inl (gT G, 8, .inr (.inr (.inr (.inr (fun _ => none)))))), (ru1, .inl (gI G, 15625, .inl (fun _ => 0)))]) ++ (match u with | (sr1, rt1, ru1) => T)) (fun (u : Nat × Nat × Nat) => match u with | (sr1, rt1, ru1) => 3) (fun (u : Nat × Nat × Nat) => match u with | (sr1, rt1, ru1) => 15636) 3 15636 := by
  refine Met.ofW (cc := cX9_readySearch) (maxL := 1) (ret := (some (.object "LastMap$Search"))) (by decide) rfl ?_
  intro p e s m args below meth c s₁ B hml hv
  obtain ⟨rfl, hsz, hP, hD0, E0⟩ := hv
  have hx := B.exec
  have hb := B.bytes
  have hr := B.returns
  have hts := atoms_spec (ws := wsX9_readySearch) B.pre
  have hown : s.vm.findClass RX9 = some m.cls := findClass_of_methodNamed B.named
  have hlocks := B.notSynchronized
  subst hsz
  have hD := hD0.self (sz := s.heap.size)
  generalize hAe : va_A ([(h0, .inr (5, [.ref pad, .ref pp, .ref im, .null, vtr]))] ++ T) s.heap.size = A at hD E0 ⊢
  have E : EV G A s s.heap := E0
  have hA : ∀ q : Nat, s.heap.size ≤ q → A q := fun q h => by rw [← hAe]; exact Or.inr h
  have hS : va_S A s.heap s.heap [] := va_S.rf
  have hl := lv_entry ([.ref h0]) (n := 1) (Nat.le_of_ble_eq_true rfl)
  rw [lg_entry_eq]
  generalize (lg_sl ([.ref h0]) ++ List.replicate (1 - (lg_sl ([.ref h0])).length) Slot.unset).toArray = ls at hl ⊢
  have hl : lv_has ls 1 [(0, .ref h0)] := hl
  have hP : va_P G.1 vwCl ([(h0, .inr (5, [.ref pad, .ref pp, .ref im, .null, vtr]))] ++ T) s.heap := hP
  refine lv_aload_n hx hb dX9_readySearch_0 rfl (lv_at hl 0 rfl) ?_
  refine va_get (D := G.1) (ci := 5) (v := .null) (C := RX9) (T := TX9) (N := 5) hx hb hts (fun _ h => List.mem_cons_of_mem _ (List.mem_append_left _ (List.mem_append_right _ h))) hown E.K hP 0 rfl rfl 3 (by decide) (hts (.fieldLink RX9 216 "LastMap" "search" "LLastMap$Search;") (by decide +kernel)) (fun _ h9 => h9) rfl dX9_readySearch_1 ?_
  refine lv_ifnonnullN hx hb dX9_readySearch_4 ?_
  refine lv_aload_n hx hb dX9_readySearch_7 rfl (lv_at hl 0 rfl) ?_
  refine va_new (ci := 2) (fs := [.null, .null, .int 0]) (C := RX4) (T := TX4) (N := 3) hx hb hts (fun _ h => List.mem_cons_of_mem _ (List.mem_append_right _ h)) tyX4 tyX4_ok hown (hts (.classLink RX9 151 RX4) (by decide +kernel)) (hts (.instantiable RX4 3) (by decide +kernel)) (hts (.initialized RX4) (by decide +kernel)) E.K hP hD hS hA rfl (by decide +kernel) (by decide +kernel) (by decide +kernel) dX9_readySearch_8 (fun q1 H hP hD hS => ?_)
  have hP := P_perm (perm_snoc _ _ _) hP
  have hD := D_perm (perm_snoc _ _ _) hD
  have hP : va_P G.1 vwCl ([(h0, .inr (5, [.ref pad, .ref pp, .ref im, .null, vtr])), (q1, .inr (2, [.null, .null, .int 0]))] ++ T) H := hP
  have hD : va_D A ([(h0, .inr (5, [.ref pad, .ref pp, .ref im, .null, vtr])), (q1, .inr (2, [.null, .null, .int 0]))] ++ T) := hD
  refine lv_dup hx hb dX9_readySearch_11 rfl ?_
  refine ca_vQ (wr := [(h0, .inr (5, [.ref pad, .ref pp, .ref im, .null, vtr]))]) (va_runIN (As := []) (rest := [.ref q1, .ref h0]) ⟨hx, hb, hml, hown, hts⟩ (c_Search l G H.size q1) ⟨va_cnB 0 hts gX9_readySearch_X4_init_n220 rfl rfl rfl E.n220 (hts (.initialized RX4) (by decide +kernel)) (by decide +kernel) ⟨by decide +kernel, by decide +kernel⟩, rfl, hts (.instanceMethod yX4_init) (by decide +kernel)⟩ (pre_S E hP hD hS hA [1] (by decide) rfl) rfl rfl hl.1 rfl (lv_room (Nat.le_of_ble_eq_true rfl)) dX9_readySearch_12 ⟨show 1 + 2 ≤ 3 by omega, show 3 + 15633 ≤ 15636 by omega⟩) hS hP hD hA [1] [0] rfl rfl (by decide) (by decide) (fun u4 H locs w2 hP hD hS => ?_)
  obtain ⟨rt1_5, ru1_6⟩ := u4
  try dsimp only at w2 hP hD
  have hP := (P_subT (X' := [(h0, .inr (5, [.ref pad, .ref pp, .ref im, .null, vtr])), (q1, .inr (2, [.ref rt1_5, .ref ru1_6, .int 0])), (rt1_5, .inl (gT G, 8, .inr (.inr (.inr (.inr (fun _ => none)))))), (ru1_6, .inl (gI G, 15625, .inl (fun _ => 0)))]) hP [0, 1, 2, 3] rfl)
  have hD := (D_subT (X' := [(h0, .inr (5, [.ref pad, .ref pp, .ref im, .null, vtr])), (q1, .inr (2, [.ref rt1_5, .ref ru1_6, .int 0])), (rt1_5, .inl (gT G, 8, .inr (.inr (.inr (.inr (fun _ => none)))))), (ru1_6, .inl (gI G, 15625, .inl (fun _ => 0)))]) hD [0, 1, 2, 3] (by decide) rfl)
  refine va_put (D := G.1) (ci := 5) (v := .ref q1) (ty := .object "LastMap$Search") (C := RX9) (T := TX9) (N := 5) hx hb hts (fun _ h => List.mem_cons_of_mem _ (List.mem_append_left _ (List.mem_append_right _ h))) tyX9 tyX9_ok nmX9 hown E.K hP hD hS 0 rfl rfl 3 (by decide) (hts (.fieldLink RX9 216 "LastMap" "search" "LLastMap$Search;") (by decide +kernel)) (fun _ h9 => h9) rfl (by decide +kernel) rfl rfl (Nat.le_of_ble_eq_true rfl) dX9_readySearch_15 (fun H locs hP hD hS => ?_)
  have hP : va_P G.1 vwCl ([(h0, .inr (5, [.ref pad, .ref pp, .ref im, .ref q1, vtr])), (q1, .inr (2, [.ref rt1_5, .ref ru1_6, .int 0])), (rt1_5, .inl (gT G, 8, .inr (.inr (.inr (.inr (fun _ => none)))))), (ru1_6, .inl (gI G, 15625, .inl (fun _ => 0)))] ++ T) H := hP
  have hD : va_D A ([(h0, .inr (5, [.ref pad, .ref pp, .ref im, .ref q1, vtr])), (q1, .inr (2, [.ref rt1_5, .ref ru1_6, .int 0])), (rt1_5, .inl (gT G, 8, .inr (.inr (.inr (.inr (fun _ => none)))))), (ru1_6, .inl (gI G, 15625, .inl (fun _ => 0)))] ++ T) := hD
  refine lv_aload_n hx hb dX9_readySearch_18 rfl (lv_at hl 0 rfl) ?_
  refine va_get (D := G.1) (ci := 5) (v := .ref q1) (C := RX9) (T := TX9) (N := 5) hx hb hts (fun _ h => List.mem_cons_of_mem _ (List.mem_append_left _ (List.mem_append_right _ h))) hown E.K hP 0 rfl rfl 3 (by decide) (hts (.fieldLink RX9 216 "LastMap" "search" "LLastMap$Search;") (by decide +kernel)) (fun _ h9 => h9) rfl dX9_readySearch_19 ?_
  refine W_facts (fun hg => ?_)
  have hg : GF s.heap H (3) (15636) := hg
  refine W.widen (k := 3) (n := 15636) (show 3 ≤ 3 by omega) (show 15636 ≤ 15636 by omega) ?_
  have hP9 := (P_subT (X' := [(h0, .inr (5, [.ref pad, .ref pp, .ref im, .ref q1, vtr])), (q1, .inr (2, [.ref rt1_5, .ref ru1_6, .int 0])), (rt1_5, .inl (gT G, 8, .inr (.inr (.inr (.inr (fun _ => none)))))), (ru1_6, .inl (gI G, 15625, .inl (fun _ => 0)))]) hP [0, 1, 2, 3] rfl)
  have hD9 := (D_subT (X' := [(h0, .inr (5, [.ref pad, .ref pp, .ref im, .ref q1, vtr])), (q1, .inr (2, [.ref rt1_5, .ref ru1_6, .int 0])), (rt1_5, .inl (gT G, 8, .inr (.inr (.inr (.inr (fun _ => none)))))), (ru1_6, .inl (gI G, 15625, .inl (fun _ => 0)))]) hD [0, 1, 2, 3] (by decide) rfl)
  exact W.aret (v := .ref q1) hx hb hr (Or.inl ⟨_, rfl⟩) (Or.inr ⟨_, rfl⟩) (fun t_ ht hW => ⟨⟨(q1, rt1_5, ru1_6), q1, rfl, trivial, rfl, by rw [ht]; exact hP9, hD9, by rw [ht]; exact (show GF s.heap H (3) (15636) from hg.wide (by omega) (by omega))⟩, hS.F ht⟩) hS.2.2 dX9_readySearch_22

set_option maxHeartbeats 1000000 in
set_option maxRecDepth 100000 in
theorem d_ready_s (l : Launch) (G : Gy) (H0 : Heap) (h0 : Nat) (pad : Nat) (pp : Nat) (im : Nat) (vtr : Value) (sr : Nat) (T : va_W)  : ChR l G yX9_readySearch wsX9_readySearch ({ frames := 0, cells := 0, slots := 0, locals := 0 }) [.ref h0] ([(h0, .inr (5, [.ref pad, .ref pp, .ref im, .ref sr, vtr]))] ++ T) H0 (fun (_ : Unit) => True) (fun (_ : Unit) => sr) (fun (_ : Unit) => [(h0, .inr (5, [.ref pad, .ref pp, .ref im, .ref sr, vtr]))] ++ T) (fun (_ : Unit) => 0) (fun (_ : Unit) => 0) 0 0 := by
  refine Met.ofW (cc := cX9_readySearch) (maxL := 1) (ret := (some (.object "LastMap$Search"))) (by decide) rfl ?_
  intro p e s m args below meth c s₁ B hml hv
  obtain ⟨rfl, hsz, hP, hD0, E0⟩ := hv
  have hx := B.exec
  have hb := B.bytes
  have hr := B.returns
  have hts := atoms_spec (ws := wsX9_readySearch) B.pre
  have hown : s.vm.findClass RX9 = some m.cls := findClass_of_methodNamed B.named
  have hlocks := B.notSynchronized
  subst hsz
  have hD := hD0.self (sz := s.heap.size)
  generalize hAe : va_A ([(h0, .inr (5, [.ref pad, .ref pp, .ref im, .ref sr, vtr]))] ++ T) s.heap.size = A at hD E0 ⊢
  have E : EV G A s s.heap := E0
  have hA : ∀ q : Nat, s.heap.size ≤ q → A q := fun q h => by rw [← hAe]; exact Or.inr h
  have hS : va_S A s.heap s.heap [] := va_S.rf
  have hl := lv_entry ([.ref h0]) (n := 1) (Nat.le_of_ble_eq_true rfl)
  rw [lg_entry_eq]
  generalize (lg_sl ([.ref h0]) ++ List.replicate (1 - (lg_sl ([.ref h0])).length) Slot.unset).toArray = ls at hl ⊢
  have hl : lv_has ls 1 [(0, .ref h0)] := hl
  have hP : va_P G.1 vwCl ([(h0, .inr (5, [.ref pad, .ref pp, .ref im, .ref sr, vtr]))] ++ T) s.heap := hP
  refine lv_aload_n hx hb dX9_readySearch_0 rfl (lv_at hl 0 rfl) ?_
  refine va_get (D := G.1) (ci := 5) (v := .ref sr) (C := RX9) (T := TX9) (N := 5) hx hb hts (fun _ h => List.mem_cons_of_mem _ (List.mem_append_left _ (List.mem_append_right _ h))) hown E.K hP 0 rfl rfl 3 (by decide) (hts (.fieldLink RX9 216 "LastMap" "search" "LLastMap$Search;") (by decide +kernel)) (fun _ h9 => h9) rfl dX9_readySearch_1 ?_
  refine lv_ifnonnull (tgt := 18) hx hb dX9_readySearch_4 (by decide) ?_
  refine lv_aload_n hx hb dX9_readySearch_18 rfl (lv_at hl 0 rfl) ?_
  refine va_get (D := G.1) (ci := 5) (v := .ref sr) (C := RX9) (T := TX9) (N := 5) hx hb hts (fun _ h => List.mem_cons_of_mem _ (List.mem_append_left _ (List.mem_append_right _ h))) hown E.K hP 0 rfl rfl 3 (by decide) (hts (.fieldLink RX9 216 "LastMap" "search" "LLastMap$Search;") (by decide +kernel)) (fun _ h9 => h9) rfl dX9_readySearch_19 ?_
  refine W_facts (fun hg => ?_)
  have hg : GF s.heap s.heap (0) (0) := hg
  refine W.widen (k := 0) (n := 0) (show 0 ≤ 0 by omega) (show 0 ≤ 0 by omega) ?_
  have hP9 := (P_subT (X' := [(h0, .inr (5, [.ref pad, .ref pp, .ref im, .ref sr, vtr]))]) hP [0] rfl)
  have hD9 := (D_subT (X' := [(h0, .inr (5, [.ref pad, .ref pp, .ref im, .ref sr, vtr]))]) hD [0] (by decide) rfl)
  exact W.aret (v := .ref sr) hx hb hr (Or.inl ⟨_, rfl⟩) (Or.inr ⟨_, rfl⟩) (fun t_ ht hW => ⟨⟨(), sr, rfl, trivial, rfl, by rw [ht]; exact hP9, hD9, by rw [ht]; exact (show GF s.heap s.heap (0) (0) from hg.wide (by omega) (by omega))⟩, hS.F ht⟩) hS.2.2 dX9_readySearch_22
