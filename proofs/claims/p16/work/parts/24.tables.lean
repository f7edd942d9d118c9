set_option maxHeartbeats 1000000 in
set_option maxRecDepth 100000 in
theorem c_Search (l : Launch) (G : Gy) (sz : Nat) (sr : Nat)  : Cv l G yX4_init wsX4_init ({ frames := 1, cells := 2, slots := 15633, locals := 12 }) [.ref sr] ([(sr, .inr (2, [.null, .null, .int 0]))]) sz (fun (u : Nat × Nat) => match u with | (rt1, ru1) => True) (fun (u : Nat × Nat) => match u with | (rt1, ru1) => [(sr, .inr (2, [.ref rt1, .ref ru1, .int 0])), (rt1, .inl (gT G, 8, .inr (.inr (.inr (.inr (fun _ => none)))))), (ru1, .inl (gI G, 15625, .inl (fun _ => 0)))]) 2 15633 := by
  refine Met.ofW (cc := cX4_init) (maxL := 1) (ret := none) (by decide) rfl ?_
  intro p e s m args below meth c s₁ B hml hv
  obtain ⟨rfl, hsz, hP, hD0, E0⟩ := hv
  have hx := B.exec
  have hb := B.bytes
  have hr := B.returns
  have hts := atoms_spec (ws := wsX4_init) B.pre
  have hown : s.vm.findClass RX4 = some m.cls := findClass_of_methodNamed B.named
  have hlocks := B.notSynchronized
  have hin : meth.name = "<init>" := (name_of_methodNamed B.named B.method).1
  subst hsz
  have hD := hD0.self (sz := s.heap.size)
  generalize hAe : va_A ([(sr, .inr (2, [.null, .null, .int 0]))]) s.heap.size = A at hD E0 ⊢
  have E : EV G A s s.heap := E0
  have hA : ∀ q : Nat, s.heap.size ≤ q → A q := fun q h => by rw [← hAe]; exact Or.inr h
  have hS : va_S A s.heap s.heap [] := va_S.rf
  have hl := lv_entry ([.ref sr]) (n := 1) (Nat.le_of_ble_eq_true rfl)
  rw [lg_entry_eq]
  generalize (lg_sl ([.ref sr]) ++ List.replicate (1 - (lg_sl ([.ref sr])).length) Slot.unset).toArray = ls at hl ⊢
  have hl : lv_has ls 1 [(0, .ref sr)] := hl
  have hP : va_P G.1 vwCl ([(sr, .inr (2, [.null, .null, .int 0]))]) s.heap := hP
  refine lv_aload_n hx hb dX4_init_0 rfl (lv_at hl 0 rfl) ?_
  refine W.objInit hx hb hown (hts (.methodLink RX4 3 objectInit) (by decide +kernel)) (hts (.instanceMethod objectInit) (by decide +kernel)) (hts (.code objectInit ⟨#[0xb1]⟩ 1 none) (by decide +kernel)) rfl (by rw [hml]; exact hl.1) rfl dX4_init_1 (Nat.le_of_ble_eq_true rfl) (Nat.le_of_ble_eq_true rfl) ?_
  refine W.eq (g2 := F0 m 4 ls []) rfl ?_
  refine lv_aload_n hx hb dX4_init_4 rfl (lv_at hl 0 rfl) ?_
  refine lv_bipush (v := 8) hx hb dX4_init_5 (by decide) ?_
  refine nw_rowq hx hb hown (hts (.classLink RX4 11 RX7) (by decide +kernel)) E.aT E 4 rfl hP hD hS hA (by decide +kernel) (show _ = 8 by decide +kernel) (by decide +kernel) (by decide +kernel) (by decide +kernel) dX4_init_7 (fun q1 H hP hD hS => ?_)
  have hP : va_P G.1 vwCl ([(sr, .inr (2, [.null, .null, .int 0])), (q1, .inl (gT G, 8, .inr (.inr (.inr (.inr (fun _ => none))))))]) H := hP
  have hD : va_D A ([(sr, .inr (2, [.null, .null, .int 0])), (q1, .inl (gT G, 8, .inr (.inr (.inr (.inr (fun _ => none))))))]) := hD
  refine W.widen (k := 1) (n := 8) (by decide +kernel) (by decide +kernel) ?_
  refine va_putF (D := G.1) (ci := 2) (v := .ref q1) (ty := .array (.object "LastMap$Table")) (C := RX4) (T := TX4) (N := 3) hx hb hts (fun _ h => List.mem_cons_of_mem _ (List.mem_append_right _ h)) tyX4 tyX4_ok nmX4 hown E.K hP hD hS 0 rfl rfl 0 (by decide) (hts (.fieldLink RX4 13 "LastMap$Search" "tables" "[LLastMap$Table;") (by decide +kernel)) (fun _ h9 => h9) rfl hin rfl (by decide +kernel) rfl rfl (Nat.le_of_ble_eq_true rfl) dX4_init_10 (fun H locs hP hD hS => ?_)
  have hP : va_P G.1 vwCl ([(sr, .inr (2, [.ref q1, .null, .int 0])), (q1, .inl (gT G, 8, .inr (.inr (.inr (.inr (fun _ => none))))))]) H := hP
  have hD : va_D A ([(sr, .inr (2, [.ref q1, .null, .int 0])), (q1, .inl (gT G, 8, .inr (.inr (.inr (.inr (fun _ => none))))))]) := hD
  refine lv_aload_n hx hb dX4_init_13 rfl (lv_at hl 0 rfl) ?_
  refine lv_sipush (v := 15625) hx hb dX4_init_14 (by decide) ?_
  refine nw_row (atype := .int) (a0 := (15625, .inl (fun _ => 0))) (ty := .int) hx hb (hts (.arrayClass .int) (by decide +kernel)) rfl E 1 rfl (fun _ _ h => h) hP hD hS hA (fun _ => rfl) (by decide +kernel) (by decide +kernel) (by decide +kernel) (by decide +kernel) (by decide +kernel) dX4_init_17 (fun q2 H hP hD hS => ?_)
  have hP : va_P G.1 vwCl ([(sr, .inr (2, [.ref q1, .null, .int 0])), (q1, .inl (gT G, 8, .inr (.inr (.inr (.inr (fun _ => none)))))), (q2, .inl (gI G, 15625, .inl (fun _ => 0)))]) H := hP
  have hD : va_D A ([(sr, .inr (2, [.ref q1, .null, .int 0])), (q1, .inl (gT G, 8, .inr (.inr (.inr (.inr (fun _ => none)))))), (q2, .inl (gI G, 15625, .inl (fun _ => 0)))]) := hD
  refine W.widen (k := 2) (n := 15633) (by decide +kernel) (by decide +kernel) ?_
  refine va_putF (D := G.1) (ci := 2) (v := .ref q2) (ty := .array .int) (C := RX4) (T := TX4) (N := 3) hx hb hts (fun _ h => List.mem_cons_of_mem _ (List.mem_append_right _ h)) tyX4 tyX4_ok nmX4 hown E.K hP hD hS 0 rfl rfl 1 (by decide) (hts (.fieldLink RX4 19 "LastMap$Search" "sums" "[I") (by decide +kernel)) (fun _ h9 => h9) rfl hin rfl (by decide +kernel) rfl rfl (Nat.le_of_ble_eq_true rfl) dX4_init_19 (fun H locs hP hD hS => ?_)
  have hP : va_P G.1 vwCl ([(sr, .inr (2, [.ref q1, .ref q2, .int 0])), (q1, .inl (gT G, 8, .inr (.inr (.inr (.inr (fun _ => none)))))), (q2, .inl (gI G, 15625, .inl (fun _ => 0)))]) H := hP
  have hD : va_D A ([(sr, .inr (2, [.ref q1, .ref q2, .int 0])), (q1, .inl (gT G, 8, .inr (.inr (.inr (.inr (fun _ => none)))))), (q2, .inl (gI G, 15625, .inl (fun _ => 0)))]) := hD
  have hP9 := (hP.sub (ws' := [(sr, .inr (2, [.ref q1, .ref q2, .int 0])), (q1, .inl (gT G, 8, .inr (.inr (.inr (.inr (fun _ => none)))))), (q2, .inl (gI G, 15625, .inl (fun _ => 0)))]) [0, 1, 2] rfl)
  have hD9 := (hD.sub (ws' := [(sr, .inr (2, [.ref q1, .ref q2, .int 0])), (q1, .inl (gT G, 8, .inr (.inr (.inr (.inr (fun _ => none)))))), (q2, .inl (gI G, 15625, .inl (fun _ => 0)))]) [0, 1, 2] (by decide) rfl)
  exact W.vret hx hb hr (fun t ht hW => ⟨⟨(q1, q2), rfl, trivial, by rw [ht]; exact hP9, hD9⟩, hS.F ht⟩) hS.2.2 dX4_init_22
