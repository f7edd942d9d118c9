set_option maxHeartbeats 1000000 in
set_option maxRecDepth 100000 in
theorem c_fillI6 (l : Launch) (G : Gy) (sz : Nat) (a : Nat) (f : Nat → Int32) (p0 : Int32)  : Cv l G yJ7_fill_53178 wsJ7_fill_53178 ({ frames := 0, cells := 0, slots := 0, locals := 0 }) [.ref a, .int p0] [(a, .inl (gI G, 6, .inl f))] sz (fun (f1 : Nat → Int32) => True) (fun (f1 : Nat → Int32) => [(a, .inl (gI G, 6, .inl f1))]) 0 0 := by
  refine Met.ofW (cc := cJ7_fill_53178) (maxL := 4) (ret := none) (by decide) rfl ?_
  intro p e s m args below meth c s₁ B hml hv
  obtain ⟨rfl, hsz, hP, hD0, E0⟩ := hv
  have hx := B.exec
  have hb := B.bytes
  have hr := B.returns
  have hts := atoms_spec (ws := wsJ7_fill_53178) B.pre
  have hown : s.vm.findClass RJ7 = some m.cls := findClass_of_methodNamed B.named
  have hlocks := B.notSynchronized
  subst hsz
  have hD := hD0.self (sz := s.heap.size)
  generalize hAe : va_A [(a, .inl (gI G, 6, .inl f))] s.heap.size = A at hD E0 ⊢
  have E : EV G A s s.heap := E0
  have hA : ∀ q : Nat, s.heap.size ≤ q → A q := fun q h => by rw [← hAe]; exact Or.inr h
  have hS : va_S A s.heap s.heap [] := va_S.rf
  have hl := lv_entry ([.ref a, .int p0]) (n := 4) (Nat.le_of_ble_eq_true rfl)
  rw [lg_entry_eq]
  generalize (lg_sl ([.ref a, .int p0]) ++ List.replicate (4 - (lg_sl ([.ref a, .int p0])).length) Slot.unset).toArray = ls at hl ⊢
  have hl : lv_has ls 4 [(0, .ref a), (1, .int p0)] := hl
  have hP : va_P G.1 vwCl [(a, .inl (gI G, 6, .inl f))] s.heap := hP
  refine lv_iconst (v := 0) hx hb dJ7_fill_53178_0 (by decide) ?_
  refine lv_istore_n (lv' := [(2, .int 0), (0, .ref a), (1, .int p0)]) hx hb dJ7_fill_53178_1 rfl hl (by decide) rfl (fun ls hl => ?_)
  refine lv_aload_n hx hb dJ7_fill_53178_2 rfl (lv_at hl 1 rfl) ?_
  refine va_alen (v := 6) hx hb E.K hP 0 1 rfl rfl rfl dJ7_fill_53178_3 ?_
  refine lv_istore_n (lv' := [(3, .int 6), (2, .int 0), (0, .ref a), (1, .int p0)]) hx hb dJ7_fill_53178_4 rfl hl (by decide) rfl (fun ls hl => ?_)
  refine lp_run (x0 := (0, f)) (fun xx_ : Int32 × (Nat → Int32) => match xx_ with | (x, g) => [(a, .inl (gI G, 6, .inl g))]) (fun xx_ : Int32 × (Nat → Int32) => match xx_ with | (x, g) => [(3, .int 6), (2, .int x), (0, .ref a), (1, .int p0)]) (fun xx_ : Int32 × (Nat → Int32) => match xx_ with | (x, g) => (0 ≤ x.toInt)) (fun xx_ : Int32 × (Nat → Int32) => match xx_ with | (x, g) => ((6 : Int32).toInt - x.toInt).toNat) (hP.sub [0] rfl) (hD.sub [0] (by decide) rfl) hS (lv_sub hl [0, 1, 2, 3] rfl) (show (0 : Int) ≤ (0 : Int32).toInt by first | decide | omega | assumption) ?_
  intro xx_ hI ih5 H locs ls hP hD hS hl
  obtain ⟨x, g⟩ := xx_
  dsimp only at hI ih5 hP hD hl
  have hx0 := hI
  have hl : lv_has ls 4 [(3, .int 6), (2, .int x), (0, .ref a), (1, .int p0)] := hl
  have hP : va_P G.1 vwCl [(a, .inl (gI G, 6, .inl g))] H := hP
  have hD : va_D A [(a, .inl (gI G, 6, .inl g))] := hD
  refine lv_iload_n hx hb dJ7_fill_53178_5 rfl (lv_at hl 1 rfl) ?_
  refine lv_iload_n hx hb dJ7_fill_53178_6 rfl (lv_at hl 0 rfl) ?_
  refine lv_icmp_ge (tgt := 20) hx hb dJ7_fill_53178_7 (by decide) (fun c1 => ?_) (fun c1 => ?_)
  · have hP9 := hP.sub (ws' := [(a, .inl (gI G, 6, .inl g))]) [0] rfl
    have hD9 := hD.sub (ws' := [(a, .inl (gI G, 6, .inl g))]) [0] (by decide) rfl
    exact W.vret hx hb hr (fun t ht hW => ⟨⟨g, rfl, trivial, by rw [ht]; exact hP9, hD9⟩, hS.F ht⟩) hS.2.2 dJ7_fill_53178_20
  · have hlt5 : x.toInt < (6 : Int32).toInt := by ((try simp only [inR, inS, i3_lt, i3_le, i3_eq, i6_lt, i6_le, Int32.toInt_toInt64, lg_cmp_lt, lg_cmp_gt, lg_cmp_ge, lg_cmp_le, Int32.reduceToInt, Int64.reduceToInt] at c1 ⊢); omega)
    refine lv_aload_n hx hb dJ7_fill_53178_10 rfl (lv_at hl 2 rfl) ?_
    refine lv_iload_n hx hb dJ7_fill_53178_11 rfl (lv_at hl 1 rfl) ?_
    refine lv_iload_n hx hb dJ7_fill_53178_12 rfl (lv_at hl 3 rfl) ?_
    refine va_iast hx hb E.K hP hD hS 0 1 rfl rfl (i := x) (vp_in_iff.mpr ⟨by omega, by have q := hlt5; simp only [Int32.reduceToInt] at q; omega⟩) dJ7_fill_53178_13 (fun H locs hP hD hS => ?_)
    obtain ⟨f2, ef2⟩ : ∃ yy_ : Nat → Int32, yy_ = upd g x.toNatClampNeg p0 := ⟨_, rfl⟩
    have hP : va_P G.1 vwCl [(a, .inl (gI G, 6, .inl f2))] H := by rw [ef2]; exact hP
    have hD : va_D A [(a, .inl (gI G, 6, .inl f2))] := by rw [ef2]; exact hD
    obtain ⟨x3, ex3⟩ : ∃ yy_ : Int32, yy_ = x + 1 := ⟨_, rfl⟩
    refine lv_iinc (v := x3) (lv' := [(2, .int x3), (3, .int 6), (0, .ref a), (1, .int p0)]) hx hb dJ7_fill_53178_14 hl (k := 1) rfl (by rw [ex3]; rfl) (by decide) rfl (fun ls hl => ?_)
    refine lv_goto (tgt := 5) hx hb dJ7_fill_53178_17 (by decide) ?_
    have hinc5 := inc_lt hlt5 ex3
    refine ih5 (x3, f2) ?_ (by first | omega | (dsimp only; omega)) H locs ls (hP.sub [0] rfl) (hD.sub [0] (by decide) rfl) hS (lv_sub hl [1, 0, 2, 3] rfl)
    try dsimp only
    omega

set_option maxHeartbeats 1000000 in
set_option maxRecDepth 100000 in
theorem c_Table (l : Launch) (G : Gy) (sz : Nat) (t : Nat)  : Cv l G yX7_init wsX7_init ({ frames := 1, cells := 2, slots := 31250, locals := 12 }) [.ref t] [(t, .inr (3, [.null, .null, .int 0, .int 0, .int 0, .int 0, .int 0]))] sz (fun (u : Nat × Nat) => match u with | (ta1, tq1) => True) (fun (u : Nat × Nat) => match u with | (ta1, tq1) => [(t, .inr (3, [.ref ta1, .ref tq1, .int 0, .int 0, .int 0, .int 0, .int 0])), (ta1, .inl (gB G, 15625, .inl (fun _ => 0))), (tq1, .inl (gI G, 15625, .inl (fun _ => 0)))]) 2 31250 := by
  refine Met.ofW (cc := cX7_init) (maxL := 1) (ret := none) (by decide) rfl ?_
  intro p e s m args below meth c s₁ B hml hv
  obtain ⟨rfl, hsz, hP, hD0, E0⟩ := hv
  have hx := B.exec
  have hb := B.bytes
  have hr := B.returns
  have hts := atoms_spec (ws := wsX7_init) B.pre
  have hown : s.vm.findClass RX7 = some m.cls := findClass_of_methodNamed B.named
  have hlocks := B.notSynchronized
  have hin : meth.name = "<init>" := (name_of_methodNamed B.named B.method).1
  subst hsz
  have hD := hD0.self (sz := s.heap.size)
  generalize hAe : va_A [(t, .inr (3, [.null, .null, .int 0, .int 0, .int 0, .int 0, .int 0]))] s.heap.size = A at hD E0 ⊢
  have E : EV G A s s.heap := E0
  have hA : ∀ q : Nat, s.heap.size ≤ q → A q := fun q h => by rw [← hAe]; exact Or.inr h
  have hS : va_S A s.heap s.heap [] := va_S.rf
  have hl := lv_entry ([.ref t]) (n := 1) (Nat.le_of_ble_eq_true rfl)
  rw [lg_entry_eq]
  generalize (lg_sl ([.ref t]) ++ List.replicate (1 - (lg_sl ([.ref t])).length) Slot.unset).toArray = ls at hl ⊢
  have hl : lv_has ls 1 [(0, .ref t)] := hl
  have hP : va_P G.1 vwCl [(t, .inr (3, [.null, .null, .int 0, .int 0, .int 0, .int 0, .int 0]))] s.heap := hP
  refine lv_aload_n hx hb dX7_init_0 rfl (lv_at hl 0 rfl) ?_
  refine W.objInit hx hb hown (hts (.methodLink RX7 3 objectInit) (by decide +kernel)) (hts (.instanceMethod objectInit) (by decide +kernel)) (hts (.code objectInit ⟨#[0xb1]⟩ 1 none) (by decide +kernel)) rfl (by rw [hml]; exact hl.1) rfl dX7_init_1 (Nat.le_of_ble_eq_true rfl) (Nat.le_of_ble_eq_true rfl) ?_
  refine W.eq (g2 := F0 m 4 ls []) rfl ?_
  refine lv_aload_n hx hb dX7_init_4 rfl (lv_at hl 0 rfl) ?_
  refine lv_sipush (v := 15625) hx hb dX7_init_5 (by decide) ?_
  refine nw_row (atype := .byte) (a0 := (15625, .inl (fun _ => 0))) (ty := .byte) hx hb (hts (.arrayClass .byte) (by decide +kernel)) rfl E 0 rfl (fun _ _ h => h) hP hD hS hA (fun _ => rfl) (by decide +kernel) (by decide +kernel) (by decide +kernel) (by decide +kernel) (by decide +kernel) dX7_init_8 (fun q1 H hP hD hS => ?_)
  have hP : va_P G.1 vwCl [(t, .inr (3, [.null, .null, .int 0, .int 0, .int 0, .int 0, .int 0])), (q1, .inl (gB G, 15625, .inl (fun _ => 0)))] H := hP
  have hD : va_D A [(t, .inr (3, [.null, .null, .int 0, .int 0, .int 0, .int 0, .int 0])), (q1, .inl (gB G, 15625, .inl (fun _ => 0)))] := hD
  refine W.widen (k := 1) (n := 15625) (by decide +kernel) (by decide +kernel) ?_
  refine va_putF (D := G.1) (ci := 3) (v := .ref q1) (ty := .array .byte) (C := RX7) (T := TX7) (N := 7) hx hb hts (fun _ h => List.mem_cons_of_mem _ (List.mem_append_right _ h)) tyX7 tyX7_ok nmX7 hown E.K hP hD hS 0 rfl rfl 0 (by decide) (hts (.fieldLink RX7 11 "LastMap$Table" "slips" "[B") (by decide +kernel)) (fun _ h9 => h9) rfl hin rfl (by decide +kernel) rfl rfl (Nat.le_of_ble_eq_true rfl) dX7_init_10 (fun H locs hP hD hS => ?_)
  have hP : va_P G.1 vwCl [(t, .inr (3, [.ref q1, .null, .int 0, .int 0, .int 0, .int 0, .int 0])), (q1, .inl (gB G, 15625, .inl (fun _ => 0)))] H := hP
  have hD : va_D A [(t, .inr (3, [.ref q1, .null, .int 0, .int 0, .int 0, .int 0, .int 0])), (q1, .inl (gB G, 15625, .inl (fun _ => 0)))] := hD
  refine lv_aload_n hx hb dX7_init_13 rfl (lv_at hl 0 rfl) ?_
  refine lv_sipush (v := 15625) hx hb dX7_init_14 (by decide) ?_
  refine nw_row (atype := .int) (a0 := (15625, .inl (fun _ => 0))) (ty := .int) hx hb (hts (.arrayClass .int) (by decide +kernel)) rfl E 1 rfl (fun _ _ h => h) hP hD hS hA (fun _ => rfl) (by decide +kernel) (by decide +kernel) (by decide +kernel) (by decide +kernel) (by decide +kernel) dX7_init_17 (fun q2 H hP hD hS => ?_)
  have hP : va_P G.1 vwCl [(t, .inr (3, [.ref q1, .null, .int 0, .int 0, .int 0, .int 0, .int 0])), (q1, .inl (gB G, 15625, .inl (fun _ => 0))), (q2, .inl (gI G, 15625, .inl (fun _ => 0)))] H := hP
  have hD : va_D A [(t, .inr (3, [.ref q1, .null, .int 0, .int 0, .int 0, .int 0, .int 0])), (q1, .inl (gB G, 15625, .inl (fun _ => 0))), (q2, .inl (gI G, 15625, .inl (fun _ => 0)))] := hD
  refine W.widen (k := 2) (n := 31250) (by decide +kernel) (by decide +kernel) ?_
  refine va_putF (D := G.1) (ci := 3) (v := .ref q2) (ty := .array .int) (C := RX7) (T := TX7) (N := 7) hx hb hts (fun _ h => List.mem_cons_of_mem _ (List.mem_append_right _ h)) tyX7 tyX7_ok nmX7 hown E.K hP hD hS 0 rfl rfl 1 (by decide) (hts (.fieldLink RX7 17 "LastMap$Table" "queue" "[I") (by decide +kernel)) (fun _ h9 => h9) rfl hin rfl (by decide +kernel) rfl rfl (Nat.le_of_ble_eq_true rfl) dX7_init_19 (fun H locs hP hD hS => ?_)
  have hP : va_P G.1 vwCl [(t, .inr (3, [.ref q1, .ref q2, .int 0, .int 0, .int 0, .int 0, .int 0])), (q1, .inl (gB G, 15625, .inl (fun _ => 0))), (q2, .inl (gI G, 15625, .inl (fun _ => 0)))] H := hP
  have hD : va_D A [(t, .inr (3, [.ref q1, .ref q2, .int 0, .int 0, .int 0, .int 0, .int 0])), (q1, .inl (gB G, 15625, .inl (fun _ => 0))), (q2, .inl (gI G, 15625, .inl (fun _ => 0)))] := hD
  have hP9 := hP.sub (ws' := [(t, .inr (3, [.ref q1, .ref q2, .int 0, .int 0, .int 0, .int 0, .int 0])), (q1, .inl (gB G, 15625, .inl (fun _ => 0))), (q2, .inl (gI G, 15625, .inl (fun _ => 0)))]) [0, 1, 2] rfl
  have hD9 := hD.sub (ws' := [(t, .inr (3, [.ref q1, .ref q2, .int 0, .int 0, .int 0, .int 0, .int 0])), (q1, .inl (gB G, 15625, .inl (fun _ => 0))), (q2, .inl (gI G, 15625, .inl (fun _ => 0)))]) [0, 1, 2] (by decide) rfl
  exact W.vret hx hb hr (fun t ht hW => ⟨⟨(q1, q2), rfl, trivial, by rw [ht]; exact hP9, hD9⟩, hS.F ht⟩) hS.2.2 dX7_init_22
