set_option maxHeartbeats 1000000 in
set_option maxRecDepth 100000 in
theorem c_fillB (l : Launch) (G : Gy) (sz : Nat) (a : Nat) (f : Nat → Int32) (p0 : Int32)  : Cv l G yJ7_fill_031fb wsJ7_fill_031fb ({ frames := 0, cells := 0, slots := 0, locals := 0 }) [.ref a, .int p0] [(a, .inl (gB G, 15625, .inl f))] sz (fun (f1 : Nat → Int32) => True) (fun (f1 : Nat → Int32) => [(a, .inl (gB G, 15625, .inl f1))]) 0 0 := by
  refine Met.ofW (cc := cJ7_fill_031fb) (maxL := 4) (ret := none) (by decide) rfl ?_
  intro p e s m args below meth c s₁ B hml hv
  obtain ⟨rfl, hsz, hP, hD0, E0⟩ := hv
  have hx := B.exec
  have hb := B.bytes
  have hr := B.returns
  have hts := atoms_spec (ws := wsJ7_fill_031fb) B.pre
  have hown : s.vm.findClass RJ7 = some m.cls := findClass_of_methodNamed B.named
  have hlocks := B.notSynchronized
  subst hsz
  have hD := hD0.self (sz := s.heap.size)
  generalize hAe : va_A [(a, .inl (gB G, 15625, .inl f))] s.heap.size = A at hD E0 ⊢
  have E : EV G A s s.heap := E0
  have hA : ∀ q : Nat, s.heap.size ≤ q → A q := fun q h => by rw [← hAe]; exact Or.inr h
  have hS : va_S A s.heap s.heap [] := va_S.rf
  have hl := lv_entry ([.ref a, .int p0]) (n := 4) (Nat.le_of_ble_eq_true rfl)
  rw [lg_entry_eq]
  generalize (lg_sl ([.ref a, .int p0]) ++ List.replicate (4 - (lg_sl ([.ref a, .int p0])).length) Slot.unset).toArray = ls at hl ⊢
  have hl : lv_has ls 4 [(0, .ref a), (1, .int p0)] := hl
  have hP : va_P G.1 vwCl [(a, .inl (gB G, 15625, .inl f))] s.heap := hP
  refine lv_iconst (v := 0) hx hb dJ7_fill_031fb_0 (by decide) ?_
  refine lv_istore_n (lv' := [(2, .int 0), (0, .ref a), (1, .int p0)]) hx hb dJ7_fill_031fb_1 rfl hl (by decide) rfl (fun ls hl => ?_)
  refine lv_aload_n hx hb dJ7_fill_031fb_2 rfl (lv_at hl 1 rfl) ?_
  refine va_alen (v := 15625) hx hb E.K hP 0 0 rfl rfl rfl dJ7_fill_031fb_3 ?_
  refine lv_istore_n (lv' := [(3, .int 15625), (2, .int 0), (0, .ref a), (1, .int p0)]) hx hb dJ7_fill_031fb_4 rfl hl (by decide) rfl (fun ls hl => ?_)
  refine lp_run (x0 := (0, f)) (fun xx_ : Int32 × (Nat → Int32) => match xx_ with | (x, g) => [(a, .inl (gB G, 15625, .inl g))]) (fun xx_ : Int32 × (Nat → Int32) => match xx_ with | (x, g) => [(3, .int 15625), (2, .int x), (0, .ref a), (1, .int p0)]) (fun xx_ : Int32 × (Nat → Int32) => match xx_ with | (x, g) => (0 ≤ x.toInt)) (fun xx_ : Int32 × (Nat → Int32) => match xx_ with | (x, g) => ((15625 : Int32).toInt - x.toInt).toNat) (hP.sub [0] rfl) (hD.sub [0] (by decide) rfl) hS (lv_sub hl [0, 1, 2, 3] rfl) (show (0 : Int) ≤ (0 : Int32).toInt by first | decide | omega | assumption) ?_
  intro xx_ hI ih5 H locs ls hP hD hS hl
  obtain ⟨x, g⟩ := xx_
  dsimp only at hI ih5 hP hD hl
  have hx0 := hI
  have hl : lv_has ls 4 [(3, .int 15625), (2, .int x), (0, .ref a), (1, .int p0)] := hl
  have hP : va_P G.1 vwCl [(a, .inl (gB G, 15625, .inl g))] H := hP
  have hD : va_D A [(a, .inl (gB G, 15625, .inl g))] := hD
  refine lv_iload_n hx hb dJ7_fill_031fb_5 rfl (lv_at hl 1 rfl) ?_
  refine lv_iload_n hx hb dJ7_fill_031fb_6 rfl (lv_at hl 0 rfl) ?_
  refine lv_icmp_ge (tgt := 20) hx hb dJ7_fill_031fb_7 (by decide) (fun c1 => ?_) (fun c1 => ?_)
  · have hP9 := hP.sub (ws' := [(a, .inl (gB G, 15625, .inl g))]) [0] rfl
    have hD9 := hD.sub (ws' := [(a, .inl (gB G, 15625, .inl g))]) [0] (by decide) rfl
    exact W.vret hx hb hr (fun t ht hW => ⟨⟨g, rfl, trivial, by rw [ht]; exact hP9, hD9⟩, hS.F ht⟩) hS.2.2 dJ7_fill_031fb_20
  · have hlt5 : x.toInt < (15625 : Int32).toInt := by ((try simp only [inR, inS, i3_lt, i3_le, i3_eq, i6_lt, i6_le, Int32.toInt_toInt64, lg_cmp_lt, lg_cmp_gt, lg_cmp_ge, lg_cmp_le, Int32.reduceToInt, Int64.reduceToInt] at c1 ⊢); omega)
    refine lv_aload_n hx hb dJ7_fill_031fb_10 rfl (lv_at hl 2 rfl) ?_
    refine lv_iload_n hx hb dJ7_fill_031fb_11 rfl (lv_at hl 1 rfl) ?_
    refine lv_iload_n hx hb dJ7_fill_031fb_12 rfl (lv_at hl 3 rfl) ?_
    refine va_bast hx hb E.K hP hD hS 0 0 rfl rfl (i := x) (vp_in_iff.mpr ⟨by omega, by have q := hlt5; simp only [Int32.reduceToInt] at q; omega⟩) dJ7_fill_031fb_13 (fun H locs hP hD hS => ?_)
    obtain ⟨f2, ef2⟩ : ∃ yy_ : Nat → Int32, yy_ = upd g x.toNatClampNeg (vp_nar .byte p0) := ⟨_, rfl⟩
    have hP : va_P G.1 vwCl [(a, .inl (gB G, 15625, .inl f2))] H := by rw [ef2]; exact hP
    have hD : va_D A [(a, .inl (gB G, 15625, .inl f2))] := by rw [ef2]; exact hD
    obtain ⟨x3, ex3⟩ : ∃ yy_ : Int32, yy_ = x + 1 := ⟨_, rfl⟩
    refine lv_iinc (v := x3) (lv' := [(2, .int x3), (3, .int 15625), (0, .ref a), (1, .int p0)]) hx hb dJ7_fill_031fb_14 hl (k := 1) rfl (by rw [ex3]; rfl) (by decide) rfl (fun ls hl => ?_)
    refine lv_goto (tgt := 5) hx hb dJ7_fill_031fb_17 (by decide) ?_
    have hinc5 := inc_lt hlt5 ex3
    refine ih5 (x3, f2) ?_ (by first | omega | (dsimp only; omega)) H locs ls (hP.sub [0] rfl) (hD.sub [0] (by decide) rfl) hS (lv_sub hl [1, 0, 2, 3] rfl)
    try dsimp only
    omega

set_option maxHeartbeats 1000000 in
set_option maxRecDepth 100000 in
theorem c_fillI (l : Launch) (G : Gy) (sz : Nat) (a : Nat) (f : Nat → Int32) (p0 : Int32)  : Cv l G yJ7_fill_53178 wsJ7_fill_53178 ({ frames := 0, cells := 0, slots := 0, locals := 0 }) [.ref a, .int p0] [(a, .inl (gI G, 15625, .inl f))] sz (fun (f1 : Nat → Int32) => True) (fun (f1 : Nat → Int32) => [(a, .inl (gI G, 15625, .inl f1))]) 0 0 := by
  refine Met.ofW (cc := cJ7_fill_53178) (maxL := 4) (ret := none) (by decide) rfl ?_
  intro p e s m args below meth c s₁ B hml hv
  obtain ⟨rfl, hsz, hP, hD0, E0⟩ := hv
  have hx := B.exec
  have hb := B.bytes
  have hr := B.returns
  have hts := atoms_spec (ws := wsJ7_fill_53178) B.pre
  have hown : s.vm.findClass RJ7 = some m.cls := findClass_of_methodNamed B.named
  have hlocks := B.notSynchronized
  subst hsz
  have hD := hD0.self (sz := s.heap.size)
  generalize hAe : va_A [(a, .inl (gI G, 15625, .inl f))] s.heap.size = A at hD E0 ⊢
  have E : EV G A s s.heap := E0
  have hA : ∀ q : Nat, s.heap.size ≤ q → A q := fun q h => by rw [← hAe]; exact Or.inr h
  have hS : va_S A s.heap s.heap [] := va_S.rf
  have hl := lv_entry ([.ref a, .int p0]) (n := 4) (Nat.le_of_ble_eq_true rfl)
  rw [lg_entry_eq]
  generalize (lg_sl ([.ref a, .int p0]) ++ List.replicate (4 - (lg_sl ([.ref a, .int p0])).length) Slot.unset).toArray = ls at hl ⊢
  have hl : lv_has ls 4 [(0, .ref a), (1, .int p0)] := hl
  have hP : va_P G.1 vwCl [(a, .inl (gI G, 15625, .inl f))] s.heap := hP
  refine lv_iconst (v := 0) hx hb dJ7_fill_53178_0 (by decide) ?_
  refine lv_istore_n (lv' := [(2, .int 0), (0, .ref a), (1, .int p0)]) hx hb dJ7_fill_53178_1 rfl hl (by decide) rfl (fun ls hl => ?_)
  refine lv_aload_n hx hb dJ7_fill_53178_2 rfl (lv_at hl 1 rfl) ?_
  refine va_alen (v := 15625) hx hb E.K hP 0 1 rfl rfl rfl dJ7_fill_53178_3 ?_
  refine lv_istore_n (lv' := [(3, .int 15625), (2, .int 0), (0, .ref a), (1, .int p0)]) hx hb dJ7_fill_53178_4 rfl hl (by decide) rfl (fun ls hl => ?_)
  refine lp_run (x0 := (0, f)) (fun xx_ : Int32 × (Nat → Int32) => match xx_ with | (x, g) => [(a, .inl (gI G, 15625, .inl g))]) (fun xx_ : Int32 × (Nat → Int32) => match xx_ with | (x, g) => [(3, .int 15625), (2, .int x), (0, .ref a), (1, .int p0)]) (fun xx_ : Int32 × (Nat → Int32) => match xx_ with | (x, g) => (0 ≤ x.toInt)) (fun xx_ : Int32 × (Nat → Int32) => match xx_ with | (x, g) => ((15625 : Int32).toInt - x.toInt).toNat) (hP.sub [0] rfl) (hD.sub [0] (by decide) rfl) hS (lv_sub hl [0, 1, 2, 3] rfl) (show (0 : Int) ≤ (0 : Int32).toInt by first | decide | omega | assumption) ?_
  intro xx_ hI ih5 H locs ls hP hD hS hl
  obtain ⟨x, g⟩ := xx_
  dsimp only at hI ih5 hP hD hl
  have hx0 := hI
  have hl : lv_has ls 4 [(3, .int 15625), (2, .int x), (0, .ref a), (1, .int p0)] := hl
  have hP : va_P G.1 vwCl [(a, .inl (gI G, 15625, .inl g))] H := hP
  have hD : va_D A [(a, .inl (gI G, 15625, .inl g))] := hD
  refine lv_iload_n hx hb dJ7_fill_53178_5 rfl (lv_at hl 1 rfl) ?_
  refine lv_iload_n hx hb dJ7_fill_53178_6 rfl (lv_at hl 0 rfl) ?_
  refine lv_icmp_ge (tgt := 20) hx hb dJ7_fill_53178_7 (by decide) (fun c1 => ?_) (fun c1 => ?_)
  · have hP9 := hP.sub (ws' := [(a, .inl (gI G, 15625, .inl g))]) [0] rfl
    have hD9 := hD.sub (ws' := [(a, .inl (gI G, 15625, .inl g))]) [0] (by decide) rfl
    exact W.vret hx hb hr (fun t ht hW => ⟨⟨g, rfl, trivial, by rw [ht]; exact hP9, hD9⟩, hS.F ht⟩) hS.2.2 dJ7_fill_53178_20
  · have hlt5 : x.toInt < (15625 : Int32).toInt := by ((try simp only [inR, inS, i3_lt, i3_le, i3_eq, i6_lt, i6_le, Int32.toInt_toInt64, lg_cmp_lt, lg_cmp_gt, lg_cmp_ge, lg_cmp_le, Int32.reduceToInt, Int64.reduceToInt] at c1 ⊢); omega)
    refine lv_aload_n hx hb dJ7_fill_53178_10 rfl (lv_at hl 2 rfl) ?_
    refine lv_iload_n hx hb dJ7_fill_53178_11 rfl (lv_at hl 1 rfl) ?_
    refine lv_iload_n hx hb dJ7_fill_53178_12 rfl (lv_at hl 3 rfl) ?_
    refine va_iast hx hb E.K hP hD hS 0 1 rfl rfl (i := x) (vp_in_iff.mpr ⟨by omega, by have q := hlt5; simp only [Int32.reduceToInt] at q; omega⟩) dJ7_fill_53178_13 (fun H locs hP hD hS => ?_)
    obtain ⟨f2, ef2⟩ : ∃ yy_ : Nat → Int32, yy_ = upd g x.toNatClampNeg p0 := ⟨_, rfl⟩
    have hP : va_P G.1 vwCl [(a, .inl (gI G, 15625, .inl f2))] H := by rw [ef2]; exact hP
    have hD : va_D A [(a, .inl (gI G, 15625, .inl f2))] := by rw [ef2]; exact hD
    obtain ⟨x3, ex3⟩ : ∃ yy_ : Int32, yy_ = x + 1 := ⟨_, rfl⟩
    refine lv_iinc (v := x3) (lv' := [(2, .int x3), (3, .int 15625), (0, .ref a), (1, .int p0)]) hx hb dJ7_fill_53178_14 hl (k := 1) rfl (by rw [ex3]; rfl) (by decide) rfl (fun ls hl => ?_)
    refine lv_goto (tgt := 5) hx hb dJ7_fill_53178_17 (by decide) ?_
    have hinc5 := inc_lt hlt5 ex3
    refine ih5 (x3, f2) ?_ (by first | omega | (dsimp only; omega)) H locs ls (hP.sub [0] rfl) (hD.sub [0] (by decide) rfl) hS (lv_sub hl [1, 0, 2, 3] rfl)
    try dsimp only
    omega

set_option maxHeartbeats 1000000 in
set_option maxRecDepth 100000 in
theorem c_fillI6 (l : Launch) (G : Gy) (sz : Nat) (a : Nat) (f : Nat → Int32) (p0 : Int32)  : Cv l G yJ7_fill_53178 wsJ7_fill_53178 ({ frames := 0, cells := 0, slots := 0, locals := 0 }) [.ref a, .int p0] [(a, .inl (gI G, 6, .inl f))] sz (fun (f1 : Nat → Int32) => True) (fun (f1 : Nat → Int32) => [(a, .inl (gI G, 6, .inl f1))]) 0 0 := by
  refine Met.ofW (cc := cJ7_fill_53178) (maxL := 4) (ret := none) (by decide) rfl ?_
  intro p e s m args below meth c s₁ B hml hv
  obtain ⟨rfl, hsz, hP, hD0, E0⟩ := hv
  have hx := B.exec
  have hb := B.bytes
  have hr := B.returns
  have hts := atoms_spec (ws := wsJ7_fill_53178) B.pre
  have hown : s.vm.findClass RJ7 = some m.cls := findClass_of_methodNamed B.named
  have hlocks := B.notSynchronized
  subst hsz
  have hD := hD0.self (sz := s.heap.size)
  generalize hAe : va_A [(a, .inl (gI G, 6, .inl f))] s.heap.size = A at hD E0 ⊢
  have E : EV G A s s.heap := E0
  have hA : ∀ q : Nat, s.heap.size ≤ q → A q := fun q h => by rw [← hAe]; exact Or.inr h
  have hS : va_S A s.heap s.heap [] := va_S.rf
  have hl := lv_entry ([.ref a, .int p0]) (n := 4) (Nat.le_of_ble_eq_true rfl)
  rw [lg_entry_eq]
  generalize (lg_sl ([.ref a, .int p0]) ++ List.replicate (4 - (lg_sl ([.ref a, .int p0])).length) Slot.unset).toArray = ls at hl ⊢
  have hl : lv_has ls 4 [(0, .ref a), (1, .int p0)] := hl
  have hP : va_P G.1 vwCl [(a, .inl (gI G, 6, .inl f))] s.heap := hP
  refine lv_iconst (v := 0) hx hb dJ7_fill_53178_0 (by decide) ?_
  refine lv_istore_n (lv' := [(2, .int 0), (0, .ref a), (1, .int p0)]) hx hb dJ7_fill_53178_1 rfl hl (by decide) rfl (fun ls hl => ?_)
  refine lv_aload_n hx hb dJ7_fill_53178_2 rfl (lv_at hl 1 rfl) ?_
  refine va_alen (v := 6) hx hb E.K hP 0 1 rfl rfl rfl dJ7_fill_53178_3 ?_
  refine lv_istore_n (lv' := [(3, .int 6), (2, .int 0), (0, .ref a), (1, .int p0)]) hx hb dJ7_fill_53178_4 rfl hl (by decide) rfl (fun ls hl => ?_)
  refine lp_run (x0 := (0, f)) (fun xx_ : Int32 × (Nat → Int32) => match xx_ with | (x, g) => [(a, .inl (gI G, 6, .inl g))]) (fun xx_ : Int32 × (Nat → Int32) => match xx_ with | (x, g) => [(3, .int 6), (2, .int x), (0, .ref a), (1, .int p0)]) (fun xx_ : Int32 × (Nat → Int32) => match xx_ with | (x, g) => (0 ≤ x.toInt)) (fun xx_ : Int32 × (Nat → Int32) => match xx_ with | (x, g) => ((6 : Int32).toInt - x.toInt).toNat) (hP.sub [0] rfl) (hD.sub [0] (by decide) rfl) hS (lv_sub hl [0, 1, 2, 3] rfl) (show (0 : Int) ≤ (0 : Int32).toInt by first | decide | omega | assumption) ?_
  intro xx_ hI ih5 H locs ls hP hD hS hl
  obtain ⟨x, g⟩ := xx_
  dsimp only at hI ih5 hP hD hl
  have hx0 := hI
  have hl : lv_has ls 4 [(3, .int 6), (2, .int x), (0, .ref a), (1, .int p0)] := hl
  have hP : va_P G.1 vwCl [(a, .inl (gI G, 6, .inl g))] H := hP
  have hD : va_D A [(a, .inl (gI G, 6, .inl g))] := hD
  refine lv_iload_n hx hb dJ7_fill_53178_5 rfl (lv_at hl 1 rfl) ?_
  refine lv_iload_n hx hb dJ7_fill_53178_6 rfl (lv_at hl 0 rfl) ?_
  refine lv_icmp_ge (tgt := 20) hx hb dJ7_fill_53178_7 (by decide) (fun c1 => ?_) (fun c1 => ?_)
  · have hP9 := hP.sub (ws' := [(a, .inl (gI G, 6, .inl g))]) [0] rfl
    have hD9 := hD.sub (ws' := [(a, .inl (gI G, 6, .inl g))]) [0] (by decide) rfl
    exact W.vret hx hb hr (fun t ht hW => ⟨⟨g, rfl, trivial, by rw [ht]; exact hP9, hD9⟩, hS.F ht⟩) hS.2.2 dJ7_fill_53178_20
  · have hlt5 : x.toInt < (6 : Int32).toInt := by ((try simp only [inR, inS, i3_lt, i3_le, i3_eq, i6_lt, i6_le, Int32.toInt_toInt64, lg_cmp_lt, lg_cmp_gt, lg_cmp_ge, lg_cmp_le, Int32.reduceToInt, Int64.reduceToInt] at c1 ⊢); omega)
    refine lv_aload_n hx hb dJ7_fill_53178_10 rfl (lv_at hl 2 rfl) ?_
    refine lv_iload_n hx hb dJ7_fill_53178_11 rfl (lv_at hl 1 rfl) ?_
    refine lv_iload_n hx hb dJ7_fill_53178_12 rfl (lv_at hl 3 rfl) ?_
    refine va_iast hx hb E.K hP hD hS 0 1 rfl rfl (i := x) (vp_in_iff.mpr ⟨by omega, by have q := hlt5; simp only [Int32.reduceToInt] at q; omega⟩) dJ7_fill_53178_13 (fun H locs hP hD hS => ?_)
    obtain ⟨f2, ef2⟩ : ∃ yy_ : Nat → Int32, yy_ = upd g x.toNatClampNeg p0 := ⟨_, rfl⟩
    have hP : va_P G.1 vwCl [(a, .inl (gI G, 6, .inl f2))] H := by rw [ef2]; exact hP
    have hD : va_D A [(a, .inl (gI G, 6, .inl f2))] := by rw [ef2]; exact hD
    obtain ⟨x3, ex3⟩ : ∃ yy_ : Int32, yy_ = x + 1 := ⟨_, rfl⟩
    refine lv_iinc (v := x3) (lv' := [(2, .int x3), (3, .int 6), (0, .ref a), (1, .int p0)]) hx hb dJ7_fill_53178_14 hl (k := 1) rfl (by rw [ex3]; rfl) (by decide) rfl (fun ls hl => ?_)
    refine lv_goto (tgt := 5) hx hb dJ7_fill_53178_17 (by decide) ?_
    have hinc5 := inc_lt hlt5 ex3
    refine ih5 (x3, f2) ?_ (by first | omega | (dsimp only; omega)) H locs ls (hP.sub [0] rfl) (hD.sub [0] (by decide) rfl) hS (lv_sub hl [1, 0, 2, 3] rfl)
    try dsimp only
    omega

set_option maxHeartbeats 1000000 in
set_option maxRecDepth 100000 in
theorem c_queueGoal_rec (l : Launch) (G : Gy) : ∀ (d : Nat) (sz : Nat) (t : Nat) (ta : Nat) (tq : Nat) (qd : Int32) (se : Int32) (go : Int32) (ki : Int32) (nn : Int32) (fs : Nat → Int32) (fq : Nat → Int32) (p0 : Int32) (p1 : Int32) (hq : inR qd 0 15625) (hd : 6 ≤ p0.toInt + d) (h0 : 0 ≤ p0.toInt), Cv l G yX7_queueGoal wsX7_queueGoal ({ frames := d + 1, cells := 0, slots := 0, locals := 24 * d + 22 }) [.ref t, .int p0, .int p1] [(t, .inr (3, [.ref ta, .ref tq, .int qd, .int se, .int go, .int ki, .int nn])), (ta, .inl (gB G, 15625, .inl fs)), (tq, .inl (gI G, 15625, .inl fq))] sz (fun (u : Int32 × (Nat → Int32) × (Nat → Int32)) => match u with | (qd1, fs1, fq1) => inR qd1 0 15625) (fun (u : Int32 × (Nat → Int32) × (Nat → Int32)) => match u with | (qd1, fs1, fq1) => [(t, .inr (3, [.ref ta, .ref tq, .int qd1, .int se, .int go, .int ki, .int nn])), (ta, .inl (gB G, 15625, .inl fs1)), (tq, .inl (gI G, 15625, .inl fq1))]) 0 0 := by
  intro d
  induction d with
  | zero =>
    intro sz t ta tq qd se go ki nn fs fq p0 p1 hq hd h0
    refine Met.ofW (cc := cX7_queueGoal) (maxL := 5) (ret := none) (by decide) rfl ?_
    intro p e s m args below meth c s₁ B hml hv
    obtain ⟨rfl, hsz, hP, hD0, E0⟩ := hv
    have hx := B.exec
    have hb := B.bytes
    have hr := B.returns
    have hts := atoms_spec (ws := wsX7_queueGoal) B.pre
    have hown : s.vm.findClass RX7 = some m.cls := findClass_of_methodNamed B.named
    have hlocks := B.notSynchronized
    subst hsz
    have hD := hD0.self (sz := s.heap.size)
    generalize hAe : va_A [(t, .inr (3, [.ref ta, .ref tq, .int qd, .int se, .int go, .int ki, .int nn])), (ta, .inl (gB G, 15625, .inl fs)), (tq, .inl (gI G, 15625, .inl fq))] s.heap.size = A at hD E0 ⊢
    have E : EV G A s s.heap := E0
    have hA : ∀ q : Nat, s.heap.size ≤ q → A q := fun q h => by rw [← hAe]; exact Or.inr h
    have hS : va_S A s.heap s.heap [] := va_S.rf
    have hl := lv_entry ([.ref t, .int p0, .int p1]) (n := 5) (Nat.le_of_ble_eq_true rfl)
    rw [lg_entry_eq]
    generalize (lg_sl ([.ref t, .int p0, .int p1]) ++ List.replicate (5 - (lg_sl ([.ref t, .int p0, .int p1])).length) Slot.unset).toArray = ls at hl ⊢
    have hl : lv_has ls 5 [(0, .ref t), (1, .int p0), (2, .int p1)] := hl
    have hP : va_P G.1 vwCl [(t, .inr (3, [.ref ta, .ref tq, .int qd, .int se, .int go, .int ki, .int nn])), (ta, .inl (gB G, 15625, .inl fs)), (tq, .inl (gI G, 15625, .inl fq))] s.heap := hP
    refine lv_iload_n hx hb dX7_queueGoal_0 rfl (lv_at hl 1 rfl) ?_
    refine lv_aload_n hx hb dX7_queueGoal_1 rfl (lv_at hl 0 rfl) ?_
    refine va_get (D := G.1) (ci := 3) (v := .int nn) (C := RX7) (T := TX7) (N := 7) hx hb hts (fun _ h => List.mem_cons_of_mem _ (List.mem_append_right _ h)) hown E.K hP 0 rfl rfl 6 (by decide) (hts (.fieldLink RX7 28 "LastMap$Table" "n" "I") (by decide +kernel)) (fun _ h9 => h9) rfl dX7_queueGoal_2 ?_
    refine lv_icmp_ge (tgt := 14) hx hb dX7_queueGoal_5 (by decide) (fun c1 => ?_) (fun c1 => ?_)
    · refine lv_aload_n hx hb dX7_queueGoal_14 rfl (lv_at hl 0 rfl) ?_
      refine lv_iload_n hx hb dX7_queueGoal_15 rfl (lv_at hl 2 rfl) ?_
      refine lv_iconst (v := 0) hx hb dX7_queueGoal_16 (by decide) ?_
      refine ca_v (wr := []) (va_runV (As := [.int p1, .int 0]) (rest := []) ⟨hx, hb, hml, hown, hts⟩ (c_reach l G s.heap.size t ta tq qd se go ki nn fs fq p1 0 (by first | exact hv2 | exact hq)) (cwV 2 hts gX7_queueGoal_X7_reach rfl rfl rfl (by decide +kernel) ⟨show 0 + 1 ≤ 0 + 1 by omega, show 8 + (3 + 11) + 0 ≤ 24 * 0 + 22 by omega⟩) (pre_V E hP hD hS hA [0, 1, 2] (by decide) rfl 0 3 rfl rfl) rfl rfl hl.1 rfl (lv_room (Nat.le_of_ble_eq_true rfl)) dX7_queueGoal_17 ⟨Nat.zero_le _, Nat.zero_le _⟩) hS hP hD hA [0, 1, 2] [] rfl rfl (by decide) (by decide) (fun u4 H locs w2 hP hD hS => ?_)
      obtain ⟨qd1_5, fs1_6, fq1_7⟩ := u4
      try dsimp only at w2 hP hD
      have hP := hP.sub (ws' := [(t, .inr (3, [.ref ta, .ref tq, .int qd1_5, .int se, .int go, .int ki, .int nn])), (ta, .inl (gB G, 15625, .inl fs1_6)), (tq, .inl (gI G, 15625, .inl fq1_7))]) [0, 1, 2] rfl
      have hD := hD.sub (ws' := [(t, .inr (3, [.ref ta, .ref tq, .int qd1_5, .int se, .int go, .int ki, .int nn])), (ta, .inl (gB G, 15625, .inl fs1_6)), (tq, .inl (gI G, 15625, .inl fq1_7))]) [0, 1, 2] (by decide) rfl
      have hP9 := hP.sub (ws' := [(t, .inr (3, [.ref ta, .ref tq, .int qd1_5, .int se, .int go, .int ki, .int nn])), (ta, .inl (gB G, 15625, .inl fs1_6)), (tq, .inl (gI G, 15625, .inl fq1_7))]) [0, 1, 2] rfl
      have hD9 := hD.sub (ws' := [(t, .inr (3, [.ref ta, .ref tq, .int qd1_5, .int se, .int go, .int ki, .int nn])), (ta, .inl (gB G, 15625, .inl fs1_6)), (tq, .inl (gI G, 15625, .inl fq1_7))]) [0, 1, 2] (by decide) rfl
      exact W.vret hx hb hr (fun t ht hW => ⟨⟨(qd1_5, fs1_6, fq1_7), rfl, by first | exact w2 | exact hv2 | exact hq, by rw [ht]; exact hP9, hD9⟩, hS.F ht⟩) hS.2.2 dX7_queueGoal_20
    · refine lv_iload_n hx hb dX7_queueGoal_8 rfl (lv_at hl 1 rfl) ?_
      refine lv_bipush (v := 6) hx hb dX7_queueGoal_9 (by decide) ?_
      refine lv_icmp_lt (tgt := 21) hx hb dX7_queueGoal_11 (by decide) (fun c8 => False.elim (by simp only [i3_lt, Int32.reduceToInt] at c8; omega)) (fun c8 => ?_)
      refine lv_aload_n hx hb dX7_queueGoal_14 rfl (lv_at hl 0 rfl) ?_
      refine lv_iload_n hx hb dX7_queueGoal_15 rfl (lv_at hl 2 rfl) ?_
      refine lv_iconst (v := 0) hx hb dX7_queueGoal_16 (by decide) ?_
      refine ca_v (wr := []) (va_runV (As := [.int p1, .int 0]) (rest := []) ⟨hx, hb, hml, hown, hts⟩ (c_reach l G s.heap.size t ta tq qd se go ki nn fs fq p1 0 (by first | exact hv2 | exact hq)) (cwV 2 hts gX7_queueGoal_X7_reach rfl rfl rfl (by decide +kernel) ⟨show 0 + 1 ≤ 0 + 1 by omega, show 8 + (3 + 11) + 0 ≤ 24 * 0 + 22 by omega⟩) (pre_V E hP hD hS hA [0, 1, 2] (by decide) rfl 0 3 rfl rfl) rfl rfl hl.1 rfl (lv_room (Nat.le_of_ble_eq_true rfl)) dX7_queueGoal_17 ⟨Nat.zero_le _, Nat.zero_le _⟩) hS hP hD hA [0, 1, 2] [] rfl rfl (by decide) (by decide) (fun u11 H locs w9 hP hD hS => ?_)
      obtain ⟨qd1_12, fs1_13, fq1_14⟩ := u11
      try dsimp only at w9 hP hD
      have hP := hP.sub (ws' := [(t, .inr (3, [.ref ta, .ref tq, .int qd1_12, .int se, .int go, .int ki, .int nn])), (ta, .inl (gB G, 15625, .inl fs1_13)), (tq, .inl (gI G, 15625, .inl fq1_14))]) [0, 1, 2] rfl
      have hD := hD.sub (ws' := [(t, .inr (3, [.ref ta, .ref tq, .int qd1_12, .int se, .int go, .int ki, .int nn])), (ta, .inl (gB G, 15625, .inl fs1_13)), (tq, .inl (gI G, 15625, .inl fq1_14))]) [0, 1, 2] (by decide) rfl
      have hP9 := hP.sub (ws' := [(t, .inr (3, [.ref ta, .ref tq, .int qd1_12, .int se, .int go, .int ki, .int nn])), (ta, .inl (gB G, 15625, .inl fs1_13)), (tq, .inl (gI G, 15625, .inl fq1_14))]) [0, 1, 2] rfl
      have hD9 := hD.sub (ws' := [(t, .inr (3, [.ref ta, .ref tq, .int qd1_12, .int se, .int go, .int ki, .int nn])), (ta, .inl (gB G, 15625, .inl fs1_13)), (tq, .inl (gI G, 15625, .inl fq1_14))]) [0, 1, 2] (by decide) rfl
      exact W.vret hx hb hr (fun t ht hW => ⟨⟨(qd1_12, fs1_13, fq1_14), rfl, by first | exact w9 | exact hv2 | exact hq, by rw [ht]; exact hP9, hD9⟩, hS.F ht⟩) hS.2.2 dX7_queueGoal_20
  | succ d ih =>
    intro sz t ta tq qd se go ki nn fs fq p0 p1 hq hd h0
    refine Met.ofW (cc := cX7_queueGoal) (maxL := 5) (ret := none) (by decide) rfl ?_
    intro p e s m args below meth c s₁ B hml hv
    obtain ⟨rfl, hsz, hP, hD0, E0⟩ := hv
    have hx := B.exec
    have hb := B.bytes
    have hr := B.returns
    have hts := atoms_spec (ws := wsX7_queueGoal) B.pre
    have hown : s.vm.findClass RX7 = some m.cls := findClass_of_methodNamed B.named
    have hlocks := B.notSynchronized
    subst hsz
    have hD := hD0.self (sz := s.heap.size)
    generalize hAe : va_A [(t, .inr (3, [.ref ta, .ref tq, .int qd, .int se, .int go, .int ki, .int nn])), (ta, .inl (gB G, 15625, .inl fs)), (tq, .inl (gI G, 15625, .inl fq))] s.heap.size = A at hD E0 ⊢
    have E : EV G A s s.heap := E0
    have hA : ∀ q : Nat, s.heap.size ≤ q → A q := fun q h => by rw [← hAe]; exact Or.inr h
    have hS : va_S A s.heap s.heap [] := va_S.rf
    have hl := lv_entry ([.ref t, .int p0, .int p1]) (n := 5) (Nat.le_of_ble_eq_true rfl)
    rw [lg_entry_eq]
    generalize (lg_sl ([.ref t, .int p0, .int p1]) ++ List.replicate (5 - (lg_sl ([.ref t, .int p0, .int p1])).length) Slot.unset).toArray = ls at hl ⊢
    have hl : lv_has ls 5 [(0, .ref t), (1, .int p0), (2, .int p1)] := hl
    have hP : va_P G.1 vwCl [(t, .inr (3, [.ref ta, .ref tq, .int qd, .int se, .int go, .int ki, .int nn])), (ta, .inl (gB G, 15625, .inl fs)), (tq, .inl (gI G, 15625, .inl fq))] s.heap := hP
    refine lv_iload_n hx hb dX7_queueGoal_0 rfl (lv_at hl 1 rfl) ?_
    refine lv_aload_n hx hb dX7_queueGoal_1 rfl (lv_at hl 0 rfl) ?_
    refine va_get (D := G.1) (ci := 3) (v := .int nn) (C := RX7) (T := TX7) (N := 7) hx hb hts (fun _ h => List.mem_cons_of_mem _ (List.mem_append_right _ h)) hown E.K hP 0 rfl rfl 6 (by decide) (hts (.fieldLink RX7 28 "LastMap$Table" "n" "I") (by decide +kernel)) (fun _ h9 => h9) rfl dX7_queueGoal_2 ?_
    refine lv_icmp_ge (tgt := 14) hx hb dX7_queueGoal_5 (by decide) (fun c1 => ?_) (fun c1 => ?_)
    · refine lv_aload_n hx hb dX7_queueGoal_14 rfl (lv_at hl 0 rfl) ?_
      refine lv_iload_n hx hb dX7_queueGoal_15 rfl (lv_at hl 2 rfl) ?_
      refine lv_iconst (v := 0) hx hb dX7_queueGoal_16 (by decide) ?_
      refine ca_v (wr := []) (va_runV (As := [.int p1, .int 0]) (rest := []) ⟨hx, hb, hml, hown, hts⟩ (c_reach l G s.heap.size t ta tq qd se go ki nn fs fq p1 0 (by first | exact hv2 | exact hq)) (cwV 2 hts gX7_queueGoal_X7_reach rfl rfl rfl (by decide +kernel) ⟨show 0 + 1 ≤ (d + 1) + 1 by omega, show 8 + (3 + 11) + 0 ≤ 24 * (d + 1) + 22 by omega⟩) (pre_V E hP hD hS hA [0, 1, 2] (by decide) rfl 0 3 rfl rfl) rfl rfl hl.1 rfl (lv_room (Nat.le_of_ble_eq_true rfl)) dX7_queueGoal_17 ⟨Nat.zero_le _, Nat.zero_le _⟩) hS hP hD hA [0, 1, 2] [] rfl rfl (by decide) (by decide) (fun u4 H locs w2 hP hD hS => ?_)
      obtain ⟨qd1_5, fs1_6, fq1_7⟩ := u4
      try dsimp only at w2 hP hD
      have hP := hP.sub (ws' := [(t, .inr (3, [.ref ta, .ref tq, .int qd1_5, .int se, .int go, .int ki, .int nn])), (ta, .inl (gB G, 15625, .inl fs1_6)), (tq, .inl (gI G, 15625, .inl fq1_7))]) [0, 1, 2] rfl
      have hD := hD.sub (ws' := [(t, .inr (3, [.ref ta, .ref tq, .int qd1_5, .int se, .int go, .int ki, .int nn])), (ta, .inl (gB G, 15625, .inl fs1_6)), (tq, .inl (gI G, 15625, .inl fq1_7))]) [0, 1, 2] (by decide) rfl
      have hP9 := hP.sub (ws' := [(t, .inr (3, [.ref ta, .ref tq, .int qd1_5, .int se, .int go, .int ki, .int nn])), (ta, .inl (gB G, 15625, .inl fs1_6)), (tq, .inl (gI G, 15625, .inl fq1_7))]) [0, 1, 2] rfl
      have hD9 := hD.sub (ws' := [(t, .inr (3, [.ref ta, .ref tq, .int qd1_5, .int se, .int go, .int ki, .int nn])), (ta, .inl (gB G, 15625, .inl fs1_6)), (tq, .inl (gI G, 15625, .inl fq1_7))]) [0, 1, 2] (by decide) rfl
      exact W.vret hx hb hr (fun t ht hW => ⟨⟨(qd1_5, fs1_6, fq1_7), rfl, by first | exact w2 | exact hv2 | exact hq, by rw [ht]; exact hP9, hD9⟩, hS.F ht⟩) hS.2.2 dX7_queueGoal_20
    · refine lv_iload_n hx hb dX7_queueGoal_8 rfl (lv_at hl 1 rfl) ?_
      refine lv_bipush (v := 6) hx hb dX7_queueGoal_9 (by decide) ?_
      refine lv_icmp_lt (tgt := 21) hx hb dX7_queueGoal_11 (by decide) (fun c8 => ?_) (fun c8 => ?_)
      · have h6 : p0.toInt < (6 : Int32).toInt := by ((try simp only [inR, inS, i3_lt, i3_le, i3_eq, i6_lt, i6_le, Int32.toInt_toInt64, lg_cmp_lt, lg_cmp_gt, lg_cmp_ge, lg_cmp_le, Int32.reduceToInt, Int64.reduceToInt] at c8 ⊢); omega)
        refine lv_aload_n hx hb dX7_queueGoal_21 rfl (lv_at hl 0 rfl) ?_
        refine va_get (D := G.1) (ci := 3) (v := .int go) (C := RX7) (T := TX7) (N := 7) hx hb hts (fun _ h => List.mem_cons_of_mem _ (List.mem_append_right _ h)) hown E.K hP 0 rfl rfl 4 (by decide) (hts (.fieldLink RX7 21 "LastMap$Table" "goal" "I") (by decide +kernel)) (fun _ h9 => h9) rfl dX7_queueGoal_22 ?_
        refine lv_iload_n hx hb dX7_queueGoal_25 rfl (lv_at hl 1 rfl) ?_
        refine ca_iR (va_runS (As := [.int go, .int p0]) (rest := []) ⟨hx, hb, hml, hown, hts⟩ (c_goalMark l G s.heap.size go p0) (va_cwS 2 hts gX7_queueGoal_X0_markAt rfl rfl rfl (by decide +kernel) ⟨show 0 + 1 ≤ (d + 1) + 1 by omega, show 8 + (2 + 11) + 0 ≤ 24 * (d + 1) + 22 by omega⟩) (pre_S E hP hD hS hA [] (by decide) rfl) rfl rfl hl.1 rfl (lv_room (Nat.le_of_ble_eq_true rfl)) dX7_queueGoal_26 ⟨Nat.zero_le _, Nat.zero_le _⟩) hS hP hD hA [] rfl (fun r10 _ H locs w9 hP hS => ?_)
        refine lv_istore_n (lv' := [(3, .int r10), (0, .ref t), (1, .int p0), (2, .int p1)]) hx hb dX7_queueGoal_29 rfl hl (by decide) rfl (fun ls hl => ?_)
        refine lv_iconst (v := 0) hx hb dX7_queueGoal_30 (by decide) ?_
        refine lv_istore (lv' := [(4, .int 0), (3, .int r10), (0, .ref t), (1, .int p0), (2, .int p1)]) hx hb dX7_queueGoal_31 hl (by decide) rfl (fun ls hl => ?_)
        refine lp_run (x0 := (0, qd, fs, fq)) (fun xx_ : Int32 × Int32 × (Nat → Int32) × (Nat → Int32) => match xx_ with | (x, qa, fa, fb) => [(t, .inr (3, [.ref ta, .ref tq, .int qa, .int se, .int go, .int ki, .int nn])), (ta, .inl (gB G, 15625, .inl fa)), (tq, .inl (gI G, 15625, .inl fb))]) (fun xx_ : Int32 × Int32 × (Nat → Int32) × (Nat → Int32) => match xx_ with | (x, qa, fa, fb) => [(4, .int x), (3, .int r10), (0, .ref t), (1, .int p0), (2, .int p1)]) (fun xx_ : Int32 × Int32 × (Nat → Int32) × (Nat → Int32) => match xx_ with | (x, qa, fa, fb) => (0 ≤ x.toInt) ∧ (inR qa 0 15625)) (fun xx_ : Int32 × Int32 × (Nat → Int32) × (Nat → Int32) => match xx_ with | (x, qa, fa, fb) => ((5 : Int32).toInt - x.toInt).toNat) (hP.sub [0, 1, 2] rfl) (hD.sub [0, 1, 2] (by decide) rfl) hS (lv_sub hl [0, 1, 2, 3, 4] rfl) ⟨show (0 : Int) ≤ (0 : Int32).toInt by first | decide | omega | assumption, hq⟩ ?_
        intro xx_ hI ih33 H locs ls hP hD hS hl
        obtain ⟨x, qa, fa, fb⟩ := xx_
        dsimp only at hI ih33 hP hD hl
        obtain ⟨hx0, hv2⟩ := hI
        have hl : lv_has ls 5 [(4, .int x), (3, .int r10), (0, .ref t), (1, .int p0), (2, .int p1)] := hl
        have hP : va_P G.1 vwCl [(t, .inr (3, [.ref ta, .ref tq, .int qa, .int se, .int go, .int ki, .int nn])), (ta, .inl (gB G, 15625, .inl fa)), (tq, .inl (gI G, 15625, .inl fb))] H := hP
        have hD : va_D A [(t, .inr (3, [.ref ta, .ref tq, .int qa, .int se, .int go, .int ki, .int nn])), (ta, .inl (gB G, 15625, .inl fa)), (tq, .inl (gI G, 15625, .inl fb))] := hD
        refine lv_iload hx hb dX7_queueGoal_33 (lv_at hl 0 rfl) ?_
        refine lv_iconst (v := 5) hx hb dX7_queueGoal_35 (by decide) ?_
        refine lv_icmp_ge (tgt := 72) hx hb dX7_queueGoal_36 (by decide) (fun c11 => ?_) (fun c11 => ?_)
        · have hP9 := hP.sub (ws' := [(t, .inr (3, [.ref ta, .ref tq, .int qa, .int se, .int go, .int ki, .int nn])), (ta, .inl (gB G, 15625, .inl fa)), (tq, .inl (gI G, 15625, .inl fb))]) [0, 1, 2] rfl
          have hD9 := hD.sub (ws' := [(t, .inr (3, [.ref ta, .ref tq, .int qa, .int se, .int go, .int ki, .int nn])), (ta, .inl (gB G, 15625, .inl fa)), (tq, .inl (gI G, 15625, .inl fb))]) [0, 1, 2] (by decide) rfl
          exact W.vret hx hb hr (fun t ht hW => ⟨⟨(qa, fa, fb), rfl, by first | exact w9 | exact hv2 | exact hq, by rw [ht]; exact hP9, hD9⟩, hS.F ht⟩) hS.2.2 dX7_queueGoal_72
        · have hlt33 : x.toInt < (5 : Int32).toInt := by ((try simp only [inR, inS, i3_lt, i3_le, i3_eq, i6_lt, i6_le, Int32.toInt_toInt64, lg_cmp_lt, lg_cmp_gt, lg_cmp_ge, lg_cmp_le, Int32.reduceToInt, Int64.reduceToInt] at c11 ⊢); omega)
          refine lv_iload_n hx hb dX7_queueGoal_39 rfl (lv_at hl 1 rfl) ?_
          refine lv_iconst (v := 5) hx hb dX7_queueGoal_40 (by decide) ?_
          refine lv_icmp_eq (tgt := 50) hx hb dX7_queueGoal_41 (by decide) (fun c12 => ?_) (fun c12 => ?_)
          · refine lv_aload_n hx hb dX7_queueGoal_50 rfl (lv_at hl 2 rfl) ?_
            refine lv_iload_n hx hb dX7_queueGoal_51 rfl (lv_at hl 3 rfl) ?_
            refine lv_iconst (v := 1) hx hb dX7_queueGoal_52 (by decide) ?_
            refine lv_iadd hx hb dX7_queueGoal_53 ?_
            refine lv_topi (fun x13 ex13 => ?_)
            refine lv_iload_n hx hb dX7_queueGoal_54 rfl (lv_at hl 4 rfl) ?_
            refine lv_iload hx hb dX7_queueGoal_55 (lv_at hl 0 rfl) ?_
            refine lv_iload_n hx hb dX7_queueGoal_57 rfl (lv_at hl 3 rfl) ?_
            refine ca_iR (va_runS (As := [.int p0]) (rest := [.int x, .int p1, .int x13, .ref t]) ⟨hx, hb, hml, hown, hts⟩ (c_weight l G H.size p0) (va_cwS 1 hts gX7_queueGoal_X1_weight rfl rfl rfl (by decide +kernel) ⟨show 0 + 1 ≤ (d + 1) + 1 by omega, show 8 + (1 + 11) + 0 ≤ 24 * (d + 1) + 22 by omega⟩) (pre_S E hP hD hS hA [] (by decide) rfl) rfl rfl hl.1 rfl (lv_room (Nat.le_of_ble_eq_true rfl)) dX7_queueGoal_58 ⟨Nat.zero_le _, Nat.zero_le _⟩) hS hP hD hA [] rfl (fun r15 _ H locs w14 hP hS => ?_)
            refine lv_imul hx hb dX7_queueGoal_61 ?_
            refine lv_topi (fun x16 ex16 => ?_)
            refine lv_iadd hx hb dX7_queueGoal_62 ?_
            refine lv_topi (fun x17 ex17 => ?_)
            refine ca_v (wr := []) (va_runV (As := [.int x13, .int x17]) (rest := []) ⟨hx, hb, hml, hown, hts⟩ (ih H.size t ta tq qa se go ki nn fa fb x13 x17 (by exact hv2) (by have q := inc_lt (y := 6) h6 ex13; omega) (by have q := inc_lt (y := 6) h6 ex13; omega)) (cwV 2 hts gX7_queueGoal_X7_queueGoal rfl rfl rfl (by decide +kernel) ⟨show (d + 1) + 1 ≤ (d + 1) + 1 by omega, show 8 + (5 + 11) + (24 * d + 22) ≤ 24 * (d + 1) + 22 by omega⟩) (pre_V E hP hD hS hA [0, 1, 2] (by decide) rfl 0 3 rfl rfl) rfl rfl hl.1 rfl (lv_room (Nat.le_of_ble_eq_true rfl)) dX7_queueGoal_63 ⟨Nat.zero_le _, Nat.zero_le _⟩) hS hP hD hA [0, 1, 2] [] rfl rfl (by decide) (by decide) (fun u20 H locs w18 hP hD hS => ?_)
            obtain ⟨qd1_21, fs1_22, fq1_23⟩ := u20
            try dsimp only at w18 hP hD
            have hP := hP.sub (ws' := [(t, .inr (3, [.ref ta, .ref tq, .int qd1_21, .int se, .int go, .int ki, .int nn])), (ta, .inl (gB G, 15625, .inl fs1_22)), (tq, .inl (gI G, 15625, .inl fq1_23))]) [0, 1, 2] rfl
            have hD := hD.sub (ws' := [(t, .inr (3, [.ref ta, .ref tq, .int qd1_21, .int se, .int go, .int ki, .int nn])), (ta, .inl (gB G, 15625, .inl fs1_22)), (tq, .inl (gI G, 15625, .inl fq1_23))]) [0, 1, 2] (by decide) rfl
            obtain ⟨x24, ex24⟩ : ∃ yy_ : Int32, yy_ = x + 1 := ⟨_, rfl⟩
            refine lv_iinc (v := x24) (lv' := [(4, .int x24), (3, .int r10), (0, .ref t), (1, .int p0), (2, .int p1)]) hx hb dX7_queueGoal_66 hl (k := 0) rfl (by rw [ex24]; rfl) (by decide) rfl (fun ls hl => ?_)
            refine lv_goto (tgt := 33) hx hb dX7_queueGoal_69 (by decide) ?_
            have hinc33 := inc_lt hlt33 ex24
            refine ih33 (x24, qd1_21, fs1_22, fq1_23) ⟨?_, ?_⟩ (by first | omega | (dsimp only; omega)) H locs ls (hP.sub [0, 1, 2] rfl) (hD.sub [0, 1, 2] (by decide) rfl) hS (lv_sub hl [0, 1, 2, 3, 4] rfl)
            · try dsimp only
              omega
            · try dsimp only
              first | exact w18 | exact w14 | exact w9 | exact hv2
          · refine lv_iload_n hx hb dX7_queueGoal_44 rfl (lv_at hl 1 rfl) ?_
            refine lv_iload hx hb dX7_queueGoal_45 (lv_at hl 0 rfl) ?_
            refine lv_icmp_ne (tgt := 66) hx hb dX7_queueGoal_47 (by decide) (fun c25 => ?_) (fun c25 => ?_)
            · obtain ⟨x26, ex26⟩ : ∃ yy_ : Int32, yy_ = x + 1 := ⟨_, rfl⟩
              refine lv_iinc (v := x26) (lv' := [(4, .int x26), (3, .int r10), (0, .ref t), (1, .int p0), (2, .int p1)]) hx hb dX7_queueGoal_66 hl (k := 0) rfl (by rw [ex26]; rfl) (by decide) rfl (fun ls hl => ?_)
              refine lv_goto (tgt := 33) hx hb dX7_queueGoal_69 (by decide) ?_
              have hinc33 := inc_lt hlt33 ex26
              refine ih33 (x26, qa, fa, fb) ⟨?_, ?_⟩ (by first | omega | (dsimp only; omega)) H locs ls (hP.sub [0, 1, 2] rfl) (hD.sub [0, 1, 2] (by decide) rfl) hS (lv_sub hl [0, 1, 2, 3, 4] rfl)
              · try dsimp only
                omega
              · try dsimp only
                first | exact w9 | exact hv2
            · refine lv_aload_n hx hb dX7_queueGoal_50 rfl (lv_at hl 2 rfl) ?_
              refine lv_iload_n hx hb dX7_queueGoal_51 rfl (lv_at hl 3 rfl) ?_
              refine lv_iconst (v := 1) hx hb dX7_queueGoal_52 (by decide) ?_
              refine lv_iadd hx hb dX7_queueGoal_53 ?_
              refine lv_topi (fun x27 ex27 => ?_)
              refine lv_iload_n hx hb dX7_queueGoal_54 rfl (lv_at hl 4 rfl) ?_
              refine lv_iload hx hb dX7_queueGoal_55 (lv_at hl 0 rfl) ?_
              refine lv_iload_n hx hb dX7_queueGoal_57 rfl (lv_at hl 3 rfl) ?_
              refine ca_iR (va_runS (As := [.int p0]) (rest := [.int x, .int p1, .int x27, .ref t]) ⟨hx, hb, hml, hown, hts⟩ (c_weight l G H.size p0) (va_cwS 1 hts gX7_queueGoal_X1_weight rfl rfl rfl (by decide +kernel) ⟨show 0 + 1 ≤ (d + 1) + 1 by omega, show 8 + (1 + 11) + 0 ≤ 24 * (d + 1) + 22 by omega⟩) (pre_S E hP hD hS hA [] (by decide) rfl) rfl rfl hl.1 rfl (lv_room (Nat.le_of_ble_eq_true rfl)) dX7_queueGoal_58 ⟨Nat.zero_le _, Nat.zero_le _⟩) hS hP hD hA [] rfl (fun r29 _ H locs w28 hP hS => ?_)
              refine lv_imul hx hb dX7_queueGoal_61 ?_
              refine lv_topi (fun x30 ex30 => ?_)
              refine lv_iadd hx hb dX7_queueGoal_62 ?_
              refine lv_topi (fun x31 ex31 => ?_)
              refine ca_v (wr := []) (va_runV (As := [.int x27, .int x31]) (rest := []) ⟨hx, hb, hml, hown, hts⟩ (ih H.size t ta tq qa se go ki nn fa fb x27 x31 (by exact hv2) (by have q := inc_lt (y := 6) h6 ex27; omega) (by have q := inc_lt (y := 6) h6 ex27; omega)) (cwV 2 hts gX7_queueGoal_X7_queueGoal rfl rfl rfl (by decide +kernel) ⟨show (d + 1) + 1 ≤ (d + 1) + 1 by omega, show 8 + (5 + 11) + (24 * d + 22) ≤ 24 * (d + 1) + 22 by omega⟩) (pre_V E hP hD hS hA [0, 1, 2] (by decide) rfl 0 3 rfl rfl) rfl rfl hl.1 rfl (lv_room (Nat.le_of_ble_eq_true rfl)) dX7_queueGoal_63 ⟨Nat.zero_le _, Nat.zero_le _⟩) hS hP hD hA [0, 1, 2] [] rfl rfl (by decide) (by decide) (fun u34 H locs w32 hP hD hS => ?_)
              obtain ⟨qd1_35, fs1_36, fq1_37⟩ := u34
              try dsimp only at w32 hP hD
              have hP := hP.sub (ws' := [(t, .inr (3, [.ref ta, .ref tq, .int qd1_35, .int se, .int go, .int ki, .int nn])), (ta, .inl (gB G, 15625, .inl fs1_36)), (tq, .inl (gI G, 15625, .inl fq1_37))]) [0, 1, 2] rfl
              have hD := hD.sub (ws' := [(t, .inr (3, [.ref ta, .ref tq, .int qd1_35, .int se, .int go, .int ki, .int nn])), (ta, .inl (gB G, 15625, .inl fs1_36)), (tq, .inl (gI G, 15625, .inl fq1_37))]) [0, 1, 2] (by decide) rfl
              obtain ⟨x38, ex38⟩ : ∃ yy_ : Int32, yy_ = x + 1 := ⟨_, rfl⟩
              refine lv_iinc (v := x38) (lv' := [(4, .int x38), (3, .int r10), (0, .ref t), (1, .int p0), (2, .int p1)]) hx hb dX7_queueGoal_66 hl (k := 0) rfl (by rw [ex38]; rfl) (by decide) rfl (fun ls hl => ?_)
              refine lv_goto (tgt := 33) hx hb dX7_queueGoal_69 (by decide) ?_
              have hinc33 := inc_lt hlt33 ex38
              refine ih33 (x38, qd1_35, fs1_36, fq1_37) ⟨?_, ?_⟩ (by first | omega | (dsimp only; omega)) H locs ls (hP.sub [0, 1, 2] rfl) (hD.sub [0, 1, 2] (by decide) rfl) hS (lv_sub hl [0, 1, 2, 3, 4] rfl)
              · try dsimp only
                omega
              · try dsimp only
                first | exact w32 | exact w28 | exact w9 | exact hv2
      · refine lv_aload_n hx hb dX7_queueGoal_14 rfl (lv_at hl 0 rfl) ?_
        refine lv_iload_n hx hb dX7_queueGoal_15 rfl (lv_at hl 2 rfl) ?_
        refine lv_iconst (v := 0) hx hb dX7_queueGoal_16 (by decide) ?_
        refine ca_v (wr := []) (va_runV (As := [.int p1, .int 0]) (rest := []) ⟨hx, hb, hml, hown, hts⟩ (c_reach l G s.heap.size t ta tq qd se go ki nn fs fq p1 0 (by first | exact hv2 | exact hq)) (cwV 2 hts gX7_queueGoal_X7_reach rfl rfl rfl (by decide +kernel) ⟨show 0 + 1 ≤ (d + 1) + 1 by omega, show 8 + (3 + 11) + 0 ≤ 24 * (d + 1) + 22 by omega⟩) (pre_V E hP hD hS hA [0, 1, 2] (by decide) rfl 0 3 rfl rfl) rfl rfl hl.1 rfl (lv_room (Nat.le_of_ble_eq_true rfl)) dX7_queueGoal_17 ⟨Nat.zero_le _, Nat.zero_le _⟩) hS hP hD hA [0, 1, 2] [] rfl rfl (by decide) (by decide) (fun u41 H locs w39 hP hD hS => ?_)
        obtain ⟨qd1_42, fs1_43, fq1_44⟩ := u41
        try dsimp only at w39 hP hD
        have hP := hP.sub (ws' := [(t, .inr (3, [.ref ta, .ref tq, .int qd1_42, .int se, .int go, .int ki, .int nn])), (ta, .inl (gB G, 15625, .inl fs1_43)), (tq, .inl (gI G, 15625, .inl fq1_44))]) [0, 1, 2] rfl
        have hD := hD.sub (ws' := [(t, .inr (3, [.ref ta, .ref tq, .int qd1_42, .int se, .int go, .int ki, .int nn])), (ta, .inl (gB G, 15625, .inl fs1_43)), (tq, .inl (gI G, 15625, .inl fq1_44))]) [0, 1, 2] (by decide) rfl
        have hP9 := hP.sub (ws' := [(t, .inr (3, [.ref ta, .ref tq, .int qd1_42, .int se, .int go, .int ki, .int nn])), (ta, .inl (gB G, 15625, .inl fs1_43)), (tq, .inl (gI G, 15625, .inl fq1_44))]) [0, 1, 2] rfl
        have hD9 := hD.sub (ws' := [(t, .inr (3, [.ref ta, .ref tq, .int qd1_42, .int se, .int go, .int ki, .int nn])), (ta, .inl (gB G, 15625, .inl fs1_43)), (tq, .inl (gI G, 15625, .inl fq1_44))]) [0, 1, 2] (by decide) rfl
        exact W.vret hx hb hr (fun t ht hW => ⟨⟨(qd1_42, fs1_43, fq1_44), rfl, by first | exact w39 | exact hv2 | exact hq, by rw [ht]; exact hP9, hD9⟩, hS.F ht⟩) hS.2.2 dX7_queueGoal_20

theorem c_queueGoal (l : Launch) (G : Gy) (sz : Nat) (t : Nat) (ta : Nat) (tq : Nat) (qd : Int32) (se : Int32) (go : Int32) (ki : Int32) (nn : Int32) (fs : Nat → Int32) (fq : Nat → Int32) (p1 : Int32) (hq : inR qd 0 15625) : Cv l G yX7_queueGoal wsX7_queueGoal ({ frames := 7, cells := 0, slots := 0, locals := 166 }) [.ref t, .int 0, .int p1] [(t, .inr (3, [.ref ta, .ref tq, .int qd, .int se, .int go, .int ki, .int nn])), (ta, .inl (gB G, 15625, .inl fs)), (tq, .inl (gI G, 15625, .inl fq))] sz (fun (u : Int32 × (Nat → Int32) × (Nat → Int32)) => match u with | (qd1, fs1, fq1) => inR qd1 0 15625) (fun (u : Int32 × (Nat → Int32) × (Nat → Int32)) => match u with | (qd1, fs1, fq1) => [(t, .inr (3, [.ref ta, .ref tq, .int qd1, .int se, .int go, .int ki, .int nn])), (ta, .inl (gB G, 15625, .inl fs1)), (tq, .inl (gI G, 15625, .inl fq1))]) 0 0 :=
  c_queueGoal_rec l G 6 sz t ta tq qd se go ki nn fs fq 0 p1 hq (by decide) (by decide)

set_option maxHeartbeats 1000000 in
set_option maxRecDepth 100000 in
theorem c_begin (l : Launch) (G : Gy) (sz : Nat) (t : Nat) (ta : Nat) (tq : Nat) (qd : Int32) (se : Int32) (go : Int32) (ki : Int32) (nn : Int32) (fs : Nat → Int32) (fq : Nat → Int32) (p0 : Int32) (p1 : Int32) (p2 : Int32)  : Cv l G yX7_begin wsX7_begin ({ frames := 8, cells := 0, slots := 0, locals := 190 }) [.ref t, .int p0, .int p1, .int p2] [(t, .inr (3, [.ref ta, .ref tq, .int qd, .int se, .int go, .int ki, .int nn])), (ta, .inl (gB G, 15625, .inl fs)), (tq, .inl (gI G, 15625, .inl fq))] sz (fun (u : Int32 × (Nat → Int32) × (Nat → Int32)) => match u with | (qd1, fs1, fq1) => inR qd1 0 15625) (fun (u : Int32 × (Nat → Int32) × (Nat → Int32)) => match u with | (qd1, fs1, fq1) => [(t, .inr (3, [.ref ta, .ref tq, .int qd1, .int 0, .int p0, .int p1, .int p2])), (ta, .inl (gB G, 15625, .inl fs1)), (tq, .inl (gI G, 15625, .inl fq1))]) 0 0 := by
  refine Met.ofW (cc := cX7_begin) (maxL := 4) (ret := none) (by decide) rfl ?_
  intro p e s m args below meth c s₁ B hml hv
  obtain ⟨rfl, hsz, hP, hD0, E0⟩ := hv
  have hx := B.exec
  have hb := B.bytes
  have hr := B.returns
  have hts := atoms_spec (ws := wsX7_begin) B.pre
  have hown : s.vm.findClass RX7 = some m.cls := findClass_of_methodNamed B.named
  have hlocks := B.notSynchronized
  subst hsz
  have hD := hD0.self (sz := s.heap.size)
  generalize hAe : va_A [(t, .inr (3, [.ref ta, .ref tq, .int qd, .int se, .int go, .int ki, .int nn])), (ta, .inl (gB G, 15625, .inl fs)), (tq, .inl (gI G, 15625, .inl fq))] s.heap.size = A at hD E0 ⊢
  have E : EV G A s s.heap := E0
  have hA : ∀ q : Nat, s.heap.size ≤ q → A q := fun q h => by rw [← hAe]; exact Or.inr h
  have hS : va_S A s.heap s.heap [] := va_S.rf
  have hl := lv_entry ([.ref t, .int p0, .int p1, .int p2]) (n := 4) (Nat.le_of_ble_eq_true rfl)
  rw [lg_entry_eq]
  generalize (lg_sl ([.ref t, .int p0, .int p1, .int p2]) ++ List.replicate (4 - (lg_sl ([.ref t, .int p0, .int p1, .int p2])).length) Slot.unset).toArray = ls at hl ⊢
  have hl : lv_has ls 4 [(0, .ref t), (1, .int p0), (2, .int p1), (3, .int p2)] := hl
  have hP : va_P G.1 vwCl [(t, .inr (3, [.ref ta, .ref tq, .int qd, .int se, .int go, .int ki, .int nn])), (ta, .inl (gB G, 15625, .inl fs)), (tq, .inl (gI G, 15625, .inl fq))] s.heap := hP
  refine lv_aload_n hx hb dX7_begin_0 rfl (lv_at hl 0 rfl) ?_
  refine lv_iload_n hx hb dX7_begin_1 rfl (lv_at hl 1 rfl) ?_
  refine va_put (D := G.1) (ci := 3) (v := .int p0) (ty := .int) (C := RX7) (T := TX7) (N := 7) hx hb hts (fun _ h => List.mem_cons_of_mem _ (List.mem_append_right _ h)) tyX7 tyX7_ok nmX7 hown E.K hP hD hS 0 rfl rfl 4 (by decide) (hts (.fieldLink RX7 21 "LastMap$Table" "goal" "I") (by decide +kernel)) (fun _ h9 => h9) rfl (by decide +kernel) rfl rfl (Nat.le_of_ble_eq_true rfl) dX7_begin_2 (fun H locs hP hD hS => ?_)
  have hP : va_P G.1 vwCl [(t, .inr (3, [.ref ta, .ref tq, .int qd, .int se, .int p0, .int ki, .int nn])), (ta, .inl (gB G, 15625, .inl fs)), (tq, .inl (gI G, 15625, .inl fq))] H := hP
  have hD : va_D A [(t, .inr (3, [.ref ta, .ref tq, .int qd, .int se, .int p0, .int ki, .int nn])), (ta, .inl (gB G, 15625, .inl fs)), (tq, .inl (gI G, 15625, .inl fq))] := hD
  refine lv_aload_n hx hb dX7_begin_5 rfl (lv_at hl 0 rfl) ?_
  refine lv_iload_n hx hb dX7_begin_6 rfl (lv_at hl 2 rfl) ?_
  refine va_put (D := G.1) (ci := 3) (v := .int p1) (ty := .int) (C := RX7) (T := TX7) (N := 7) hx hb hts (fun _ h => List.mem_cons_of_mem _ (List.mem_append_right _ h)) tyX7 tyX7_ok nmX7 hown E.K hP hD hS 0 rfl rfl 5 (by decide) (hts (.fieldLink RX7 25 "LastMap$Table" "kinds" "I") (by decide +kernel)) (fun _ h9 => h9) rfl (by decide +kernel) rfl rfl (Nat.le_of_ble_eq_true rfl) dX7_begin_7 (fun H locs hP hD hS => ?_)
  have hP : va_P G.1 vwCl [(t, .inr (3, [.ref ta, .ref tq, .int qd, .int se, .int p0, .int p1, .int nn])), (ta, .inl (gB G, 15625, .inl fs)), (tq, .inl (gI G, 15625, .inl fq))] H := hP
  have hD : va_D A [(t, .inr (3, [.ref ta, .ref tq, .int qd, .int se, .int p0, .int p1, .int nn])), (ta, .inl (gB G, 15625, .inl fs)), (tq, .inl (gI G, 15625, .inl fq))] := hD
  refine lv_aload_n hx hb dX7_begin_10 rfl (lv_at hl 0 rfl) ?_
  refine lv_iload_n hx hb dX7_begin_11 rfl (lv_at hl 3 rfl) ?_
  refine va_put (D := G.1) (ci := 3) (v := .int p2) (ty := .int) (C := RX7) (T := TX7) (N := 7) hx hb hts (fun _ h => List.mem_cons_of_mem _ (List.mem_append_right _ h)) tyX7 tyX7_ok nmX7 hown E.K hP hD hS 0 rfl rfl 6 (by decide) (hts (.fieldLink RX7 28 "LastMap$Table" "n" "I") (by decide +kernel)) (fun _ h9 => h9) rfl (by decide +kernel) rfl rfl (Nat.le_of_ble_eq_true rfl) dX7_begin_12 (fun H locs hP hD hS => ?_)
  have hP : va_P G.1 vwCl [(t, .inr (3, [.ref ta, .ref tq, .int qd, .int se, .int p0, .int p1, .int p2])), (ta, .inl (gB G, 15625, .inl fs)), (tq, .inl (gI G, 15625, .inl fq))] H := hP
  have hD : va_D A [(t, .inr (3, [.ref ta, .ref tq, .int qd, .int se, .int p0, .int p1, .int p2])), (ta, .inl (gB G, 15625, .inl fs)), (tq, .inl (gI G, 15625, .inl fq))] := hD
  refine lv_aload_n hx hb dX7_begin_15 rfl (lv_at hl 0 rfl) ?_
  refine lv_iconst (v := 0) hx hb dX7_begin_16 (by decide) ?_
  refine va_put (D := G.1) (ci := 3) (v := .int 0) (ty := .int) (C := RX7) (T := TX7) (N := 7) hx hb hts (fun _ h => List.mem_cons_of_mem _ (List.mem_append_right _ h)) tyX7 tyX7_ok nmX7 hown E.K hP hD hS 0 rfl rfl 2 (by decide) (hts (.fieldLink RX7 31 "LastMap$Table" "queued" "I") (by decide +kernel)) (fun _ h9 => h9) rfl (by decide +kernel) rfl rfl (Nat.le_of_ble_eq_true rfl) dX7_begin_17 (fun H locs hP hD hS => ?_)
  have hP : va_P G.1 vwCl [(t, .inr (3, [.ref ta, .ref tq, .int 0, .int se, .int p0, .int p1, .int p2])), (ta, .inl (gB G, 15625, .inl fs)), (tq, .inl (gI G, 15625, .inl fq))] H := hP
  have hD : va_D A [(t, .inr (3, [.ref ta, .ref tq, .int 0, .int se, .int p0, .int p1, .int p2])), (ta, .inl (gB G, 15625, .inl fs)), (tq, .inl (gI G, 15625, .inl fq))] := hD
  refine lv_aload_n hx hb dX7_begin_20 rfl (lv_at hl 0 rfl) ?_
  refine lv_iconst (v := 0) hx hb dX7_begin_21 (by decide) ?_
  refine va_put (D := G.1) (ci := 3) (v := .int 0) (ty := .int) (C := RX7) (T := TX7) (N := 7) hx hb hts (fun _ h => List.mem_cons_of_mem _ (List.mem_append_right _ h)) tyX7 tyX7_ok nmX7 hown E.K hP hD hS 0 rfl rfl 3 (by decide) (hts (.fieldLink RX7 34 "LastMap$Table" "searched" "I") (by decide +kernel)) (fun _ h9 => h9) rfl (by decide +kernel) rfl rfl (Nat.le_of_ble_eq_true rfl) dX7_begin_22 (fun H locs hP hD hS => ?_)
  have hP : va_P G.1 vwCl [(t, .inr (3, [.ref ta, .ref tq, .int 0, .int 0, .int p0, .int p1, .int p2])), (ta, .inl (gB G, 15625, .inl fs)), (tq, .inl (gI G, 15625, .inl fq))] H := hP
  have hD : va_D A [(t, .inr (3, [.ref ta, .ref tq, .int 0, .int 0, .int p0, .int p1, .int p2])), (ta, .inl (gB G, 15625, .inl fs)), (tq, .inl (gI G, 15625, .inl fq))] := hD
  refine lv_aload_n hx hb dX7_begin_25 rfl (lv_at hl 0 rfl) ?_
  refine va_get (D := G.1) (ci := 3) (v := .ref ta) (C := RX7) (T := TX7) (N := 7) hx hb hts (fun _ h => List.mem_cons_of_mem _ (List.mem_append_right _ h)) hown E.K hP 0 rfl rfl 0 (by decide) (hts (.fieldLink RX7 11 "LastMap$Table" "slips" "[B") (by decide +kernel)) (fun _ h9 => h9) rfl dX7_begin_26 ?_
  refine lv_bipush (v := (-6)) hx hb dX7_begin_29 (by decide) ?_
  refine ca_v (wr := [(t, .inr (3, [.ref ta, .ref tq, .int 0, .int 0, .int p0, .int p1, .int p2])), (tq, .inl (gI G, 15625, .inl fq))]) (va_runS (As := [.ref ta, .int (-6)]) (rest := []) ⟨hx, hb, hml, hown, hts⟩ (c_fillB l G H.size ta fs (-6)) (va_cwS 2 hts gX7_begin_J7_fill_031fb rfl rfl rfl (by decide +kernel) ⟨by decide +kernel, by decide +kernel⟩) (pre_S E hP hD hS hA [1] (by decide) rfl) rfl rfl hl.1 rfl (lv_room (Nat.le_of_ble_eq_true rfl)) dX7_begin_31 ⟨by decide +kernel, by decide +kernel⟩) hS hP hD hA [1] [0, 2] rfl rfl (by decide) (by decide) (fun u3 H locs w1 hP hD hS => ?_)
  obtain ⟨f1_4, rfl⟩ : ∃ z, z = u3 := ⟨_, rfl⟩
  try dsimp only at w1 hP hD
  have hP := hP.sub (ws' := [(t, .inr (3, [.ref ta, .ref tq, .int 0, .int 0, .int p0, .int p1, .int p2])), (ta, .inl (gB G, 15625, .inl f1_4)), (tq, .inl (gI G, 15625, .inl fq))]) [0, 2, 1] rfl
  have hD := hD.sub (ws' := [(t, .inr (3, [.ref ta, .ref tq, .int 0, .int 0, .int p0, .int p1, .int p2])), (ta, .inl (gB G, 15625, .inl f1_4)), (tq, .inl (gI G, 15625, .inl fq))]) [0, 2, 1] (by decide) rfl
  refine lv_aload_n hx hb dX7_begin_34 rfl (lv_at hl 0 rfl) ?_
  refine lv_iconst (v := 0) hx hb dX7_begin_35 (by decide) ?_
  refine lv_iconst (v := 0) hx hb dX7_begin_36 (by decide) ?_
  refine ca_v (wr := []) (va_runV (As := [.int 0, .int 0]) (rest := []) ⟨hx, hb, hml, hown, hts⟩ (c_queueGoal l G H.size t ta tq 0 0 p0 p1 p2 f1_4 fq 0 (by unfold inR; decide)) (cwV 2 hts gX7_begin_X7_queueGoal rfl rfl rfl (by decide +kernel) ⟨by decide +kernel, by decide +kernel⟩) (pre_V E hP hD hS hA [0, 1, 2] (by decide) rfl 0 3 rfl rfl) rfl rfl hl.1 rfl (lv_room (Nat.le_of_ble_eq_true rfl)) dX7_begin_37 ⟨by decide +kernel, by decide +kernel⟩) hS hP hD hA [0, 1, 2] [] rfl rfl (by decide) (by decide) (fun u7 H locs w5 hP hD hS => ?_)
  obtain ⟨qd1_8, fs1_9, fq1_10⟩ := u7
  try dsimp only at w5 hP hD
  have hP := hP.sub (ws' := [(t, .inr (3, [.ref ta, .ref tq, .int qd1_8, .int 0, .int p0, .int p1, .int p2])), (ta, .inl (gB G, 15625, .inl fs1_9)), (tq, .inl (gI G, 15625, .inl fq1_10))]) [0, 1, 2] rfl
  have hD := hD.sub (ws' := [(t, .inr (3, [.ref ta, .ref tq, .int qd1_8, .int 0, .int p0, .int p1, .int p2])), (ta, .inl (gB G, 15625, .inl fs1_9)), (tq, .inl (gI G, 15625, .inl fq1_10))]) [0, 1, 2] (by decide) rfl
  have hP9 := hP.sub (ws' := [(t, .inr (3, [.ref ta, .ref tq, .int qd1_8, .int 0, .int p0, .int p1, .int p2])), (ta, .inl (gB G, 15625, .inl fs1_9)), (tq, .inl (gI G, 15625, .inl fq1_10))]) [0, 1, 2] rfl
  have hD9 := hD.sub (ws' := [(t, .inr (3, [.ref ta, .ref tq, .int qd1_8, .int 0, .int p0, .int p1, .int p2])), (ta, .inl (gB G, 15625, .inl fs1_9)), (tq, .inl (gI G, 15625, .inl fq1_10))]) [0, 1, 2] (by decide) rfl
  exact W.vret hx hb hr (fun t ht hW => ⟨⟨(qd1_8, fs1_9, fq1_10), rfl, w5, by rw [ht]; exact hP9, hD9⟩, hS.F ht⟩) hS.2.2 dX7_begin_40

set_option maxHeartbeats 1000000 in
set_option maxRecDepth 100000 in
theorem c_searchFor (l : Launch) (G : Gy) (sz : Nat) (t : Nat) (ta : Nat) (tq : Nat) (qd : Int32) (se : Int32) (go : Int32) (ki : Int32) (nn : Int32) (fs : Nat → Int32) (fq : Nat → Int32) (p0 : Int32) (hq : inR qd 0 15625) (hs : inR se 0 15625) : Cv l G yX7_searchFor wsX7_searchFor ({ frames := 2, cells := 0, slots := 0, locals := 50 }) [.ref t, .int p0] [(t, .inr (3, [.ref ta, .ref tq, .int qd, .int se, .int go, .int ki, .int nn])), (ta, .inl (gB G, 15625, .inl fs)), (tq, .inl (gI G, 15625, .inl fq))] sz (fun (u : Int32 × Int32 × (Nat → Int32) × (Nat → Int32)) => match u with | (qd1, se1, fs1, fq1) => inR qd1 0 15625 ∧ inR se1 0 15625) (fun (u : Int32 × Int32 × (Nat → Int32) × (Nat → Int32)) => match u with | (qd1, se1, fs1, fq1) => [(t, .inr (3, [.ref ta, .ref tq, .int qd1, .int se1, .int go, .int ki, .int nn])), (ta, .inl (gB G, 15625, .inl fs1)), (tq, .inl (gI G, 15625, .inl fq1))]) 0 0 := by
  refine Met.ofW (cc := cX7_searchFor) (maxL := 3) (ret := none) (by decide) rfl ?_
  intro p e s m args below meth c s₁ B hml hv
  obtain ⟨rfl, hsz, hP, hD0, E0⟩ := hv
  have hx := B.exec
  have hb := B.bytes
  have hr := B.returns
  have hts := atoms_spec (ws := wsX7_searchFor) B.pre
  have hown : s.vm.findClass RX7 = some m.cls := findClass_of_methodNamed B.named
  have hlocks := B.notSynchronized
  subst hsz
  have hD := hD0.self (sz := s.heap.size)
  generalize hAe : va_A [(t, .inr (3, [.ref ta, .ref tq, .int qd, .int se, .int go, .int ki, .int nn])), (ta, .inl (gB G, 15625, .inl fs)), (tq, .inl (gI G, 15625, .inl fq))] s.heap.size = A at hD E0 ⊢
  have E : EV G A s s.heap := E0
  have hA : ∀ q : Nat, s.heap.size ≤ q → A q := fun q h => by rw [← hAe]; exact Or.inr h
  have hS : va_S A s.heap s.heap [] := va_S.rf
  have hl := lv_entry ([.ref t, .int p0]) (n := 3) (Nat.le_of_ble_eq_true rfl)
  rw [lg_entry_eq]
  generalize (lg_sl ([.ref t, .int p0]) ++ List.replicate (3 - (lg_sl ([.ref t, .int p0])).length) Slot.unset).toArray = ls at hl ⊢
  have hl : lv_has ls 3 [(0, .ref t), (1, .int p0)] := hl
  have hP : va_P G.1 vwCl [(t, .inr (3, [.ref ta, .ref tq, .int qd, .int se, .int go, .int ki, .int nn])), (ta, .inl (gB G, 15625, .inl fs)), (tq, .inl (gI G, 15625, .inl fq))] s.heap := hP
  refine lv_aload_n hx hb dX7_searchFor_0 rfl (lv_at hl 0 rfl) ?_
  refine va_get (D := G.1) (ci := 3) (v := .int nn) (C := RX7) (T := TX7) (N := 7) hx hb hts (fun _ h => List.mem_cons_of_mem _ (List.mem_append_right _ h)) hown E.K hP 0 rfl rfl 6 (by decide) (hts (.fieldLink RX7 28 "LastMap$Table" "n" "I") (by decide +kernel)) (fun _ h9 => h9) rfl dX7_searchFor_1 ?_
  refine ca_iR (va_runS (As := [.int nn]) (rest := []) ⟨hx, hb, hml, hown, hts⟩ (c_countOf l G s.heap.size nn) (va_cwS 1 hts gX7_searchFor_X1_countOf rfl rfl rfl (by decide +kernel) ⟨by decide +kernel, by decide +kernel⟩) (pre_S E hP hD hS hA [] (by decide) rfl) rfl rfl hl.1 rfl (lv_room (Nat.le_of_ble_eq_true rfl)) dX7_searchFor_4 ⟨by decide +kernel, by decide +kernel⟩) hS hP hD hA [] rfl (fun r2 _ H locs w1 hP hS => ?_)
  refine lv_istore_n (lv' := [(2, .int r2), (0, .ref t), (1, .int p0)]) hx hb dX7_searchFor_7 rfl hl (by decide) rfl (fun ls hl => ?_)
  refine lp_run (x0 := (qd, se, fs, fq)) (fun xx_ : Int32 × Int32 × (Nat → Int32) × (Nat → Int32) => match xx_ with | (qa, sa, fa, fb) => [(t, .inr (3, [.ref ta, .ref tq, .int qa, .int sa, .int go, .int ki, .int nn])), (ta, .inl (gB G, 15625, .inl fa)), (tq, .inl (gI G, 15625, .inl fb))]) (fun xx_ : Int32 × Int32 × (Nat → Int32) × (Nat → Int32) => match xx_ with | (qa, sa, fa, fb) => [(2, .int r2), (0, .ref t), (1, .int p0)]) (fun xx_ : Int32 × Int32 × (Nat → Int32) × (Nat → Int32) => match xx_ with | (qa, sa, fa, fb) => (inR qa 0 15625) ∧ (inR sa 0 15625)) (fun xx_ : Int32 × Int32 × (Nat → Int32) × (Nat → Int32) => match xx_ with | (qa, sa, fa, fb) => (15625 - sa.toInt).toNat) (hP.sub [0, 1, 2] rfl) (hD.sub [0, 1, 2] (by decide) rfl) hS (lv_sub hl [0, 1, 2] rfl) ⟨hq, hs⟩ ?_
  intro xx_ hI ih8 H locs ls hP hD hS hl
  obtain ⟨qa, sa, fa, fb⟩ := xx_
  dsimp only at hI ih8 hP hD hl
  obtain ⟨hv1, hv2⟩ := hI
  have hl : lv_has ls 3 [(2, .int r2), (0, .ref t), (1, .int p0)] := hl
  have hP : va_P G.1 vwCl [(t, .inr (3, [.ref ta, .ref tq, .int qa, .int sa, .int go, .int ki, .int nn])), (ta, .inl (gB G, 15625, .inl fa)), (tq, .inl (gI G, 15625, .inl fb))] H := hP
  have hD : va_D A [(t, .inr (3, [.ref ta, .ref tq, .int qa, .int sa, .int go, .int ki, .int nn])), (ta, .inl (gB G, 15625, .inl fa)), (tq, .inl (gI G, 15625, .inl fb))] := hD
  refine lv_aload_n hx hb dX7_searchFor_8 rfl (lv_at hl 1 rfl) ?_
  refine lv_iload_n hx hb dX7_searchFor_9 rfl (lv_at hl 2 rfl) ?_
  refine ca_iR (va_runV (As := [.int p0]) (rest := []) ⟨hx, hb, hml, hown, hts⟩ (c_known l G H.size t ta tq qa sa go ki nn fa fb p0) (cwV 1 hts gX7_searchFor_X7_known rfl rfl rfl (by decide +kernel) ⟨by decide +kernel, by decide +kernel⟩) (pre_V E hP hD hS hA [0, 1, 2] (by decide) rfl 0 3 rfl rfl) rfl rfl hl.1 rfl (lv_room (Nat.le_of_ble_eq_true rfl)) dX7_searchFor_10 ⟨by decide +kernel, by decide +kernel⟩) hS hP hD hA [0, 1, 2] rfl (fun r4 _ H locs w3 hP hS => ?_)
  refine lv_bipush (v := (-6)) hx hb dX7_searchFor_13 (by decide) ?_
  refine lv_icmp_ne (tgt := 75) hx hb dX7_searchFor_15 (by decide) (fun c5 => ?_) (fun c5 => ?_)
  · have hP9 := hP.sub (ws' := [(t, .inr (3, [.ref ta, .ref tq, .int qa, .int sa, .int go, .int ki, .int nn])), (ta, .inl (gB G, 15625, .inl fa)), (tq, .inl (gI G, 15625, .inl fb))]) [0, 1, 2] rfl
    have hD9 := hD.sub (ws' := [(t, .inr (3, [.ref ta, .ref tq, .int qa, .int sa, .int go, .int ki, .int nn])), (ta, .inl (gB G, 15625, .inl fa)), (tq, .inl (gI G, 15625, .inl fb))]) [0, 1, 2] (by decide) rfl
    exact W.vret hx hb hr (fun t ht hW => ⟨⟨(qa, sa, fa, fb), rfl, ⟨hv1, hv2⟩, by rw [ht]; exact hP9, hD9⟩, hS.F ht⟩) hS.2.2 dX7_searchFor_75
  · refine lv_aload_n hx hb dX7_searchFor_18 rfl (lv_at hl 1 rfl) ?_
    refine va_get (D := G.1) (ci := 3) (v := .int qa) (C := RX7) (T := TX7) (N := 7) hx hb hts (fun _ h => List.mem_cons_of_mem _ (List.mem_append_right _ h)) hown E.K hP 0 rfl rfl 2 (by decide) (hts (.fieldLink RX7 31 "LastMap$Table" "queued" "I") (by decide +kernel)) (fun _ h9 => h9) rfl dX7_searchFor_19 ?_
    refine lv_iload_n hx hb dX7_searchFor_22 rfl (lv_at hl 0 rfl) ?_
    refine lv_icmp_ge (tgt := 75) hx hb dX7_searchFor_23 (by decide) (fun c6 => ?_) (fun c6 => ?_)
    · have hP9 := hP.sub (ws' := [(t, .inr (3, [.ref ta, .ref tq, .int qa, .int sa, .int go, .int ki, .int nn])), (ta, .inl (gB G, 15625, .inl fa)), (tq, .inl (gI G, 15625, .inl fb))]) [0, 1, 2] rfl
      have hD9 := hD.sub (ws' := [(t, .inr (3, [.ref ta, .ref tq, .int qa, .int sa, .int go, .int ki, .int nn])), (ta, .inl (gB G, 15625, .inl fa)), (tq, .inl (gI G, 15625, .inl fb))]) [0, 1, 2] (by decide) rfl
      exact W.vret hx hb hr (fun t ht hW => ⟨⟨(qa, sa, fa, fb), rfl, ⟨hv1, hv2⟩, by rw [ht]; exact hP9, hD9⟩, hS.F ht⟩) hS.2.2 dX7_searchFor_75
    · refine lv_aload_n hx hb dX7_searchFor_26 rfl (lv_at hl 1 rfl) ?_
      refine va_get (D := G.1) (ci := 3) (v := .int sa) (C := RX7) (T := TX7) (N := 7) hx hb hts (fun _ h => List.mem_cons_of_mem _ (List.mem_append_right _ h)) hown E.K hP 0 rfl rfl 3 (by decide) (hts (.fieldLink RX7 34 "LastMap$Table" "searched" "I") (by decide +kernel)) (fun _ h9 => h9) rfl dX7_searchFor_27 ?_
      refine lv_aload_n hx hb dX7_searchFor_30 rfl (lv_at hl 1 rfl) ?_
      refine va_get (D := G.1) (ci := 3) (v := .int qa) (C := RX7) (T := TX7) (N := 7) hx hb hts (fun _ h => List.mem_cons_of_mem _ (List.mem_append_right _ h)) hown E.K hP 0 rfl rfl 2 (by decide) (hts (.fieldLink RX7 31 "LastMap$Table" "queued" "I") (by decide +kernel)) (fun _ h9 => h9) rfl dX7_searchFor_31 ?_
      refine lv_icmp_ge (tgt := 75) hx hb dX7_searchFor_34 (by decide) (fun c7 => ?_) (fun c7 => ?_)
      · have hP9 := hP.sub (ws' := [(t, .inr (3, [.ref ta, .ref tq, .int qa, .int sa, .int go, .int ki, .int nn])), (ta, .inl (gB G, 15625, .inl fa)), (tq, .inl (gI G, 15625, .inl fb))]) [0, 1, 2] rfl
        have hD9 := hD.sub (ws' := [(t, .inr (3, [.ref ta, .ref tq, .int qa, .int sa, .int go, .int ki, .int nn])), (ta, .inl (gB G, 15625, .inl fa)), (tq, .inl (gI G, 15625, .inl fb))]) [0, 1, 2] (by decide) rfl
        exact W.vret hx hb hr (fun t ht hW => ⟨⟨(qa, sa, fa, fb), rfl, ⟨hv1, hv2⟩, by rw [ht]; exact hP9, hD9⟩, hS.F ht⟩) hS.2.2 dX7_searchFor_75
      · refine lv_aload_n hx hb dX7_searchFor_37 rfl (lv_at hl 1 rfl) ?_
        refine va_get (D := G.1) (ci := 3) (v := .int sa) (C := RX7) (T := TX7) (N := 7) hx hb hts (fun _ h => List.mem_cons_of_mem _ (List.mem_append_right _ h)) hown E.K hP 0 rfl rfl 3 (by decide) (hts (.fieldLink RX7 34 "LastMap$Table" "searched" "I") (by decide +kernel)) (fun _ h9 => h9) rfl dX7_searchFor_38 ?_
        refine lv_aload_n hx hb dX7_searchFor_41 rfl (lv_at hl 1 rfl) ?_
        refine va_get (D := G.1) (ci := 3) (v := .ref tq) (C := RX7) (T := TX7) (N := 7) hx hb hts (fun _ h => List.mem_cons_of_mem _ (List.mem_append_right _ h)) hown E.K hP 0 rfl rfl 1 (by decide) (hts (.fieldLink RX7 17 "LastMap$Table" "queue" "[I") (by decide +kernel)) (fun _ h9 => h9) rfl dX7_searchFor_42 ?_
        refine va_alen (v := 15625) hx hb E.K hP 2 1 rfl rfl rfl dX7_searchFor_45 ?_
        refine lv_icmp_ge (tgt := 75) hx hb dX7_searchFor_46 (by decide) (fun c8 => ?_) (fun c8 => ?_)
        · have hP9 := hP.sub (ws' := [(t, .inr (3, [.ref ta, .ref tq, .int qa, .int sa, .int go, .int ki, .int nn])), (ta, .inl (gB G, 15625, .inl fa)), (tq, .inl (gI G, 15625, .inl fb))]) [0, 1, 2] rfl
          have hD9 := hD.sub (ws' := [(t, .inr (3, [.ref ta, .ref tq, .int qa, .int sa, .int go, .int ki, .int nn])), (ta, .inl (gB G, 15625, .inl fa)), (tq, .inl (gI G, 15625, .inl fb))]) [0, 1, 2] (by decide) rfl
          exact W.vret hx hb hr (fun t ht hW => ⟨⟨(qa, sa, fa, fb), rfl, ⟨hv1, hv2⟩, by rw [ht]; exact hP9, hD9⟩, hS.F ht⟩) hS.2.2 dX7_searchFor_75
        · have hlt : sa.toInt < (15625 : Int32).toInt := by ((try simp only [inR, inS, i3_lt, i3_le, i3_eq, i6_lt, i6_le, Int32.toInt_toInt64, lg_cmp_lt, lg_cmp_gt, lg_cmp_ge, lg_cmp_le, Int32.reduceToInt, Int64.reduceToInt] at c8 ⊢); omega)
          refine lv_aload_n hx hb dX7_searchFor_49 rfl (lv_at hl 1 rfl) ?_
          refine lv_aload_n hx hb dX7_searchFor_50 rfl (lv_at hl 1 rfl) ?_
          refine va_get (D := G.1) (ci := 3) (v := .ref tq) (C := RX7) (T := TX7) (N := 7) hx hb hts (fun _ h => List.mem_cons_of_mem _ (List.mem_append_right _ h)) hown E.K hP 0 rfl rfl 1 (by decide) (hts (.fieldLink RX7 17 "LastMap$Table" "queue" "[I") (by decide +kernel)) (fun _ h9 => h9) rfl dX7_searchFor_51 ?_
          refine lv_aload_n hx hb dX7_searchFor_54 rfl (lv_at hl 1 rfl) ?_
          refine va_get (D := G.1) (ci := 3) (v := .int sa) (C := RX7) (T := TX7) (N := 7) hx hb hts (fun _ h => List.mem_cons_of_mem _ (List.mem_append_right _ h)) hown E.K hP 0 rfl rfl 3 (by decide) (hts (.fieldLink RX7 34 "LastMap$Table" "searched" "I") (by decide +kernel)) (fun _ h9 => h9) rfl dX7_searchFor_55 ?_
          refine va_iald hx hb E.K hP 2 1 rfl rfl (i := sa) (vp_in_iff.mpr ⟨by have q := hv2.1; simp only [i3_le, Int32.reduceToInt] at q; omega, by have q := hlt; simp only [Int32.reduceToInt] at q; omega⟩) dX7_searchFor_58 ?_
          refine lv_topi (fun x9 ex9 => ?_)
          refine ca_v (wr := []) (va_runV (As := [.int x9]) (rest := []) ⟨hx, hb, hml, hown, hts⟩ (c_queueBefore l G H.size t ta tq qa sa go ki nn fa fb x9 hv1) (cwV 1 hts gX7_searchFor_X7_queueBefore rfl rfl rfl (by decide +kernel) ⟨by decide +kernel, by decide +kernel⟩) (pre_V E hP hD hS hA [0, 1, 2] (by decide) rfl 0 3 rfl rfl) rfl rfl hl.1 rfl (lv_room (Nat.le_of_ble_eq_true rfl)) dX7_searchFor_59 ⟨by decide +kernel, by decide +kernel⟩) hS hP hD hA [0, 1, 2] [] rfl rfl (by decide) (by decide) (fun u12 H locs w10 hP hD hS => ?_)
          obtain ⟨qd1_13, fs1_14, fq1_15⟩ := u12
          try dsimp only at w10 hP hD
          have hP := hP.sub (ws' := [(t, .inr (3, [.ref ta, .ref tq, .int qd1_13, .int sa, .int go, .int ki, .int nn])), (ta, .inl (gB G, 15625, .inl fs1_14)), (tq, .inl (gI G, 15625, .inl fq1_15))]) [0, 1, 2] rfl
          have hD := hD.sub (ws' := [(t, .inr (3, [.ref ta, .ref tq, .int qd1_13, .int sa, .int go, .int ki, .int nn])), (ta, .inl (gB G, 15625, .inl fs1_14)), (tq, .inl (gI G, 15625, .inl fq1_15))]) [0, 1, 2] (by decide) rfl
          refine lv_aload_n hx hb dX7_searchFor_62 rfl (lv_at hl 1 rfl) ?_
          refine lv_dup hx hb dX7_searchFor_63 rfl ?_
          refine va_get (D := G.1) (ci := 3) (v := .int sa) (C := RX7) (T := TX7) (N := 7) hx hb hts (fun _ h => List.mem_cons_of_mem _ (List.mem_append_right _ h)) hown E.K hP 0 rfl rfl 3 (by decide) (hts (.fieldLink RX7 34 "LastMap$Table" "searched" "I") (by decide +kernel)) (fun _ h9 => h9) rfl dX7_searchFor_64 ?_
          refine lv_iconst (v := 1) hx hb dX7_searchFor_67 (by decide) ?_
          refine lv_iadd hx hb dX7_searchFor_68 ?_
          refine lv_topi (fun x16 ex16 => ?_)
          refine va_put (D := G.1) (ci := 3) (v := .int x16) (ty := .int) (C := RX7) (T := TX7) (N := 7) hx hb hts (fun _ h => List.mem_cons_of_mem _ (List.mem_append_right _ h)) tyX7 tyX7_ok nmX7 hown E.K hP hD hS 0 rfl rfl 3 (by decide) (hts (.fieldLink RX7 34 "LastMap$Table" "searched" "I") (by decide +kernel)) (fun _ h9 => h9) rfl (by decide +kernel) rfl rfl (Nat.le_of_ble_eq_true rfl) dX7_searchFor_69 (fun H locs hP hD hS => ?_)
          have hP : va_P G.1 vwCl [(t, .inr (3, [.ref ta, .ref tq, .int qd1_13, .int x16, .int go, .int ki, .int nn])), (ta, .inl (gB G, 15625, .inl fs1_14)), (tq, .inl (gI G, 15625, .inl fq1_15))] H := hP
          have hD : va_D A [(t, .inr (3, [.ref ta, .ref tq, .int qd1_13, .int x16, .int go, .int ki, .int nn])), (ta, .inl (gB G, 15625, .inl fs1_14)), (tq, .inl (gI G, 15625, .inl fq1_15))] := hD
          refine lv_goto (tgt := 8) hx hb dX7_searchFor_72 (by decide) ?_
          have hinc := inc_lt (y := 15625) hlt ex16
          have hlt2 := hlt
          simp only [Int32.reduceToInt] at hlt2
          refine ih8 (qd1_13, x16, fs1_14, fq1_15) ⟨?_, ?_⟩ (by first | omega | (dsimp only; omega)) H locs ls (hP.sub [0, 1, 2] rfl) (hD.sub [0, 1, 2] (by decide) rfl) hS (lv_sub hl [0, 1, 2] rfl)
          · try dsimp only
            exact w10
          · try dsimp only
            simp only [inR, i3_le, Int32.reduceToInt] at hv2 ⊢; omega

set_option maxHeartbeats 1000000 in
set_option maxRecDepth 100000 in
theorem c_slipsFrom (l : Launch) (G : Gy) (sz : Nat) (t : Nat) (ta : Nat) (tq : Nat) (qd : Int32) (se : Int32) (go : Int32) (ki : Int32) (nn : Int32) (fs : Nat → Int32) (fq : Nat → Int32) (p0 : Int32) (hq : inR qd 0 15625) (hs : inR se 0 15625) : Ci l G yX7_slipsFrom wsX7_slipsFrom ({ frames := 3, cells := 0, slots := 0, locals := 72 }) [.ref t, .int p0] [(t, .inr (3, [.ref ta, .ref tq, .int qd, .int se, .int go, .int ki, .int nn])), (ta, .inl (gB G, 15625, .inl fs)), (tq, .inl (gI G, 15625, .inl fq))] sz (fun (r : Int32) (u : Int32 × Int32 × (Nat → Int32) × (Nat → Int32)) => match u with | (qd1, se1, fs1, fq1) => inR qd1 0 15625 ∧ inR se1 0 15625) (fun (u : Int32 × Int32 × (Nat → Int32) × (Nat → Int32)) => match u with | (qd1, se1, fs1, fq1) => [(t, .inr (3, [.ref ta, .ref tq, .int qd1, .int se1, .int go, .int ki, .int nn])), (ta, .inl (gB G, 15625, .inl fs1)), (tq, .inl (gI G, 15625, .inl fq1))]) 0 0 := by
  refine Met.ofW (cc := cX7_slipsFrom) (maxL := 2) (ret := (some .int)) (by decide) rfl ?_
  intro p e s m args below meth c s₁ B hml hv
  obtain ⟨rfl, hsz, hP, hD0, E0⟩ := hv
  have hx := B.exec
  have hb := B.bytes
  have hr := B.returns
  have hts := atoms_spec (ws := wsX7_slipsFrom) B.pre
  have hown : s.vm.findClass RX7 = some m.cls := findClass_of_methodNamed B.named
  have hlocks := B.notSynchronized
  subst hsz
  have hD := hD0.self (sz := s.heap.size)
  generalize hAe : va_A [(t, .inr (3, [.ref ta, .ref tq, .int qd, .int se, .int go, .int ki, .int nn])), (ta, .inl (gB G, 15625, .inl fs)), (tq, .inl (gI G, 15625, .inl fq))] s.heap.size = A at hD E0 ⊢
  have E : EV G A s s.heap := E0
  have hA : ∀ q : Nat, s.heap.size ≤ q → A q := fun q h => by rw [← hAe]; exact Or.inr h
  have hS : va_S A s.heap s.heap [] := va_S.rf
  have hl := lv_entry ([.ref t, .int p0]) (n := 2) (Nat.le_of_ble_eq_true rfl)
  rw [lg_entry_eq]
  generalize (lg_sl ([.ref t, .int p0]) ++ List.replicate (2 - (lg_sl ([.ref t, .int p0])).length) Slot.unset).toArray = ls at hl ⊢
  have hl : lv_has ls 2 [(0, .ref t), (1, .int p0)] := hl
  have hP : va_P G.1 vwCl [(t, .inr (3, [.ref ta, .ref tq, .int qd, .int se, .int go, .int ki, .int nn])), (ta, .inl (gB G, 15625, .inl fs)), (tq, .inl (gI G, 15625, .inl fq))] s.heap := hP
  refine lv_aload_n hx hb dX7_slipsFrom_0 rfl (lv_at hl 0 rfl) ?_
  refine lv_iload_n hx hb dX7_slipsFrom_1 rfl (lv_at hl 1 rfl) ?_
  refine ca_v (wr := []) (va_runV (As := [.int p0]) (rest := []) ⟨hx, hb, hml, hown, hts⟩ (c_searchFor l G s.heap.size t ta tq qd se go ki nn fs fq p0 hq hs) (cwV 1 hts gX7_slipsFrom_X7_searchFor rfl rfl rfl (by decide +kernel) ⟨by decide +kernel, by decide +kernel⟩) (pre_V E hP hD hS hA [0, 1, 2] (by decide) rfl 0 3 rfl rfl) rfl rfl hl.1 rfl (lv_room (Nat.le_of_ble_eq_true rfl)) dX7_slipsFrom_2 ⟨by decide +kernel, by decide +kernel⟩) hS hP hD hA [0, 1, 2] [] rfl rfl (by decide) (by decide) (fun u3 H locs w1 hP hD hS => ?_)
  obtain ⟨qd1_4, se1_5, fs1_6, fq1_7⟩ := u3
  try dsimp only at w1 hP hD
  have hP := hP.sub (ws' := [(t, .inr (3, [.ref ta, .ref tq, .int qd1_4, .int se1_5, .int go, .int ki, .int nn])), (ta, .inl (gB G, 15625, .inl fs1_6)), (tq, .inl (gI G, 15625, .inl fq1_7))]) [0, 1, 2] rfl
  have hD := hD.sub (ws' := [(t, .inr (3, [.ref ta, .ref tq, .int qd1_4, .int se1_5, .int go, .int ki, .int nn])), (ta, .inl (gB G, 15625, .inl fs1_6)), (tq, .inl (gI G, 15625, .inl fq1_7))]) [0, 1, 2] (by decide) rfl
  refine lv_aload_n hx hb dX7_slipsFrom_5 rfl (lv_at hl 0 rfl) ?_
  refine lv_iload_n hx hb dX7_slipsFrom_6 rfl (lv_at hl 1 rfl) ?_
  refine ca_iR (va_runV (As := [.int p0]) (rest := []) ⟨hx, hb, hml, hown, hts⟩ (c_known l G H.size t ta tq qd1_4 se1_5 go ki nn fs1_6 fq1_7 p0) (cwV 1 hts gX7_slipsFrom_X7_known rfl rfl rfl (by decide +kernel) ⟨by decide +kernel, by decide +kernel⟩) (pre_V E hP hD hS hA [0, 1, 2] (by decide) rfl 0 3 rfl rfl) rfl rfl hl.1 rfl (lv_room (Nat.le_of_ble_eq_true rfl)) dX7_slipsFrom_7 ⟨by decide +kernel, by decide +kernel⟩) hS hP hD hA [0, 1, 2] rfl (fun r9 _ H locs w8 hP hS => ?_)
  have hP9 := hP.sub (ws' := [(t, .inr (3, [.ref ta, .ref tq, .int qd1_4, .int se1_5, .int go, .int ki, .int nn])), (ta, .inl (gB G, 15625, .inl fs1_6)), (tq, .inl (gI G, 15625, .inl fq1_7))]) [0, 1, 2] rfl
  have hD9 := hD.sub (ws' := [(t, .inr (3, [.ref ta, .ref tq, .int qd1_4, .int se1_5, .int go, .int ki, .int nn])), (ta, .inl (gB G, 15625, .inl fs1_6)), (tq, .inl (gI G, 15625, .inl fq1_7))]) [0, 1, 2] (by decide) rfl
  exact W.iret (v := r9) hx hb hr (fun t ht hW => ⟨⟨r9, (qd1_4, se1_5, fs1_6, fq1_7), rfl, w1, by rw [ht]; exact hP9, hD9⟩, hS.F ht⟩) hS.2.2 dX7_slipsFrom_10

set_option maxHeartbeats 1000000 in
set_option maxRecDepth 100000 in
theorem c_searchAll (l : Launch) (G : Gy) (sz : Nat) (t : Nat) (ta : Nat) (tq : Nat) (qd : Int32) (se : Int32) (go : Int32) (ki : Int32) (nn : Int32) (fs : Nat → Int32) (fq : Nat → Int32) (hq : inR qd 0 15625) (hs : inR se 0 15625) : Cv l G yX7_searchAll wsX7_searchAll ({ frames := 3, cells := 0, slots := 0, locals := 72 }) [.ref t] [(t, .inr (3, [.ref ta, .ref tq, .int qd, .int se, .int go, .int ki, .int nn])), (ta, .inl (gB G, 15625, .inl fs)), (tq, .inl (gI G, 15625, .inl fq))] sz (fun (u : Int32 × Int32 × (Nat → Int32) × (Nat → Int32)) => match u with | (qd1, se1, fs1, fq1) => inR qd1 0 15625 ∧ inR se1 0 15625) (fun (u : Int32 × Int32 × (Nat → Int32) × (Nat → Int32)) => match u with | (qd1, se1, fs1, fq1) => [(t, .inr (3, [.ref ta, .ref tq, .int qd1, .int se1, .int go, .int ki, .int nn])), (ta, .inl (gB G, 15625, .inl fs1)), (tq, .inl (gI G, 15625, .inl fq1))]) 0 0 := by
  refine Met.ofW (cc := cX7_searchAll) (maxL := 1) (ret := none) (by decide) rfl ?_
  intro p e s m args below meth c s₁ B hml hv
  obtain ⟨rfl, hsz, hP, hD0, E0⟩ := hv
  have hx := B.exec
  have hb := B.bytes
  have hr := B.returns
  have hts := atoms_spec (ws := wsX7_searchAll) B.pre
  have hown : s.vm.findClass RX7 = some m.cls := findClass_of_methodNamed B.named
  have hlocks := B.notSynchronized
  subst hsz
  have hD := hD0.self (sz := s.heap.size)
  generalize hAe : va_A [(t, .inr (3, [.ref ta, .ref tq, .int qd, .int se, .int go, .int ki, .int nn])), (ta, .inl (gB G, 15625, .inl fs)), (tq, .inl (gI G, 15625, .inl fq))] s.heap.size = A at hD E0 ⊢
  have E : EV G A s s.heap := E0
  have hA : ∀ q : Nat, s.heap.size ≤ q → A q := fun q h => by rw [← hAe]; exact Or.inr h
  have hS : va_S A s.heap s.heap [] := va_S.rf
  have hl := lv_entry ([.ref t]) (n := 1) (Nat.le_of_ble_eq_true rfl)
  rw [lg_entry_eq]
  generalize (lg_sl ([.ref t]) ++ List.replicate (1 - (lg_sl ([.ref t])).length) Slot.unset).toArray = ls at hl ⊢
  have hl : lv_has ls 1 [(0, .ref t)] := hl
  have hP : va_P G.1 vwCl [(t, .inr (3, [.ref ta, .ref tq, .int qd, .int se, .int go, .int ki, .int nn])), (ta, .inl (gB G, 15625, .inl fs)), (tq, .inl (gI G, 15625, .inl fq))] s.heap := hP
  refine lv_aload_n hx hb dX7_searchAll_0 rfl (lv_at hl 0 rfl) ?_
  refine lv_iconst (v := (-1)) hx hb dX7_searchAll_1 (by decide) ?_
  refine ca_v (wr := []) (va_runV (As := [.int (-1)]) (rest := []) ⟨hx, hb, hml, hown, hts⟩ (c_searchFor l G s.heap.size t ta tq qd se go ki nn fs fq (-1) hq hs) (cwV 1 hts gX7_searchAll_X7_searchFor rfl rfl rfl (by decide +kernel) ⟨by decide +kernel, by decide +kernel⟩) (pre_V E hP hD hS hA [0, 1, 2] (by decide) rfl 0 3 rfl rfl) rfl rfl hl.1 rfl (lv_room (Nat.le_of_ble_eq_true rfl)) dX7_searchAll_2 ⟨by decide +kernel, by decide +kernel⟩) hS hP hD hA [0, 1, 2] [] rfl rfl (by decide) (by decide) (fun u3 H locs w1 hP hD hS => ?_)
  obtain ⟨qd1_4, se1_5, fs1_6, fq1_7⟩ := u3
  try dsimp only at w1 hP hD
  have hP := hP.sub (ws' := [(t, .inr (3, [.ref ta, .ref tq, .int qd1_4, .int se1_5, .int go, .int ki, .int nn])), (ta, .inl (gB G, 15625, .inl fs1_6)), (tq, .inl (gI G, 15625, .inl fq1_7))]) [0, 1, 2] rfl
  have hD := hD.sub (ws' := [(t, .inr (3, [.ref ta, .ref tq, .int qd1_4, .int se1_5, .int go, .int ki, .int nn])), (ta, .inl (gB G, 15625, .inl fs1_6)), (tq, .inl (gI G, 15625, .inl fq1_7))]) [0, 1, 2] (by decide) rfl
  have hP9 := hP.sub (ws' := [(t, .inr (3, [.ref ta, .ref tq, .int qd1_4, .int se1_5, .int go, .int ki, .int nn])), (ta, .inl (gB G, 15625, .inl fs1_6)), (tq, .inl (gI G, 15625, .inl fq1_7))]) [0, 1, 2] rfl
  have hD9 := hD.sub (ws' := [(t, .inr (3, [.ref ta, .ref tq, .int qd1_4, .int se1_5, .int go, .int ki, .int nn])), (ta, .inl (gB G, 15625, .inl fs1_6)), (tq, .inl (gI G, 15625, .inl fq1_7))]) [0, 1, 2] (by decide) rfl
  exact W.vret hx hb hr (fun t ht hW => ⟨⟨(qd1_4, se1_5, fs1_6, fq1_7), rfl, w1, by rw [ht]; exact hP9, hD9⟩, hS.F ht⟩) hS.2.2 dX7_searchAll_5

set_option maxHeartbeats 1000000 in
set_option maxRecDepth 100000 in
theorem c_Table (l : Launch) (G : Gy) (sz : Nat) (t : Nat)  : Cv l G yX7_init wsX7_init ({ frames := 1, cells := 2, slots := 31250, locals := 12 }) [.ref t] [(t, .inr (3, [.null, .null, .int 0, .int 0, .int 0, .int 0, .int 0]))] sz (fun (u : Nat × Nat) => match u with | (ta1, tq1) => True) (fun (u : Nat × Nat) => match u with | (ta1, tq1) => [(t, .inr (3, [.ref ta1, .ref tq1, .int 0, .int 0, .int 0, .int 0, .int 0])), (ta1, .inl (gB G, 15625, .inl (fun _ => 0))), (tq1, .inl (gI G, 15625, .inl (fun _ => 0)))]) 2 31250 := by
  refine Met.ofW (cc := cX7_init) (maxL := 1) (ret := none) (by decide) rfl ?_
  intro p e s m args below meth c s₁ B hml hv
  obtain ⟨rfl, hsz, hP, hD0, E0⟩ := hv
  have hx := B.exec
  have hb := B.bytes
  have hr := B.returns
  have hts := atoms_spec (ws := wsX7_init) B.pre
  have hown : s.vm.findClass RX7 = some m.cls := findClass_of_methodNamed B.named
  have hlocks := B.notSynchronized
  have hin : meth.name = "<init>" := (name_of_methodNamed B.named B.method).1
  subst hsz
  have hD := hD0.self (sz := s.heap.size)
  generalize hAe : va_A [(t, .inr (3, [.null, .null, .int 0, .int 0, .int 0, .int 0, .int 0]))] s.heap.size = A at hD E0 ⊢
  have E : EV G A s s.heap := E0
  have hA : ∀ q : Nat, s.heap.size ≤ q → A q := fun q h => by rw [← hAe]; exact Or.inr h
  have hS : va_S A s.heap s.heap [] := va_S.rf
  have hl := lv_entry ([.ref t]) (n := 1) (Nat.le_of_ble_eq_true rfl)
  rw [lg_entry_eq]
  generalize (lg_sl ([.ref t]) ++ List.replicate (1 - (lg_sl ([.ref t])).length) Slot.unset).toArray = ls at hl ⊢
  have hl : lv_has ls 1 [(0, .ref t)] := hl
  have hP : va_P G.1 vwCl [(t, .inr (3, [.null, .null, .int 0, .int 0, .int 0, .int 0, .int 0]))] s.heap := hP
  refine lv_aload_n hx hb dX7_init_0 rfl (lv_at hl 0 rfl) ?_
  refine W.objInit hx hb hown (hts (.methodLink RX7 3 objectInit) (by decide +kernel)) (hts (.instanceMethod objectInit) (by decide +kernel)) (hts (.code objectInit ⟨#[0xb1]⟩ 1 none) (by decide +kernel)) rfl (by rw [hml]; exact hl.1) rfl dX7_init_1 (Nat.le_of_ble_eq_true rfl) (Nat.le_of_ble_eq_true rfl) ?_
  refine W.eq (g2 := F0 m 4 ls []) rfl ?_
  refine lv_aload_n hx hb dX7_init_4 rfl (lv_at hl 0 rfl) ?_
  refine lv_sipush (v := 15625) hx hb dX7_init_5 (by decide) ?_
  refine nw_row (atype := .byte) (a0 := (15625, .inl (fun _ => 0))) (ty := .byte) hx hb (hts (.arrayClass .byte) (by decide +kernel)) rfl E 0 rfl (fun _ _ h => h) hP hD hS hA (fun _ => rfl) (by decide +kernel) (by decide +kernel) (by decide +kernel) (by decide +kernel) (by decide +kernel) dX7_init_8 (fun q1 H hP hD hS => ?_)
  have hP : va_P G.1 vwCl [(t, .inr (3, [.null, .null, .int 0, .int 0, .int 0, .int 0, .int 0])), (q1, .inl (gB G, 15625, .inl (fun _ => 0)))] H := hP
  have hD : va_D A [(t, .inr (3, [.null, .null, .int 0, .int 0, .int 0, .int 0, .int 0])), (q1, .inl (gB G, 15625, .inl (fun _ => 0)))] := hD
  refine W.widen (k := 1) (n := 15625) (by decide +kernel) (by decide +kernel) ?_
  refine va_putF (D := G.1) (ci := 3) (v := .ref q1) (ty := .array .byte) (C := RX7) (T := TX7) (N := 7) hx hb hts (fun _ h => List.mem_cons_of_mem _ (List.mem_append_right _ h)) tyX7 tyX7_ok nmX7 hown E.K hP hD hS 0 rfl rfl 0 (by decide) (hts (.fieldLink RX7 11 "LastMap$Table" "slips" "[B") (by decide +kernel)) (fun _ h9 => h9) rfl hin rfl (by decide +kernel) rfl rfl (Nat.le_of_ble_eq_true rfl) dX7_init_10 (fun H locs hP hD hS => ?_)
  have hP : va_P G.1 vwCl [(t, .inr (3, [.ref q1, .null, .int 0, .int 0, .int 0, .int 0, .int 0])), (q1, .inl (gB G, 15625, .inl (fun _ => 0)))] H := hP
  have hD : va_D A [(t, .inr (3, [.ref q1, .null, .int 0, .int 0, .int 0, .int 0, .int 0])), (q1, .inl (gB G, 15625, .inl (fun _ => 0)))] := hD
  refine lv_aload_n hx hb dX7_init_13 rfl (lv_at hl 0 rfl) ?_
  refine lv_sipush (v := 15625) hx hb dX7_init_14 (by decide) ?_
  refine nw_row (atype := .int) (a0 := (15625, .inl (fun _ => 0))) (ty := .int) hx hb (hts (.arrayClass .int) (by decide +kernel)) rfl E 1 rfl (fun _ _ h => h) hP hD hS hA (fun _ => rfl) (by decide +kernel) (by decide +kernel) (by decide +kernel) (by decide +kernel) (by decide +kernel) dX7_init_17 (fun q2 H hP hD hS => ?_)
  have hP : va_P G.1 vwCl [(t, .inr (3, [.ref q1, .null, .int 0, .int 0, .int 0, .int 0, .int 0])), (q1, .inl (gB G, 15625, .inl (fun _ => 0))), (q2, .inl (gI G, 15625, .inl (fun _ => 0)))] H := hP
  have hD : va_D A [(t, .inr (3, [.ref q1, .null, .int 0, .int 0, .int 0, .int 0, .int 0])), (q1, .inl (gB G, 15625, .inl (fun _ => 0))), (q2, .inl (gI G, 15625, .inl (fun _ => 0)))] := hD
  refine W.widen (k := 2) (n := 31250) (by decide +kernel) (by decide +kernel) ?_
  refine va_putF (D := G.1) (ci := 3) (v := .ref q2) (ty := .array .int) (C := RX7) (T := TX7) (N := 7) hx hb hts (fun _ h => List.mem_cons_of_mem _ (List.mem_append_right _ h)) tyX7 tyX7_ok nmX7 hown E.K hP hD hS 0 rfl rfl 1 (by decide) (hts (.fieldLink RX7 17 "LastMap$Table" "queue" "[I") (by decide +kernel)) (fun _ h9 => h9) rfl hin rfl (by decide +kernel) rfl rfl (Nat.le_of_ble_eq_true rfl) dX7_init_19 (fun H locs hP hD hS => ?_)
  have hP : va_P G.1 vwCl [(t, .inr (3, [.ref q1, .ref q2, .int 0, .int 0, .int 0, .int 0, .int 0])), (q1, .inl (gB G, 15625, .inl (fun _ => 0))), (q2, .inl (gI G, 15625, .inl (fun _ => 0)))] H := hP
  have hD : va_D A [(t, .inr (3, [.ref q1, .ref q2, .int 0, .int 0, .int 0, .int 0, .int 0])), (q1, .inl (gB G, 15625, .inl (fun _ => 0))), (q2, .inl (gI G, 15625, .inl (fun _ => 0)))] := hD
  have hP9 := hP.sub (ws' := [(t, .inr (3, [.ref q1, .ref q2, .int 0, .int 0, .int 0, .int 0, .int 0])), (q1, .inl (gB G, 15625, .inl (fun _ => 0))), (q2, .inl (gI G, 15625, .inl (fun _ => 0)))]) [0, 1, 2] rfl
  have hD9 := hD.sub (ws' := [(t, .inr (3, [.ref q1, .ref q2, .int 0, .int 0, .int 0, .int 0, .int 0])), (q1, .inl (gB G, 15625, .inl (fun _ => 0))), (q2, .inl (gI G, 15625, .inl (fun _ => 0)))]) [0, 1, 2] (by decide) rfl
  exact W.vret hx hb hr (fun t ht hW => ⟨⟨(q1, q2), rfl, trivial, by rw [ht]; exact hP9, hD9⟩, hS.F ht⟩) hS.2.2 dX7_init_22
