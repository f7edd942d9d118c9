def R_law : String := "LastMapLaw"
def lw_P (b : Addr) (xs : List Int32) (args : Array Value) (s : State) : Prop := args = #[.ref b] ∧ s.IntsAt b xs ∧ xs.length ≤ 6 ∧ (Jvm.Cond.and given_1 narrow_1).before args s = true
def lw_Q (_ : Array Value) (s : State) (o : Outcome) (t : State) : Prop := o = .returned (some (.int 1)) ∧ Framed s o t [] 600000 7302249
def lw_Z (below : List Frame) (a : Array Value) (s : State) : State → Prop := fun t => ∃ o, t.status = .running ∧ Ended t below o ∧ lw_Q a s o t
/-- the law's own end, with 1 on the stack, nothing written that was there before, its room as the claim has it -/
theorem lw_ret {p : Program} {l : Launch} {e : Env} {s : State} {m : MethodId} {below : List Frame} {meth : Method} {c : Code} {b : Nat} (hx : p.tables.exec = Jvm.exec) (hb : c.code = code) (hr : meth.sig.returnType = ret) (hlocks : meth.locks = false) {pc : Nat} {H : Heap} {ls : Array Slot} (hdg : decode code pc = .ok (.ireturn, 1)) : W p l e room_1 s m #[Value.ref b] below meth c H [] 600000 7302249 (lw_Z below #[Value.ref b] s) (F0 m pc ls [.int 1]) := by
  intro T hT X
  obtain ⟨fs, hret, hrun, hended, hW, hframe⟩ := X.leave (v := some (.int 1)) (hlocks := hlocks) (fun h => by rw [hr] at h; cases h)
  have hmeth' : T.vm.method? m = some meth := X.method'
  refine ⟨T.setFrames fs, ?_, .returned (some (.int 1)), hrun, hended, rfl, ⟨_, rfl⟩, hW, hframe⟩
  jvm_step X.here [X.here.top, hx, hb, hdg, hmeth', hr, ret, narrow_b1]
  (try refine ⟨rfl, ?_⟩); (try refine ⟨rfl, ?_⟩)
  first | (intro acts; rw [hret _ acts rfl rfl rfl]) | rw [hret _ _ rfl rfl rfl]
  exact Steps.refl _
/-- what holds at the law's entry: the machine, the code, the tables' words (any of lw_tbl by 'hts w (by decide +kernel)'), the script of L ints xs at the cell b, what the Statement gives of the start (any of its parts by flat_of_before) -/
def lw_At (p : Program) (s : State) (m : MethodId) (meth : Method) (c : Code) (b L : Nat) (xs : Nat → Int32) : Prop :=
  p.tables.exec = Jvm.exec ∧ c.code = code ∧ meth.sig.returnType = ret ∧ c.maxLocals = 4 ∧ s.vm.findClass R_law = some m.cls ∧ (∀ w ∈ lw_tbl, w.before #[Value.ref b] s = true) ∧ va_X b L xs s s.heap ∧ b < s.heap.size ∧ meth.locks = false ∧ (Jvm.Cond.and given_1 narrow_1).before #[Value.ref b] s = true
theorem arr_I {s : State} {args : Array Value} (h : (Cond.arrayClass .int).before args s = true) : ∃ cA : ClassId, ArrOfT s cA .int ∧ va_RA s cA .int := by
  obtain ⟨cA, kA, comp, h1, h2, h3⟩ := Cond.arrayClass_spec h
  exact ⟨cA, fun n z => ⟨fun k h => (by cases h), kA, h2, comp, h3⟩, h1⟩
theorem arr_B {s : State} {args : Array Value} (h : (Cond.arrayClass .byte).before args s = true) : ∃ cA : ClassId, ArrOfT s cA .byte ∧ va_RA s cA .byte := by
  obtain ⟨cA, kA, comp, h1, h2, h3⟩ := Cond.arrayClass_spec h
  exact ⟨cA, fun n z => ⟨fun k h => (by cases h), kA, h2, comp, h3⟩, h1⟩
theorem arr_Z {s : State} {args : Array Value} (h : (Cond.arrayClass .boolean).before args s = true) : ∃ cA : ClassId, ArrOfT s cA .boolean ∧ va_RA s cA .boolean := by
  obtain ⟨cA, kA, comp, h1, h2, h3⟩ := Cond.arrayClass_spec h
  exact ⟨cA, fun n z => ⟨fun k h => (by cases h), kA, h2, comp, h3⟩, h1⟩
theorem arr_O {s : State} {args : Array Value} {C : String} (h : (Cond.arrayOver (.object C)).before args s = true) : ∃ cA : ClassId, ArrOfT s cA (.object C) ∧ va_RA s cA (.object C) := by
  obtain ⟨comp, cA, kA, h1, h2, h3, h4, h5⟩ := Cond.arrayOver_spec h
  exact ⟨cA, fun n z => ⟨fun k h => (by cases h), kA, h3, comp, h4⟩, kA, comp, h3, h4, h1, h5⟩
set_option maxHeartbeats 1000000 in
set_option maxRecDepth 100000 in
theorem ev_start {p : Program} {s : State} {m : MethodId} {meth : Method} {c : Code} {b L : Nat} {xs : Nat → Int32} (C0 : lw_At p s m meth c b L xs) : ∃ G : Gy, EV G (fun q : Nat => s.heap.size ≤ q) s s.heap := by
  obtain ⟨hx, hb, hr, hml, hown, hts, hX, hbl, hlocks, hgv⟩ := C0
  have hs := flat_of_before _ hgv
  obtain ⟨c0, iS0, hKn0⟩ := u_known (C := RX2) (T := TX2) (N := 3) (n := 3) hts inX2 (hts (.instantiable RX2 3) (by decide +kernel))
  obtain ⟨c1, iS1, hKn1⟩ := u_known (C := RX3) (T := TX3) (N := 6) (n := 6) hts inX3 (hts (.instantiable RX3 6) (by decide +kernel))
  obtain ⟨c2, iS2, hKn2⟩ := u_known (C := RX4) (T := TX4) (N := 3) (n := 3) hts inX4 (hts (.instantiable RX4 3) (by decide +kernel))
  obtain ⟨c3, iS3, hKn3⟩ := u_known (C := RX7) (T := TX7) (N := 7) (n := 7) hts inX7 (hts (.instantiable RX7 7) (by decide +kernel))
  obtain ⟨c4, iS4, hKn4⟩ := u_known (C := RX8) (T := TX8) (N := 5) (n := 5) hts inX8 (hts (.instantiable RX8 5) (by decide +kernel))
  obtain ⟨c5, iS5, hKn5⟩ := u_known (C := RX9) (T := TX9) (N := 5) (n := 5) hts inX9 (hts (.instantiable RX9 5) (by decide +kernel))
  obtain ⟨c6, iS6, hKn6⟩ := u_known (C := RX10) (T := TX10) (N := 28) (n := 28) hts inX10 (hts (.instantiable RX10 28) (by decide +kernel))
  obtain ⟨cB, kB⟩ := arr_B (hts (.arrayClass .byte) (by decide +kernel))
  obtain ⟨cI, kI⟩ := arr_I (hts (.arrayClass .int) (by decide +kernel))
  obtain ⟨cZ, kZ⟩ := arr_Z (hts (.arrayClass .boolean) (by decide +kernel))
  have oP := hts (.arrayOver (.object RX3)) (by decide +kernel)
  have oT := hts (.arrayOver (.object RX7)) (by decide +kernel)
  obtain ⟨cP, kP⟩ := arr_O oP
  obtain ⟨cT, kT⟩ := arr_O oT
  have etW : ∀ j : Nat, j < 6 → (Term.elem (.static RX5 "WRITTEN" "[I") (.int (Int32.ofNat j))).eval #[Value.ref b] s none [] s = some (tW j) := by
    intro j hj
    rcases (show j = 0 ∨ j = 1 ∨ j = 2 ∨ j = 3 ∨ j = 4 ∨ j = 5 by omega) with rfl | rfl | rfl | rfl | rfl | rfl
    · exact va_eqt (hs (.eq (.elem (.static RX5 "WRITTEN" "[I") (.int 0)) (.int 97)) (by decide +kernel))
    · exact va_eqt (hs (.eq (.elem (.static RX5 "WRITTEN" "[I") (.int 1)) (.int 98)) (by decide +kernel))
    · exact va_eqt (hs (.eq (.elem (.static RX5 "WRITTEN" "[I") (.int 2)) (.int 99)) (by decide +kernel))
    · exact va_eqt (hs (.eq (.elem (.static RX5 "WRITTEN" "[I") (.int 3)) (.int 100)) (by decide +kernel))
    · exact va_eqt (hs (.eq (.elem (.static RX5 "WRITTEN" "[I") (.int 4)) (.int 45)) (by decide +kernel))
    · exact va_eqt (hs (.eq (.elem (.static RX5 "WRITTEN" "[I") (.int 5)) (.int 63)) (by decide +kernel))
  obtain ⟨xtW, vtW, TtW⟩ := va_Tof (s := s) (tm := .static RX5 "WRITTEN" "[I") (ty := .int) (N := 6) (f := tW) (A := fun q : Nat => s.heap.size ≤ q) (by decide) (hs (.arrayOf (.static RX5 "WRITTEN" "[I") .int) (by decide +kernel)) (va_eqt (hs (.eq (.length (.static RX5 "WRITTEN" "[I")) (.int 6)) (by decide +kernel))) etW (fun a h => Nat.not_le.mpr h)
  have ztW := va_Zref (A := fun q : Nat => s.heap.size ≤ q) (hts (.laysStatic RX5 "WRITTEN" "[I") (by decide +kernel)) (hts (.initialized RX5) (by decide +kernel)) vtW (fun a h => Nat.not_le.mpr h)
  have etM : ∀ j : Nat, j < 6 → (Term.elem (.static RX1 "WEIGHTS" "[I") (.int (Int32.ofNat j))).eval #[Value.ref b] s none [] s = some (tM j) := by
    intro j hj
    rcases (show j = 0 ∨ j = 1 ∨ j = 2 ∨ j = 3 ∨ j = 4 ∨ j = 5 by omega) with rfl | rfl | rfl | rfl | rfl | rfl
    · exact va_eqt (hs (.eq (.elem (.static RX1 "WEIGHTS" "[I") (.int 0)) (.int 3125)) (by decide +kernel))
    · exact va_eqt (hs (.eq (.elem (.static RX1 "WEIGHTS" "[I") (.int 1)) (.int 625)) (by decide +kernel))
    · exact va_eqt (hs (.eq (.elem (.static RX1 "WEIGHTS" "[I") (.int 2)) (.int 125)) (by decide +kernel))
    · exact va_eqt (hs (.eq (.elem (.static RX1 "WEIGHTS" "[I") (.int 3)) (.int 25)) (by decide +kernel))
    · exact va_eqt (hs (.eq (.elem (.static RX1 "WEIGHTS" "[I") (.int 4)) (.int 5)) (by decide +kernel))
    · exact va_eqt (hs (.eq (.elem (.static RX1 "WEIGHTS" "[I") (.int 5)) (.int 1)) (by decide +kernel))
  obtain ⟨xtM, vtM, TtM⟩ := va_Tof (s := s) (tm := .static RX1 "WEIGHTS" "[I") (ty := .int) (N := 6) (f := tM) (A := fun q : Nat => s.heap.size ≤ q) (by decide) (hs (.arrayOf (.static RX1 "WEIGHTS" "[I") .int) (by decide +kernel)) (va_eqt (hs (.eq (.length (.static RX1 "WEIGHTS" "[I")) (.int 6)) (by decide +kernel))) etM (fun a h => Nat.not_le.mpr h)
  have ztM := va_Zref (A := fun q : Nat => s.heap.size ≤ q) (hts (.laysStatic RX1 "WEIGHTS" "[I") (by decide +kernel)) (hts (.initialized RX1) (by decide +kernel)) vtM (fun a h => Nat.not_le.mpr h)
  have etO : ∀ j : Nat, j < 40 → (Term.elem (.static RX6 "ORDER" "[I") (.int (Int32.ofNat j))).eval #[Value.ref b] s none [] s = some (tO j) := by
    intro j hj
    rcases (show j = 0 ∨ j = 1 ∨ j = 2 ∨ j = 3 ∨ j = 4 ∨ j = 5 ∨ j = 6 ∨ j = 7 ∨ j = 8 ∨ j = 9 ∨ j = 10 ∨ j = 11 ∨ j = 12 ∨ j = 13 ∨ j = 14 ∨ j = 15 ∨ j = 16 ∨ j = 17 ∨ j = 18 ∨ j = 19 ∨ j = 20 ∨ j = 21 ∨ j = 22 ∨ j = 23 ∨ j = 24 ∨ j = 25 ∨ j = 26 ∨ j = 27 ∨ j = 28 ∨ j = 29 ∨ j = 30 ∨ j = 31 ∨ j = 32 ∨ j = 33 ∨ j = 34 ∨ j = 35 ∨ j = 36 ∨ j = 37 ∨ j = 38 ∨ j = 39 by omega) with rfl | rfl | rfl | rfl | rfl | rfl | rfl | rfl | rfl | rfl | rfl | rfl | rfl | rfl | rfl | rfl | rfl | rfl | rfl | rfl | rfl | rfl | rfl | rfl | rfl | rfl | rfl | rfl | rfl | rfl | rfl | rfl | rfl | rfl | rfl | rfl | rfl | rfl | rfl | rfl
    · exact va_eqt (hs (.eq (.elem (.static RX6 "ORDER" "[I") (.int 0)) (.int 0)) (by decide +kernel))
    · exact va_eqt (hs (.eq (.elem (.static RX6 "ORDER" "[I") (.int 1)) (.int 1)) (by decide +kernel))
    · exact va_eqt (hs (.eq (.elem (.static RX6 "ORDER" "[I") (.int 2)) (.int 2)) (by decide +kernel))
    · exact va_eqt (hs (.eq (.elem (.static RX6 "ORDER" "[I") (.int 3)) (.int 3)) (by decide +kernel))
    · exact va_eqt (hs (.eq (.elem (.static RX6 "ORDER" "[I") (.int 4)) (.int 10)) (by decide +kernel))
    · exact va_eqt (hs (.eq (.elem (.static RX6 "ORDER" "[I") (.int 5)) (.int 11)) (by decide +kernel))
    · exact va_eqt (hs (.eq (.elem (.static RX6 "ORDER" "[I") (.int 6)) (.int 12)) (by decide +kernel))
    · exact va_eqt (hs (.eq (.elem (.static RX6 "ORDER" "[I") (.int 7)) (.int 13)) (by decide +kernel))
    · exact va_eqt (hs (.eq (.elem (.static RX6 "ORDER" "[I") (.int 8)) (.int 20)) (by decide +kernel))
    · exact va_eqt (hs (.eq (.elem (.static RX6 "ORDER" "[I") (.int 9)) (.int 21)) (by decide +kernel))
    · exact va_eqt (hs (.eq (.elem (.static RX6 "ORDER" "[I") (.int 10)) (.int 22)) (by decide +kernel))
    · exact va_eqt (hs (.eq (.elem (.static RX6 "ORDER" "[I") (.int 11)) (.int 23)) (by decide +kernel))
    · exact va_eqt (hs (.eq (.elem (.static RX6 "ORDER" "[I") (.int 12)) (.int 30)) (by decide +kernel))
    · exact va_eqt (hs (.eq (.elem (.static RX6 "ORDER" "[I") (.int 13)) (.int 31)) (by decide +kernel))
    · exact va_eqt (hs (.eq (.elem (.static RX6 "ORDER" "[I") (.int 14)) (.int 32)) (by decide +kernel))
    · exact va_eqt (hs (.eq (.elem (.static RX6 "ORDER" "[I") (.int 15)) (.int 33)) (by decide +kernel))
    · exact va_eqt (hs (.eq (.elem (.static RX6 "ORDER" "[I") (.int 16)) (.int 40)) (by decide +kernel))
    · exact va_eqt (hs (.eq (.elem (.static RX6 "ORDER" "[I") (.int 17)) (.int 41)) (by decide +kernel))
    · exact va_eqt (hs (.eq (.elem (.static RX6 "ORDER" "[I") (.int 18)) (.int 42)) (by decide +kernel))
    · exact va_eqt (hs (.eq (.elem (.static RX6 "ORDER" "[I") (.int 19)) (.int 43)) (by decide +kernel))
    · exact va_eqt (hs (.eq (.elem (.static RX6 "ORDER" "[I") (.int 20)) (.int 50)) (by decide +kernel))
    · exact va_eqt (hs (.eq (.elem (.static RX6 "ORDER" "[I") (.int 21)) (.int 51)) (by decide +kernel))
    · exact va_eqt (hs (.eq (.elem (.static RX6 "ORDER" "[I") (.int 22)) (.int 52)) (by decide +kernel))
    · exact va_eqt (hs (.eq (.elem (.static RX6 "ORDER" "[I") (.int 23)) (.int 53)) (by decide +kernel))
    · exact va_eqt (hs (.eq (.elem (.static RX6 "ORDER" "[I") (.int 24)) (.int 100)) (by decide +kernel))
    · exact va_eqt (hs (.eq (.elem (.static RX6 "ORDER" "[I") (.int 25)) (.int 110)) (by decide +kernel))
    · exact va_eqt (hs (.eq (.elem (.static RX6 "ORDER" "[I") (.int 26)) (.int 120)) (by decide +kernel))
    · exact va_eqt (hs (.eq (.elem (.static RX6 "ORDER" "[I") (.int 27)) (.int 130)) (by decide +kernel))
    · exact va_eqt (hs (.eq (.elem (.static RX6 "ORDER" "[I") (.int 28)) (.int 140)) (by decide +kernel))
    · exact va_eqt (hs (.eq (.elem (.static RX6 "ORDER" "[I") (.int 29)) (.int 200)) (by decide +kernel))
    · exact va_eqt (hs (.eq (.elem (.static RX6 "ORDER" "[I") (.int 30)) (.int 210)) (by decide +kernel))
    · exact va_eqt (hs (.eq (.elem (.static RX6 "ORDER" "[I") (.int 31)) (.int 220)) (by decide +kernel))
    · exact va_eqt (hs (.eq (.elem (.static RX6 "ORDER" "[I") (.int 32)) (.int 230)) (by decide +kernel))
    · exact va_eqt (hs (.eq (.elem (.static RX6 "ORDER" "[I") (.int 33)) (.int 240)) (by decide +kernel))
    · exact va_eqt (hs (.eq (.elem (.static RX6 "ORDER" "[I") (.int 34)) (.int 300)) (by decide +kernel))
    · exact va_eqt (hs (.eq (.elem (.static RX6 "ORDER" "[I") (.int 35)) (.int 310)) (by decide +kernel))
    · exact va_eqt (hs (.eq (.elem (.static RX6 "ORDER" "[I") (.int 36)) (.int 320)) (by decide +kernel))
    · exact va_eqt (hs (.eq (.elem (.static RX6 "ORDER" "[I") (.int 37)) (.int 330)) (by decide +kernel))
    · exact va_eqt (hs (.eq (.elem (.static RX6 "ORDER" "[I") (.int 38)) (.int 340)) (by decide +kernel))
    · exact va_eqt (hs (.eq (.elem (.static RX6 "ORDER" "[I") (.int 39)) (.int 350)) (by decide +kernel))
  obtain ⟨xtO, vtO, TtO⟩ := va_Tof (s := s) (tm := .static RX6 "ORDER" "[I") (ty := .int) (N := 40) (f := tO) (A := fun q : Nat => s.heap.size ≤ q) (by decide) (hs (.arrayOf (.static RX6 "ORDER" "[I") .int) (by decide +kernel)) (va_eqt (hs (.eq (.length (.static RX6 "ORDER" "[I")) (.int 40)) (by decide +kernel))) etO (fun a h => Nat.not_le.mpr h)
  have ztO := va_Zref (A := fun q : Nat => s.heap.size ≤ q) (hts (.laysStatic RX6 "ORDER" "[I") (by decide +kernel)) (hts (.initialized RX6) (by decide +kernel)) vtO (fun a h => Nat.not_le.mpr h)
  refine ⟨((fun k => if k = 0 then c0 else if k = 1 then c1 else if k = 2 then c2 else if k = 3 then c3 else if k = 4 then c4 else if k = 5 then c5 else c6, fun k => if k = 0 then iS0 else if k = 1 then iS1 else if k = 2 then iS2 else if k = 3 then iS3 else if k = 4 then iS4 else if k = 5 then iS5 else iS6), cB, cI, cZ, cP, cT), ⟨?_, ?_⟩, ⟨xtW, ztW, TtW⟩, ⟨xtM, ztM, TtM⟩, ⟨xtO, ztO, TtO⟩, va_AO.of oP, va_AO.of oT, va_Nw.of rfl (hts (.methodLinkNest RX9 9 yX2_init RX9) (by decide +kernel)), va_Nw.of rfl (hts (.methodLinkNest RX9 18 yX3_init RX9) (by decide +kernel)), va_Nw.of rfl (hts (.methodLinkNest RX9 220 yX4_init RX9) (by decide +kernel)), va_Nw.of rfl (hts (.methodLinkNest RX9 131 yX8_init RX9) (by decide +kernel)), va_Nw.of rfl (hts (.methodLinkNest RX4 39 yX7_init RX9) (by decide +kernel)), va_Nw.of rfl (hts (.methodLinkNest RX8 21 yX9_isMap RX9) (by decide +kernel)), va_Nw.of rfl (hts (.methodLinkNest RX8 46 yX9_isOf RX9) (by decide +kernel))⟩
  · intro k q hq
    match k, hq with
    | 0, hq => cases hq; exact hKn0
    | 1, hq => cases hq; exact hKn1
    | 2, hq => cases hq; exact hKn2
    | 3, hq => cases hq; exact hKn3
    | 4, hq => cases hq; exact hKn4
    | 5, hq => cases hq; exact hKn5
    | 6, hq => cases hq; exact hKn6
    | k + 7, hq => simp [vwCl] at hq
  · intro k q hq
    match k, hq with
    | 0, hq => cases hq; exact kB
    | 1, hq => cases hq; exact kI
    | 2, hq => cases hq; exact kZ
    | 3, hq => cases hq; exact kP
    | 4, hq => cases hq; exact kT
    | k + 5, hq => simp [gt] at hq

set_option maxHeartbeats 1000000 in
set_option maxRecDepth 100000 in
theorem law_end {p : Program} {l : Launch} {e : Env} {s : State} {m : MethodId} {below : List Frame} {meth : Method} {c : Code} {b L : Nat} {xs : Nat → Int32} (hL : L ≤ 6) (C0 : lw_At p s m meth c b L xs) {H : Heap} {locs : List Loc} {ls : Array Slot} (hS : va_S (fun q : Nat => s.heap.size ≤ q) s.heap H locs) (hl : lv_has ls 4 [(3, .int 6), (0, .ref b)]) : W p l e room_1 s m #[Value.ref b] below meth c H locs 600000 7302249 (lw_Z below #[Value.ref b] s) (F0 m 18 ls []) := by
  obtain ⟨hx, hb, hr, hml, hown, hts, hX, hbl, hlocks, hgv⟩ := C0
  have hbA : ¬ (fun q : Nat => s.heap.size ≤ q) b := Nat.not_le.mpr hbl
  refine lv_iload_n hx hb dL_law_18 rfl (lv_at hl 0 rfl) ?_
  refine lv_aload_n hx hb dL_law_19 rfl (lv_at hl 1 rfl) ?_
  refine va_slen hx hb hX hbl hbA hS dL_law_20 ?_
  refine lv_bipush (v := 6) hx hb dL_law_21 (by decide) ?_
  refine lv_isub hx hb dL_law_23 ?_
  refine lv_topi (fun x1 ex1 => ?_)
  have hx1 : x1.toInt = (L : Int) - 6 := by rw [ex1]; exact pk_sub_toInt (a := L) (b := 6) (by omega) (by decide)
  refine lv_icmp_gt (tgt := 932) hx hb dL_law_24 (by decide) (fun c1 => ?_) (fun c1 => absurd (show x1 < 6 by rw [i3_lt, hx1]; simp only [Int32.reduceToInt]; omega) c1)
  refine lv_iconst (v := 1) hx hb dL_law_932 (by decide) ?_
  refine va_forget (fun q hq => hS.2.2 q hq) ?_
  exact lw_ret hx hb hr hlocks dL_law_933

set_option maxHeartbeats 1000000 in
set_option maxRecDepth 100000 in
theorem law_sites {p : Program} {l : Launch} {e : Env} {s : State} {m : MethodId} {below : List Frame} {meth : Method} {c : Code} {b L : Nat} {xs : Nat → Int32} {G : Gy} {h0 : Nat} {pad : Nat} {pp : Nat} {im : Nat} {sg : Nat} {sl : Nat} {ac : Nat} {ak : Nat} {fk : Nat → Int32} {h1 : Nat} {a_maps : Nat} {a_kinds : Nat} {a_part : Nat} {a_pad : Nat} {a_slips : Nat} {a_queue : Nat} {a_depth : Nat} {a_by : Nat} {a_from : Nat} {a_offOf : Nat} {a_parent : Nat} {a_best : Nat} {a_sums : Nat} {a_toward : Nat} {a_kept : Nat} {a_isKept : Nat} {fmm : Nat → Int32} {fkm : Nat → Int32} {fpm : Nat → Int32} (hL : L ≤ 6) (hL6 : L = 6) (C : lw_At p s m meth c b L xs) (E : EV G (fun q : Nat => s.heap.size ≤ q) s s.heap) (hk : ∀ j : Nat, j < 4 → fk j = 15) (hkm : ∀ j : Nat, j < 4 → fkm j = 15) (hpm : ∀ j : Nat, j < 6 → ¬ fpm j = 0) {H : Heap} {locs : List Loc} {ls : Array Slot} (hP : va_P G.1 vwCl [(h0, .inr (5, [.ref pad, .ref pp, .ref im, .null, .null])), (im, .inl (gP G, 2, .inr (.inr (.inr (.inr (fun _ => none)))))), (pad, .inr (0, [.ref sg, .ref sl, .int 0])), (sg, .inl (gI G, 40, .inl (fun _ => 0))), (sl, .inl (gI G, 10, .inl (fun _ => 0))), (pp, .inr (1, [.int 6, .int 0, .int 1, .int 0, .ref ac, .ref ak])), (ac, .inl (gI G, 6, .inl (fun _ => 0))), (ak, .inl (gI G, 4, .inl fk)), (h1, .inr (6, [.int 6, .ref a_maps, .int 0, .ref a_kinds, .int 0, .int 1, .ref a_part, .ref a_pad, .int 0, .ref a_slips, .int 0, .int 0, .ref a_queue, .ref a_depth, .ref a_by, .ref a_from, .int 0, .ref a_offOf, .ref a_parent, .ref a_best, .int 0, .int 0, .ref a_sums, .ref a_toward, .ref a_kept, .ref a_isKept, .int 0, .int 0])), (a_maps, .inl (gI G, 6, .inl fmm)), (a_kinds, .inl (gI G, 4, .inl fkm)), (a_part, .inl (gI G, 6, .inl fpm)), (a_pad, .inl (gI G, 40, .inl (fun _ => 0))), (a_slips, .inl (gI G, 10, .inl (fun _ => 0))), (a_kept, .inl (gI G, 80, .inl (fun _ => 0))), (a_isKept, .inl (gZ G, 2, .inl (fun _ => 0)))] H) (hD : va_D (fun q : Nat => s.heap.size ≤ q) [(h0, .inr (5, [.ref pad, .ref pp, .ref im, .null, .null])), (im, .inl (gP G, 2, .inr (.inr (.inr (.inr (fun _ => none)))))), (pad, .inr (0, [.ref sg, .ref sl, .int 0])), (sg, .inl (gI G, 40, .inl (fun _ => 0))), (sl, .inl (gI G, 10, .inl (fun _ => 0))), (pp, .inr (1, [.int 6, .int 0, .int 1, .int 0, .ref ac, .ref ak])), (ac, .inl (gI G, 6, .inl (fun _ => 0))), (ak, .inl (gI G, 4, .inl fk)), (h1, .inr (6, [.int 6, .ref a_maps, .int 0, .ref a_kinds, .int 0, .int 1, .ref a_part, .ref a_pad, .int 0, .ref a_slips, .int 0, .int 0, .ref a_queue, .ref a_depth, .ref a_by, .ref a_from, .int 0, .ref a_offOf, .ref a_parent, .ref a_best, .int 0, .int 0, .ref a_sums, .ref a_toward, .ref a_kept, .ref a_isKept, .int 0, .int 0])), (a_maps, .inl (gI G, 6, .inl fmm)), (a_kinds, .inl (gI G, 4, .inl fkm)), (a_part, .inl (gI G, 6, .inl fpm)), (a_pad, .inl (gI G, 40, .inl (fun _ => 0))), (a_slips, .inl (gI G, 10, .inl (fun _ => 0))), (a_kept, .inl (gI G, 80, .inl (fun _ => 0))), (a_isKept, .inl (gZ G, 2, .inl (fun _ => 0)))]) (hS : va_S (fun q : Nat => s.heap.size ≤ q) s.heap H locs) (hl : lv_has ls 4 [(3, .int 0), (2, .ref h1), (1, .ref h0), (0, .ref b)]) : W p l e room_1 s m #[Value.ref b] below meth c H locs 25 94050 (lw_Z below #[Value.ref b] s) (F0 m 144 ls []) := by
  have C0 := C
  obtain ⟨hx, hb, hr, hml, hown, hts0, hX, hbl, hlocks, hgv⟩ := C
  have hts : ∀ w ∈ wsL_law, w.before #[Value.ref b] s = true := fun w h => hts0 w (wsL_law_in w h)
  have hbA : ¬ (fun q : Nat => s.heap.size ≤ q) b := Nat.not_le.mpr hbl
  have hA : ∀ q : Nat, s.heap.size ≤ q → (fun q : Nat => s.heap.size ≤ q) q := fun _ h => h
  refine lv_aload_n hx hb dL_law_144 rfl (lv_at hl 2 rfl) ?_
  refine lv_aload_n hx hb dL_law_145 rfl (lv_at hl 3 rfl) ?_
  refine lv_iload_n hx hb dL_law_146 rfl (lv_at hl 0 rfl) ?_
  refine lv_iconst (v := 1) hx hb dL_law_147 (by decide) ?_
  refine lv_iadd hx hb dL_law_148 ?_
  refine lv_topi (fun x1 ex1 => ?_)
  obtain rfl : x1 = 1 := by rw [ex1]; decide
  refine va_sld hx hb hX hbl hbA hS (i := 1) (by rw [hL6]; unfold vp_in; decide) dL_law_149 ?_
  refine lv_topi (fun x2 ex2 => ?_)
  refine ca_i (wr := [(h1, .inr (6, [.int 6, .ref a_maps, .int 0, .ref a_kinds, .int 0, .int 1, .ref a_part, .ref a_pad, .int 0, .ref a_slips, .int 0, .int 0, .ref a_queue, .ref a_depth, .ref a_by, .ref a_from, .int 0, .ref a_offOf, .ref a_parent, .ref a_best, .int 0, .int 0, .ref a_sums, .ref a_toward, .ref a_kept, .ref a_isKept, .int 0, .int 0])), (a_maps, .inl (gI G, 6, .inl fmm)), (a_kinds, .inl (gI G, 4, .inl fkm)), (a_part, .inl (gI G, 6, .inl fpm)), (a_pad, .inl (gI G, 40, .inl (fun _ => 0))), (a_slips, .inl (gI G, 10, .inl (fun _ => 0))), (a_kept, .inl (gI G, 80, .inl (fun _ => 0))), (a_isKept, .inl (gZ G, 2, .inl (fun _ => 0)))]) (va_runV (As := [.int x2]) (rest := []) ⟨hx, hb, hml, hown, hts⟩ (f_sites l G H.size h0 pad pp im sg sl ac ak fk x2 hk) (cwV 1 hts gL_law_X9_sites rfl rfl rfl (by decide +kernel) ⟨by decide +kernel, by decide +kernel⟩) (pre_V E hP hD hS hA [0, 1, 2, 3, 4, 5, 6, 7] (by decide) rfl 0 5 rfl rfl) rfl rfl hl.1 rfl (lv_room (Nat.le_of_ble_eq_true rfl)) dL_law_150 ⟨by decide +kernel, by decide +kernel⟩) hS hP hD hA [0, 1, 2, 3, 4, 5, 6, 7] [8, 9, 10, 11, 12, 13, 14, 15] rfl rfl (by decide) (by decide) (fun r4 u5 H locs w3 hP hD hS => ?_)
  try dsimp only at w3 hP hD
  have hP := hP.sub (ws' := [(h1, .inr (6, [.int 6, .ref a_maps, .int 0, .ref a_kinds, .int 0, .int 1, .ref a_part, .ref a_pad, .int 0, .ref a_slips, .int 0, .int 0, .ref a_queue, .ref a_depth, .ref a_by, .ref a_from, .int 0, .ref a_offOf, .ref a_parent, .ref a_best, .int 0, .int 0, .ref a_sums, .ref a_toward, .ref a_kept, .ref a_isKept, .int 0, .int 0])), (a_maps, .inl (gI G, 6, .inl fmm)), (a_kinds, .inl (gI G, 4, .inl fkm)), (a_part, .inl (gI G, 6, .inl fpm)), (a_pad, .inl (gI G, 40, .inl (fun _ => 0))), (a_slips, .inl (gI G, 10, .inl (fun _ => 0))), (a_kept, .inl (gI G, 80, .inl (fun _ => 0))), (a_isKept, .inl (gZ G, 2, .inl (fun _ => 0)))]) [0, 1, 2, 3, 4, 5, 6, 7] rfl
  have hD := hD.sub (ws' := [(h1, .inr (6, [.int 6, .ref a_maps, .int 0, .ref a_kinds, .int 0, .int 1, .ref a_part, .ref a_pad, .int 0, .ref a_slips, .int 0, .int 0, .ref a_queue, .ref a_depth, .ref a_by, .ref a_from, .int 0, .ref a_offOf, .ref a_parent, .ref a_best, .int 0, .int 0, .ref a_sums, .ref a_toward, .ref a_kept, .ref a_isKept, .int 0, .int 0])), (a_maps, .inl (gI G, 6, .inl fmm)), (a_kinds, .inl (gI G, 4, .inl fkm)), (a_part, .inl (gI G, 6, .inl fpm)), (a_pad, .inl (gI G, 40, .inl (fun _ => 0))), (a_slips, .inl (gI G, 10, .inl (fun _ => 0))), (a_kept, .inl (gI G, 80, .inl (fun _ => 0))), (a_isKept, .inl (gZ G, 2, .inl (fun _ => 0)))]) [0, 1, 2, 3, 4, 5, 6, 7] (by decide) rfl
  refine lv_aload_n hx hb dL_law_153 rfl (lv_at hl 1 rfl) ?_
  refine lv_aload_n hx hb dL_law_154 rfl (lv_at hl 3 rfl) ?_
  refine lv_iload_n hx hb dL_law_155 rfl (lv_at hl 0 rfl) ?_
  refine lv_iconst (v := 1) hx hb dL_law_156 (by decide) ?_
  refine lv_iadd hx hb dL_law_157 ?_
  refine lv_topi (fun x6 ex6 => ?_)
  obtain rfl : x6 = 1 := by rw [ex6]; decide
  refine va_sld hx hb hX hbl hbA hS (i := 1) (by rw [hL6]; unfold vp_in; decide) dL_law_158 ?_
  refine lv_topi (fun x7 ex7 => ?_)
  refine ca_i (wr := []) (va_runV (As := [.int x7]) (rest := [.int r4]) ⟨hx, hb, hml, hown, hts⟩ (g_sites l G H.size h1 a_maps a_kinds a_part a_pad a_slips a_queue a_depth a_by a_from a_offOf a_parent a_best a_sums a_toward a_kept a_isKept fmm fkm fpm x7 hkm hpm) (cwV 1 hts gL_law_X10_sites rfl rfl rfl (by decide +kernel) ⟨by decide +kernel, by decide +kernel⟩) (pre_V E hP hD hS hA [0, 1, 2, 3, 4, 5, 6, 7] (by decide) rfl 0 6 rfl rfl) rfl rfl hl.1 rfl (lv_room (Nat.le_of_ble_eq_true rfl)) dL_law_159 ⟨by decide +kernel, by decide +kernel⟩) hS hP hD hA [0, 1, 2, 3, 4, 5, 6, 7] [] rfl rfl (by decide) (by decide) (fun r9 u10 H locs w8 hP hD hS => ?_)
  try dsimp only at w8 hP hD
  have hP := hP.sub (ws' := []) [] rfl
  have hD := hD.sub (ws' := []) [] (by decide) rfl
  refine lv_icmp_eq (tgt := 926) hx hb dL_law_162 (by decide) (fun c11 => ?_) (fun c11 => absurd (by rw [w3, w8]; simp only [ex2, ex7]) c11)
  refine lv_iinc (v := 6) (lv' := [(3, .int 6), (2, .ref h1), (1, .ref h0), (0, .ref b)]) hx hb dL_law_926 hl (k := 0) rfl (by decide) (by decide) rfl (fun ls hl => ?_)
  refine lv_goto (tgt := 18) hx hb dL_law_929 (by decide) ?_
  refine W.widen (k := 600000) (n := 7302249) (by decide +kernel) (by decide +kernel) ?_
  exact law_end hL C0 hS (lv_sub hl [0, 3] rfl)

set_option maxHeartbeats 1000000 in
set_option maxRecDepth 100000 in
theorem law_say {p : Program} {l : Launch} {e : Env} {s : State} {m : MethodId} {below : List Frame} {meth : Method} {c : Code} {b L : Nat} {xs : Nat → Int32} {G : Gy} {h0 : Nat} {pad : Nat} {pp : Nat} {im : Nat} {sg : Nat} {sl : Nat} {ac : Nat} {ak : Nat} {fk : Nat → Int32} {h1 : Nat} {a_maps : Nat} {a_kinds : Nat} {a_part : Nat} {a_pad : Nat} {a_slips : Nat} {a_queue : Nat} {a_depth : Nat} {a_by : Nat} {a_from : Nat} {a_offOf : Nat} {a_parent : Nat} {a_best : Nat} {a_sums : Nat} {a_toward : Nat} {a_kept : Nat} {a_isKept : Nat} {fmm : Nat → Int32} {fkm : Nat → Int32} {fpm : Nat → Int32} (hL : L ≤ 6) (hL6 : L = 6) (C : lw_At p s m meth c b L xs) (E : EV G (fun q : Nat => s.heap.size ≤ q) s s.heap) (hk : ∀ j : Nat, j < 4 → fk j = 15) (hkm : ∀ j : Nat, j < 4 → fkm j = 15) (hpm : ∀ j : Nat, j < 6 → ¬ fpm j = 0) {H : Heap} {locs : List Loc} {ls : Array Slot} (hP : va_P G.1 vwCl [(h0, .inr (5, [.ref pad, .ref pp, .ref im, .null, .null])), (im, .inl (gP G, 2, .inr (.inr (.inr (.inr (fun _ => none)))))), (pad, .inr (0, [.ref sg, .ref sl, .int 0])), (sg, .inl (gI G, 40, .inl (fun _ => 0))), (sl, .inl (gI G, 10, .inl (fun _ => 0))), (pp, .inr (1, [.int 6, .int 0, .int 1, .int 0, .ref ac, .ref ak])), (ac, .inl (gI G, 6, .inl (fun _ => 0))), (ak, .inl (gI G, 4, .inl fk)), (h1, .inr (6, [.int 6, .ref a_maps, .int 0, .ref a_kinds, .int 0, .int 1, .ref a_part, .ref a_pad, .int 0, .ref a_slips, .int 0, .int 0, .ref a_queue, .ref a_depth, .ref a_by, .ref a_from, .int 0, .ref a_offOf, .ref a_parent, .ref a_best, .int 0, .int 0, .ref a_sums, .ref a_toward, .ref a_kept, .ref a_isKept, .int 0, .int 0])), (a_maps, .inl (gI G, 6, .inl fmm)), (a_kinds, .inl (gI G, 4, .inl fkm)), (a_part, .inl (gI G, 6, .inl fpm)), (a_pad, .inl (gI G, 40, .inl (fun _ => 0))), (a_slips, .inl (gI G, 10, .inl (fun _ => 0))), (a_kept, .inl (gI G, 80, .inl (fun _ => 0))), (a_isKept, .inl (gZ G, 2, .inl (fun _ => 0)))] H) (hD : va_D (fun q : Nat => s.heap.size ≤ q) [(h0, .inr (5, [.ref pad, .ref pp, .ref im, .null, .null])), (im, .inl (gP G, 2, .inr (.inr (.inr (.inr (fun _ => none)))))), (pad, .inr (0, [.ref sg, .ref sl, .int 0])), (sg, .inl (gI G, 40, .inl (fun _ => 0))), (sl, .inl (gI G, 10, .inl (fun _ => 0))), (pp, .inr (1, [.int 6, .int 0, .int 1, .int 0, .ref ac, .ref ak])), (ac, .inl (gI G, 6, .inl (fun _ => 0))), (ak, .inl (gI G, 4, .inl fk)), (h1, .inr (6, [.int 6, .ref a_maps, .int 0, .ref a_kinds, .int 0, .int 1, .ref a_part, .ref a_pad, .int 0, .ref a_slips, .int 0, .int 0, .ref a_queue, .ref a_depth, .ref a_by, .ref a_from, .int 0, .ref a_offOf, .ref a_parent, .ref a_best, .int 0, .int 0, .ref a_sums, .ref a_toward, .ref a_kept, .ref a_isKept, .int 0, .int 0])), (a_maps, .inl (gI G, 6, .inl fmm)), (a_kinds, .inl (gI G, 4, .inl fkm)), (a_part, .inl (gI G, 6, .inl fpm)), (a_pad, .inl (gI G, 40, .inl (fun _ => 0))), (a_slips, .inl (gI G, 10, .inl (fun _ => 0))), (a_kept, .inl (gI G, 80, .inl (fun _ => 0))), (a_isKept, .inl (gZ G, 2, .inl (fun _ => 0)))]) (hS : va_S (fun q : Nat => s.heap.size ≤ q) s.heap H locs) (hl : lv_has ls 4 [(3, .int 0), (2, .ref h1), (1, .ref h0), (0, .ref b)]) : W p l e room_1 s m #[Value.ref b] below meth c H locs 25 94050 (lw_Z below #[Value.ref b] s) (F0 m 167 ls []) := by
  have C0 := C
  obtain ⟨hx, hb, hr, hml, hown, hts0, hX, hbl, hlocks, hgv⟩ := C
  have hts : ∀ w ∈ wsL_law, w.before #[Value.ref b] s = true := fun w h => hts0 w (wsL_law_in w h)
  have hbA : ¬ (fun q : Nat => s.heap.size ≤ q) b := Nat.not_le.mpr hbl
  have hA : ∀ q : Nat, s.heap.size ≤ q → (fun q : Nat => s.heap.size ≤ q) q := fun _ h => h
  refine lv_aload_n hx hb dL_law_167 rfl (lv_at hl 2 rfl) ?_
  refine lv_aload_n hx hb dL_law_168 rfl (lv_at hl 3 rfl) ?_
  refine lv_iload_n hx hb dL_law_169 rfl (lv_at hl 0 rfl) ?_
  refine lv_iconst (v := 1) hx hb dL_law_170 (by decide) ?_
  refine lv_iadd hx hb dL_law_171 ?_
  refine lv_topi (fun x1 ex1 => ?_)
  obtain rfl : x1 = 1 := by rw [ex1]; decide
  refine va_sld hx hb hX hbl hbA hS (i := 1) (by rw [hL6]; unfold vp_in; decide) dL_law_172 ?_
  refine lv_topi (fun x2 ex2 => ?_)
  refine ca_i (wr := [(h1, .inr (6, [.int 6, .ref a_maps, .int 0, .ref a_kinds, .int 0, .int 1, .ref a_part, .ref a_pad, .int 0, .ref a_slips, .int 0, .int 0, .ref a_queue, .ref a_depth, .ref a_by, .ref a_from, .int 0, .ref a_offOf, .ref a_parent, .ref a_best, .int 0, .int 0, .ref a_sums, .ref a_toward, .ref a_kept, .ref a_isKept, .int 0, .int 0])), (a_maps, .inl (gI G, 6, .inl fmm)), (a_kinds, .inl (gI G, 4, .inl fkm)), (a_part, .inl (gI G, 6, .inl fpm)), (a_pad, .inl (gI G, 40, .inl (fun _ => 0))), (a_slips, .inl (gI G, 10, .inl (fun _ => 0))), (a_kept, .inl (gI G, 80, .inl (fun _ => 0))), (a_isKept, .inl (gZ G, 2, .inl (fun _ => 0)))]) (va_runV (As := [.int x2]) (rest := []) ⟨hx, hb, hml, hown, hts⟩ (f_say l G H.size h0 pad pp im sg sl ac ak fk x2 hk) (cwV 1 hts gL_law_X9_say rfl rfl rfl (by decide +kernel) ⟨by decide +kernel, by decide +kernel⟩) (pre_V E hP hD hS hA [0, 1, 2, 3, 4, 5, 6, 7] (by decide) rfl 0 5 rfl rfl) rfl rfl hl.1 rfl (lv_room (Nat.le_of_ble_eq_true rfl)) dL_law_173 ⟨by decide +kernel, by decide +kernel⟩) hS hP hD hA [0, 1, 2, 3, 4, 5, 6, 7] [8, 9, 10, 11, 12, 13, 14, 15] rfl rfl (by decide) (by decide) (fun r4 u5 H locs w3 hP hD hS => ?_)
  try dsimp only at w3 hP hD
  have hP := hP.sub (ws' := [(h1, .inr (6, [.int 6, .ref a_maps, .int 0, .ref a_kinds, .int 0, .int 1, .ref a_part, .ref a_pad, .int 0, .ref a_slips, .int 0, .int 0, .ref a_queue, .ref a_depth, .ref a_by, .ref a_from, .int 0, .ref a_offOf, .ref a_parent, .ref a_best, .int 0, .int 0, .ref a_sums, .ref a_toward, .ref a_kept, .ref a_isKept, .int 0, .int 0])), (a_maps, .inl (gI G, 6, .inl fmm)), (a_kinds, .inl (gI G, 4, .inl fkm)), (a_part, .inl (gI G, 6, .inl fpm)), (a_pad, .inl (gI G, 40, .inl (fun _ => 0))), (a_slips, .inl (gI G, 10, .inl (fun _ => 0))), (a_kept, .inl (gI G, 80, .inl (fun _ => 0))), (a_isKept, .inl (gZ G, 2, .inl (fun _ => 0)))]) [0, 1, 2, 3, 4, 5, 6, 7] rfl
  have hD := hD.sub (ws' := [(h1, .inr (6, [.int 6, .ref a_maps, .int 0, .ref a_kinds, .int 0, .int 1, .ref a_part, .ref a_pad, .int 0, .ref a_slips, .int 0, .int 0, .ref a_queue, .ref a_depth, .ref a_by, .ref a_from, .int 0, .ref a_offOf, .ref a_parent, .ref a_best, .int 0, .int 0, .ref a_sums, .ref a_toward, .ref a_kept, .ref a_isKept, .int 0, .int 0])), (a_maps, .inl (gI G, 6, .inl fmm)), (a_kinds, .inl (gI G, 4, .inl fkm)), (a_part, .inl (gI G, 6, .inl fpm)), (a_pad, .inl (gI G, 40, .inl (fun _ => 0))), (a_slips, .inl (gI G, 10, .inl (fun _ => 0))), (a_kept, .inl (gI G, 80, .inl (fun _ => 0))), (a_isKept, .inl (gZ G, 2, .inl (fun _ => 0)))]) [0, 1, 2, 3, 4, 5, 6, 7] (by decide) rfl
  refine lv_aload_n hx hb dL_law_176 rfl (lv_at hl 1 rfl) ?_
  refine lv_aload_n hx hb dL_law_177 rfl (lv_at hl 3 rfl) ?_
  refine lv_iload_n hx hb dL_law_178 rfl (lv_at hl 0 rfl) ?_
  refine lv_iconst (v := 1) hx hb dL_law_179 (by decide) ?_
  refine lv_iadd hx hb dL_law_180 ?_
  refine lv_topi (fun x6 ex6 => ?_)
  obtain rfl : x6 = 1 := by rw [ex6]; decide
  refine va_sld hx hb hX hbl hbA hS (i := 1) (by rw [hL6]; unfold vp_in; decide) dL_law_181 ?_
  refine lv_topi (fun x7 ex7 => ?_)
  refine ca_i (wr := []) (va_runV (As := [.int x7]) (rest := [.int r4]) ⟨hx, hb, hml, hown, hts⟩ (g_say l G H.size h1 a_maps a_kinds a_part a_pad a_slips a_queue a_depth a_by a_from a_offOf a_parent a_best a_sums a_toward a_kept a_isKept fmm fkm fpm x7 hkm hpm) (cwV 1 hts gL_law_X10_say rfl rfl rfl (by decide +kernel) ⟨by decide +kernel, by decide +kernel⟩) (pre_V E hP hD hS hA [0, 1, 2, 3, 4, 5, 6, 7] (by decide) rfl 0 6 rfl rfl) rfl rfl hl.1 rfl (lv_room (Nat.le_of_ble_eq_true rfl)) dL_law_182 ⟨by decide +kernel, by decide +kernel⟩) hS hP hD hA [0, 1, 2, 3, 4, 5, 6, 7] [] rfl rfl (by decide) (by decide) (fun r9 u10 H locs w8 hP hD hS => ?_)
  try dsimp only at w8 hP hD
  have hP := hP.sub (ws' := []) [] rfl
  have hD := hD.sub (ws' := []) [] (by decide) rfl
  refine lv_icmp_eq (tgt := 926) hx hb dL_law_185 (by decide) (fun c11 => ?_) (fun c11 => absurd (by rw [w3, w8]; simp only [ex2, ex7]) c11)
  refine lv_iinc (v := 6) (lv' := [(3, .int 6), (2, .ref h1), (1, .ref h0), (0, .ref b)]) hx hb dL_law_926 hl (k := 0) rfl (by decide) (by decide) rfl (fun ls hl => ?_)
  refine lv_goto (tgt := 18) hx hb dL_law_929 (by decide) ?_
  refine W.widen (k := 600000) (n := 7302249) (by decide +kernel) (by decide +kernel) ?_
  exact law_end hL C0 hS (lv_sub hl [0, 3] rfl)

set_option maxHeartbeats 1000000 in
set_option maxRecDepth 100000 in
theorem law_wipe {p : Program} {l : Launch} {e : Env} {s : State} {m : MethodId} {below : List Frame} {meth : Method} {c : Code} {b L : Nat} {xs : Nat → Int32} {G : Gy} {h0 : Nat} {pad : Nat} {pp : Nat} {im : Nat} {sg : Nat} {sl : Nat} {ac : Nat} {ak : Nat} {fk : Nat → Int32} {h1 : Nat} {a_maps : Nat} {a_kinds : Nat} {a_part : Nat} {a_pad : Nat} {a_slips : Nat} {a_queue : Nat} {a_depth : Nat} {a_by : Nat} {a_from : Nat} {a_offOf : Nat} {a_parent : Nat} {a_best : Nat} {a_sums : Nat} {a_toward : Nat} {a_kept : Nat} {a_isKept : Nat} {fmm : Nat → Int32} {fkm : Nat → Int32} {fpm : Nat → Int32} (hL : L ≤ 6) (hL6 : L = 6) (C : lw_At p s m meth c b L xs) (E : EV G (fun q : Nat => s.heap.size ≤ q) s s.heap) (hk : ∀ j : Nat, j < 4 → fk j = 15) (hkm : ∀ j : Nat, j < 4 → fkm j = 15) (hpm : ∀ j : Nat, j < 6 → ¬ fpm j = 0) {H : Heap} {locs : List Loc} {ls : Array Slot} (hP : va_P G.1 vwCl [(h0, .inr (5, [.ref pad, .ref pp, .ref im, .null, .null])), (im, .inl (gP G, 2, .inr (.inr (.inr (.inr (fun _ => none)))))), (pad, .inr (0, [.ref sg, .ref sl, .int 0])), (sg, .inl (gI G, 40, .inl (fun _ => 0))), (sl, .inl (gI G, 10, .inl (fun _ => 0))), (pp, .inr (1, [.int 6, .int 0, .int 1, .int 0, .ref ac, .ref ak])), (ac, .inl (gI G, 6, .inl (fun _ => 0))), (ak, .inl (gI G, 4, .inl fk)), (h1, .inr (6, [.int 6, .ref a_maps, .int 0, .ref a_kinds, .int 0, .int 1, .ref a_part, .ref a_pad, .int 0, .ref a_slips, .int 0, .int 0, .ref a_queue, .ref a_depth, .ref a_by, .ref a_from, .int 0, .ref a_offOf, .ref a_parent, .ref a_best, .int 0, .int 0, .ref a_sums, .ref a_toward, .ref a_kept, .ref a_isKept, .int 0, .int 0])), (a_maps, .inl (gI G, 6, .inl fmm)), (a_kinds, .inl (gI G, 4, .inl fkm)), (a_part, .inl (gI G, 6, .inl fpm)), (a_pad, .inl (gI G, 40, .inl (fun _ => 0))), (a_slips, .inl (gI G, 10, .inl (fun _ => 0))), (a_kept, .inl (gI G, 80, .inl (fun _ => 0))), (a_isKept, .inl (gZ G, 2, .inl (fun _ => 0)))] H) (hD : va_D (fun q : Nat => s.heap.size ≤ q) [(h0, .inr (5, [.ref pad, .ref pp, .ref im, .null, .null])), (im, .inl (gP G, 2, .inr (.inr (.inr (.inr (fun _ => none)))))), (pad, .inr (0, [.ref sg, .ref sl, .int 0])), (sg, .inl (gI G, 40, .inl (fun _ => 0))), (sl, .inl (gI G, 10, .inl (fun _ => 0))), (pp, .inr (1, [.int 6, .int 0, .int 1, .int 0, .ref ac, .ref ak])), (ac, .inl (gI G, 6, .inl (fun _ => 0))), (ak, .inl (gI G, 4, .inl fk)), (h1, .inr (6, [.int 6, .ref a_maps, .int 0, .ref a_kinds, .int 0, .int 1, .ref a_part, .ref a_pad, .int 0, .ref a_slips, .int 0, .int 0, .ref a_queue, .ref a_depth, .ref a_by, .ref a_from, .int 0, .ref a_offOf, .ref a_parent, .ref a_best, .int 0, .int 0, .ref a_sums, .ref a_toward, .ref a_kept, .ref a_isKept, .int 0, .int 0])), (a_maps, .inl (gI G, 6, .inl fmm)), (a_kinds, .inl (gI G, 4, .inl fkm)), (a_part, .inl (gI G, 6, .inl fpm)), (a_pad, .inl (gI G, 40, .inl (fun _ => 0))), (a_slips, .inl (gI G, 10, .inl (fun _ => 0))), (a_kept, .inl (gI G, 80, .inl (fun _ => 0))), (a_isKept, .inl (gZ G, 2, .inl (fun _ => 0)))]) (hS : va_S (fun q : Nat => s.heap.size ≤ q) s.heap H locs) (hl : lv_has ls 4 [(3, .int 0), (2, .ref h1), (1, .ref h0), (0, .ref b)]) : W p l e room_1 s m #[Value.ref b] below meth c H locs 25 94050 (lw_Z below #[Value.ref b] s) (F0 m 190 ls []) := by
  have C0 := C
  obtain ⟨hx, hb, hr, hml, hown, hts0, hX, hbl, hlocks, hgv⟩ := C
  have hts : ∀ w ∈ wsL_law, w.before #[Value.ref b] s = true := fun w h => hts0 w (wsL_law_in w h)
  have hbA : ¬ (fun q : Nat => s.heap.size ≤ q) b := Nat.not_le.mpr hbl
  have hA : ∀ q : Nat, s.heap.size ≤ q → (fun q : Nat => s.heap.size ≤ q) q := fun _ h => h
  refine lv_aload_n hx hb dL_law_190 rfl (lv_at hl 2 rfl) ?_
  refine ca_i (wr := [(h1, .inr (6, [.int 6, .ref a_maps, .int 0, .ref a_kinds, .int 0, .int 1, .ref a_part, .ref a_pad, .int 0, .ref a_slips, .int 0, .int 0, .ref a_queue, .ref a_depth, .ref a_by, .ref a_from, .int 0, .ref a_offOf, .ref a_parent, .ref a_best, .int 0, .int 0, .ref a_sums, .ref a_toward, .ref a_kept, .ref a_isKept, .int 0, .int 0])), (a_maps, .inl (gI G, 6, .inl fmm)), (a_kinds, .inl (gI G, 4, .inl fkm)), (a_part, .inl (gI G, 6, .inl fpm)), (a_pad, .inl (gI G, 40, .inl (fun _ => 0))), (a_slips, .inl (gI G, 10, .inl (fun _ => 0))), (a_kept, .inl (gI G, 80, .inl (fun _ => 0))), (a_isKept, .inl (gZ G, 2, .inl (fun _ => 0)))]) (va_runV (As := []) (rest := []) ⟨hx, hb, hml, hown, hts⟩ (f_wipe l G H.size h0 pad pp im sg sl ac ak fk hk) (cwV 0 hts gL_law_X9_wipe rfl rfl rfl (by decide +kernel) ⟨by decide +kernel, by decide +kernel⟩) (pre_V E hP hD hS hA [0, 1, 2, 3, 4, 5, 6, 7] (by decide) rfl 0 5 rfl rfl) rfl rfl hl.1 rfl (lv_room (Nat.le_of_ble_eq_true rfl)) dL_law_191 ⟨by decide +kernel, by decide +kernel⟩) hS hP hD hA [0, 1, 2, 3, 4, 5, 6, 7] [8, 9, 10, 11, 12, 13, 14, 15] rfl rfl (by decide) (by decide) (fun r2 u3 H locs w1 hP hD hS => ?_)
  try dsimp only at w1 hP hD
  have hP := hP.sub (ws' := [(h1, .inr (6, [.int 6, .ref a_maps, .int 0, .ref a_kinds, .int 0, .int 1, .ref a_part, .ref a_pad, .int 0, .ref a_slips, .int 0, .int 0, .ref a_queue, .ref a_depth, .ref a_by, .ref a_from, .int 0, .ref a_offOf, .ref a_parent, .ref a_best, .int 0, .int 0, .ref a_sums, .ref a_toward, .ref a_kept, .ref a_isKept, .int 0, .int 0])), (a_maps, .inl (gI G, 6, .inl fmm)), (a_kinds, .inl (gI G, 4, .inl fkm)), (a_part, .inl (gI G, 6, .inl fpm)), (a_pad, .inl (gI G, 40, .inl (fun _ => 0))), (a_slips, .inl (gI G, 10, .inl (fun _ => 0))), (a_kept, .inl (gI G, 80, .inl (fun _ => 0))), (a_isKept, .inl (gZ G, 2, .inl (fun _ => 0)))]) [0, 1, 2, 3, 4, 5, 6, 7] rfl
  have hD := hD.sub (ws' := [(h1, .inr (6, [.int 6, .ref a_maps, .int 0, .ref a_kinds, .int 0, .int 1, .ref a_part, .ref a_pad, .int 0, .ref a_slips, .int 0, .int 0, .ref a_queue, .ref a_depth, .ref a_by, .ref a_from, .int 0, .ref a_offOf, .ref a_parent, .ref a_best, .int 0, .int 0, .ref a_sums, .ref a_toward, .ref a_kept, .ref a_isKept, .int 0, .int 0])), (a_maps, .inl (gI G, 6, .inl fmm)), (a_kinds, .inl (gI G, 4, .inl fkm)), (a_part, .inl (gI G, 6, .inl fpm)), (a_pad, .inl (gI G, 40, .inl (fun _ => 0))), (a_slips, .inl (gI G, 10, .inl (fun _ => 0))), (a_kept, .inl (gI G, 80, .inl (fun _ => 0))), (a_isKept, .inl (gZ G, 2, .inl (fun _ => 0)))]) [0, 1, 2, 3, 4, 5, 6, 7] (by decide) rfl
  refine lv_aload_n hx hb dL_law_194 rfl (lv_at hl 1 rfl) ?_
  refine ca_i (wr := []) (va_runV (As := []) (rest := [.int r2]) ⟨hx, hb, hml, hown, hts⟩ (g_wipe l G H.size h1 a_maps a_kinds a_part a_pad a_slips a_queue a_depth a_by a_from a_offOf a_parent a_best a_sums a_toward a_kept a_isKept fmm fkm fpm hkm hpm) (cwV 0 hts gL_law_X10_wipe rfl rfl rfl (by decide +kernel) ⟨by decide +kernel, by decide +kernel⟩) (pre_V E hP hD hS hA [0, 1, 2, 3, 4, 5, 6, 7] (by decide) rfl 0 6 rfl rfl) rfl rfl hl.1 rfl (lv_room (Nat.le_of_ble_eq_true rfl)) dL_law_195 ⟨by decide +kernel, by decide +kernel⟩) hS hP hD hA [0, 1, 2, 3, 4, 5, 6, 7] [] rfl rfl (by decide) (by decide) (fun r5 u6 H locs w4 hP hD hS => ?_)
  try dsimp only at w4 hP hD
  have hP := hP.sub (ws' := []) [] rfl
  have hD := hD.sub (ws' := []) [] (by decide) rfl
  refine lv_icmp_eq (tgt := 926) hx hb dL_law_198 (by decide) (fun c7 => ?_) (fun c7 => absurd (by rw [w1, w4]) c7)
  refine lv_iinc (v := 6) (lv' := [(3, .int 6), (2, .ref h1), (1, .ref h0), (0, .ref b)]) hx hb dL_law_926 hl (k := 0) rfl (by decide) (by decide) rfl (fun ls hl => ?_)
  refine lv_goto (tgt := 18) hx hb dL_law_929 (by decide) ?_
  refine W.widen (k := 600000) (n := 7302249) (by decide +kernel) (by decide +kernel) ?_
  exact law_end hL C0 hS (lv_sub hl [0, 3] rfl)

set_option maxHeartbeats 1000000 in
set_option maxRecDepth 100000 in
theorem law_fault {p : Program} {l : Launch} {e : Env} {s : State} {m : MethodId} {below : List Frame} {meth : Method} {c : Code} {b L : Nat} {xs : Nat → Int32} {G : Gy} {h0 : Nat} {pad : Nat} {pp : Nat} {im : Nat} {sg : Nat} {sl : Nat} {ac : Nat} {ak : Nat} {fk : Nat → Int32} {h1 : Nat} {a_maps : Nat} {a_kinds : Nat} {a_part : Nat} {a_pad : Nat} {a_slips : Nat} {a_queue : Nat} {a_depth : Nat} {a_by : Nat} {a_from : Nat} {a_offOf : Nat} {a_parent : Nat} {a_best : Nat} {a_sums : Nat} {a_toward : Nat} {a_kept : Nat} {a_isKept : Nat} {fmm : Nat → Int32} {fkm : Nat → Int32} {fpm : Nat → Int32} (hL : L ≤ 6) (hL6 : L = 6) (C : lw_At p s m meth c b L xs) (E : EV G (fun q : Nat => s.heap.size ≤ q) s s.heap) (hk : ∀ j : Nat, j < 4 → fk j = 15) (hkm : ∀ j : Nat, j < 4 → fkm j = 15) (hpm : ∀ j : Nat, j < 6 → ¬ fpm j = 0) {H : Heap} {locs : List Loc} {ls : Array Slot} (hP : va_P G.1 vwCl [(h0, .inr (5, [.ref pad, .ref pp, .ref im, .null, .null])), (im, .inl (gP G, 2, .inr (.inr (.inr (.inr (fun _ => none)))))), (pad, .inr (0, [.ref sg, .ref sl, .int 0])), (sg, .inl (gI G, 40, .inl (fun _ => 0))), (sl, .inl (gI G, 10, .inl (fun _ => 0))), (pp, .inr (1, [.int 6, .int 0, .int 1, .int 0, .ref ac, .ref ak])), (ac, .inl (gI G, 6, .inl (fun _ => 0))), (ak, .inl (gI G, 4, .inl fk)), (h1, .inr (6, [.int 6, .ref a_maps, .int 0, .ref a_kinds, .int 0, .int 1, .ref a_part, .ref a_pad, .int 0, .ref a_slips, .int 0, .int 0, .ref a_queue, .ref a_depth, .ref a_by, .ref a_from, .int 0, .ref a_offOf, .ref a_parent, .ref a_best, .int 0, .int 0, .ref a_sums, .ref a_toward, .ref a_kept, .ref a_isKept, .int 0, .int 0])), (a_maps, .inl (gI G, 6, .inl fmm)), (a_kinds, .inl (gI G, 4, .inl fkm)), (a_part, .inl (gI G, 6, .inl fpm)), (a_pad, .inl (gI G, 40, .inl (fun _ => 0))), (a_slips, .inl (gI G, 10, .inl (fun _ => 0))), (a_kept, .inl (gI G, 80, .inl (fun _ => 0))), (a_isKept, .inl (gZ G, 2, .inl (fun _ => 0)))] H) (hD : va_D (fun q : Nat => s.heap.size ≤ q) [(h0, .inr (5, [.ref pad, .ref pp, .ref im, .null, .null])), (im, .inl (gP G, 2, .inr (.inr (.inr (.inr (fun _ => none)))))), (pad, .inr (0, [.ref sg, .ref sl, .int 0])), (sg, .inl (gI G, 40, .inl (fun _ => 0))), (sl, .inl (gI G, 10, .inl (fun _ => 0))), (pp, .inr (1, [.int 6, .int 0, .int 1, .int 0, .ref ac, .ref ak])), (ac, .inl (gI G, 6, .inl (fun _ => 0))), (ak, .inl (gI G, 4, .inl fk)), (h1, .inr (6, [.int 6, .ref a_maps, .int 0, .ref a_kinds, .int 0, .int 1, .ref a_part, .ref a_pad, .int 0, .ref a_slips, .int 0, .int 0, .ref a_queue, .ref a_depth, .ref a_by, .ref a_from, .int 0, .ref a_offOf, .ref a_parent, .ref a_best, .int 0, .int 0, .ref a_sums, .ref a_toward, .ref a_kept, .ref a_isKept, .int 0, .int 0])), (a_maps, .inl (gI G, 6, .inl fmm)), (a_kinds, .inl (gI G, 4, .inl fkm)), (a_part, .inl (gI G, 6, .inl fpm)), (a_pad, .inl (gI G, 40, .inl (fun _ => 0))), (a_slips, .inl (gI G, 10, .inl (fun _ => 0))), (a_kept, .inl (gI G, 80, .inl (fun _ => 0))), (a_isKept, .inl (gZ G, 2, .inl (fun _ => 0)))]) (hS : va_S (fun q : Nat => s.heap.size ≤ q) s.heap H locs) (hl : lv_has ls 4 [(3, .int 0), (2, .ref h1), (1, .ref h0), (0, .ref b)]) : W p l e room_1 s m #[Value.ref b] below meth c H locs 25 94050 (lw_Z below #[Value.ref b] s) (F0 m 203 ls []) := by
  have C0 := C
  obtain ⟨hx, hb, hr, hml, hown, hts0, hX, hbl, hlocks, hgv⟩ := C
  have hts : ∀ w ∈ wsL_law, w.before #[Value.ref b] s = true := fun w h => hts0 w (wsL_law_in w h)
  have hbA : ¬ (fun q : Nat => s.heap.size ≤ q) b := Nat.not_le.mpr hbl
  have hA : ∀ q : Nat, s.heap.size ≤ q → (fun q : Nat => s.heap.size ≤ q) q := fun _ h => h
  refine lv_aload_n hx hb dL_law_203 rfl (lv_at hl 2 rfl) ?_
  refine lv_aload_n hx hb dL_law_204 rfl (lv_at hl 3 rfl) ?_
  refine lv_iload_n hx hb dL_law_205 rfl (lv_at hl 0 rfl) ?_
  refine lv_iconst (v := 1) hx hb dL_law_206 (by decide) ?_
  refine lv_iadd hx hb dL_law_207 ?_
  refine lv_topi (fun x1 ex1 => ?_)
  obtain rfl : x1 = 1 := by rw [ex1]; decide
  refine va_sld hx hb hX hbl hbA hS (i := 1) (by rw [hL6]; unfold vp_in; decide) dL_law_208 ?_
  refine lv_topi (fun x2 ex2 => ?_)
  refine ca_i (wr := [(h1, .inr (6, [.int 6, .ref a_maps, .int 0, .ref a_kinds, .int 0, .int 1, .ref a_part, .ref a_pad, .int 0, .ref a_slips, .int 0, .int 0, .ref a_queue, .ref a_depth, .ref a_by, .ref a_from, .int 0, .ref a_offOf, .ref a_parent, .ref a_best, .int 0, .int 0, .ref a_sums, .ref a_toward, .ref a_kept, .ref a_isKept, .int 0, .int 0])), (a_maps, .inl (gI G, 6, .inl fmm)), (a_kinds, .inl (gI G, 4, .inl fkm)), (a_part, .inl (gI G, 6, .inl fpm)), (a_pad, .inl (gI G, 40, .inl (fun _ => 0))), (a_slips, .inl (gI G, 10, .inl (fun _ => 0))), (a_kept, .inl (gI G, 80, .inl (fun _ => 0))), (a_isKept, .inl (gZ G, 2, .inl (fun _ => 0)))]) (va_runV (As := [.int x2]) (rest := []) ⟨hx, hb, hml, hown, hts⟩ (f_fault l G H.size h0 pad pp im sg sl ac ak fk x2 hk) (cwV 1 hts gL_law_X9_fault rfl rfl rfl (by decide +kernel) ⟨by decide +kernel, by decide +kernel⟩) (pre_V E hP hD hS hA [0, 1, 2, 3, 4, 5, 6, 7] (by decide) rfl 0 5 rfl rfl) rfl rfl hl.1 rfl (lv_room (Nat.le_of_ble_eq_true rfl)) dL_law_209 ⟨by decide +kernel, by decide +kernel⟩) hS hP hD hA [0, 1, 2, 3, 4, 5, 6, 7] [8, 9, 10, 11, 12, 13, 14, 15] rfl rfl (by decide) (by decide) (fun r4 u5 H locs w3 hP hD hS => ?_)
  try dsimp only at w3 hP hD
  have hP := hP.sub (ws' := [(h1, .inr (6, [.int 6, .ref a_maps, .int 0, .ref a_kinds, .int 0, .int 1, .ref a_part, .ref a_pad, .int 0, .ref a_slips, .int 0, .int 0, .ref a_queue, .ref a_depth, .ref a_by, .ref a_from, .int 0, .ref a_offOf, .ref a_parent, .ref a_best, .int 0, .int 0, .ref a_sums, .ref a_toward, .ref a_kept, .ref a_isKept, .int 0, .int 0])), (a_maps, .inl (gI G, 6, .inl fmm)), (a_kinds, .inl (gI G, 4, .inl fkm)), (a_part, .inl (gI G, 6, .inl fpm)), (a_pad, .inl (gI G, 40, .inl (fun _ => 0))), (a_slips, .inl (gI G, 10, .inl (fun _ => 0))), (a_kept, .inl (gI G, 80, .inl (fun _ => 0))), (a_isKept, .inl (gZ G, 2, .inl (fun _ => 0)))]) [0, 1, 2, 3, 4, 5, 6, 7] rfl
  have hD := hD.sub (ws' := [(h1, .inr (6, [.int 6, .ref a_maps, .int 0, .ref a_kinds, .int 0, .int 1, .ref a_part, .ref a_pad, .int 0, .ref a_slips, .int 0, .int 0, .ref a_queue, .ref a_depth, .ref a_by, .ref a_from, .int 0, .ref a_offOf, .ref a_parent, .ref a_best, .int 0, .int 0, .ref a_sums, .ref a_toward, .ref a_kept, .ref a_isKept, .int 0, .int 0])), (a_maps, .inl (gI G, 6, .inl fmm)), (a_kinds, .inl (gI G, 4, .inl fkm)), (a_part, .inl (gI G, 6, .inl fpm)), (a_pad, .inl (gI G, 40, .inl (fun _ => 0))), (a_slips, .inl (gI G, 10, .inl (fun _ => 0))), (a_kept, .inl (gI G, 80, .inl (fun _ => 0))), (a_isKept, .inl (gZ G, 2, .inl (fun _ => 0)))]) [0, 1, 2, 3, 4, 5, 6, 7] (by decide) rfl
  refine lv_aload_n hx hb dL_law_212 rfl (lv_at hl 1 rfl) ?_
  refine lv_aload_n hx hb dL_law_213 rfl (lv_at hl 3 rfl) ?_
  refine lv_iload_n hx hb dL_law_214 rfl (lv_at hl 0 rfl) ?_
  refine lv_iconst (v := 1) hx hb dL_law_215 (by decide) ?_
  refine lv_iadd hx hb dL_law_216 ?_
  refine lv_topi (fun x6 ex6 => ?_)
  obtain rfl : x6 = 1 := by rw [ex6]; decide
  refine va_sld hx hb hX hbl hbA hS (i := 1) (by rw [hL6]; unfold vp_in; decide) dL_law_217 ?_
  refine lv_topi (fun x7 ex7 => ?_)
  refine ca_i (wr := []) (va_runV (As := [.int x7]) (rest := [.int r4]) ⟨hx, hb, hml, hown, hts⟩ (g_fault l G H.size h1 a_maps a_kinds a_part a_pad a_slips a_queue a_depth a_by a_from a_offOf a_parent a_best a_sums a_toward a_kept a_isKept fmm fkm fpm x7 hkm hpm) (cwV 1 hts gL_law_X10_fault rfl rfl rfl (by decide +kernel) ⟨by decide +kernel, by decide +kernel⟩) (pre_V E hP hD hS hA [0, 1, 2, 3, 4, 5, 6, 7] (by decide) rfl 0 6 rfl rfl) rfl rfl hl.1 rfl (lv_room (Nat.le_of_ble_eq_true rfl)) dL_law_218 ⟨by decide +kernel, by decide +kernel⟩) hS hP hD hA [0, 1, 2, 3, 4, 5, 6, 7] [] rfl rfl (by decide) (by decide) (fun r9 u10 H locs w8 hP hD hS => ?_)
  try dsimp only at w8 hP hD
  have hP := hP.sub (ws' := []) [] rfl
  have hD := hD.sub (ws' := []) [] (by decide) rfl
  refine lv_icmp_eq (tgt := 926) hx hb dL_law_221 (by decide) (fun c11 => ?_) (fun c11 => absurd (by rw [w3, w8]; simp only [ex2, ex7]) c11)
  refine lv_iinc (v := 6) (lv' := [(3, .int 6), (2, .ref h1), (1, .ref h0), (0, .ref b)]) hx hb dL_law_926 hl (k := 0) rfl (by decide) (by decide) rfl (fun ls hl => ?_)
  refine lv_goto (tgt := 18) hx hb dL_law_929 (by decide) ?_
  refine W.widen (k := 600000) (n := 7302249) (by decide +kernel) (by decide +kernel) ?_
  exact law_end hL C0 hS (lv_sub hl [0, 3] rfl)

set_option maxHeartbeats 1000000 in
set_option maxRecDepth 100000 in
theorem law_map {p : Program} {l : Launch} {e : Env} {s : State} {m : MethodId} {below : List Frame} {meth : Method} {c : Code} {b L : Nat} {xs : Nat → Int32} {G : Gy} {h0 : Nat} {pad : Nat} {pp : Nat} {im : Nat} {sg : Nat} {sl : Nat} {ac : Nat} {ak : Nat} {fk : Nat → Int32} {h1 : Nat} {a_maps : Nat} {a_kinds : Nat} {a_part : Nat} {a_pad : Nat} {a_slips : Nat} {a_queue : Nat} {a_depth : Nat} {a_by : Nat} {a_from : Nat} {a_offOf : Nat} {a_parent : Nat} {a_best : Nat} {a_sums : Nat} {a_toward : Nat} {a_kept : Nat} {a_isKept : Nat} {fmm : Nat → Int32} {fkm : Nat → Int32} {fpm : Nat → Int32} (hL : L ≤ 6) (hL6 : L = 6) (C : lw_At p s m meth c b L xs) (E : EV G (fun q : Nat => s.heap.size ≤ q) s s.heap) (hk : ∀ j : Nat, j < 4 → fk j = 15) (hkm : ∀ j : Nat, j < 4 → fkm j = 15) (hpm : ∀ j : Nat, j < 6 → ¬ fpm j = 0) {H : Heap} {locs : List Loc} {ls : Array Slot} (hP : va_P G.1 vwCl [(h0, .inr (5, [.ref pad, .ref pp, .ref im, .null, .null])), (im, .inl (gP G, 2, .inr (.inr (.inr (.inr (fun _ => none)))))), (pad, .inr (0, [.ref sg, .ref sl, .int 0])), (sg, .inl (gI G, 40, .inl (fun _ => 0))), (sl, .inl (gI G, 10, .inl (fun _ => 0))), (pp, .inr (1, [.int 6, .int 0, .int 1, .int 0, .ref ac, .ref ak])), (ac, .inl (gI G, 6, .inl (fun _ => 0))), (ak, .inl (gI G, 4, .inl fk)), (h1, .inr (6, [.int 6, .ref a_maps, .int 0, .ref a_kinds, .int 0, .int 1, .ref a_part, .ref a_pad, .int 0, .ref a_slips, .int 0, .int 0, .ref a_queue, .ref a_depth, .ref a_by, .ref a_from, .int 0, .ref a_offOf, .ref a_parent, .ref a_best, .int 0, .int 0, .ref a_sums, .ref a_toward, .ref a_kept, .ref a_isKept, .int 0, .int 0])), (a_maps, .inl (gI G, 6, .inl fmm)), (a_kinds, .inl (gI G, 4, .inl fkm)), (a_part, .inl (gI G, 6, .inl fpm)), (a_pad, .inl (gI G, 40, .inl (fun _ => 0))), (a_slips, .inl (gI G, 10, .inl (fun _ => 0))), (a_kept, .inl (gI G, 80, .inl (fun _ => 0))), (a_isKept, .inl (gZ G, 2, .inl (fun _ => 0)))] H) (hD : va_D (fun q : Nat => s.heap.size ≤ q) [(h0, .inr (5, [.ref pad, .ref pp, .ref im, .null, .null])), (im, .inl (gP G, 2, .inr (.inr (.inr (.inr (fun _ => none)))))), (pad, .inr (0, [.ref sg, .ref sl, .int 0])), (sg, .inl (gI G, 40, .inl (fun _ => 0))), (sl, .inl (gI G, 10, .inl (fun _ => 0))), (pp, .inr (1, [.int 6, .int 0, .int 1, .int 0, .ref ac, .ref ak])), (ac, .inl (gI G, 6, .inl (fun _ => 0))), (ak, .inl (gI G, 4, .inl fk)), (h1, .inr (6, [.int 6, .ref a_maps, .int 0, .ref a_kinds, .int 0, .int 1, .ref a_part, .ref a_pad, .int 0, .ref a_slips, .int 0, .int 0, .ref a_queue, .ref a_depth, .ref a_by, .ref a_from, .int 0, .ref a_offOf, .ref a_parent, .ref a_best, .int 0, .int 0, .ref a_sums, .ref a_toward, .ref a_kept, .ref a_isKept, .int 0, .int 0])), (a_maps, .inl (gI G, 6, .inl fmm)), (a_kinds, .inl (gI G, 4, .inl fkm)), (a_part, .inl (gI G, 6, .inl fpm)), (a_pad, .inl (gI G, 40, .inl (fun _ => 0))), (a_slips, .inl (gI G, 10, .inl (fun _ => 0))), (a_kept, .inl (gI G, 80, .inl (fun _ => 0))), (a_isKept, .inl (gZ G, 2, .inl (fun _ => 0)))]) (hS : va_S (fun q : Nat => s.heap.size ≤ q) s.heap H locs) (hl : lv_has ls 4 [(3, .int 0), (2, .ref h1), (1, .ref h0), (0, .ref b)]) : W p l e room_1 s m #[Value.ref b] below meth c H locs 25 94050 (lw_Z below #[Value.ref b] s) (F0 m 226 ls []) := by
  have C0 := C
  obtain ⟨hx, hb, hr, hml, hown, hts0, hX, hbl, hlocks, hgv⟩ := C
  have hts : ∀ w ∈ wsL_law, w.before #[Value.ref b] s = true := fun w h => hts0 w (wsL_law_in w h)
  have hbA : ¬ (fun q : Nat => s.heap.size ≤ q) b := Nat.not_le.mpr hbl
  have hA : ∀ q : Nat, s.heap.size ≤ q → (fun q : Nat => s.heap.size ≤ q) q := fun _ h => h
  refine lv_aload_n hx hb dL_law_226 rfl (lv_at hl 2 rfl) ?_
  refine lv_aload_n hx hb dL_law_227 rfl (lv_at hl 3 rfl) ?_
  refine lv_iload_n hx hb dL_law_228 rfl (lv_at hl 0 rfl) ?_
  refine lv_iconst (v := 1) hx hb dL_law_229 (by decide) ?_
  refine lv_iadd hx hb dL_law_230 ?_
  refine lv_topi (fun x1 ex1 => ?_)
  obtain rfl : x1 = 1 := by rw [ex1]; decide
  refine va_sld hx hb hX hbl hbA hS (i := 1) (by rw [hL6]; unfold vp_in; decide) dL_law_231 ?_
  refine lv_topi (fun x2 ex2 => ?_)
  refine ca_i (wr := [(h1, .inr (6, [.int 6, .ref a_maps, .int 0, .ref a_kinds, .int 0, .int 1, .ref a_part, .ref a_pad, .int 0, .ref a_slips, .int 0, .int 0, .ref a_queue, .ref a_depth, .ref a_by, .ref a_from, .int 0, .ref a_offOf, .ref a_parent, .ref a_best, .int 0, .int 0, .ref a_sums, .ref a_toward, .ref a_kept, .ref a_isKept, .int 0, .int 0])), (a_maps, .inl (gI G, 6, .inl fmm)), (a_kinds, .inl (gI G, 4, .inl fkm)), (a_part, .inl (gI G, 6, .inl fpm)), (a_pad, .inl (gI G, 40, .inl (fun _ => 0))), (a_slips, .inl (gI G, 10, .inl (fun _ => 0))), (a_kept, .inl (gI G, 80, .inl (fun _ => 0))), (a_isKept, .inl (gZ G, 2, .inl (fun _ => 0)))]) (va_runV (As := [.int x2]) (rest := []) ⟨hx, hb, hml, hown, hts⟩ (f_map l G H.size h0 pad pp im sg sl ac ak fk x2 hk) (cwV 1 hts gL_law_X9_map rfl rfl rfl (by decide +kernel) ⟨by decide +kernel, by decide +kernel⟩) (pre_V E hP hD hS hA [0, 1, 2, 3, 4, 5, 6, 7] (by decide) rfl 0 5 rfl rfl) rfl rfl hl.1 rfl (lv_room (Nat.le_of_ble_eq_true rfl)) dL_law_232 ⟨by decide +kernel, by decide +kernel⟩) hS hP hD hA [0, 1, 2, 3, 4, 5, 6, 7] [8, 9, 10, 11, 12, 13, 14, 15] rfl rfl (by decide) (by decide) (fun r4 u5 H locs w3 hP hD hS => ?_)
  try dsimp only at w3 hP hD
  have hP := hP.sub (ws' := [(h1, .inr (6, [.int 6, .ref a_maps, .int 0, .ref a_kinds, .int 0, .int 1, .ref a_part, .ref a_pad, .int 0, .ref a_slips, .int 0, .int 0, .ref a_queue, .ref a_depth, .ref a_by, .ref a_from, .int 0, .ref a_offOf, .ref a_parent, .ref a_best, .int 0, .int 0, .ref a_sums, .ref a_toward, .ref a_kept, .ref a_isKept, .int 0, .int 0])), (a_maps, .inl (gI G, 6, .inl fmm)), (a_kinds, .inl (gI G, 4, .inl fkm)), (a_part, .inl (gI G, 6, .inl fpm)), (a_pad, .inl (gI G, 40, .inl (fun _ => 0))), (a_slips, .inl (gI G, 10, .inl (fun _ => 0))), (a_kept, .inl (gI G, 80, .inl (fun _ => 0))), (a_isKept, .inl (gZ G, 2, .inl (fun _ => 0)))]) [0, 1, 2, 3, 4, 5, 6, 7] rfl
  have hD := hD.sub (ws' := [(h1, .inr (6, [.int 6, .ref a_maps, .int 0, .ref a_kinds, .int 0, .int 1, .ref a_part, .ref a_pad, .int 0, .ref a_slips, .int 0, .int 0, .ref a_queue, .ref a_depth, .ref a_by, .ref a_from, .int 0, .ref a_offOf, .ref a_parent, .ref a_best, .int 0, .int 0, .ref a_sums, .ref a_toward, .ref a_kept, .ref a_isKept, .int 0, .int 0])), (a_maps, .inl (gI G, 6, .inl fmm)), (a_kinds, .inl (gI G, 4, .inl fkm)), (a_part, .inl (gI G, 6, .inl fpm)), (a_pad, .inl (gI G, 40, .inl (fun _ => 0))), (a_slips, .inl (gI G, 10, .inl (fun _ => 0))), (a_kept, .inl (gI G, 80, .inl (fun _ => 0))), (a_isKept, .inl (gZ G, 2, .inl (fun _ => 0)))]) [0, 1, 2, 3, 4, 5, 6, 7] (by decide) rfl
  refine lv_aload_n hx hb dL_law_235 rfl (lv_at hl 1 rfl) ?_
  refine lv_aload_n hx hb dL_law_236 rfl (lv_at hl 3 rfl) ?_
  refine lv_iload_n hx hb dL_law_237 rfl (lv_at hl 0 rfl) ?_
  refine lv_iconst (v := 1) hx hb dL_law_238 (by decide) ?_
  refine lv_iadd hx hb dL_law_239 ?_
  refine lv_topi (fun x6 ex6 => ?_)
  obtain rfl : x6 = 1 := by rw [ex6]; decide
  refine va_sld hx hb hX hbl hbA hS (i := 1) (by rw [hL6]; unfold vp_in; decide) dL_law_240 ?_
  refine lv_topi (fun x7 ex7 => ?_)
  refine ca_i (wr := []) (va_runV (As := [.int x7]) (rest := [.int r4]) ⟨hx, hb, hml, hown, hts⟩ (g_map l G H.size h1 a_maps a_kinds a_part a_pad a_slips a_queue a_depth a_by a_from a_offOf a_parent a_best a_sums a_toward a_kept a_isKept fmm fkm fpm x7 hkm hpm) (cwV 1 hts gL_law_X10_map rfl rfl rfl (by decide +kernel) ⟨by decide +kernel, by decide +kernel⟩) (pre_V E hP hD hS hA [0, 1, 2, 3, 4, 5, 6, 7] (by decide) rfl 0 6 rfl rfl) rfl rfl hl.1 rfl (lv_room (Nat.le_of_ble_eq_true rfl)) dL_law_241 ⟨by decide +kernel, by decide +kernel⟩) hS hP hD hA [0, 1, 2, 3, 4, 5, 6, 7] [] rfl rfl (by decide) (by decide) (fun r9 u10 H locs w8 hP hD hS => ?_)
  try dsimp only at w8 hP hD
  have hP := hP.sub (ws' := []) [] rfl
  have hD := hD.sub (ws' := []) [] (by decide) rfl
  refine lv_icmp_eq (tgt := 926) hx hb dL_law_244 (by decide) (fun c11 => ?_) (fun c11 => absurd (by rw [w3, w8]; simp only [ex2, ex7]) c11)
  refine lv_iinc (v := 6) (lv' := [(3, .int 6), (2, .ref h1), (1, .ref h0), (0, .ref b)]) hx hb dL_law_926 hl (k := 0) rfl (by decide) (by decide) rfl (fun ls hl => ?_)
  refine lv_goto (tgt := 18) hx hb dL_law_929 (by decide) ?_
  refine W.widen (k := 600000) (n := 7302249) (by decide +kernel) (by decide +kernel) ?_
  exact law_end hL C0 hS (lv_sub hl [0, 3] rfl)

set_option maxHeartbeats 1000000 in
set_option maxRecDepth 100000 in
theorem law_at {p : Program} {l : Launch} {e : Env} {s : State} {m : MethodId} {below : List Frame} {meth : Method} {c : Code} {b L : Nat} {xs : Nat → Int32} {G : Gy} {h0 : Nat} {pad : Nat} {pp : Nat} {im : Nat} {sg : Nat} {sl : Nat} {ac : Nat} {ak : Nat} {fk : Nat → Int32} {h1 : Nat} {a_maps : Nat} {a_kinds : Nat} {a_part : Nat} {a_pad : Nat} {a_slips : Nat} {a_queue : Nat} {a_depth : Nat} {a_by : Nat} {a_from : Nat} {a_offOf : Nat} {a_parent : Nat} {a_best : Nat} {a_sums : Nat} {a_toward : Nat} {a_kept : Nat} {a_isKept : Nat} {fmm : Nat → Int32} {fkm : Nat → Int32} {fpm : Nat → Int32} (hL : L ≤ 6) (hL6 : L = 6) (C : lw_At p s m meth c b L xs) (E : EV G (fun q : Nat => s.heap.size ≤ q) s s.heap) (hk : ∀ j : Nat, j < 4 → fk j = 15) (hkm : ∀ j : Nat, j < 4 → fkm j = 15) (hpm : ∀ j : Nat, j < 6 → ¬ fpm j = 0) {H : Heap} {locs : List Loc} {ls : Array Slot} (hP : va_P G.1 vwCl [(h0, .inr (5, [.ref pad, .ref pp, .ref im, .null, .null])), (im, .inl (gP G, 2, .inr (.inr (.inr (.inr (fun _ => none)))))), (pad, .inr (0, [.ref sg, .ref sl, .int 0])), (sg, .inl (gI G, 40, .inl (fun _ => 0))), (sl, .inl (gI G, 10, .inl (fun _ => 0))), (pp, .inr (1, [.int 6, .int 0, .int 1, .int 0, .ref ac, .ref ak])), (ac, .inl (gI G, 6, .inl (fun _ => 0))), (ak, .inl (gI G, 4, .inl fk)), (h1, .inr (6, [.int 6, .ref a_maps, .int 0, .ref a_kinds, .int 0, .int 1, .ref a_part, .ref a_pad, .int 0, .ref a_slips, .int 0, .int 0, .ref a_queue, .ref a_depth, .ref a_by, .ref a_from, .int 0, .ref a_offOf, .ref a_parent, .ref a_best, .int 0, .int 0, .ref a_sums, .ref a_toward, .ref a_kept, .ref a_isKept, .int 0, .int 0])), (a_maps, .inl (gI G, 6, .inl fmm)), (a_kinds, .inl (gI G, 4, .inl fkm)), (a_part, .inl (gI G, 6, .inl fpm)), (a_pad, .inl (gI G, 40, .inl (fun _ => 0))), (a_slips, .inl (gI G, 10, .inl (fun _ => 0))), (a_kept, .inl (gI G, 80, .inl (fun _ => 0))), (a_isKept, .inl (gZ G, 2, .inl (fun _ => 0)))] H) (hD : va_D (fun q : Nat => s.heap.size ≤ q) [(h0, .inr (5, [.ref pad, .ref pp, .ref im, .null, .null])), (im, .inl (gP G, 2, .inr (.inr (.inr (.inr (fun _ => none)))))), (pad, .inr (0, [.ref sg, .ref sl, .int 0])), (sg, .inl (gI G, 40, .inl (fun _ => 0))), (sl, .inl (gI G, 10, .inl (fun _ => 0))), (pp, .inr (1, [.int 6, .int 0, .int 1, .int 0, .ref ac, .ref ak])), (ac, .inl (gI G, 6, .inl (fun _ => 0))), (ak, .inl (gI G, 4, .inl fk)), (h1, .inr (6, [.int 6, .ref a_maps, .int 0, .ref a_kinds, .int 0, .int 1, .ref a_part, .ref a_pad, .int 0, .ref a_slips, .int 0, .int 0, .ref a_queue, .ref a_depth, .ref a_by, .ref a_from, .int 0, .ref a_offOf, .ref a_parent, .ref a_best, .int 0, .int 0, .ref a_sums, .ref a_toward, .ref a_kept, .ref a_isKept, .int 0, .int 0])), (a_maps, .inl (gI G, 6, .inl fmm)), (a_kinds, .inl (gI G, 4, .inl fkm)), (a_part, .inl (gI G, 6, .inl fpm)), (a_pad, .inl (gI G, 40, .inl (fun _ => 0))), (a_slips, .inl (gI G, 10, .inl (fun _ => 0))), (a_kept, .inl (gI G, 80, .inl (fun _ => 0))), (a_isKept, .inl (gZ G, 2, .inl (fun _ => 0)))]) (hS : va_S (fun q : Nat => s.heap.size ≤ q) s.heap H locs) (hl : lv_has ls 4 [(3, .int 0), (2, .ref h1), (1, .ref h0), (0, .ref b)]) : W p l e room_1 s m #[Value.ref b] below meth c H locs 25 94050 (lw_Z below #[Value.ref b] s) (F0 m 249 ls []) := by
  have C0 := C
  obtain ⟨hx, hb, hr, hml, hown, hts0, hX, hbl, hlocks, hgv⟩ := C
  have hts : ∀ w ∈ wsL_law, w.before #[Value.ref b] s = true := fun w h => hts0 w (wsL_law_in w h)
  have hbA : ¬ (fun q : Nat => s.heap.size ≤ q) b := Nat.not_le.mpr hbl
  have hA : ∀ q : Nat, s.heap.size ≤ q → (fun q : Nat => s.heap.size ≤ q) q := fun _ h => h
  refine lv_aload_n hx hb dL_law_249 rfl (lv_at hl 2 rfl) ?_
  refine lv_aload_n hx hb dL_law_250 rfl (lv_at hl 3 rfl) ?_
  refine lv_iload_n hx hb dL_law_251 rfl (lv_at hl 0 rfl) ?_
  refine lv_iconst (v := 1) hx hb dL_law_252 (by decide) ?_
  refine lv_iadd hx hb dL_law_253 ?_
  refine lv_topi (fun x1 ex1 => ?_)
  obtain rfl : x1 = 1 := by rw [ex1]; decide
  refine va_sld hx hb hX hbl hbA hS (i := 1) (by rw [hL6]; unfold vp_in; decide) dL_law_254 ?_
  refine lv_topi (fun x2 ex2 => ?_)
  refine lv_aload_n hx hb dL_law_255 rfl (lv_at hl 3 rfl) ?_
  refine lv_iload_n hx hb dL_law_256 rfl (lv_at hl 0 rfl) ?_
  refine lv_iconst (v := 2) hx hb dL_law_257 (by decide) ?_
  refine lv_iadd hx hb dL_law_258 ?_
  refine lv_topi (fun x3 ex3 => ?_)
  obtain rfl : x3 = 2 := by rw [ex3]; decide
  refine va_sld hx hb hX hbl hbA hS (i := 2) (by rw [hL6]; unfold vp_in; decide) dL_law_259 ?_
  refine lv_topi (fun x4 ex4 => ?_)
  refine ca_i (wr := [(h1, .inr (6, [.int 6, .ref a_maps, .int 0, .ref a_kinds, .int 0, .int 1, .ref a_part, .ref a_pad, .int 0, .ref a_slips, .int 0, .int 0, .ref a_queue, .ref a_depth, .ref a_by, .ref a_from, .int 0, .ref a_offOf, .ref a_parent, .ref a_best, .int 0, .int 0, .ref a_sums, .ref a_toward, .ref a_kept, .ref a_isKept, .int 0, .int 0])), (a_maps, .inl (gI G, 6, .inl fmm)), (a_kinds, .inl (gI G, 4, .inl fkm)), (a_part, .inl (gI G, 6, .inl fpm)), (a_pad, .inl (gI G, 40, .inl (fun _ => 0))), (a_slips, .inl (gI G, 10, .inl (fun _ => 0))), (a_kept, .inl (gI G, 80, .inl (fun _ => 0))), (a_isKept, .inl (gZ G, 2, .inl (fun _ => 0)))]) (va_runV (As := [.int x2, .int x4]) (rest := []) ⟨hx, hb, hml, hown, hts⟩ (f_at l G H.size h0 pad pp im sg sl ac ak fk x2 x4 hk) (cwV 2 hts gL_law_X9_at rfl rfl rfl (by decide +kernel) ⟨by decide +kernel, by decide +kernel⟩) (pre_V E hP hD hS hA [0, 1, 2, 3, 4, 5, 6, 7] (by decide) rfl 0 5 rfl rfl) rfl rfl hl.1 rfl (lv_room (Nat.le_of_ble_eq_true rfl)) dL_law_260 ⟨by decide +kernel, by decide +kernel⟩) hS hP hD hA [0, 1, 2, 3, 4, 5, 6, 7] [8, 9, 10, 11, 12, 13, 14, 15] rfl rfl (by decide) (by decide) (fun r6 u7 H locs w5 hP hD hS => ?_)
  try dsimp only at w5 hP hD
  have hP := hP.sub (ws' := [(h1, .inr (6, [.int 6, .ref a_maps, .int 0, .ref a_kinds, .int 0, .int 1, .ref a_part, .ref a_pad, .int 0, .ref a_slips, .int 0, .int 0, .ref a_queue, .ref a_depth, .ref a_by, .ref a_from, .int 0, .ref a_offOf, .ref a_parent, .ref a_best, .int 0, .int 0, .ref a_sums, .ref a_toward, .ref a_kept, .ref a_isKept, .int 0, .int 0])), (a_maps, .inl (gI G, 6, .inl fmm)), (a_kinds, .inl (gI G, 4, .inl fkm)), (a_part, .inl (gI G, 6, .inl fpm)), (a_pad, .inl (gI G, 40, .inl (fun _ => 0))), (a_slips, .inl (gI G, 10, .inl (fun _ => 0))), (a_kept, .inl (gI G, 80, .inl (fun _ => 0))), (a_isKept, .inl (gZ G, 2, .inl (fun _ => 0)))]) [0, 1, 2, 3, 4, 5, 6, 7] rfl
  have hD := hD.sub (ws' := [(h1, .inr (6, [.int 6, .ref a_maps, .int 0, .ref a_kinds, .int 0, .int 1, .ref a_part, .ref a_pad, .int 0, .ref a_slips, .int 0, .int 0, .ref a_queue, .ref a_depth, .ref a_by, .ref a_from, .int 0, .ref a_offOf, .ref a_parent, .ref a_best, .int 0, .int 0, .ref a_sums, .ref a_toward, .ref a_kept, .ref a_isKept, .int 0, .int 0])), (a_maps, .inl (gI G, 6, .inl fmm)), (a_kinds, .inl (gI G, 4, .inl fkm)), (a_part, .inl (gI G, 6, .inl fpm)), (a_pad, .inl (gI G, 40, .inl (fun _ => 0))), (a_slips, .inl (gI G, 10, .inl (fun _ => 0))), (a_kept, .inl (gI G, 80, .inl (fun _ => 0))), (a_isKept, .inl (gZ G, 2, .inl (fun _ => 0)))]) [0, 1, 2, 3, 4, 5, 6, 7] (by decide) rfl
  refine lv_aload_n hx hb dL_law_263 rfl (lv_at hl 1 rfl) ?_
  refine lv_aload_n hx hb dL_law_264 rfl (lv_at hl 3 rfl) ?_
  refine lv_iload_n hx hb dL_law_265 rfl (lv_at hl 0 rfl) ?_
  refine lv_iconst (v := 1) hx hb dL_law_266 (by decide) ?_
  refine lv_iadd hx hb dL_law_267 ?_
  refine lv_topi (fun x8 ex8 => ?_)
  obtain rfl : x8 = 1 := by rw [ex8]; decide
  refine va_sld hx hb hX hbl hbA hS (i := 1) (by rw [hL6]; unfold vp_in; decide) dL_law_268 ?_
  refine lv_topi (fun x9 ex9 => ?_)
  refine lv_aload_n hx hb dL_law_269 rfl (lv_at hl 3 rfl) ?_
  refine lv_iload_n hx hb dL_law_270 rfl (lv_at hl 0 rfl) ?_
  refine lv_iconst (v := 2) hx hb dL_law_271 (by decide) ?_
  refine lv_iadd hx hb dL_law_272 ?_
  refine lv_topi (fun x10 ex10 => ?_)
  obtain rfl : x10 = 2 := by rw [ex10]; decide
  refine va_sld hx hb hX hbl hbA hS (i := 2) (by rw [hL6]; unfold vp_in; decide) dL_law_273 ?_
  refine lv_topi (fun x11 ex11 => ?_)
  refine ca_i (wr := []) (va_runV (As := [.int x9, .int x11]) (rest := [.int r6]) ⟨hx, hb, hml, hown, hts⟩ (g_at l G H.size h1 a_maps a_kinds a_part a_pad a_slips a_queue a_depth a_by a_from a_offOf a_parent a_best a_sums a_toward a_kept a_isKept fmm fkm fpm x9 x11 hkm hpm) (cwV 2 hts gL_law_X10_at rfl rfl rfl (by decide +kernel) ⟨by decide +kernel, by decide +kernel⟩) (pre_V E hP hD hS hA [0, 1, 2, 3, 4, 5, 6, 7] (by decide) rfl 0 6 rfl rfl) rfl rfl hl.1 rfl (lv_room (Nat.le_of_ble_eq_true rfl)) dL_law_274 ⟨by decide +kernel, by decide +kernel⟩) hS hP hD hA [0, 1, 2, 3, 4, 5, 6, 7] [] rfl rfl (by decide) (by decide) (fun r13 u14 H locs w12 hP hD hS => ?_)
  try dsimp only at w12 hP hD
  have hP := hP.sub (ws' := []) [] rfl
  have hD := hD.sub (ws' := []) [] (by decide) rfl
  refine lv_icmp_eq (tgt := 926) hx hb dL_law_277 (by decide) (fun c15 => ?_) (fun c15 => absurd (by rw [w5, w12]; simp only [ex2, ex4, ex9, ex11]) c15)
  refine lv_iinc (v := 6) (lv' := [(3, .int 6), (2, .ref h1), (1, .ref h0), (0, .ref b)]) hx hb dL_law_926 hl (k := 0) rfl (by decide) (by decide) rfl (fun ls hl => ?_)
  refine lv_goto (tgt := 18) hx hb dL_law_929 (by decide) ?_
  refine W.widen (k := 600000) (n := 7302249) (by decide +kernel) (by decide +kernel) ?_
  exact law_end hL C0 hS (lv_sub hl [0, 3] rfl)

set_option maxHeartbeats 1000000 in
set_option maxRecDepth 100000 in
theorem law_hand {p : Program} {l : Launch} {e : Env} {s : State} {m : MethodId} {below : List Frame} {meth : Method} {c : Code} {b L : Nat} {xs : Nat → Int32} {G : Gy} {h0 : Nat} {pad : Nat} {pp : Nat} {im : Nat} {sg : Nat} {sl : Nat} {ac : Nat} {ak : Nat} {fk : Nat → Int32} {h1 : Nat} {a_maps : Nat} {a_kinds : Nat} {a_part : Nat} {a_pad : Nat} {a_slips : Nat} {a_queue : Nat} {a_depth : Nat} {a_by : Nat} {a_from : Nat} {a_offOf : Nat} {a_parent : Nat} {a_best : Nat} {a_sums : Nat} {a_toward : Nat} {a_kept : Nat} {a_isKept : Nat} {fmm : Nat → Int32} {fkm : Nat → Int32} {fpm : Nat → Int32} (hL : L ≤ 6) (hL6 : L = 6) (C : lw_At p s m meth c b L xs) (E : EV G (fun q : Nat => s.heap.size ≤ q) s s.heap) (hk : ∀ j : Nat, j < 4 → fk j = 15) (hkm : ∀ j : Nat, j < 4 → fkm j = 15) (hpm : ∀ j : Nat, j < 6 → ¬ fpm j = 0) {H : Heap} {locs : List Loc} {ls : Array Slot} (hP : va_P G.1 vwCl [(h0, .inr (5, [.ref pad, .ref pp, .ref im, .null, .null])), (im, .inl (gP G, 2, .inr (.inr (.inr (.inr (fun _ => none)))))), (pad, .inr (0, [.ref sg, .ref sl, .int 0])), (sg, .inl (gI G, 40, .inl (fun _ => 0))), (sl, .inl (gI G, 10, .inl (fun _ => 0))), (pp, .inr (1, [.int 6, .int 0, .int 1, .int 0, .ref ac, .ref ak])), (ac, .inl (gI G, 6, .inl (fun _ => 0))), (ak, .inl (gI G, 4, .inl fk)), (h1, .inr (6, [.int 6, .ref a_maps, .int 0, .ref a_kinds, .int 0, .int 1, .ref a_part, .ref a_pad, .int 0, .ref a_slips, .int 0, .int 0, .ref a_queue, .ref a_depth, .ref a_by, .ref a_from, .int 0, .ref a_offOf, .ref a_parent, .ref a_best, .int 0, .int 0, .ref a_sums, .ref a_toward, .ref a_kept, .ref a_isKept, .int 0, .int 0])), (a_maps, .inl (gI G, 6, .inl fmm)), (a_kinds, .inl (gI G, 4, .inl fkm)), (a_part, .inl (gI G, 6, .inl fpm)), (a_pad, .inl (gI G, 40, .inl (fun _ => 0))), (a_slips, .inl (gI G, 10, .inl (fun _ => 0))), (a_kept, .inl (gI G, 80, .inl (fun _ => 0))), (a_isKept, .inl (gZ G, 2, .inl (fun _ => 0)))] H) (hD : va_D (fun q : Nat => s.heap.size ≤ q) [(h0, .inr (5, [.ref pad, .ref pp, .ref im, .null, .null])), (im, .inl (gP G, 2, .inr (.inr (.inr (.inr (fun _ => none)))))), (pad, .inr (0, [.ref sg, .ref sl, .int 0])), (sg, .inl (gI G, 40, .inl (fun _ => 0))), (sl, .inl (gI G, 10, .inl (fun _ => 0))), (pp, .inr (1, [.int 6, .int 0, .int 1, .int 0, .ref ac, .ref ak])), (ac, .inl (gI G, 6, .inl (fun _ => 0))), (ak, .inl (gI G, 4, .inl fk)), (h1, .inr (6, [.int 6, .ref a_maps, .int 0, .ref a_kinds, .int 0, .int 1, .ref a_part, .ref a_pad, .int 0, .ref a_slips, .int 0, .int 0, .ref a_queue, .ref a_depth, .ref a_by, .ref a_from, .int 0, .ref a_offOf, .ref a_parent, .ref a_best, .int 0, .int 0, .ref a_sums, .ref a_toward, .ref a_kept, .ref a_isKept, .int 0, .int 0])), (a_maps, .inl (gI G, 6, .inl fmm)), (a_kinds, .inl (gI G, 4, .inl fkm)), (a_part, .inl (gI G, 6, .inl fpm)), (a_pad, .inl (gI G, 40, .inl (fun _ => 0))), (a_slips, .inl (gI G, 10, .inl (fun _ => 0))), (a_kept, .inl (gI G, 80, .inl (fun _ => 0))), (a_isKept, .inl (gZ G, 2, .inl (fun _ => 0)))]) (hS : va_S (fun q : Nat => s.heap.size ≤ q) s.heap H locs) (hl : lv_has ls 4 [(3, .int 0), (2, .ref h1), (1, .ref h0), (0, .ref b)]) : W p l e room_1 s m #[Value.ref b] below meth c H locs 25 94050 (lw_Z below #[Value.ref b] s) (F0 m 282 ls []) := by
  have C0 := C
  obtain ⟨hx, hb, hr, hml, hown, hts0, hX, hbl, hlocks, hgv⟩ := C
  have hts : ∀ w ∈ wsL_law, w.before #[Value.ref b] s = true := fun w h => hts0 w (wsL_law_in w h)
  have hbA : ¬ (fun q : Nat => s.heap.size ≤ q) b := Nat.not_le.mpr hbl
  have hA : ∀ q : Nat, s.heap.size ≤ q → (fun q : Nat => s.heap.size ≤ q) q := fun _ h => h
  refine lv_aload_n hx hb dL_law_282 rfl (lv_at hl 2 rfl) ?_
  refine lv_aload_n hx hb dL_law_283 rfl (lv_at hl 3 rfl) ?_
  refine lv_iload_n hx hb dL_law_284 rfl (lv_at hl 0 rfl) ?_
  refine lv_iconst (v := 1) hx hb dL_law_285 (by decide) ?_
  refine lv_iadd hx hb dL_law_286 ?_
  refine lv_topi (fun x1 ex1 => ?_)
  obtain rfl : x1 = 1 := by rw [ex1]; decide
  refine va_sld hx hb hX hbl hbA hS (i := 1) (by rw [hL6]; unfold vp_in; decide) dL_law_287 ?_
  refine lv_topi (fun x2 ex2 => ?_)
  refine lv_aload_n hx hb dL_law_288 rfl (lv_at hl 3 rfl) ?_
  refine lv_iload_n hx hb dL_law_289 rfl (lv_at hl 0 rfl) ?_
  refine lv_iconst (v := 2) hx hb dL_law_290 (by decide) ?_
  refine lv_iadd hx hb dL_law_291 ?_
  refine lv_topi (fun x3 ex3 => ?_)
  obtain rfl : x3 = 2 := by rw [ex3]; decide
  refine va_sld hx hb hX hbl hbA hS (i := 2) (by rw [hL6]; unfold vp_in; decide) dL_law_292 ?_
  refine lv_topi (fun x4 ex4 => ?_)
  refine ca_i (wr := [(h1, .inr (6, [.int 6, .ref a_maps, .int 0, .ref a_kinds, .int 0, .int 1, .ref a_part, .ref a_pad, .int 0, .ref a_slips, .int 0, .int 0, .ref a_queue, .ref a_depth, .ref a_by, .ref a_from, .int 0, .ref a_offOf, .ref a_parent, .ref a_best, .int 0, .int 0, .ref a_sums, .ref a_toward, .ref a_kept, .ref a_isKept, .int 0, .int 0])), (a_maps, .inl (gI G, 6, .inl fmm)), (a_kinds, .inl (gI G, 4, .inl fkm)), (a_part, .inl (gI G, 6, .inl fpm)), (a_pad, .inl (gI G, 40, .inl (fun _ => 0))), (a_slips, .inl (gI G, 10, .inl (fun _ => 0))), (a_kept, .inl (gI G, 80, .inl (fun _ => 0))), (a_isKept, .inl (gZ G, 2, .inl (fun _ => 0)))]) (va_runV (As := [.int x2, .int x4]) (rest := []) ⟨hx, hb, hml, hown, hts⟩ (f_hand l G H.size h0 pad pp im sg sl ac ak fk x2 x4 hk) (cwV 2 hts gL_law_X9_hand rfl rfl rfl (by decide +kernel) ⟨by decide +kernel, by decide +kernel⟩) (pre_V E hP hD hS hA [0, 1, 2, 3, 4, 5, 6, 7] (by decide) rfl 0 5 rfl rfl) rfl rfl hl.1 rfl (lv_room (Nat.le_of_ble_eq_true rfl)) dL_law_293 ⟨by decide +kernel, by decide +kernel⟩) hS hP hD hA [0, 1, 2, 3, 4, 5, 6, 7] [8, 9, 10, 11, 12, 13, 14, 15] rfl rfl (by decide) (by decide) (fun r6 u7 H locs w5 hP hD hS => ?_)
  try dsimp only at w5 hP hD
  have hP := hP.sub (ws' := [(h1, .inr (6, [.int 6, .ref a_maps, .int 0, .ref a_kinds, .int 0, .int 1, .ref a_part, .ref a_pad, .int 0, .ref a_slips, .int 0, .int 0, .ref a_queue, .ref a_depth, .ref a_by, .ref a_from, .int 0, .ref a_offOf, .ref a_parent, .ref a_best, .int 0, .int 0, .ref a_sums, .ref a_toward, .ref a_kept, .ref a_isKept, .int 0, .int 0])), (a_maps, .inl (gI G, 6, .inl fmm)), (a_kinds, .inl (gI G, 4, .inl fkm)), (a_part, .inl (gI G, 6, .inl fpm)), (a_pad, .inl (gI G, 40, .inl (fun _ => 0))), (a_slips, .inl (gI G, 10, .inl (fun _ => 0))), (a_kept, .inl (gI G, 80, .inl (fun _ => 0))), (a_isKept, .inl (gZ G, 2, .inl (fun _ => 0)))]) [0, 1, 2, 3, 4, 5, 6, 7] rfl
  have hD := hD.sub (ws' := [(h1, .inr (6, [.int 6, .ref a_maps, .int 0, .ref a_kinds, .int 0, .int 1, .ref a_part, .ref a_pad, .int 0, .ref a_slips, .int 0, .int 0, .ref a_queue, .ref a_depth, .ref a_by, .ref a_from, .int 0, .ref a_offOf, .ref a_parent, .ref a_best, .int 0, .int 0, .ref a_sums, .ref a_toward, .ref a_kept, .ref a_isKept, .int 0, .int 0])), (a_maps, .inl (gI G, 6, .inl fmm)), (a_kinds, .inl (gI G, 4, .inl fkm)), (a_part, .inl (gI G, 6, .inl fpm)), (a_pad, .inl (gI G, 40, .inl (fun _ => 0))), (a_slips, .inl (gI G, 10, .inl (fun _ => 0))), (a_kept, .inl (gI G, 80, .inl (fun _ => 0))), (a_isKept, .inl (gZ G, 2, .inl (fun _ => 0)))]) [0, 1, 2, 3, 4, 5, 6, 7] (by decide) rfl
  refine lv_aload_n hx hb dL_law_296 rfl (lv_at hl 1 rfl) ?_
  refine lv_aload_n hx hb dL_law_297 rfl (lv_at hl 3 rfl) ?_
  refine lv_iload_n hx hb dL_law_298 rfl (lv_at hl 0 rfl) ?_
  refine lv_iconst (v := 1) hx hb dL_law_299 (by decide) ?_
  refine lv_iadd hx hb dL_law_300 ?_
  refine lv_topi (fun x8 ex8 => ?_)
  obtain rfl : x8 = 1 := by rw [ex8]; decide
  refine va_sld hx hb hX hbl hbA hS (i := 1) (by rw [hL6]; unfold vp_in; decide) dL_law_301 ?_
  refine lv_topi (fun x9 ex9 => ?_)
  refine lv_aload_n hx hb dL_law_302 rfl (lv_at hl 3 rfl) ?_
  refine lv_iload_n hx hb dL_law_303 rfl (lv_at hl 0 rfl) ?_
  refine lv_iconst (v := 2) hx hb dL_law_304 (by decide) ?_
  refine lv_iadd hx hb dL_law_305 ?_
  refine lv_topi (fun x10 ex10 => ?_)
  obtain rfl : x10 = 2 := by rw [ex10]; decide
  refine va_sld hx hb hX hbl hbA hS (i := 2) (by rw [hL6]; unfold vp_in; decide) dL_law_306 ?_
  refine lv_topi (fun x11 ex11 => ?_)
  refine ca_i (wr := []) (va_runV (As := [.int x9, .int x11]) (rest := [.int r6]) ⟨hx, hb, hml, hown, hts⟩ (g_hand l G H.size h1 a_maps a_kinds a_part a_pad a_slips a_queue a_depth a_by a_from a_offOf a_parent a_best a_sums a_toward a_kept a_isKept fmm fkm fpm x9 x11 hkm hpm) (cwV 2 hts gL_law_X10_hand rfl rfl rfl (by decide +kernel) ⟨by decide +kernel, by decide +kernel⟩) (pre_V E hP hD hS hA [0, 1, 2, 3, 4, 5, 6, 7] (by decide) rfl 0 6 rfl rfl) rfl rfl hl.1 rfl (lv_room (Nat.le_of_ble_eq_true rfl)) dL_law_307 ⟨by decide +kernel, by decide +kernel⟩) hS hP hD hA [0, 1, 2, 3, 4, 5, 6, 7] [] rfl rfl (by decide) (by decide) (fun r13 u14 H locs w12 hP hD hS => ?_)
  try dsimp only at w12 hP hD
  have hP := hP.sub (ws' := []) [] rfl
  have hD := hD.sub (ws' := []) [] (by decide) rfl
  refine lv_icmp_eq (tgt := 926) hx hb dL_law_310 (by decide) (fun c15 => ?_) (fun c15 => absurd (by rw [w5, w12]; simp only [ex2, ex4, ex9, ex11]) c15)
  refine lv_iinc (v := 6) (lv' := [(3, .int 6), (2, .ref h1), (1, .ref h0), (0, .ref b)]) hx hb dL_law_926 hl (k := 0) rfl (by decide) (by decide) rfl (fun ls hl => ?_)
  refine lv_goto (tgt := 18) hx hb dL_law_929 (by decide) ?_
  refine W.widen (k := 600000) (n := 7302249) (by decide +kernel) (by decide +kernel) ?_
  exact law_end hL C0 hS (lv_sub hl [0, 3] rfl)

set_option maxHeartbeats 1000000 in
set_option maxRecDepth 100000 in
theorem law_judge {p : Program} {l : Launch} {e : Env} {s : State} {m : MethodId} {below : List Frame} {meth : Method} {c : Code} {b L : Nat} {xs : Nat → Int32} {G : Gy} {h0 : Nat} {pad : Nat} {pp : Nat} {im : Nat} {sg : Nat} {sl : Nat} {ac : Nat} {ak : Nat} {fk : Nat → Int32} {h1 : Nat} {a_maps : Nat} {a_kinds : Nat} {a_part : Nat} {a_pad : Nat} {a_slips : Nat} {a_queue : Nat} {a_depth : Nat} {a_by : Nat} {a_from : Nat} {a_offOf : Nat} {a_parent : Nat} {a_best : Nat} {a_sums : Nat} {a_toward : Nat} {a_kept : Nat} {a_isKept : Nat} {fmm : Nat → Int32} {fkm : Nat → Int32} {fpm : Nat → Int32} (hL : L ≤ 6) (hL6 : L = 6) (C : lw_At p s m meth c b L xs) (E : EV G (fun q : Nat => s.heap.size ≤ q) s s.heap) (hk : ∀ j : Nat, j < 4 → fk j = 15) (hkm : ∀ j : Nat, j < 4 → fkm j = 15) (hpm : ∀ j : Nat, j < 6 → ¬ fpm j = 0) {H : Heap} {locs : List Loc} {ls : Array Slot} (hP : va_P G.1 vwCl [(h0, .inr (5, [.ref pad, .ref pp, .ref im, .null, .null])), (im, .inl (gP G, 2, .inr (.inr (.inr (.inr (fun _ => none)))))), (pad, .inr (0, [.ref sg, .ref sl, .int 0])), (sg, .inl (gI G, 40, .inl (fun _ => 0))), (sl, .inl (gI G, 10, .inl (fun _ => 0))), (pp, .inr (1, [.int 6, .int 0, .int 1, .int 0, .ref ac, .ref ak])), (ac, .inl (gI G, 6, .inl (fun _ => 0))), (ak, .inl (gI G, 4, .inl fk)), (h1, .inr (6, [.int 6, .ref a_maps, .int 0, .ref a_kinds, .int 0, .int 1, .ref a_part, .ref a_pad, .int 0, .ref a_slips, .int 0, .int 0, .ref a_queue, .ref a_depth, .ref a_by, .ref a_from, .int 0, .ref a_offOf, .ref a_parent, .ref a_best, .int 0, .int 0, .ref a_sums, .ref a_toward, .ref a_kept, .ref a_isKept, .int 0, .int 0])), (a_maps, .inl (gI G, 6, .inl fmm)), (a_kinds, .inl (gI G, 4, .inl fkm)), (a_part, .inl (gI G, 6, .inl fpm)), (a_pad, .inl (gI G, 40, .inl (fun _ => 0))), (a_slips, .inl (gI G, 10, .inl (fun _ => 0))), (a_kept, .inl (gI G, 80, .inl (fun _ => 0))), (a_isKept, .inl (gZ G, 2, .inl (fun _ => 0)))] H) (hD : va_D (fun q : Nat => s.heap.size ≤ q) [(h0, .inr (5, [.ref pad, .ref pp, .ref im, .null, .null])), (im, .inl (gP G, 2, .inr (.inr (.inr (.inr (fun _ => none)))))), (pad, .inr (0, [.ref sg, .ref sl, .int 0])), (sg, .inl (gI G, 40, .inl (fun _ => 0))), (sl, .inl (gI G, 10, .inl (fun _ => 0))), (pp, .inr (1, [.int 6, .int 0, .int 1, .int 0, .ref ac, .ref ak])), (ac, .inl (gI G, 6, .inl (fun _ => 0))), (ak, .inl (gI G, 4, .inl fk)), (h1, .inr (6, [.int 6, .ref a_maps, .int 0, .ref a_kinds, .int 0, .int 1, .ref a_part, .ref a_pad, .int 0, .ref a_slips, .int 0, .int 0, .ref a_queue, .ref a_depth, .ref a_by, .ref a_from, .int 0, .ref a_offOf, .ref a_parent, .ref a_best, .int 0, .int 0, .ref a_sums, .ref a_toward, .ref a_kept, .ref a_isKept, .int 0, .int 0])), (a_maps, .inl (gI G, 6, .inl fmm)), (a_kinds, .inl (gI G, 4, .inl fkm)), (a_part, .inl (gI G, 6, .inl fpm)), (a_pad, .inl (gI G, 40, .inl (fun _ => 0))), (a_slips, .inl (gI G, 10, .inl (fun _ => 0))), (a_kept, .inl (gI G, 80, .inl (fun _ => 0))), (a_isKept, .inl (gZ G, 2, .inl (fun _ => 0)))]) (hS : va_S (fun q : Nat => s.heap.size ≤ q) s.heap H locs) (hl : lv_has ls 4 [(3, .int 0), (2, .ref h1), (1, .ref h0), (0, .ref b)]) : W p l e room_1 s m #[Value.ref b] below meth c H locs 25 94050 (lw_Z below #[Value.ref b] s) (F0 m 315 ls []) := by
  have C0 := C
  obtain ⟨hx, hb, hr, hml, hown, hts0, hX, hbl, hlocks, hgv⟩ := C
  have hts : ∀ w ∈ wsL_law, w.before #[Value.ref b] s = true := fun w h => hts0 w (wsL_law_in w h)
  have hbA : ¬ (fun q : Nat => s.heap.size ≤ q) b := Nat.not_le.mpr hbl
  have hA : ∀ q : Nat, s.heap.size ≤ q → (fun q : Nat => s.heap.size ≤ q) q := fun _ h => h
  refine lv_aload_n hx hb dL_law_315 rfl (lv_at hl 2 rfl) ?_
  refine lv_aload_n hx hb dL_law_316 rfl (lv_at hl 3 rfl) ?_
  refine lv_iload_n hx hb dL_law_317 rfl (lv_at hl 0 rfl) ?_
  refine lv_iconst (v := 1) hx hb dL_law_318 (by decide) ?_
  refine lv_iadd hx hb dL_law_319 ?_
  refine lv_topi (fun x1 ex1 => ?_)
  obtain rfl : x1 = 1 := by rw [ex1]; decide
  refine va_sld hx hb hX hbl hbA hS (i := 1) (by rw [hL6]; unfold vp_in; decide) dL_law_320 ?_
  refine lv_topi (fun x2 ex2 => ?_)
  refine ca_i (wr := [(h1, .inr (6, [.int 6, .ref a_maps, .int 0, .ref a_kinds, .int 0, .int 1, .ref a_part, .ref a_pad, .int 0, .ref a_slips, .int 0, .int 0, .ref a_queue, .ref a_depth, .ref a_by, .ref a_from, .int 0, .ref a_offOf, .ref a_parent, .ref a_best, .int 0, .int 0, .ref a_sums, .ref a_toward, .ref a_kept, .ref a_isKept, .int 0, .int 0])), (a_maps, .inl (gI G, 6, .inl fmm)), (a_kinds, .inl (gI G, 4, .inl fkm)), (a_part, .inl (gI G, 6, .inl fpm)), (a_pad, .inl (gI G, 40, .inl (fun _ => 0))), (a_slips, .inl (gI G, 10, .inl (fun _ => 0))), (a_kept, .inl (gI G, 80, .inl (fun _ => 0))), (a_isKept, .inl (gZ G, 2, .inl (fun _ => 0)))]) (va_runV (As := [.int x2]) (rest := []) ⟨hx, hb, hml, hown, hts⟩ (f_judge l G H.size h0 pad pp im sg sl ac ak fk x2 hk) (cwV 1 hts gL_law_X9_judge rfl rfl rfl (by decide +kernel) ⟨by decide +kernel, by decide +kernel⟩) (pre_V E hP hD hS hA [0, 1, 2, 3, 4, 5, 6, 7] (by decide) rfl 0 5 rfl rfl) rfl rfl hl.1 rfl (lv_room (Nat.le_of_ble_eq_true rfl)) dL_law_321 ⟨by decide +kernel, by decide +kernel⟩) hS hP hD hA [0, 1, 2, 3, 4, 5, 6, 7] [8, 9, 10, 11, 12, 13, 14, 15] rfl rfl (by decide) (by decide) (fun r4 u5 H locs w3 hP hD hS => ?_)
  try dsimp only at w3 hP hD
  have hP := hP.sub (ws' := [(h1, .inr (6, [.int 6, .ref a_maps, .int 0, .ref a_kinds, .int 0, .int 1, .ref a_part, .ref a_pad, .int 0, .ref a_slips, .int 0, .int 0, .ref a_queue, .ref a_depth, .ref a_by, .ref a_from, .int 0, .ref a_offOf, .ref a_parent, .ref a_best, .int 0, .int 0, .ref a_sums, .ref a_toward, .ref a_kept, .ref a_isKept, .int 0, .int 0])), (a_maps, .inl (gI G, 6, .inl fmm)), (a_kinds, .inl (gI G, 4, .inl fkm)), (a_part, .inl (gI G, 6, .inl fpm)), (a_pad, .inl (gI G, 40, .inl (fun _ => 0))), (a_slips, .inl (gI G, 10, .inl (fun _ => 0))), (a_kept, .inl (gI G, 80, .inl (fun _ => 0))), (a_isKept, .inl (gZ G, 2, .inl (fun _ => 0)))]) [0, 1, 2, 3, 4, 5, 6, 7] rfl
  have hD := hD.sub (ws' := [(h1, .inr (6, [.int 6, .ref a_maps, .int 0, .ref a_kinds, .int 0, .int 1, .ref a_part, .ref a_pad, .int 0, .ref a_slips, .int 0, .int 0, .ref a_queue, .ref a_depth, .ref a_by, .ref a_from, .int 0, .ref a_offOf, .ref a_parent, .ref a_best, .int 0, .int 0, .ref a_sums, .ref a_toward, .ref a_kept, .ref a_isKept, .int 0, .int 0])), (a_maps, .inl (gI G, 6, .inl fmm)), (a_kinds, .inl (gI G, 4, .inl fkm)), (a_part, .inl (gI G, 6, .inl fpm)), (a_pad, .inl (gI G, 40, .inl (fun _ => 0))), (a_slips, .inl (gI G, 10, .inl (fun _ => 0))), (a_kept, .inl (gI G, 80, .inl (fun _ => 0))), (a_isKept, .inl (gZ G, 2, .inl (fun _ => 0)))]) [0, 1, 2, 3, 4, 5, 6, 7] (by decide) rfl
  refine lv_aload_n hx hb dL_law_324 rfl (lv_at hl 1 rfl) ?_
  refine lv_aload_n hx hb dL_law_325 rfl (lv_at hl 3 rfl) ?_
  refine lv_iload_n hx hb dL_law_326 rfl (lv_at hl 0 rfl) ?_
  refine lv_iconst (v := 1) hx hb dL_law_327 (by decide) ?_
  refine lv_iadd hx hb dL_law_328 ?_
  refine lv_topi (fun x6 ex6 => ?_)
  obtain rfl : x6 = 1 := by rw [ex6]; decide
  refine va_sld hx hb hX hbl hbA hS (i := 1) (by rw [hL6]; unfold vp_in; decide) dL_law_329 ?_
  refine lv_topi (fun x7 ex7 => ?_)
  refine ca_i (wr := []) (va_runV (As := [.int x7]) (rest := [.int r4]) ⟨hx, hb, hml, hown, hts⟩ (g_judge l G H.size h1 a_maps a_kinds a_part a_pad a_slips a_queue a_depth a_by a_from a_offOf a_parent a_best a_sums a_toward a_kept a_isKept fmm fkm fpm x7 hkm hpm) (cwV 1 hts gL_law_X10_judge rfl rfl rfl (by decide +kernel) ⟨by decide +kernel, by decide +kernel⟩) (pre_V E hP hD hS hA [0, 1, 2, 3, 4, 5, 6, 7] (by decide) rfl 0 6 rfl rfl) rfl rfl hl.1 rfl (lv_room (Nat.le_of_ble_eq_true rfl)) dL_law_330 ⟨by decide +kernel, by decide +kernel⟩) hS hP hD hA [0, 1, 2, 3, 4, 5, 6, 7] [] rfl rfl (by decide) (by decide) (fun r9 u10 H locs w8 hP hD hS => ?_)
  try dsimp only at w8 hP hD
  have hP := hP.sub (ws' := []) [] rfl
  have hD := hD.sub (ws' := []) [] (by decide) rfl
  refine lv_icmp_eq (tgt := 926) hx hb dL_law_333 (by decide) (fun c11 => ?_) (fun c11 => absurd (by rw [w3, w8]; simp only [ex2, ex7]) c11)
  refine lv_iinc (v := 6) (lv' := [(3, .int 6), (2, .ref h1), (1, .ref h0), (0, .ref b)]) hx hb dL_law_926 hl (k := 0) rfl (by decide) (by decide) rfl (fun ls hl => ?_)
  refine lv_goto (tgt := 18) hx hb dL_law_929 (by decide) ?_
  refine W.widen (k := 600000) (n := 7302249) (by decide +kernel) (by decide +kernel) ?_
  exact law_end hL C0 hS (lv_sub hl [0, 3] rfl)

set_option maxHeartbeats 1000000 in
set_option maxRecDepth 100000 in
theorem law_copy {p : Program} {l : Launch} {e : Env} {s : State} {m : MethodId} {below : List Frame} {meth : Method} {c : Code} {b L : Nat} {xs : Nat → Int32} {G : Gy} {h0 : Nat} {pad : Nat} {pp : Nat} {im : Nat} {sg : Nat} {sl : Nat} {ac : Nat} {ak : Nat} {fk : Nat → Int32} {h1 : Nat} {a_maps : Nat} {a_kinds : Nat} {a_part : Nat} {a_pad : Nat} {a_slips : Nat} {a_queue : Nat} {a_depth : Nat} {a_by : Nat} {a_from : Nat} {a_offOf : Nat} {a_parent : Nat} {a_best : Nat} {a_sums : Nat} {a_toward : Nat} {a_kept : Nat} {a_isKept : Nat} {fmm : Nat → Int32} {fkm : Nat → Int32} {fpm : Nat → Int32} (hL : L ≤ 6) (hL6 : L = 6) (C : lw_At p s m meth c b L xs) (E : EV G (fun q : Nat => s.heap.size ≤ q) s s.heap) (hk : ∀ j : Nat, j < 4 → fk j = 15) (hkm : ∀ j : Nat, j < 4 → fkm j = 15) (hpm : ∀ j : Nat, j < 6 → ¬ fpm j = 0) {H : Heap} {locs : List Loc} {ls : Array Slot} (hP : va_P G.1 vwCl [(h0, .inr (5, [.ref pad, .ref pp, .ref im, .null, .null])), (im, .inl (gP G, 2, .inr (.inr (.inr (.inr (fun _ => none)))))), (pad, .inr (0, [.ref sg, .ref sl, .int 0])), (sg, .inl (gI G, 40, .inl (fun _ => 0))), (sl, .inl (gI G, 10, .inl (fun _ => 0))), (pp, .inr (1, [.int 6, .int 0, .int 1, .int 0, .ref ac, .ref ak])), (ac, .inl (gI G, 6, .inl (fun _ => 0))), (ak, .inl (gI G, 4, .inl fk)), (h1, .inr (6, [.int 6, .ref a_maps, .int 0, .ref a_kinds, .int 0, .int 1, .ref a_part, .ref a_pad, .int 0, .ref a_slips, .int 0, .int 0, .ref a_queue, .ref a_depth, .ref a_by, .ref a_from, .int 0, .ref a_offOf, .ref a_parent, .ref a_best, .int 0, .int 0, .ref a_sums, .ref a_toward, .ref a_kept, .ref a_isKept, .int 0, .int 0])), (a_maps, .inl (gI G, 6, .inl fmm)), (a_kinds, .inl (gI G, 4, .inl fkm)), (a_part, .inl (gI G, 6, .inl fpm)), (a_pad, .inl (gI G, 40, .inl (fun _ => 0))), (a_slips, .inl (gI G, 10, .inl (fun _ => 0))), (a_kept, .inl (gI G, 80, .inl (fun _ => 0))), (a_isKept, .inl (gZ G, 2, .inl (fun _ => 0)))] H) (hD : va_D (fun q : Nat => s.heap.size ≤ q) [(h0, .inr (5, [.ref pad, .ref pp, .ref im, .null, .null])), (im, .inl (gP G, 2, .inr (.inr (.inr (.inr (fun _ => none)))))), (pad, .inr (0, [.ref sg, .ref sl, .int 0])), (sg, .inl (gI G, 40, .inl (fun _ => 0))), (sl, .inl (gI G, 10, .inl (fun _ => 0))), (pp, .inr (1, [.int 6, .int 0, .int 1, .int 0, .ref ac, .ref ak])), (ac, .inl (gI G, 6, .inl (fun _ => 0))), (ak, .inl (gI G, 4, .inl fk)), (h1, .inr (6, [.int 6, .ref a_maps, .int 0, .ref a_kinds, .int 0, .int 1, .ref a_part, .ref a_pad, .int 0, .ref a_slips, .int 0, .int 0, .ref a_queue, .ref a_depth, .ref a_by, .ref a_from, .int 0, .ref a_offOf, .ref a_parent, .ref a_best, .int 0, .int 0, .ref a_sums, .ref a_toward, .ref a_kept, .ref a_isKept, .int 0, .int 0])), (a_maps, .inl (gI G, 6, .inl fmm)), (a_kinds, .inl (gI G, 4, .inl fkm)), (a_part, .inl (gI G, 6, .inl fpm)), (a_pad, .inl (gI G, 40, .inl (fun _ => 0))), (a_slips, .inl (gI G, 10, .inl (fun _ => 0))), (a_kept, .inl (gI G, 80, .inl (fun _ => 0))), (a_isKept, .inl (gZ G, 2, .inl (fun _ => 0)))]) (hS : va_S (fun q : Nat => s.heap.size ≤ q) s.heap H locs) (hl : lv_has ls 4 [(3, .int 0), (2, .ref h1), (1, .ref h0), (0, .ref b)]) : W p l e room_1 s m #[Value.ref b] below meth c H locs 25 94050 (lw_Z below #[Value.ref b] s) (F0 m 338 ls []) := by
  have C0 := C
  obtain ⟨hx, hb, hr, hml, hown, hts0, hX, hbl, hlocks, hgv⟩ := C
  have hts : ∀ w ∈ wsL_law, w.before #[Value.ref b] s = true := fun w h => hts0 w (wsL_law_in w h)
  have hbA : ¬ (fun q : Nat => s.heap.size ≤ q) b := Nat.not_le.mpr hbl
  have hA : ∀ q : Nat, s.heap.size ≤ q → (fun q : Nat => s.heap.size ≤ q) q := fun _ h => h
  refine lv_aload_n hx hb dL_law_338 rfl (lv_at hl 2 rfl) ?_
  refine lv_aload_n hx hb dL_law_339 rfl (lv_at hl 3 rfl) ?_
  refine lv_iload_n hx hb dL_law_340 rfl (lv_at hl 0 rfl) ?_
  refine lv_iconst (v := 1) hx hb dL_law_341 (by decide) ?_
  refine lv_iadd hx hb dL_law_342 ?_
  refine lv_topi (fun x1 ex1 => ?_)
  obtain rfl : x1 = 1 := by rw [ex1]; decide
  refine va_sld hx hb hX hbl hbA hS (i := 1) (by rw [hL6]; unfold vp_in; decide) dL_law_343 ?_
  refine lv_topi (fun x2 ex2 => ?_)
  refine lv_aload_n hx hb dL_law_344 rfl (lv_at hl 3 rfl) ?_
  refine lv_iload_n hx hb dL_law_345 rfl (lv_at hl 0 rfl) ?_
  refine lv_iconst (v := 2) hx hb dL_law_346 (by decide) ?_
  refine lv_iadd hx hb dL_law_347 ?_
  refine lv_topi (fun x3 ex3 => ?_)
  obtain rfl : x3 = 2 := by rw [ex3]; decide
  refine va_sld hx hb hX hbl hbA hS (i := 2) (by rw [hL6]; unfold vp_in; decide) dL_law_348 ?_
  refine lv_topi (fun x4 ex4 => ?_)
  refine ca_i (wr := [(h1, .inr (6, [.int 6, .ref a_maps, .int 0, .ref a_kinds, .int 0, .int 1, .ref a_part, .ref a_pad, .int 0, .ref a_slips, .int 0, .int 0, .ref a_queue, .ref a_depth, .ref a_by, .ref a_from, .int 0, .ref a_offOf, .ref a_parent, .ref a_best, .int 0, .int 0, .ref a_sums, .ref a_toward, .ref a_kept, .ref a_isKept, .int 0, .int 0])), (a_maps, .inl (gI G, 6, .inl fmm)), (a_kinds, .inl (gI G, 4, .inl fkm)), (a_part, .inl (gI G, 6, .inl fpm)), (a_pad, .inl (gI G, 40, .inl (fun _ => 0))), (a_slips, .inl (gI G, 10, .inl (fun _ => 0))), (a_kept, .inl (gI G, 80, .inl (fun _ => 0))), (a_isKept, .inl (gZ G, 2, .inl (fun _ => 0)))]) (va_runV (As := [.int x2, .int x4]) (rest := []) ⟨hx, hb, hml, hown, hts⟩ (f_copy l G H.size h0 pad pp im sg sl ac ak fk x2 x4 hk) (cwV 2 hts gL_law_X9_copy rfl rfl rfl (by decide +kernel) ⟨by decide +kernel, by decide +kernel⟩) (pre_V E hP hD hS hA [0, 1, 2, 3, 4, 5, 6, 7] (by decide) rfl 0 5 rfl rfl) rfl rfl hl.1 rfl (lv_room (Nat.le_of_ble_eq_true rfl)) dL_law_349 ⟨by decide +kernel, by decide +kernel⟩) hS hP hD hA [0, 1, 2, 3, 4, 5, 6, 7] [8, 9, 10, 11, 12, 13, 14, 15] rfl rfl (by decide) (by decide) (fun r6 u7 H locs w5 hP hD hS => ?_)
  try dsimp only at w5 hP hD
  have hP := hP.sub (ws' := [(h1, .inr (6, [.int 6, .ref a_maps, .int 0, .ref a_kinds, .int 0, .int 1, .ref a_part, .ref a_pad, .int 0, .ref a_slips, .int 0, .int 0, .ref a_queue, .ref a_depth, .ref a_by, .ref a_from, .int 0, .ref a_offOf, .ref a_parent, .ref a_best, .int 0, .int 0, .ref a_sums, .ref a_toward, .ref a_kept, .ref a_isKept, .int 0, .int 0])), (a_maps, .inl (gI G, 6, .inl fmm)), (a_kinds, .inl (gI G, 4, .inl fkm)), (a_part, .inl (gI G, 6, .inl fpm)), (a_pad, .inl (gI G, 40, .inl (fun _ => 0))), (a_slips, .inl (gI G, 10, .inl (fun _ => 0))), (a_kept, .inl (gI G, 80, .inl (fun _ => 0))), (a_isKept, .inl (gZ G, 2, .inl (fun _ => 0)))]) [0, 1, 2, 3, 4, 5, 6, 7] rfl
  have hD := hD.sub (ws' := [(h1, .inr (6, [.int 6, .ref a_maps, .int 0, .ref a_kinds, .int 0, .int 1, .ref a_part, .ref a_pad, .int 0, .ref a_slips, .int 0, .int 0, .ref a_queue, .ref a_depth, .ref a_by, .ref a_from, .int 0, .ref a_offOf, .ref a_parent, .ref a_best, .int 0, .int 0, .ref a_sums, .ref a_toward, .ref a_kept, .ref a_isKept, .int 0, .int 0])), (a_maps, .inl (gI G, 6, .inl fmm)), (a_kinds, .inl (gI G, 4, .inl fkm)), (a_part, .inl (gI G, 6, .inl fpm)), (a_pad, .inl (gI G, 40, .inl (fun _ => 0))), (a_slips, .inl (gI G, 10, .inl (fun _ => 0))), (a_kept, .inl (gI G, 80, .inl (fun _ => 0))), (a_isKept, .inl (gZ G, 2, .inl (fun _ => 0)))]) [0, 1, 2, 3, 4, 5, 6, 7] (by decide) rfl
  refine lv_aload_n hx hb dL_law_352 rfl (lv_at hl 1 rfl) ?_
  refine lv_aload_n hx hb dL_law_353 rfl (lv_at hl 3 rfl) ?_
  refine lv_iload_n hx hb dL_law_354 rfl (lv_at hl 0 rfl) ?_
  refine lv_iconst (v := 1) hx hb dL_law_355 (by decide) ?_
  refine lv_iadd hx hb dL_law_356 ?_
  refine lv_topi (fun x8 ex8 => ?_)
  obtain rfl : x8 = 1 := by rw [ex8]; decide
  refine va_sld hx hb hX hbl hbA hS (i := 1) (by rw [hL6]; unfold vp_in; decide) dL_law_357 ?_
  refine lv_topi (fun x9 ex9 => ?_)
  refine lv_aload_n hx hb dL_law_358 rfl (lv_at hl 3 rfl) ?_
  refine lv_iload_n hx hb dL_law_359 rfl (lv_at hl 0 rfl) ?_
  refine lv_iconst (v := 2) hx hb dL_law_360 (by decide) ?_
  refine lv_iadd hx hb dL_law_361 ?_
  refine lv_topi (fun x10 ex10 => ?_)
  obtain rfl : x10 = 2 := by rw [ex10]; decide
  refine va_sld hx hb hX hbl hbA hS (i := 2) (by rw [hL6]; unfold vp_in; decide) dL_law_362 ?_
  refine lv_topi (fun x11 ex11 => ?_)
  refine ca_i (wr := []) (va_runV (As := [.int x9, .int x11]) (rest := [.int r6]) ⟨hx, hb, hml, hown, hts⟩ (g_copy l G H.size h1 a_maps a_kinds a_part a_pad a_slips a_queue a_depth a_by a_from a_offOf a_parent a_best a_sums a_toward a_kept a_isKept fmm fkm fpm x9 x11 hkm hpm) (cwV 2 hts gL_law_X10_copy rfl rfl rfl (by decide +kernel) ⟨by decide +kernel, by decide +kernel⟩) (pre_V E hP hD hS hA [0, 1, 2, 3, 4, 5, 6, 7] (by decide) rfl 0 6 rfl rfl) rfl rfl hl.1 rfl (lv_room (Nat.le_of_ble_eq_true rfl)) dL_law_363 ⟨by decide +kernel, by decide +kernel⟩) hS hP hD hA [0, 1, 2, 3, 4, 5, 6, 7] [] rfl rfl (by decide) (by decide) (fun r13 u14 H locs w12 hP hD hS => ?_)
  try dsimp only at w12 hP hD
  have hP := hP.sub (ws' := []) [] rfl
  have hD := hD.sub (ws' := []) [] (by decide) rfl
  refine lv_icmp_eq (tgt := 926) hx hb dL_law_366 (by decide) (fun c15 => ?_) (fun c15 => absurd (by rw [w5, w12]; simp only [ex2, ex4, ex9, ex11]) c15)
  refine lv_iinc (v := 6) (lv' := [(3, .int 6), (2, .ref h1), (1, .ref h0), (0, .ref b)]) hx hb dL_law_926 hl (k := 0) rfl (by decide) (by decide) rfl (fun ls hl => ?_)
  refine lv_goto (tgt := 18) hx hb dL_law_929 (by decide) ?_
  refine W.widen (k := 600000) (n := 7302249) (by decide +kernel) (by decide +kernel) ?_
  exact law_end hL C0 hS (lv_sub hl [0, 3] rfl)

set_option maxHeartbeats 1000000 in
set_option maxRecDepth 100000 in
theorem law_far {p : Program} {l : Launch} {e : Env} {s : State} {m : MethodId} {below : List Frame} {meth : Method} {c : Code} {b L : Nat} {xs : Nat → Int32} {G : Gy} {h0 : Nat} {pad : Nat} {pp : Nat} {im : Nat} {sg : Nat} {sl : Nat} {ac : Nat} {ak : Nat} {fk : Nat → Int32} {h1 : Nat} {a_maps : Nat} {a_kinds : Nat} {a_part : Nat} {a_pad : Nat} {a_slips : Nat} {a_queue : Nat} {a_depth : Nat} {a_by : Nat} {a_from : Nat} {a_offOf : Nat} {a_parent : Nat} {a_best : Nat} {a_sums : Nat} {a_toward : Nat} {a_kept : Nat} {a_isKept : Nat} {fmm : Nat → Int32} {fkm : Nat → Int32} {fpm : Nat → Int32} (hL : L ≤ 6) (hL6 : L = 6) (C : lw_At p s m meth c b L xs) (E : EV G (fun q : Nat => s.heap.size ≤ q) s s.heap) (hk : ∀ j : Nat, j < 4 → fk j = 15) (hkm : ∀ j : Nat, j < 4 → fkm j = 15) (hpm : ∀ j : Nat, j < 6 → ¬ fpm j = 0) {H : Heap} {locs : List Loc} {ls : Array Slot} (hP : va_P G.1 vwCl [(h0, .inr (5, [.ref pad, .ref pp, .ref im, .null, .null])), (im, .inl (gP G, 2, .inr (.inr (.inr (.inr (fun _ => none)))))), (pad, .inr (0, [.ref sg, .ref sl, .int 0])), (sg, .inl (gI G, 40, .inl (fun _ => 0))), (sl, .inl (gI G, 10, .inl (fun _ => 0))), (pp, .inr (1, [.int 6, .int 0, .int 1, .int 0, .ref ac, .ref ak])), (ac, .inl (gI G, 6, .inl (fun _ => 0))), (ak, .inl (gI G, 4, .inl fk)), (h1, .inr (6, [.int 6, .ref a_maps, .int 0, .ref a_kinds, .int 0, .int 1, .ref a_part, .ref a_pad, .int 0, .ref a_slips, .int 0, .int 0, .ref a_queue, .ref a_depth, .ref a_by, .ref a_from, .int 0, .ref a_offOf, .ref a_parent, .ref a_best, .int 0, .int 0, .ref a_sums, .ref a_toward, .ref a_kept, .ref a_isKept, .int 0, .int 0])), (a_maps, .inl (gI G, 6, .inl fmm)), (a_kinds, .inl (gI G, 4, .inl fkm)), (a_part, .inl (gI G, 6, .inl fpm)), (a_pad, .inl (gI G, 40, .inl (fun _ => 0))), (a_slips, .inl (gI G, 10, .inl (fun _ => 0))), (a_kept, .inl (gI G, 80, .inl (fun _ => 0))), (a_isKept, .inl (gZ G, 2, .inl (fun _ => 0)))] H) (hD : va_D (fun q : Nat => s.heap.size ≤ q) [(h0, .inr (5, [.ref pad, .ref pp, .ref im, .null, .null])), (im, .inl (gP G, 2, .inr (.inr (.inr (.inr (fun _ => none)))))), (pad, .inr (0, [.ref sg, .ref sl, .int 0])), (sg, .inl (gI G, 40, .inl (fun _ => 0))), (sl, .inl (gI G, 10, .inl (fun _ => 0))), (pp, .inr (1, [.int 6, .int 0, .int 1, .int 0, .ref ac, .ref ak])), (ac, .inl (gI G, 6, .inl (fun _ => 0))), (ak, .inl (gI G, 4, .inl fk)), (h1, .inr (6, [.int 6, .ref a_maps, .int 0, .ref a_kinds, .int 0, .int 1, .ref a_part, .ref a_pad, .int 0, .ref a_slips, .int 0, .int 0, .ref a_queue, .ref a_depth, .ref a_by, .ref a_from, .int 0, .ref a_offOf, .ref a_parent, .ref a_best, .int 0, .int 0, .ref a_sums, .ref a_toward, .ref a_kept, .ref a_isKept, .int 0, .int 0])), (a_maps, .inl (gI G, 6, .inl fmm)), (a_kinds, .inl (gI G, 4, .inl fkm)), (a_part, .inl (gI G, 6, .inl fpm)), (a_pad, .inl (gI G, 40, .inl (fun _ => 0))), (a_slips, .inl (gI G, 10, .inl (fun _ => 0))), (a_kept, .inl (gI G, 80, .inl (fun _ => 0))), (a_isKept, .inl (gZ G, 2, .inl (fun _ => 0)))]) (hS : va_S (fun q : Nat => s.heap.size ≤ q) s.heap H locs) (hl : lv_has ls 4 [(3, .int 0), (2, .ref h1), (1, .ref h0), (0, .ref b)]) : W p l e room_1 s m #[Value.ref b] below meth c H locs 25 94050 (lw_Z below #[Value.ref b] s) (F0 m 371 ls []) := by
  have C0 := C
  obtain ⟨hx, hb, hr, hml, hown, hts0, hX, hbl, hlocks, hgv⟩ := C
  have hts : ∀ w ∈ wsL_law, w.before #[Value.ref b] s = true := fun w h => hts0 w (wsL_law_in w h)
  have hbA : ¬ (fun q : Nat => s.heap.size ≤ q) b := Nat.not_le.mpr hbl
  have hA : ∀ q : Nat, s.heap.size ≤ q → (fun q : Nat => s.heap.size ≤ q) q := fun _ h => h
  refine lv_aload_n hx hb dL_law_371 rfl (lv_at hl 2 rfl) ?_
  refine lv_aload_n hx hb dL_law_372 rfl (lv_at hl 3 rfl) ?_
  refine lv_iload_n hx hb dL_law_373 rfl (lv_at hl 0 rfl) ?_
  refine lv_iconst (v := 1) hx hb dL_law_374 (by decide) ?_
  refine lv_iadd hx hb dL_law_375 ?_
  refine lv_topi (fun x1 ex1 => ?_)
  obtain rfl : x1 = 1 := by rw [ex1]; decide
  refine va_sld hx hb hX hbl hbA hS (i := 1) (by rw [hL6]; unfold vp_in; decide) dL_law_376 ?_
  refine lv_topi (fun x2 ex2 => ?_)
  refine lv_aload_n hx hb dL_law_377 rfl (lv_at hl 3 rfl) ?_
  refine lv_iload_n hx hb dL_law_378 rfl (lv_at hl 0 rfl) ?_
  refine lv_iconst (v := 2) hx hb dL_law_379 (by decide) ?_
  refine lv_iadd hx hb dL_law_380 ?_
  refine lv_topi (fun x3 ex3 => ?_)
  obtain rfl : x3 = 2 := by rw [ex3]; decide
  refine va_sld hx hb hX hbl hbA hS (i := 2) (by rw [hL6]; unfold vp_in; decide) dL_law_381 ?_
  refine lv_topi (fun x4 ex4 => ?_)
  refine lv_aload_n hx hb dL_law_382 rfl (lv_at hl 3 rfl) ?_
  refine lv_iload_n hx hb dL_law_383 rfl (lv_at hl 0 rfl) ?_
  refine lv_iconst (v := 3) hx hb dL_law_384 (by decide) ?_
  refine lv_iadd hx hb dL_law_385 ?_
  refine lv_topi (fun x5 ex5 => ?_)
  obtain rfl : x5 = 3 := by rw [ex5]; decide
  refine va_sld hx hb hX hbl hbA hS (i := 3) (by rw [hL6]; unfold vp_in; decide) dL_law_386 ?_
  refine lv_topi (fun x6 ex6 => ?_)
  refine lv_aload_n hx hb dL_law_387 rfl (lv_at hl 3 rfl) ?_
  refine lv_iload_n hx hb dL_law_388 rfl (lv_at hl 0 rfl) ?_
  refine lv_iconst (v := 4) hx hb dL_law_389 (by decide) ?_
  refine lv_iadd hx hb dL_law_390 ?_
  refine lv_topi (fun x7 ex7 => ?_)
  obtain rfl : x7 = 4 := by rw [ex7]; decide
  refine va_sld hx hb hX hbl hbA hS (i := 4) (by rw [hL6]; unfold vp_in; decide) dL_law_391 ?_
  refine lv_topi (fun x8 ex8 => ?_)
  refine ca_i (wr := [(h1, .inr (6, [.int 6, .ref a_maps, .int 0, .ref a_kinds, .int 0, .int 1, .ref a_part, .ref a_pad, .int 0, .ref a_slips, .int 0, .int 0, .ref a_queue, .ref a_depth, .ref a_by, .ref a_from, .int 0, .ref a_offOf, .ref a_parent, .ref a_best, .int 0, .int 0, .ref a_sums, .ref a_toward, .ref a_kept, .ref a_isKept, .int 0, .int 0])), (a_maps, .inl (gI G, 6, .inl fmm)), (a_kinds, .inl (gI G, 4, .inl fkm)), (a_part, .inl (gI G, 6, .inl fpm)), (a_pad, .inl (gI G, 40, .inl (fun _ => 0))), (a_slips, .inl (gI G, 10, .inl (fun _ => 0))), (a_kept, .inl (gI G, 80, .inl (fun _ => 0))), (a_isKept, .inl (gZ G, 2, .inl (fun _ => 0)))]) (va_runV (As := [.int x2, .int x4, .int x6, .int x8]) (rest := []) ⟨hx, hb, hml, hown, hts⟩ (f_far l G H.size h0 pad pp im sg sl ac ak fk x2 x4 x6 x8 hk) (cwV 4 hts gL_law_X9_far rfl rfl rfl (by decide +kernel) ⟨by decide +kernel, by decide +kernel⟩) (pre_V E hP hD hS hA [0, 1, 2, 3, 4, 5, 6, 7] (by decide) rfl 0 5 rfl rfl) rfl rfl hl.1 rfl (lv_room (Nat.le_of_ble_eq_true rfl)) dL_law_392 ⟨by decide +kernel, by decide +kernel⟩) hS hP hD hA [0, 1, 2, 3, 4, 5, 6, 7] [8, 9, 10, 11, 12, 13, 14, 15] rfl rfl (by decide) (by decide) (fun r10 u11 H locs w9 hP hD hS => ?_)
  try dsimp only at w9 hP hD
  have hP := hP.sub (ws' := [(h1, .inr (6, [.int 6, .ref a_maps, .int 0, .ref a_kinds, .int 0, .int 1, .ref a_part, .ref a_pad, .int 0, .ref a_slips, .int 0, .int 0, .ref a_queue, .ref a_depth, .ref a_by, .ref a_from, .int 0, .ref a_offOf, .ref a_parent, .ref a_best, .int 0, .int 0, .ref a_sums, .ref a_toward, .ref a_kept, .ref a_isKept, .int 0, .int 0])), (a_maps, .inl (gI G, 6, .inl fmm)), (a_kinds, .inl (gI G, 4, .inl fkm)), (a_part, .inl (gI G, 6, .inl fpm)), (a_pad, .inl (gI G, 40, .inl (fun _ => 0))), (a_slips, .inl (gI G, 10, .inl (fun _ => 0))), (a_kept, .inl (gI G, 80, .inl (fun _ => 0))), (a_isKept, .inl (gZ G, 2, .inl (fun _ => 0)))]) [0, 1, 2, 3, 4, 5, 6, 7] rfl
  have hD := hD.sub (ws' := [(h1, .inr (6, [.int 6, .ref a_maps, .int 0, .ref a_kinds, .int 0, .int 1, .ref a_part, .ref a_pad, .int 0, .ref a_slips, .int 0, .int 0, .ref a_queue, .ref a_depth, .ref a_by, .ref a_from, .int 0, .ref a_offOf, .ref a_parent, .ref a_best, .int 0, .int 0, .ref a_sums, .ref a_toward, .ref a_kept, .ref a_isKept, .int 0, .int 0])), (a_maps, .inl (gI G, 6, .inl fmm)), (a_kinds, .inl (gI G, 4, .inl fkm)), (a_part, .inl (gI G, 6, .inl fpm)), (a_pad, .inl (gI G, 40, .inl (fun _ => 0))), (a_slips, .inl (gI G, 10, .inl (fun _ => 0))), (a_kept, .inl (gI G, 80, .inl (fun _ => 0))), (a_isKept, .inl (gZ G, 2, .inl (fun _ => 0)))]) [0, 1, 2, 3, 4, 5, 6, 7] (by decide) rfl
  refine lv_aload_n hx hb dL_law_395 rfl (lv_at hl 1 rfl) ?_
  refine lv_aload_n hx hb dL_law_396 rfl (lv_at hl 3 rfl) ?_
  refine lv_iload_n hx hb dL_law_397 rfl (lv_at hl 0 rfl) ?_
  refine lv_iconst (v := 1) hx hb dL_law_398 (by decide) ?_
  refine lv_iadd hx hb dL_law_399 ?_
  refine lv_topi (fun x12 ex12 => ?_)
  obtain rfl : x12 = 1 := by rw [ex12]; decide
  refine va_sld hx hb hX hbl hbA hS (i := 1) (by rw [hL6]; unfold vp_in; decide) dL_law_400 ?_
  refine lv_topi (fun x13 ex13 => ?_)
  refine lv_aload_n hx hb dL_law_401 rfl (lv_at hl 3 rfl) ?_
  refine lv_iload_n hx hb dL_law_402 rfl (lv_at hl 0 rfl) ?_
  refine lv_iconst (v := 2) hx hb dL_law_403 (by decide) ?_
  refine lv_iadd hx hb dL_law_404 ?_
  refine lv_topi (fun x14 ex14 => ?_)
  obtain rfl : x14 = 2 := by rw [ex14]; decide
  refine va_sld hx hb hX hbl hbA hS (i := 2) (by rw [hL6]; unfold vp_in; decide) dL_law_405 ?_
  refine lv_topi (fun x15 ex15 => ?_)
  refine lv_aload_n hx hb dL_law_406 rfl (lv_at hl 3 rfl) ?_
  refine lv_iload_n hx hb dL_law_407 rfl (lv_at hl 0 rfl) ?_
  refine lv_iconst (v := 3) hx hb dL_law_408 (by decide) ?_
  refine lv_iadd hx hb dL_law_409 ?_
  refine lv_topi (fun x16 ex16 => ?_)
  obtain rfl : x16 = 3 := by rw [ex16]; decide
  refine va_sld hx hb hX hbl hbA hS (i := 3) (by rw [hL6]; unfold vp_in; decide) dL_law_410 ?_
  refine lv_topi (fun x17 ex17 => ?_)
  refine lv_aload_n hx hb dL_law_411 rfl (lv_at hl 3 rfl) ?_
  refine lv_iload_n hx hb dL_law_412 rfl (lv_at hl 0 rfl) ?_
  refine lv_iconst (v := 4) hx hb dL_law_413 (by decide) ?_
  refine lv_iadd hx hb dL_law_414 ?_
  refine lv_topi (fun x18 ex18 => ?_)
  obtain rfl : x18 = 4 := by rw [ex18]; decide
  refine va_sld hx hb hX hbl hbA hS (i := 4) (by rw [hL6]; unfold vp_in; decide) dL_law_415 ?_
  refine lv_topi (fun x19 ex19 => ?_)
  refine ca_i (wr := []) (va_runV (As := [.int x13, .int x15, .int x17, .int x19]) (rest := [.int r10]) ⟨hx, hb, hml, hown, hts⟩ (g_far l G H.size h1 a_maps a_kinds a_part a_pad a_slips a_queue a_depth a_by a_from a_offOf a_parent a_best a_sums a_toward a_kept a_isKept fmm fkm fpm x13 x15 x17 x19 hkm hpm) (cwV 4 hts gL_law_X10_far rfl rfl rfl (by decide +kernel) ⟨by decide +kernel, by decide +kernel⟩) (pre_V E hP hD hS hA [0, 1, 2, 3, 4, 5, 6, 7] (by decide) rfl 0 6 rfl rfl) rfl rfl hl.1 rfl (lv_room (Nat.le_of_ble_eq_true rfl)) dL_law_416 ⟨by decide +kernel, by decide +kernel⟩) hS hP hD hA [0, 1, 2, 3, 4, 5, 6, 7] [] rfl rfl (by decide) (by decide) (fun r21 u22 H locs w20 hP hD hS => ?_)
  try dsimp only at w20 hP hD
  have hP := hP.sub (ws' := []) [] rfl
  have hD := hD.sub (ws' := []) [] (by decide) rfl
  refine lv_icmp_eq (tgt := 926) hx hb dL_law_419 (by decide) (fun c23 => ?_) (fun c23 => absurd (by rw [w9, w20]; simp only [ex2, ex4, ex6, ex8, ex13, ex15, ex17, ex19]) c23)
  refine lv_iinc (v := 6) (lv' := [(3, .int 6), (2, .ref h1), (1, .ref h0), (0, .ref b)]) hx hb dL_law_926 hl (k := 0) rfl (by decide) (by decide) rfl (fun ls hl => ?_)
  refine lv_goto (tgt := 18) hx hb dL_law_929 (by decide) ?_
  refine W.widen (k := 600000) (n := 7302249) (by decide +kernel) (by decide +kernel) ?_
  exact law_end hL C0 hS (lv_sub hl [0, 3] rfl)

set_option maxHeartbeats 1000000 in
set_option maxRecDepth 100000 in
theorem law_who {p : Program} {l : Launch} {e : Env} {s : State} {m : MethodId} {below : List Frame} {meth : Method} {c : Code} {b L : Nat} {xs : Nat → Int32} {G : Gy} {h0 : Nat} {pad : Nat} {pp : Nat} {im : Nat} {sg : Nat} {sl : Nat} {ac : Nat} {ak : Nat} {fk : Nat → Int32} {h1 : Nat} {a_maps : Nat} {a_kinds : Nat} {a_part : Nat} {a_pad : Nat} {a_slips : Nat} {a_queue : Nat} {a_depth : Nat} {a_by : Nat} {a_from : Nat} {a_offOf : Nat} {a_parent : Nat} {a_best : Nat} {a_sums : Nat} {a_toward : Nat} {a_kept : Nat} {a_isKept : Nat} {fmm : Nat → Int32} {fkm : Nat → Int32} {fpm : Nat → Int32} (hL : L ≤ 6) (hL6 : L = 6) (C : lw_At p s m meth c b L xs) (E : EV G (fun q : Nat => s.heap.size ≤ q) s s.heap) (hk : ∀ j : Nat, j < 4 → fk j = 15) (hkm : ∀ j : Nat, j < 4 → fkm j = 15) (hpm : ∀ j : Nat, j < 6 → ¬ fpm j = 0) {H : Heap} {locs : List Loc} {ls : Array Slot} (hP : va_P G.1 vwCl [(h0, .inr (5, [.ref pad, .ref pp, .ref im, .null, .null])), (im, .inl (gP G, 2, .inr (.inr (.inr (.inr (fun _ => none)))))), (pad, .inr (0, [.ref sg, .ref sl, .int 0])), (sg, .inl (gI G, 40, .inl (fun _ => 0))), (sl, .inl (gI G, 10, .inl (fun _ => 0))), (pp, .inr (1, [.int 6, .int 0, .int 1, .int 0, .ref ac, .ref ak])), (ac, .inl (gI G, 6, .inl (fun _ => 0))), (ak, .inl (gI G, 4, .inl fk)), (h1, .inr (6, [.int 6, .ref a_maps, .int 0, .ref a_kinds, .int 0, .int 1, .ref a_part, .ref a_pad, .int 0, .ref a_slips, .int 0, .int 0, .ref a_queue, .ref a_depth, .ref a_by, .ref a_from, .int 0, .ref a_offOf, .ref a_parent, .ref a_best, .int 0, .int 0, .ref a_sums, .ref a_toward, .ref a_kept, .ref a_isKept, .int 0, .int 0])), (a_maps, .inl (gI G, 6, .inl fmm)), (a_kinds, .inl (gI G, 4, .inl fkm)), (a_part, .inl (gI G, 6, .inl fpm)), (a_pad, .inl (gI G, 40, .inl (fun _ => 0))), (a_slips, .inl (gI G, 10, .inl (fun _ => 0))), (a_kept, .inl (gI G, 80, .inl (fun _ => 0))), (a_isKept, .inl (gZ G, 2, .inl (fun _ => 0)))] H) (hD : va_D (fun q : Nat => s.heap.size ≤ q) [(h0, .inr (5, [.ref pad, .ref pp, .ref im, .null, .null])), (im, .inl (gP G, 2, .inr (.inr (.inr (.inr (fun _ => none)))))), (pad, .inr (0, [.ref sg, .ref sl, .int 0])), (sg, .inl (gI G, 40, .inl (fun _ => 0))), (sl, .inl (gI G, 10, .inl (fun _ => 0))), (pp, .inr (1, [.int 6, .int 0, .int 1, .int 0, .ref ac, .ref ak])), (ac, .inl (gI G, 6, .inl (fun _ => 0))), (ak, .inl (gI G, 4, .inl fk)), (h1, .inr (6, [.int 6, .ref a_maps, .int 0, .ref a_kinds, .int 0, .int 1, .ref a_part, .ref a_pad, .int 0, .ref a_slips, .int 0, .int 0, .ref a_queue, .ref a_depth, .ref a_by, .ref a_from, .int 0, .ref a_offOf, .ref a_parent, .ref a_best, .int 0, .int 0, .ref a_sums, .ref a_toward, .ref a_kept, .ref a_isKept, .int 0, .int 0])), (a_maps, .inl (gI G, 6, .inl fmm)), (a_kinds, .inl (gI G, 4, .inl fkm)), (a_part, .inl (gI G, 6, .inl fpm)), (a_pad, .inl (gI G, 40, .inl (fun _ => 0))), (a_slips, .inl (gI G, 10, .inl (fun _ => 0))), (a_kept, .inl (gI G, 80, .inl (fun _ => 0))), (a_isKept, .inl (gZ G, 2, .inl (fun _ => 0)))]) (hS : va_S (fun q : Nat => s.heap.size ≤ q) s.heap H locs) (hl : lv_has ls 4 [(3, .int 0), (2, .ref h1), (1, .ref h0), (0, .ref b)]) : W p l e room_1 s m #[Value.ref b] below meth c H locs 25 94050 (lw_Z below #[Value.ref b] s) (F0 m 424 ls []) := by
  have C0 := C
  obtain ⟨hx, hb, hr, hml, hown, hts0, hX, hbl, hlocks, hgv⟩ := C
  have hts : ∀ w ∈ wsL_law, w.before #[Value.ref b] s = true := fun w h => hts0 w (wsL_law_in w h)
  have hbA : ¬ (fun q : Nat => s.heap.size ≤ q) b := Nat.not_le.mpr hbl
  have hA : ∀ q : Nat, s.heap.size ≤ q → (fun q : Nat => s.heap.size ≤ q) q := fun _ h => h
  refine lv_aload_n hx hb dL_law_424 rfl (lv_at hl 2 rfl) ?_
  refine lv_aload_n hx hb dL_law_425 rfl (lv_at hl 3 rfl) ?_
  refine lv_iload_n hx hb dL_law_426 rfl (lv_at hl 0 rfl) ?_
  refine lv_iconst (v := 1) hx hb dL_law_427 (by decide) ?_
  refine lv_iadd hx hb dL_law_428 ?_
  refine lv_topi (fun x1 ex1 => ?_)
  obtain rfl : x1 = 1 := by rw [ex1]; decide
  refine va_sld hx hb hX hbl hbA hS (i := 1) (by rw [hL6]; unfold vp_in; decide) dL_law_429 ?_
  refine lv_topi (fun x2 ex2 => ?_)
  refine lv_aload_n hx hb dL_law_430 rfl (lv_at hl 3 rfl) ?_
  refine lv_iload_n hx hb dL_law_431 rfl (lv_at hl 0 rfl) ?_
  refine lv_iconst (v := 2) hx hb dL_law_432 (by decide) ?_
  refine lv_iadd hx hb dL_law_433 ?_
  refine lv_topi (fun x3 ex3 => ?_)
  obtain rfl : x3 = 2 := by rw [ex3]; decide
  refine va_sld hx hb hX hbl hbA hS (i := 2) (by rw [hL6]; unfold vp_in; decide) dL_law_434 ?_
  refine lv_topi (fun x4 ex4 => ?_)
  refine lv_aload_n hx hb dL_law_435 rfl (lv_at hl 3 rfl) ?_
  refine lv_iload_n hx hb dL_law_436 rfl (lv_at hl 0 rfl) ?_
  refine lv_iconst (v := 3) hx hb dL_law_437 (by decide) ?_
  refine lv_iadd hx hb dL_law_438 ?_
  refine lv_topi (fun x5 ex5 => ?_)
  obtain rfl : x5 = 3 := by rw [ex5]; decide
  refine va_sld hx hb hX hbl hbA hS (i := 3) (by rw [hL6]; unfold vp_in; decide) dL_law_439 ?_
  refine lv_topi (fun x6 ex6 => ?_)
  refine ca_i (wr := [(h1, .inr (6, [.int 6, .ref a_maps, .int 0, .ref a_kinds, .int 0, .int 1, .ref a_part, .ref a_pad, .int 0, .ref a_slips, .int 0, .int 0, .ref a_queue, .ref a_depth, .ref a_by, .ref a_from, .int 0, .ref a_offOf, .ref a_parent, .ref a_best, .int 0, .int 0, .ref a_sums, .ref a_toward, .ref a_kept, .ref a_isKept, .int 0, .int 0])), (a_maps, .inl (gI G, 6, .inl fmm)), (a_kinds, .inl (gI G, 4, .inl fkm)), (a_part, .inl (gI G, 6, .inl fpm)), (a_pad, .inl (gI G, 40, .inl (fun _ => 0))), (a_slips, .inl (gI G, 10, .inl (fun _ => 0))), (a_kept, .inl (gI G, 80, .inl (fun _ => 0))), (a_isKept, .inl (gZ G, 2, .inl (fun _ => 0)))]) (va_runV (As := [.int x2, .int x4, .int x6]) (rest := []) ⟨hx, hb, hml, hown, hts⟩ (f_who l G H.size h0 pad pp im sg sl ac ak fk x2 x4 x6 hk) (cwV 3 hts gL_law_X9_who rfl rfl rfl (by decide +kernel) ⟨by decide +kernel, by decide +kernel⟩) (pre_V E hP hD hS hA [0, 1, 2, 3, 4, 5, 6, 7] (by decide) rfl 0 5 rfl rfl) rfl rfl hl.1 rfl (lv_room (Nat.le_of_ble_eq_true rfl)) dL_law_440 ⟨by decide +kernel, by decide +kernel⟩) hS hP hD hA [0, 1, 2, 3, 4, 5, 6, 7] [8, 9, 10, 11, 12, 13, 14, 15] rfl rfl (by decide) (by decide) (fun r8 u9 H locs w7 hP hD hS => ?_)
  try dsimp only at w7 hP hD
  have hP := hP.sub (ws' := [(h1, .inr (6, [.int 6, .ref a_maps, .int 0, .ref a_kinds, .int 0, .int 1, .ref a_part, .ref a_pad, .int 0, .ref a_slips, .int 0, .int 0, .ref a_queue, .ref a_depth, .ref a_by, .ref a_from, .int 0, .ref a_offOf, .ref a_parent, .ref a_best, .int 0, .int 0, .ref a_sums, .ref a_toward, .ref a_kept, .ref a_isKept, .int 0, .int 0])), (a_maps, .inl (gI G, 6, .inl fmm)), (a_kinds, .inl (gI G, 4, .inl fkm)), (a_part, .inl (gI G, 6, .inl fpm)), (a_pad, .inl (gI G, 40, .inl (fun _ => 0))), (a_slips, .inl (gI G, 10, .inl (fun _ => 0))), (a_kept, .inl (gI G, 80, .inl (fun _ => 0))), (a_isKept, .inl (gZ G, 2, .inl (fun _ => 0)))]) [0, 1, 2, 3, 4, 5, 6, 7] rfl
  have hD := hD.sub (ws' := [(h1, .inr (6, [.int 6, .ref a_maps, .int 0, .ref a_kinds, .int 0, .int 1, .ref a_part, .ref a_pad, .int 0, .ref a_slips, .int 0, .int 0, .ref a_queue, .ref a_depth, .ref a_by, .ref a_from, .int 0, .ref a_offOf, .ref a_parent, .ref a_best, .int 0, .int 0, .ref a_sums, .ref a_toward, .ref a_kept, .ref a_isKept, .int 0, .int 0])), (a_maps, .inl (gI G, 6, .inl fmm)), (a_kinds, .inl (gI G, 4, .inl fkm)), (a_part, .inl (gI G, 6, .inl fpm)), (a_pad, .inl (gI G, 40, .inl (fun _ => 0))), (a_slips, .inl (gI G, 10, .inl (fun _ => 0))), (a_kept, .inl (gI G, 80, .inl (fun _ => 0))), (a_isKept, .inl (gZ G, 2, .inl (fun _ => 0)))]) [0, 1, 2, 3, 4, 5, 6, 7] (by decide) rfl
  refine lv_aload_n hx hb dL_law_443 rfl (lv_at hl 1 rfl) ?_
  refine lv_aload_n hx hb dL_law_444 rfl (lv_at hl 3 rfl) ?_
  refine lv_iload_n hx hb dL_law_445 rfl (lv_at hl 0 rfl) ?_
  refine lv_iconst (v := 1) hx hb dL_law_446 (by decide) ?_
  refine lv_iadd hx hb dL_law_447 ?_
  refine lv_topi (fun x10 ex10 => ?_)
  obtain rfl : x10 = 1 := by rw [ex10]; decide
  refine va_sld hx hb hX hbl hbA hS (i := 1) (by rw [hL6]; unfold vp_in; decide) dL_law_448 ?_
  refine lv_topi (fun x11 ex11 => ?_)
  refine lv_aload_n hx hb dL_law_449 rfl (lv_at hl 3 rfl) ?_
  refine lv_iload_n hx hb dL_law_450 rfl (lv_at hl 0 rfl) ?_
  refine lv_iconst (v := 2) hx hb dL_law_451 (by decide) ?_
  refine lv_iadd hx hb dL_law_452 ?_
  refine lv_topi (fun x12 ex12 => ?_)
  obtain rfl : x12 = 2 := by rw [ex12]; decide
  refine va_sld hx hb hX hbl hbA hS (i := 2) (by rw [hL6]; unfold vp_in; decide) dL_law_453 ?_
  refine lv_topi (fun x13 ex13 => ?_)
  refine lv_aload_n hx hb dL_law_454 rfl (lv_at hl 3 rfl) ?_
  refine lv_iload_n hx hb dL_law_455 rfl (lv_at hl 0 rfl) ?_
  refine lv_iconst (v := 3) hx hb dL_law_456 (by decide) ?_
  refine lv_iadd hx hb dL_law_457 ?_
  refine lv_topi (fun x14 ex14 => ?_)
  obtain rfl : x14 = 3 := by rw [ex14]; decide
  refine va_sld hx hb hX hbl hbA hS (i := 3) (by rw [hL6]; unfold vp_in; decide) dL_law_458 ?_
  refine lv_topi (fun x15 ex15 => ?_)
  refine ca_i (wr := []) (va_runV (As := [.int x11, .int x13, .int x15]) (rest := [.int r8]) ⟨hx, hb, hml, hown, hts⟩ (g_who l G H.size h1 a_maps a_kinds a_part a_pad a_slips a_queue a_depth a_by a_from a_offOf a_parent a_best a_sums a_toward a_kept a_isKept fmm fkm fpm x11 x13 x15 hkm hpm) (cwV 3 hts gL_law_X10_who rfl rfl rfl (by decide +kernel) ⟨by decide +kernel, by decide +kernel⟩) (pre_V E hP hD hS hA [0, 1, 2, 3, 4, 5, 6, 7] (by decide) rfl 0 6 rfl rfl) rfl rfl hl.1 rfl (lv_room (Nat.le_of_ble_eq_true rfl)) dL_law_459 ⟨by decide +kernel, by decide +kernel⟩) hS hP hD hA [0, 1, 2, 3, 4, 5, 6, 7] [] rfl rfl (by decide) (by decide) (fun r17 u18 H locs w16 hP hD hS => ?_)
  try dsimp only at w16 hP hD
  have hP := hP.sub (ws' := []) [] rfl
  have hD := hD.sub (ws' := []) [] (by decide) rfl
  refine lv_icmp_eq (tgt := 926) hx hb dL_law_462 (by decide) (fun c19 => ?_) (fun c19 => absurd (by rw [w7, w16]; simp only [ex2, ex4, ex6, ex11, ex13, ex15]) c19)
  refine lv_iinc (v := 6) (lv' := [(3, .int 6), (2, .ref h1), (1, .ref h0), (0, .ref b)]) hx hb dL_law_926 hl (k := 0) rfl (by decide) (by decide) rfl (fun ls hl => ?_)
  refine lv_goto (tgt := 18) hx hb dL_law_929 (by decide) ?_
  refine W.widen (k := 600000) (n := 7302249) (by decide +kernel) (by decide +kernel) ?_
  exact law_end hL C0 hS (lv_sub hl [0, 3] rfl)

set_option maxHeartbeats 1000000 in
set_option maxRecDepth 100000 in
theorem law_between {p : Program} {l : Launch} {e : Env} {s : State} {m : MethodId} {below : List Frame} {meth : Method} {c : Code} {b L : Nat} {xs : Nat → Int32} {G : Gy} {h0 : Nat} {pad : Nat} {pp : Nat} {im : Nat} {sg : Nat} {sl : Nat} {ac : Nat} {ak : Nat} {fk : Nat → Int32} {h1 : Nat} {a_maps : Nat} {a_kinds : Nat} {a_part : Nat} {a_pad : Nat} {a_slips : Nat} {a_queue : Nat} {a_depth : Nat} {a_by : Nat} {a_from : Nat} {a_offOf : Nat} {a_parent : Nat} {a_best : Nat} {a_sums : Nat} {a_toward : Nat} {a_kept : Nat} {a_isKept : Nat} {fmm : Nat → Int32} {fkm : Nat → Int32} {fpm : Nat → Int32} (hL : L ≤ 6) (hL6 : L = 6) (C : lw_At p s m meth c b L xs) (E : EV G (fun q : Nat => s.heap.size ≤ q) s s.heap) (hk : ∀ j : Nat, j < 4 → fk j = 15) (hkm : ∀ j : Nat, j < 4 → fkm j = 15) (hpm : ∀ j : Nat, j < 6 → ¬ fpm j = 0) {H : Heap} {locs : List Loc} {ls : Array Slot} (hP : va_P G.1 vwCl [(h0, .inr (5, [.ref pad, .ref pp, .ref im, .null, .null])), (im, .inl (gP G, 2, .inr (.inr (.inr (.inr (fun _ => none)))))), (pad, .inr (0, [.ref sg, .ref sl, .int 0])), (sg, .inl (gI G, 40, .inl (fun _ => 0))), (sl, .inl (gI G, 10, .inl (fun _ => 0))), (pp, .inr (1, [.int 6, .int 0, .int 1, .int 0, .ref ac, .ref ak])), (ac, .inl (gI G, 6, .inl (fun _ => 0))), (ak, .inl (gI G, 4, .inl fk)), (h1, .inr (6, [.int 6, .ref a_maps, .int 0, .ref a_kinds, .int 0, .int 1, .ref a_part, .ref a_pad, .int 0, .ref a_slips, .int 0, .int 0, .ref a_queue, .ref a_depth, .ref a_by, .ref a_from, .int 0, .ref a_offOf, .ref a_parent, .ref a_best, .int 0, .int 0, .ref a_sums, .ref a_toward, .ref a_kept, .ref a_isKept, .int 0, .int 0])), (a_maps, .inl (gI G, 6, .inl fmm)), (a_kinds, .inl (gI G, 4, .inl fkm)), (a_part, .inl (gI G, 6, .inl fpm)), (a_pad, .inl (gI G, 40, .inl (fun _ => 0))), (a_slips, .inl (gI G, 10, .inl (fun _ => 0))), (a_kept, .inl (gI G, 80, .inl (fun _ => 0))), (a_isKept, .inl (gZ G, 2, .inl (fun _ => 0)))] H) (hD : va_D (fun q : Nat => s.heap.size ≤ q) [(h0, .inr (5, [.ref pad, .ref pp, .ref im, .null, .null])), (im, .inl (gP G, 2, .inr (.inr (.inr (.inr (fun _ => none)))))), (pad, .inr (0, [.ref sg, .ref sl, .int 0])), (sg, .inl (gI G, 40, .inl (fun _ => 0))), (sl, .inl (gI G, 10, .inl (fun _ => 0))), (pp, .inr (1, [.int 6, .int 0, .int 1, .int 0, .ref ac, .ref ak])), (ac, .inl (gI G, 6, .inl (fun _ => 0))), (ak, .inl (gI G, 4, .inl fk)), (h1, .inr (6, [.int 6, .ref a_maps, .int 0, .ref a_kinds, .int 0, .int 1, .ref a_part, .ref a_pad, .int 0, .ref a_slips, .int 0, .int 0, .ref a_queue, .ref a_depth, .ref a_by, .ref a_from, .int 0, .ref a_offOf, .ref a_parent, .ref a_best, .int 0, .int 0, .ref a_sums, .ref a_toward, .ref a_kept, .ref a_isKept, .int 0, .int 0])), (a_maps, .inl (gI G, 6, .inl fmm)), (a_kinds, .inl (gI G, 4, .inl fkm)), (a_part, .inl (gI G, 6, .inl fpm)), (a_pad, .inl (gI G, 40, .inl (fun _ => 0))), (a_slips, .inl (gI G, 10, .inl (fun _ => 0))), (a_kept, .inl (gI G, 80, .inl (fun _ => 0))), (a_isKept, .inl (gZ G, 2, .inl (fun _ => 0)))]) (hS : va_S (fun q : Nat => s.heap.size ≤ q) s.heap H locs) (hl : lv_has ls 4 [(3, .int 0), (2, .ref h1), (1, .ref h0), (0, .ref b)]) : W p l e room_1 s m #[Value.ref b] below meth c H locs 25 94050 (lw_Z below #[Value.ref b] s) (F0 m 467 ls []) := by
  have C0 := C
  obtain ⟨hx, hb, hr, hml, hown, hts0, hX, hbl, hlocks, hgv⟩ := C
  have hts : ∀ w ∈ wsL_law, w.before #[Value.ref b] s = true := fun w h => hts0 w (wsL_law_in w h)
  have hbA : ¬ (fun q : Nat => s.heap.size ≤ q) b := Nat.not_le.mpr hbl
  have hA : ∀ q : Nat, s.heap.size ≤ q → (fun q : Nat => s.heap.size ≤ q) q := fun _ h => h
  refine lv_aload_n hx hb dL_law_467 rfl (lv_at hl 2 rfl) ?_
  refine lv_aload_n hx hb dL_law_468 rfl (lv_at hl 3 rfl) ?_
  refine lv_iload_n hx hb dL_law_469 rfl (lv_at hl 0 rfl) ?_
  refine lv_iconst (v := 1) hx hb dL_law_470 (by decide) ?_
  refine lv_iadd hx hb dL_law_471 ?_
  refine lv_topi (fun x1 ex1 => ?_)
  obtain rfl : x1 = 1 := by rw [ex1]; decide
  refine va_sld hx hb hX hbl hbA hS (i := 1) (by rw [hL6]; unfold vp_in; decide) dL_law_472 ?_
  refine lv_topi (fun x2 ex2 => ?_)
  refine lv_aload_n hx hb dL_law_473 rfl (lv_at hl 3 rfl) ?_
  refine lv_iload_n hx hb dL_law_474 rfl (lv_at hl 0 rfl) ?_
  refine lv_iconst (v := 2) hx hb dL_law_475 (by decide) ?_
  refine lv_iadd hx hb dL_law_476 ?_
  refine lv_topi (fun x3 ex3 => ?_)
  obtain rfl : x3 = 2 := by rw [ex3]; decide
  refine va_sld hx hb hX hbl hbA hS (i := 2) (by rw [hL6]; unfold vp_in; decide) dL_law_477 ?_
  refine lv_topi (fun x4 ex4 => ?_)
  refine lv_aload_n hx hb dL_law_478 rfl (lv_at hl 3 rfl) ?_
  refine lv_iload_n hx hb dL_law_479 rfl (lv_at hl 0 rfl) ?_
  refine lv_iconst (v := 3) hx hb dL_law_480 (by decide) ?_
  refine lv_iadd hx hb dL_law_481 ?_
  refine lv_topi (fun x5 ex5 => ?_)
  obtain rfl : x5 = 3 := by rw [ex5]; decide
  refine va_sld hx hb hX hbl hbA hS (i := 3) (by rw [hL6]; unfold vp_in; decide) dL_law_482 ?_
  refine lv_topi (fun x6 ex6 => ?_)
  refine lv_aload_n hx hb dL_law_483 rfl (lv_at hl 3 rfl) ?_
  refine lv_iload_n hx hb dL_law_484 rfl (lv_at hl 0 rfl) ?_
  refine lv_iconst (v := 4) hx hb dL_law_485 (by decide) ?_
  refine lv_iadd hx hb dL_law_486 ?_
  refine lv_topi (fun x7 ex7 => ?_)
  obtain rfl : x7 = 4 := by rw [ex7]; decide
  refine va_sld hx hb hX hbl hbA hS (i := 4) (by rw [hL6]; unfold vp_in; decide) dL_law_487 ?_
  refine lv_topi (fun x8 ex8 => ?_)
  refine ca_i (wr := [(h1, .inr (6, [.int 6, .ref a_maps, .int 0, .ref a_kinds, .int 0, .int 1, .ref a_part, .ref a_pad, .int 0, .ref a_slips, .int 0, .int 0, .ref a_queue, .ref a_depth, .ref a_by, .ref a_from, .int 0, .ref a_offOf, .ref a_parent, .ref a_best, .int 0, .int 0, .ref a_sums, .ref a_toward, .ref a_kept, .ref a_isKept, .int 0, .int 0])), (a_maps, .inl (gI G, 6, .inl fmm)), (a_kinds, .inl (gI G, 4, .inl fkm)), (a_part, .inl (gI G, 6, .inl fpm)), (a_pad, .inl (gI G, 40, .inl (fun _ => 0))), (a_slips, .inl (gI G, 10, .inl (fun _ => 0))), (a_kept, .inl (gI G, 80, .inl (fun _ => 0))), (a_isKept, .inl (gZ G, 2, .inl (fun _ => 0)))]) (va_runV (As := [.int x2, .int x4, .int x6, .int x8]) (rest := []) ⟨hx, hb, hml, hown, hts⟩ (f_between l G H.size h0 pad pp im sg sl ac ak fk x2 x4 x6 x8 hk) (cwV 4 hts gL_law_X9_between rfl rfl rfl (by decide +kernel) ⟨by decide +kernel, by decide +kernel⟩) (pre_V E hP hD hS hA [0, 1, 2, 3, 4, 5, 6, 7] (by decide) rfl 0 5 rfl rfl) rfl rfl hl.1 rfl (lv_room (Nat.le_of_ble_eq_true rfl)) dL_law_488 ⟨by decide +kernel, by decide +kernel⟩) hS hP hD hA [0, 1, 2, 3, 4, 5, 6, 7] [8, 9, 10, 11, 12, 13, 14, 15] rfl rfl (by decide) (by decide) (fun r10 u11 H locs w9 hP hD hS => ?_)
  try dsimp only at w9 hP hD
  have hP := hP.sub (ws' := [(h1, .inr (6, [.int 6, .ref a_maps, .int 0, .ref a_kinds, .int 0, .int 1, .ref a_part, .ref a_pad, .int 0, .ref a_slips, .int 0, .int 0, .ref a_queue, .ref a_depth, .ref a_by, .ref a_from, .int 0, .ref a_offOf, .ref a_parent, .ref a_best, .int 0, .int 0, .ref a_sums, .ref a_toward, .ref a_kept, .ref a_isKept, .int 0, .int 0])), (a_maps, .inl (gI G, 6, .inl fmm)), (a_kinds, .inl (gI G, 4, .inl fkm)), (a_part, .inl (gI G, 6, .inl fpm)), (a_pad, .inl (gI G, 40, .inl (fun _ => 0))), (a_slips, .inl (gI G, 10, .inl (fun _ => 0))), (a_kept, .inl (gI G, 80, .inl (fun _ => 0))), (a_isKept, .inl (gZ G, 2, .inl (fun _ => 0)))]) [0, 1, 2, 3, 4, 5, 6, 7] rfl
  have hD := hD.sub (ws' := [(h1, .inr (6, [.int 6, .ref a_maps, .int 0, .ref a_kinds, .int 0, .int 1, .ref a_part, .ref a_pad, .int 0, .ref a_slips, .int 0, .int 0, .ref a_queue, .ref a_depth, .ref a_by, .ref a_from, .int 0, .ref a_offOf, .ref a_parent, .ref a_best, .int 0, .int 0, .ref a_sums, .ref a_toward, .ref a_kept, .ref a_isKept, .int 0, .int 0])), (a_maps, .inl (gI G, 6, .inl fmm)), (a_kinds, .inl (gI G, 4, .inl fkm)), (a_part, .inl (gI G, 6, .inl fpm)), (a_pad, .inl (gI G, 40, .inl (fun _ => 0))), (a_slips, .inl (gI G, 10, .inl (fun _ => 0))), (a_kept, .inl (gI G, 80, .inl (fun _ => 0))), (a_isKept, .inl (gZ G, 2, .inl (fun _ => 0)))]) [0, 1, 2, 3, 4, 5, 6, 7] (by decide) rfl
  refine lv_aload_n hx hb dL_law_491 rfl (lv_at hl 1 rfl) ?_
  refine lv_aload_n hx hb dL_law_492 rfl (lv_at hl 3 rfl) ?_
  refine lv_iload_n hx hb dL_law_493 rfl (lv_at hl 0 rfl) ?_
  refine lv_iconst (v := 1) hx hb dL_law_494 (by decide) ?_
  refine lv_iadd hx hb dL_law_495 ?_
  refine lv_topi (fun x12 ex12 => ?_)
  obtain rfl : x12 = 1 := by rw [ex12]; decide
  refine va_sld hx hb hX hbl hbA hS (i := 1) (by rw [hL6]; unfold vp_in; decide) dL_law_496 ?_
  refine lv_topi (fun x13 ex13 => ?_)
  refine lv_aload_n hx hb dL_law_497 rfl (lv_at hl 3 rfl) ?_
  refine lv_iload_n hx hb dL_law_498 rfl (lv_at hl 0 rfl) ?_
  refine lv_iconst (v := 2) hx hb dL_law_499 (by decide) ?_
  refine lv_iadd hx hb dL_law_500 ?_
  refine lv_topi (fun x14 ex14 => ?_)
  obtain rfl : x14 = 2 := by rw [ex14]; decide
  refine va_sld hx hb hX hbl hbA hS (i := 2) (by rw [hL6]; unfold vp_in; decide) dL_law_501 ?_
  refine lv_topi (fun x15 ex15 => ?_)
  refine lv_aload_n hx hb dL_law_502 rfl (lv_at hl 3 rfl) ?_
  refine lv_iload_n hx hb dL_law_503 rfl (lv_at hl 0 rfl) ?_
  refine lv_iconst (v := 3) hx hb dL_law_504 (by decide) ?_
  refine lv_iadd hx hb dL_law_505 ?_
  refine lv_topi (fun x16 ex16 => ?_)
  obtain rfl : x16 = 3 := by rw [ex16]; decide
  refine va_sld hx hb hX hbl hbA hS (i := 3) (by rw [hL6]; unfold vp_in; decide) dL_law_506 ?_
  refine lv_topi (fun x17 ex17 => ?_)
  refine lv_aload_n hx hb dL_law_507 rfl (lv_at hl 3 rfl) ?_
  refine lv_iload_n hx hb dL_law_508 rfl (lv_at hl 0 rfl) ?_
  refine lv_iconst (v := 4) hx hb dL_law_509 (by decide) ?_
  refine lv_iadd hx hb dL_law_510 ?_
  refine lv_topi (fun x18 ex18 => ?_)
  obtain rfl : x18 = 4 := by rw [ex18]; decide
  refine va_sld hx hb hX hbl hbA hS (i := 4) (by rw [hL6]; unfold vp_in; decide) dL_law_511 ?_
  refine lv_topi (fun x19 ex19 => ?_)
  refine ca_i (wr := []) (va_runV (As := [.int x13, .int x15, .int x17, .int x19]) (rest := [.int r10]) ⟨hx, hb, hml, hown, hts⟩ (g_between l G H.size h1 a_maps a_kinds a_part a_pad a_slips a_queue a_depth a_by a_from a_offOf a_parent a_best a_sums a_toward a_kept a_isKept fmm fkm fpm x13 x15 x17 x19 hkm hpm) (cwV 4 hts gL_law_X10_between rfl rfl rfl (by decide +kernel) ⟨by decide +kernel, by decide +kernel⟩) (pre_V E hP hD hS hA [0, 1, 2, 3, 4, 5, 6, 7] (by decide) rfl 0 6 rfl rfl) rfl rfl hl.1 rfl (lv_room (Nat.le_of_ble_eq_true rfl)) dL_law_512 ⟨by decide +kernel, by decide +kernel⟩) hS hP hD hA [0, 1, 2, 3, 4, 5, 6, 7] [] rfl rfl (by decide) (by decide) (fun r21 u22 H locs w20 hP hD hS => ?_)
  try dsimp only at w20 hP hD
  have hP := hP.sub (ws' := []) [] rfl
  have hD := hD.sub (ws' := []) [] (by decide) rfl
  refine lv_icmp_eq (tgt := 926) hx hb dL_law_515 (by decide) (fun c23 => ?_) (fun c23 => absurd (by rw [w9, w20]; simp only [ex2, ex4, ex6, ex8, ex13, ex15, ex17, ex19]) c23)
  refine lv_iinc (v := 6) (lv' := [(3, .int 6), (2, .ref h1), (1, .ref h0), (0, .ref b)]) hx hb dL_law_926 hl (k := 0) rfl (by decide) (by decide) rfl (fun ls hl => ?_)
  refine lv_goto (tgt := 18) hx hb dL_law_929 (by decide) ?_
  refine W.widen (k := 600000) (n := 7302249) (by decide +kernel) (by decide +kernel) ?_
  exact law_end hL C0 hS (lv_sub hl [0, 3] rfl)

set_option maxHeartbeats 1000000 in
set_option maxRecDepth 100000 in
theorem law_tree {p : Program} {l : Launch} {e : Env} {s : State} {m : MethodId} {below : List Frame} {meth : Method} {c : Code} {b L : Nat} {xs : Nat → Int32} {G : Gy} {h0 : Nat} {pad : Nat} {pp : Nat} {im : Nat} {sg : Nat} {sl : Nat} {ac : Nat} {ak : Nat} {fk : Nat → Int32} {h1 : Nat} {a_maps : Nat} {a_kinds : Nat} {a_part : Nat} {a_pad : Nat} {a_slips : Nat} {a_queue : Nat} {a_depth : Nat} {a_by : Nat} {a_from : Nat} {a_offOf : Nat} {a_parent : Nat} {a_best : Nat} {a_sums : Nat} {a_toward : Nat} {a_kept : Nat} {a_isKept : Nat} {fmm : Nat → Int32} {fkm : Nat → Int32} {fpm : Nat → Int32} (hL : L ≤ 6) (hL6 : L = 6) (C : lw_At p s m meth c b L xs) (E : EV G (fun q : Nat => s.heap.size ≤ q) s s.heap) (hk : ∀ j : Nat, j < 4 → fk j = 15) (hkm : ∀ j : Nat, j < 4 → fkm j = 15) (hpm : ∀ j : Nat, j < 6 → ¬ fpm j = 0) {H : Heap} {locs : List Loc} {ls : Array Slot} (hP : va_P G.1 vwCl [(h0, .inr (5, [.ref pad, .ref pp, .ref im, .null, .null])), (im, .inl (gP G, 2, .inr (.inr (.inr (.inr (fun _ => none)))))), (pad, .inr (0, [.ref sg, .ref sl, .int 0])), (sg, .inl (gI G, 40, .inl (fun _ => 0))), (sl, .inl (gI G, 10, .inl (fun _ => 0))), (pp, .inr (1, [.int 6, .int 0, .int 1, .int 0, .ref ac, .ref ak])), (ac, .inl (gI G, 6, .inl (fun _ => 0))), (ak, .inl (gI G, 4, .inl fk)), (h1, .inr (6, [.int 6, .ref a_maps, .int 0, .ref a_kinds, .int 0, .int 1, .ref a_part, .ref a_pad, .int 0, .ref a_slips, .int 0, .int 0, .ref a_queue, .ref a_depth, .ref a_by, .ref a_from, .int 0, .ref a_offOf, .ref a_parent, .ref a_best, .int 0, .int 0, .ref a_sums, .ref a_toward, .ref a_kept, .ref a_isKept, .int 0, .int 0])), (a_maps, .inl (gI G, 6, .inl fmm)), (a_kinds, .inl (gI G, 4, .inl fkm)), (a_part, .inl (gI G, 6, .inl fpm)), (a_pad, .inl (gI G, 40, .inl (fun _ => 0))), (a_slips, .inl (gI G, 10, .inl (fun _ => 0))), (a_kept, .inl (gI G, 80, .inl (fun _ => 0))), (a_isKept, .inl (gZ G, 2, .inl (fun _ => 0)))] H) (hD : va_D (fun q : Nat => s.heap.size ≤ q) [(h0, .inr (5, [.ref pad, .ref pp, .ref im, .null, .null])), (im, .inl (gP G, 2, .inr (.inr (.inr (.inr (fun _ => none)))))), (pad, .inr (0, [.ref sg, .ref sl, .int 0])), (sg, .inl (gI G, 40, .inl (fun _ => 0))), (sl, .inl (gI G, 10, .inl (fun _ => 0))), (pp, .inr (1, [.int 6, .int 0, .int 1, .int 0, .ref ac, .ref ak])), (ac, .inl (gI G, 6, .inl (fun _ => 0))), (ak, .inl (gI G, 4, .inl fk)), (h1, .inr (6, [.int 6, .ref a_maps, .int 0, .ref a_kinds, .int 0, .int 1, .ref a_part, .ref a_pad, .int 0, .ref a_slips, .int 0, .int 0, .ref a_queue, .ref a_depth, .ref a_by, .ref a_from, .int 0, .ref a_offOf, .ref a_parent, .ref a_best, .int 0, .int 0, .ref a_sums, .ref a_toward, .ref a_kept, .ref a_isKept, .int 0, .int 0])), (a_maps, .inl (gI G, 6, .inl fmm)), (a_kinds, .inl (gI G, 4, .inl fkm)), (a_part, .inl (gI G, 6, .inl fpm)), (a_pad, .inl (gI G, 40, .inl (fun _ => 0))), (a_slips, .inl (gI G, 10, .inl (fun _ => 0))), (a_kept, .inl (gI G, 80, .inl (fun _ => 0))), (a_isKept, .inl (gZ G, 2, .inl (fun _ => 0)))]) (hS : va_S (fun q : Nat => s.heap.size ≤ q) s.heap H locs) (hl : lv_has ls 4 [(3, .int 0), (2, .ref h1), (1, .ref h0), (0, .ref b)]) : W p l e room_1 s m #[Value.ref b] below meth c H locs 25 94050 (lw_Z below #[Value.ref b] s) (F0 m 520 ls []) := by
  have C0 := C
  obtain ⟨hx, hb, hr, hml, hown, hts0, hX, hbl, hlocks, hgv⟩ := C
  have hts : ∀ w ∈ wsL_law, w.before #[Value.ref b] s = true := fun w h => hts0 w (wsL_law_in w h)
  have hbA : ¬ (fun q : Nat => s.heap.size ≤ q) b := Nat.not_le.mpr hbl
  have hA : ∀ q : Nat, s.heap.size ≤ q → (fun q : Nat => s.heap.size ≤ q) q := fun _ h => h
  refine lv_aload_n hx hb dL_law_520 rfl (lv_at hl 2 rfl) ?_
  refine lv_aload_n hx hb dL_law_521 rfl (lv_at hl 3 rfl) ?_
  refine lv_iload_n hx hb dL_law_522 rfl (lv_at hl 0 rfl) ?_
  refine lv_iconst (v := 1) hx hb dL_law_523 (by decide) ?_
  refine lv_iadd hx hb dL_law_524 ?_
  refine lv_topi (fun x1 ex1 => ?_)
  obtain rfl : x1 = 1 := by rw [ex1]; decide
  refine va_sld hx hb hX hbl hbA hS (i := 1) (by rw [hL6]; unfold vp_in; decide) dL_law_525 ?_
  refine lv_topi (fun x2 ex2 => ?_)
  refine lv_aload_n hx hb dL_law_526 rfl (lv_at hl 3 rfl) ?_
  refine lv_iload_n hx hb dL_law_527 rfl (lv_at hl 0 rfl) ?_
  refine lv_iconst (v := 2) hx hb dL_law_528 (by decide) ?_
  refine lv_iadd hx hb dL_law_529 ?_
  refine lv_topi (fun x3 ex3 => ?_)
  obtain rfl : x3 = 2 := by rw [ex3]; decide
  refine va_sld hx hb hX hbl hbA hS (i := 2) (by rw [hL6]; unfold vp_in; decide) dL_law_530 ?_
  refine lv_topi (fun x4 ex4 => ?_)
  refine lv_aload_n hx hb dL_law_531 rfl (lv_at hl 3 rfl) ?_
  refine lv_iload_n hx hb dL_law_532 rfl (lv_at hl 0 rfl) ?_
  refine lv_iconst (v := 3) hx hb dL_law_533 (by decide) ?_
  refine lv_iadd hx hb dL_law_534 ?_
  refine lv_topi (fun x5 ex5 => ?_)
  obtain rfl : x5 = 3 := by rw [ex5]; decide
  refine va_sld hx hb hX hbl hbA hS (i := 3) (by rw [hL6]; unfold vp_in; decide) dL_law_535 ?_
  refine lv_topi (fun x6 ex6 => ?_)
  refine ca_i (wr := [(h1, .inr (6, [.int 6, .ref a_maps, .int 0, .ref a_kinds, .int 0, .int 1, .ref a_part, .ref a_pad, .int 0, .ref a_slips, .int 0, .int 0, .ref a_queue, .ref a_depth, .ref a_by, .ref a_from, .int 0, .ref a_offOf, .ref a_parent, .ref a_best, .int 0, .int 0, .ref a_sums, .ref a_toward, .ref a_kept, .ref a_isKept, .int 0, .int 0])), (a_maps, .inl (gI G, 6, .inl fmm)), (a_kinds, .inl (gI G, 4, .inl fkm)), (a_part, .inl (gI G, 6, .inl fpm)), (a_pad, .inl (gI G, 40, .inl (fun _ => 0))), (a_slips, .inl (gI G, 10, .inl (fun _ => 0))), (a_kept, .inl (gI G, 80, .inl (fun _ => 0))), (a_isKept, .inl (gZ G, 2, .inl (fun _ => 0)))]) (va_runV (As := [.int x2, .int x4, .int x6]) (rest := []) ⟨hx, hb, hml, hown, hts⟩ (f_tree l G H.size h0 pad pp im sg sl ac ak fk x2 x4 x6 hk) (cwV 3 hts gL_law_X9_tree rfl rfl rfl (by decide +kernel) ⟨by decide +kernel, by decide +kernel⟩) (pre_V E hP hD hS hA [0, 1, 2, 3, 4, 5, 6, 7] (by decide) rfl 0 5 rfl rfl) rfl rfl hl.1 rfl (lv_room (Nat.le_of_ble_eq_true rfl)) dL_law_536 ⟨by decide +kernel, by decide +kernel⟩) hS hP hD hA [0, 1, 2, 3, 4, 5, 6, 7] [8, 9, 10, 11, 12, 13, 14, 15] rfl rfl (by decide) (by decide) (fun r8 u9 H locs w7 hP hD hS => ?_)
  try dsimp only at w7 hP hD
  have hP := hP.sub (ws' := [(h1, .inr (6, [.int 6, .ref a_maps, .int 0, .ref a_kinds, .int 0, .int 1, .ref a_part, .ref a_pad, .int 0, .ref a_slips, .int 0, .int 0, .ref a_queue, .ref a_depth, .ref a_by, .ref a_from, .int 0, .ref a_offOf, .ref a_parent, .ref a_best, .int 0, .int 0, .ref a_sums, .ref a_toward, .ref a_kept, .ref a_isKept, .int 0, .int 0])), (a_maps, .inl (gI G, 6, .inl fmm)), (a_kinds, .inl (gI G, 4, .inl fkm)), (a_part, .inl (gI G, 6, .inl fpm)), (a_pad, .inl (gI G, 40, .inl (fun _ => 0))), (a_slips, .inl (gI G, 10, .inl (fun _ => 0))), (a_kept, .inl (gI G, 80, .inl (fun _ => 0))), (a_isKept, .inl (gZ G, 2, .inl (fun _ => 0)))]) [0, 1, 2, 3, 4, 5, 6, 7] rfl
  have hD := hD.sub (ws' := [(h1, .inr (6, [.int 6, .ref a_maps, .int 0, .ref a_kinds, .int 0, .int 1, .ref a_part, .ref a_pad, .int 0, .ref a_slips, .int 0, .int 0, .ref a_queue, .ref a_depth, .ref a_by, .ref a_from, .int 0, .ref a_offOf, .ref a_parent, .ref a_best, .int 0, .int 0, .ref a_sums, .ref a_toward, .ref a_kept, .ref a_isKept, .int 0, .int 0])), (a_maps, .inl (gI G, 6, .inl fmm)), (a_kinds, .inl (gI G, 4, .inl fkm)), (a_part, .inl (gI G, 6, .inl fpm)), (a_pad, .inl (gI G, 40, .inl (fun _ => 0))), (a_slips, .inl (gI G, 10, .inl (fun _ => 0))), (a_kept, .inl (gI G, 80, .inl (fun _ => 0))), (a_isKept, .inl (gZ G, 2, .inl (fun _ => 0)))]) [0, 1, 2, 3, 4, 5, 6, 7] (by decide) rfl
  refine lv_aload_n hx hb dL_law_539 rfl (lv_at hl 1 rfl) ?_
  refine lv_aload_n hx hb dL_law_540 rfl (lv_at hl 3 rfl) ?_
  refine lv_iload_n hx hb dL_law_541 rfl (lv_at hl 0 rfl) ?_
  refine lv_iconst (v := 1) hx hb dL_law_542 (by decide) ?_
  refine lv_iadd hx hb dL_law_543 ?_
  refine lv_topi (fun x10 ex10 => ?_)
  obtain rfl : x10 = 1 := by rw [ex10]; decide
  refine va_sld hx hb hX hbl hbA hS (i := 1) (by rw [hL6]; unfold vp_in; decide) dL_law_544 ?_
  refine lv_topi (fun x11 ex11 => ?_)
  refine lv_aload_n hx hb dL_law_545 rfl (lv_at hl 3 rfl) ?_
  refine lv_iload_n hx hb dL_law_546 rfl (lv_at hl 0 rfl) ?_
  refine lv_iconst (v := 2) hx hb dL_law_547 (by decide) ?_
  refine lv_iadd hx hb dL_law_548 ?_
  refine lv_topi (fun x12 ex12 => ?_)
  obtain rfl : x12 = 2 := by rw [ex12]; decide
  refine va_sld hx hb hX hbl hbA hS (i := 2) (by rw [hL6]; unfold vp_in; decide) dL_law_549 ?_
  refine lv_topi (fun x13 ex13 => ?_)
  refine lv_aload_n hx hb dL_law_550 rfl (lv_at hl 3 rfl) ?_
  refine lv_iload_n hx hb dL_law_551 rfl (lv_at hl 0 rfl) ?_
  refine lv_iconst (v := 3) hx hb dL_law_552 (by decide) ?_
  refine lv_iadd hx hb dL_law_553 ?_
  refine lv_topi (fun x14 ex14 => ?_)
  obtain rfl : x14 = 3 := by rw [ex14]; decide
  refine va_sld hx hb hX hbl hbA hS (i := 3) (by rw [hL6]; unfold vp_in; decide) dL_law_554 ?_
  refine lv_topi (fun x15 ex15 => ?_)
  refine ca_i (wr := []) (va_runV (As := [.int x11, .int x13, .int x15]) (rest := [.int r8]) ⟨hx, hb, hml, hown, hts⟩ (g_tree l G H.size h1 a_maps a_kinds a_part a_pad a_slips a_queue a_depth a_by a_from a_offOf a_parent a_best a_sums a_toward a_kept a_isKept fmm fkm fpm x11 x13 x15 hkm hpm) (cwV 3 hts gL_law_X10_tree rfl rfl rfl (by decide +kernel) ⟨by decide +kernel, by decide +kernel⟩) (pre_V E hP hD hS hA [0, 1, 2, 3, 4, 5, 6, 7] (by decide) rfl 0 6 rfl rfl) rfl rfl hl.1 rfl (lv_room (Nat.le_of_ble_eq_true rfl)) dL_law_555 ⟨by decide +kernel, by decide +kernel⟩) hS hP hD hA [0, 1, 2, 3, 4, 5, 6, 7] [] rfl rfl (by decide) (by decide) (fun r17 u18 H locs w16 hP hD hS => ?_)
  try dsimp only at w16 hP hD
  have hP := hP.sub (ws' := []) [] rfl
  have hD := hD.sub (ws' := []) [] (by decide) rfl
  refine lv_icmp_eq (tgt := 926) hx hb dL_law_558 (by decide) (fun c19 => ?_) (fun c19 => absurd (by rw [w7, w16]; simp only [ex2, ex4, ex6, ex11, ex13, ex15]) c19)
  refine lv_iinc (v := 6) (lv' := [(3, .int 6), (2, .ref h1), (1, .ref h0), (0, .ref b)]) hx hb dL_law_926 hl (k := 0) rfl (by decide) (by decide) rfl (fun ls hl => ?_)
  refine lv_goto (tgt := 18) hx hb dL_law_929 (by decide) ?_
  refine W.widen (k := 600000) (n := 7302249) (by decide +kernel) (by decide +kernel) ?_
  exact law_end hL C0 hS (lv_sub hl [0, 3] rfl)

set_option maxHeartbeats 1000000 in
set_option maxRecDepth 100000 in
theorem law_lost {p : Program} {l : Launch} {e : Env} {s : State} {m : MethodId} {below : List Frame} {meth : Method} {c : Code} {b L : Nat} {xs : Nat → Int32} {G : Gy} {h0 : Nat} {pad : Nat} {pp : Nat} {im : Nat} {sg : Nat} {sl : Nat} {ac : Nat} {ak : Nat} {fk : Nat → Int32} {h1 : Nat} {a_maps : Nat} {a_kinds : Nat} {a_part : Nat} {a_pad : Nat} {a_slips : Nat} {a_queue : Nat} {a_depth : Nat} {a_by : Nat} {a_from : Nat} {a_offOf : Nat} {a_parent : Nat} {a_best : Nat} {a_sums : Nat} {a_toward : Nat} {a_kept : Nat} {a_isKept : Nat} {fmm : Nat → Int32} {fkm : Nat → Int32} {fpm : Nat → Int32} (hL : L ≤ 6) (hL6 : L = 6) (C : lw_At p s m meth c b L xs) (E : EV G (fun q : Nat => s.heap.size ≤ q) s s.heap) (hk : ∀ j : Nat, j < 4 → fk j = 15) (hkm : ∀ j : Nat, j < 4 → fkm j = 15) (hpm : ∀ j : Nat, j < 6 → ¬ fpm j = 0) {H : Heap} {locs : List Loc} {ls : Array Slot} (hP : va_P G.1 vwCl [(h0, .inr (5, [.ref pad, .ref pp, .ref im, .null, .null])), (im, .inl (gP G, 2, .inr (.inr (.inr (.inr (fun _ => none)))))), (pad, .inr (0, [.ref sg, .ref sl, .int 0])), (sg, .inl (gI G, 40, .inl (fun _ => 0))), (sl, .inl (gI G, 10, .inl (fun _ => 0))), (pp, .inr (1, [.int 6, .int 0, .int 1, .int 0, .ref ac, .ref ak])), (ac, .inl (gI G, 6, .inl (fun _ => 0))), (ak, .inl (gI G, 4, .inl fk)), (h1, .inr (6, [.int 6, .ref a_maps, .int 0, .ref a_kinds, .int 0, .int 1, .ref a_part, .ref a_pad, .int 0, .ref a_slips, .int 0, .int 0, .ref a_queue, .ref a_depth, .ref a_by, .ref a_from, .int 0, .ref a_offOf, .ref a_parent, .ref a_best, .int 0, .int 0, .ref a_sums, .ref a_toward, .ref a_kept, .ref a_isKept, .int 0, .int 0])), (a_maps, .inl (gI G, 6, .inl fmm)), (a_kinds, .inl (gI G, 4, .inl fkm)), (a_part, .inl (gI G, 6, .inl fpm)), (a_pad, .inl (gI G, 40, .inl (fun _ => 0))), (a_slips, .inl (gI G, 10, .inl (fun _ => 0))), (a_kept, .inl (gI G, 80, .inl (fun _ => 0))), (a_isKept, .inl (gZ G, 2, .inl (fun _ => 0)))] H) (hD : va_D (fun q : Nat => s.heap.size ≤ q) [(h0, .inr (5, [.ref pad, .ref pp, .ref im, .null, .null])), (im, .inl (gP G, 2, .inr (.inr (.inr (.inr (fun _ => none)))))), (pad, .inr (0, [.ref sg, .ref sl, .int 0])), (sg, .inl (gI G, 40, .inl (fun _ => 0))), (sl, .inl (gI G, 10, .inl (fun _ => 0))), (pp, .inr (1, [.int 6, .int 0, .int 1, .int 0, .ref ac, .ref ak])), (ac, .inl (gI G, 6, .inl (fun _ => 0))), (ak, .inl (gI G, 4, .inl fk)), (h1, .inr (6, [.int 6, .ref a_maps, .int 0, .ref a_kinds, .int 0, .int 1, .ref a_part, .ref a_pad, .int 0, .ref a_slips, .int 0, .int 0, .ref a_queue, .ref a_depth, .ref a_by, .ref a_from, .int 0, .ref a_offOf, .ref a_parent, .ref a_best, .int 0, .int 0, .ref a_sums, .ref a_toward, .ref a_kept, .ref a_isKept, .int 0, .int 0])), (a_maps, .inl (gI G, 6, .inl fmm)), (a_kinds, .inl (gI G, 4, .inl fkm)), (a_part, .inl (gI G, 6, .inl fpm)), (a_pad, .inl (gI G, 40, .inl (fun _ => 0))), (a_slips, .inl (gI G, 10, .inl (fun _ => 0))), (a_kept, .inl (gI G, 80, .inl (fun _ => 0))), (a_isKept, .inl (gZ G, 2, .inl (fun _ => 0)))]) (hS : va_S (fun q : Nat => s.heap.size ≤ q) s.heap H locs) (hl : lv_has ls 4 [(3, .int 0), (2, .ref h1), (1, .ref h0), (0, .ref b)]) : W p l e room_1 s m #[Value.ref b] below meth c H locs 25 94050 (lw_Z below #[Value.ref b] s) (F0 m 563 ls []) := by
  have C0 := C
  obtain ⟨hx, hb, hr, hml, hown, hts0, hX, hbl, hlocks, hgv⟩ := C
  have hts : ∀ w ∈ wsL_law, w.before #[Value.ref b] s = true := fun w h => hts0 w (wsL_law_in w h)
  have hbA : ¬ (fun q : Nat => s.heap.size ≤ q) b := Nat.not_le.mpr hbl
  have hA : ∀ q : Nat, s.heap.size ≤ q → (fun q : Nat => s.heap.size ≤ q) q := fun _ h => h
  refine lv_aload_n hx hb dL_law_563 rfl (lv_at hl 2 rfl) ?_
  refine lv_aload_n hx hb dL_law_564 rfl (lv_at hl 3 rfl) ?_
  refine lv_iload_n hx hb dL_law_565 rfl (lv_at hl 0 rfl) ?_
  refine lv_iconst (v := 1) hx hb dL_law_566 (by decide) ?_
  refine lv_iadd hx hb dL_law_567 ?_
  refine lv_topi (fun x1 ex1 => ?_)
  obtain rfl : x1 = 1 := by rw [ex1]; decide
  refine va_sld hx hb hX hbl hbA hS (i := 1) (by rw [hL6]; unfold vp_in; decide) dL_law_568 ?_
  refine lv_topi (fun x2 ex2 => ?_)
  refine lv_aload_n hx hb dL_law_569 rfl (lv_at hl 3 rfl) ?_
  refine lv_iload_n hx hb dL_law_570 rfl (lv_at hl 0 rfl) ?_
  refine lv_iconst (v := 2) hx hb dL_law_571 (by decide) ?_
  refine lv_iadd hx hb dL_law_572 ?_
  refine lv_topi (fun x3 ex3 => ?_)
  obtain rfl : x3 = 2 := by rw [ex3]; decide
  refine va_sld hx hb hX hbl hbA hS (i := 2) (by rw [hL6]; unfold vp_in; decide) dL_law_573 ?_
  refine lv_topi (fun x4 ex4 => ?_)
  refine lv_aload_n hx hb dL_law_574 rfl (lv_at hl 3 rfl) ?_
  refine lv_iload_n hx hb dL_law_575 rfl (lv_at hl 0 rfl) ?_
  refine lv_iconst (v := 3) hx hb dL_law_576 (by decide) ?_
  refine lv_iadd hx hb dL_law_577 ?_
  refine lv_topi (fun x5 ex5 => ?_)
  obtain rfl : x5 = 3 := by rw [ex5]; decide
  refine va_sld hx hb hX hbl hbA hS (i := 3) (by rw [hL6]; unfold vp_in; decide) dL_law_578 ?_
  refine lv_topi (fun x6 ex6 => ?_)
  refine ca_i (wr := [(h1, .inr (6, [.int 6, .ref a_maps, .int 0, .ref a_kinds, .int 0, .int 1, .ref a_part, .ref a_pad, .int 0, .ref a_slips, .int 0, .int 0, .ref a_queue, .ref a_depth, .ref a_by, .ref a_from, .int 0, .ref a_offOf, .ref a_parent, .ref a_best, .int 0, .int 0, .ref a_sums, .ref a_toward, .ref a_kept, .ref a_isKept, .int 0, .int 0])), (a_maps, .inl (gI G, 6, .inl fmm)), (a_kinds, .inl (gI G, 4, .inl fkm)), (a_part, .inl (gI G, 6, .inl fpm)), (a_pad, .inl (gI G, 40, .inl (fun _ => 0))), (a_slips, .inl (gI G, 10, .inl (fun _ => 0))), (a_kept, .inl (gI G, 80, .inl (fun _ => 0))), (a_isKept, .inl (gZ G, 2, .inl (fun _ => 0)))]) (va_runV (As := [.int x2, .int x4, .int x6]) (rest := []) ⟨hx, hb, hml, hown, hts⟩ (f_lost l G H.size h0 pad pp im sg sl ac ak fk x2 x4 x6 hk) (cwV 3 hts gL_law_X9_lost rfl rfl rfl (by decide +kernel) ⟨by decide +kernel, by decide +kernel⟩) (pre_V E hP hD hS hA [0, 1, 2, 3, 4, 5, 6, 7] (by decide) rfl 0 5 rfl rfl) rfl rfl hl.1 rfl (lv_room (Nat.le_of_ble_eq_true rfl)) dL_law_579 ⟨by decide +kernel, by decide +kernel⟩) hS hP hD hA [0, 1, 2, 3, 4, 5, 6, 7] [8, 9, 10, 11, 12, 13, 14, 15] rfl rfl (by decide) (by decide) (fun r8 u9 H locs w7 hP hD hS => ?_)
  try dsimp only at w7 hP hD
  have hP := hP.sub (ws' := [(h1, .inr (6, [.int 6, .ref a_maps, .int 0, .ref a_kinds, .int 0, .int 1, .ref a_part, .ref a_pad, .int 0, .ref a_slips, .int 0, .int 0, .ref a_queue, .ref a_depth, .ref a_by, .ref a_from, .int 0, .ref a_offOf, .ref a_parent, .ref a_best, .int 0, .int 0, .ref a_sums, .ref a_toward, .ref a_kept, .ref a_isKept, .int 0, .int 0])), (a_maps, .inl (gI G, 6, .inl fmm)), (a_kinds, .inl (gI G, 4, .inl fkm)), (a_part, .inl (gI G, 6, .inl fpm)), (a_pad, .inl (gI G, 40, .inl (fun _ => 0))), (a_slips, .inl (gI G, 10, .inl (fun _ => 0))), (a_kept, .inl (gI G, 80, .inl (fun _ => 0))), (a_isKept, .inl (gZ G, 2, .inl (fun _ => 0)))]) [0, 1, 2, 3, 4, 5, 6, 7] rfl
  have hD := hD.sub (ws' := [(h1, .inr (6, [.int 6, .ref a_maps, .int 0, .ref a_kinds, .int 0, .int 1, .ref a_part, .ref a_pad, .int 0, .ref a_slips, .int 0, .int 0, .ref a_queue, .ref a_depth, .ref a_by, .ref a_from, .int 0, .ref a_offOf, .ref a_parent, .ref a_best, .int 0, .int 0, .ref a_sums, .ref a_toward, .ref a_kept, .ref a_isKept, .int 0, .int 0])), (a_maps, .inl (gI G, 6, .inl fmm)), (a_kinds, .inl (gI G, 4, .inl fkm)), (a_part, .inl (gI G, 6, .inl fpm)), (a_pad, .inl (gI G, 40, .inl (fun _ => 0))), (a_slips, .inl (gI G, 10, .inl (fun _ => 0))), (a_kept, .inl (gI G, 80, .inl (fun _ => 0))), (a_isKept, .inl (gZ G, 2, .inl (fun _ => 0)))]) [0, 1, 2, 3, 4, 5, 6, 7] (by decide) rfl
  refine lv_aload_n hx hb dL_law_582 rfl (lv_at hl 1 rfl) ?_
  refine lv_aload_n hx hb dL_law_583 rfl (lv_at hl 3 rfl) ?_
  refine lv_iload_n hx hb dL_law_584 rfl (lv_at hl 0 rfl) ?_
  refine lv_iconst (v := 1) hx hb dL_law_585 (by decide) ?_
  refine lv_iadd hx hb dL_law_586 ?_
  refine lv_topi (fun x10 ex10 => ?_)
  obtain rfl : x10 = 1 := by rw [ex10]; decide
  refine va_sld hx hb hX hbl hbA hS (i := 1) (by rw [hL6]; unfold vp_in; decide) dL_law_587 ?_
  refine lv_topi (fun x11 ex11 => ?_)
  refine lv_aload_n hx hb dL_law_588 rfl (lv_at hl 3 rfl) ?_
  refine lv_iload_n hx hb dL_law_589 rfl (lv_at hl 0 rfl) ?_
  refine lv_iconst (v := 2) hx hb dL_law_590 (by decide) ?_
  refine lv_iadd hx hb dL_law_591 ?_
  refine lv_topi (fun x12 ex12 => ?_)
  obtain rfl : x12 = 2 := by rw [ex12]; decide
  refine va_sld hx hb hX hbl hbA hS (i := 2) (by rw [hL6]; unfold vp_in; decide) dL_law_592 ?_
  refine lv_topi (fun x13 ex13 => ?_)
  refine lv_aload_n hx hb dL_law_593 rfl (lv_at hl 3 rfl) ?_
  refine lv_iload_n hx hb dL_law_594 rfl (lv_at hl 0 rfl) ?_
  refine lv_iconst (v := 3) hx hb dL_law_595 (by decide) ?_
  refine lv_iadd hx hb dL_law_596 ?_
  refine lv_topi (fun x14 ex14 => ?_)
  obtain rfl : x14 = 3 := by rw [ex14]; decide
  refine va_sld hx hb hX hbl hbA hS (i := 3) (by rw [hL6]; unfold vp_in; decide) dL_law_597 ?_
  refine lv_topi (fun x15 ex15 => ?_)
  refine ca_i (wr := []) (va_runV (As := [.int x11, .int x13, .int x15]) (rest := [.int r8]) ⟨hx, hb, hml, hown, hts⟩ (g_lost l G H.size h1 a_maps a_kinds a_part a_pad a_slips a_queue a_depth a_by a_from a_offOf a_parent a_best a_sums a_toward a_kept a_isKept fmm fkm fpm x11 x13 x15 hkm hpm) (cwV 3 hts gL_law_X10_lost rfl rfl rfl (by decide +kernel) ⟨by decide +kernel, by decide +kernel⟩) (pre_V E hP hD hS hA [0, 1, 2, 3, 4, 5, 6, 7] (by decide) rfl 0 6 rfl rfl) rfl rfl hl.1 rfl (lv_room (Nat.le_of_ble_eq_true rfl)) dL_law_598 ⟨by decide +kernel, by decide +kernel⟩) hS hP hD hA [0, 1, 2, 3, 4, 5, 6, 7] [] rfl rfl (by decide) (by decide) (fun r17 u18 H locs w16 hP hD hS => ?_)
  try dsimp only at w16 hP hD
  have hP := hP.sub (ws' := []) [] rfl
  have hD := hD.sub (ws' := []) [] (by decide) rfl
  refine lv_icmp_eq (tgt := 926) hx hb dL_law_601 (by decide) (fun c19 => ?_) (fun c19 => absurd (by rw [w7, w16]; simp only [ex2, ex4, ex6, ex11, ex13, ex15]) c19)
  refine lv_iinc (v := 6) (lv' := [(3, .int 6), (2, .ref h1), (1, .ref h0), (0, .ref b)]) hx hb dL_law_926 hl (k := 0) rfl (by decide) (by decide) rfl (fun ls hl => ?_)
  refine lv_goto (tgt := 18) hx hb dL_law_929 (by decide) ?_
  refine W.widen (k := 600000) (n := 7302249) (by decide +kernel) (by decide +kernel) ?_
  exact law_end hL C0 hS (lv_sub hl [0, 3] rfl)

set_option maxHeartbeats 1000000 in
set_option maxRecDepth 100000 in
theorem law_wished {p : Program} {l : Launch} {e : Env} {s : State} {m : MethodId} {below : List Frame} {meth : Method} {c : Code} {b L : Nat} {xs : Nat → Int32} {G : Gy} {h0 : Nat} {pad : Nat} {pp : Nat} {im : Nat} {sg : Nat} {sl : Nat} {ac : Nat} {ak : Nat} {fk : Nat → Int32} {h1 : Nat} {a_maps : Nat} {a_kinds : Nat} {a_part : Nat} {a_pad : Nat} {a_slips : Nat} {a_queue : Nat} {a_depth : Nat} {a_by : Nat} {a_from : Nat} {a_offOf : Nat} {a_parent : Nat} {a_best : Nat} {a_sums : Nat} {a_toward : Nat} {a_kept : Nat} {a_isKept : Nat} {fmm : Nat → Int32} {fkm : Nat → Int32} {fpm : Nat → Int32} (hL : L ≤ 6) (hL6 : L = 6) (C : lw_At p s m meth c b L xs) (E : EV G (fun q : Nat => s.heap.size ≤ q) s s.heap) (hk : ∀ j : Nat, j < 4 → fk j = 15) (hkm : ∀ j : Nat, j < 4 → fkm j = 15) (hpm : ∀ j : Nat, j < 6 → ¬ fpm j = 0) {H : Heap} {locs : List Loc} {ls : Array Slot} (hP : va_P G.1 vwCl [(h0, .inr (5, [.ref pad, .ref pp, .ref im, .null, .null])), (im, .inl (gP G, 2, .inr (.inr (.inr (.inr (fun _ => none)))))), (pad, .inr (0, [.ref sg, .ref sl, .int 0])), (sg, .inl (gI G, 40, .inl (fun _ => 0))), (sl, .inl (gI G, 10, .inl (fun _ => 0))), (pp, .inr (1, [.int 6, .int 0, .int 1, .int 0, .ref ac, .ref ak])), (ac, .inl (gI G, 6, .inl (fun _ => 0))), (ak, .inl (gI G, 4, .inl fk)), (h1, .inr (6, [.int 6, .ref a_maps, .int 0, .ref a_kinds, .int 0, .int 1, .ref a_part, .ref a_pad, .int 0, .ref a_slips, .int 0, .int 0, .ref a_queue, .ref a_depth, .ref a_by, .ref a_from, .int 0, .ref a_offOf, .ref a_parent, .ref a_best, .int 0, .int 0, .ref a_sums, .ref a_toward, .ref a_kept, .ref a_isKept, .int 0, .int 0])), (a_maps, .inl (gI G, 6, .inl fmm)), (a_kinds, .inl (gI G, 4, .inl fkm)), (a_part, .inl (gI G, 6, .inl fpm)), (a_pad, .inl (gI G, 40, .inl (fun _ => 0))), (a_slips, .inl (gI G, 10, .inl (fun _ => 0))), (a_kept, .inl (gI G, 80, .inl (fun _ => 0))), (a_isKept, .inl (gZ G, 2, .inl (fun _ => 0)))] H) (hD : va_D (fun q : Nat => s.heap.size ≤ q) [(h0, .inr (5, [.ref pad, .ref pp, .ref im, .null, .null])), (im, .inl (gP G, 2, .inr (.inr (.inr (.inr (fun _ => none)))))), (pad, .inr (0, [.ref sg, .ref sl, .int 0])), (sg, .inl (gI G, 40, .inl (fun _ => 0))), (sl, .inl (gI G, 10, .inl (fun _ => 0))), (pp, .inr (1, [.int 6, .int 0, .int 1, .int 0, .ref ac, .ref ak])), (ac, .inl (gI G, 6, .inl (fun _ => 0))), (ak, .inl (gI G, 4, .inl fk)), (h1, .inr (6, [.int 6, .ref a_maps, .int 0, .ref a_kinds, .int 0, .int 1, .ref a_part, .ref a_pad, .int 0, .ref a_slips, .int 0, .int 0, .ref a_queue, .ref a_depth, .ref a_by, .ref a_from, .int 0, .ref a_offOf, .ref a_parent, .ref a_best, .int 0, .int 0, .ref a_sums, .ref a_toward, .ref a_kept, .ref a_isKept, .int 0, .int 0])), (a_maps, .inl (gI G, 6, .inl fmm)), (a_kinds, .inl (gI G, 4, .inl fkm)), (a_part, .inl (gI G, 6, .inl fpm)), (a_pad, .inl (gI G, 40, .inl (fun _ => 0))), (a_slips, .inl (gI G, 10, .inl (fun _ => 0))), (a_kept, .inl (gI G, 80, .inl (fun _ => 0))), (a_isKept, .inl (gZ G, 2, .inl (fun _ => 0)))]) (hS : va_S (fun q : Nat => s.heap.size ≤ q) s.heap H locs) (hl : lv_has ls 4 [(3, .int 0), (2, .ref h1), (1, .ref h0), (0, .ref b)]) : W p l e room_1 s m #[Value.ref b] below meth c H locs 25 94050 (lw_Z below #[Value.ref b] s) (F0 m 606 ls []) := by
  have C0 := C
  obtain ⟨hx, hb, hr, hml, hown, hts0, hX, hbl, hlocks, hgv⟩ := C
  have hts : ∀ w ∈ wsL_law, w.before #[Value.ref b] s = true := fun w h => hts0 w (wsL_law_in w h)
  have hbA : ¬ (fun q : Nat => s.heap.size ≤ q) b := Nat.not_le.mpr hbl
  have hA : ∀ q : Nat, s.heap.size ≤ q → (fun q : Nat => s.heap.size ≤ q) q := fun _ h => h
  refine lv_aload_n hx hb dL_law_606 rfl (lv_at hl 2 rfl) ?_
  refine lv_aload_n hx hb dL_law_607 rfl (lv_at hl 3 rfl) ?_
  refine lv_iload_n hx hb dL_law_608 rfl (lv_at hl 0 rfl) ?_
  refine lv_iconst (v := 1) hx hb dL_law_609 (by decide) ?_
  refine lv_iadd hx hb dL_law_610 ?_
  refine lv_topi (fun x1 ex1 => ?_)
  obtain rfl : x1 = 1 := by rw [ex1]; decide
  refine va_sld hx hb hX hbl hbA hS (i := 1) (by rw [hL6]; unfold vp_in; decide) dL_law_611 ?_
  refine lv_topi (fun x2 ex2 => ?_)
  refine lv_aload_n hx hb dL_law_612 rfl (lv_at hl 3 rfl) ?_
  refine lv_iload_n hx hb dL_law_613 rfl (lv_at hl 0 rfl) ?_
  refine lv_iconst (v := 2) hx hb dL_law_614 (by decide) ?_
  refine lv_iadd hx hb dL_law_615 ?_
  refine lv_topi (fun x3 ex3 => ?_)
  obtain rfl : x3 = 2 := by rw [ex3]; decide
  refine va_sld hx hb hX hbl hbA hS (i := 2) (by rw [hL6]; unfold vp_in; decide) dL_law_616 ?_
  refine lv_topi (fun x4 ex4 => ?_)
  refine lv_aload_n hx hb dL_law_617 rfl (lv_at hl 3 rfl) ?_
  refine lv_iload_n hx hb dL_law_618 rfl (lv_at hl 0 rfl) ?_
  refine lv_iconst (v := 3) hx hb dL_law_619 (by decide) ?_
  refine lv_iadd hx hb dL_law_620 ?_
  refine lv_topi (fun x5 ex5 => ?_)
  obtain rfl : x5 = 3 := by rw [ex5]; decide
  refine va_sld hx hb hX hbl hbA hS (i := 3) (by rw [hL6]; unfold vp_in; decide) dL_law_621 ?_
  refine lv_topi (fun x6 ex6 => ?_)
  refine lv_aload_n hx hb dL_law_622 rfl (lv_at hl 3 rfl) ?_
  refine lv_iload_n hx hb dL_law_623 rfl (lv_at hl 0 rfl) ?_
  refine lv_iconst (v := 4) hx hb dL_law_624 (by decide) ?_
  refine lv_iadd hx hb dL_law_625 ?_
  refine lv_topi (fun x7 ex7 => ?_)
  obtain rfl : x7 = 4 := by rw [ex7]; decide
  refine va_sld hx hb hX hbl hbA hS (i := 4) (by rw [hL6]; unfold vp_in; decide) dL_law_626 ?_
  refine lv_topi (fun x8 ex8 => ?_)
  refine ca_i (wr := [(h1, .inr (6, [.int 6, .ref a_maps, .int 0, .ref a_kinds, .int 0, .int 1, .ref a_part, .ref a_pad, .int 0, .ref a_slips, .int 0, .int 0, .ref a_queue, .ref a_depth, .ref a_by, .ref a_from, .int 0, .ref a_offOf, .ref a_parent, .ref a_best, .int 0, .int 0, .ref a_sums, .ref a_toward, .ref a_kept, .ref a_isKept, .int 0, .int 0])), (a_maps, .inl (gI G, 6, .inl fmm)), (a_kinds, .inl (gI G, 4, .inl fkm)), (a_part, .inl (gI G, 6, .inl fpm)), (a_pad, .inl (gI G, 40, .inl (fun _ => 0))), (a_slips, .inl (gI G, 10, .inl (fun _ => 0))), (a_kept, .inl (gI G, 80, .inl (fun _ => 0))), (a_isKept, .inl (gZ G, 2, .inl (fun _ => 0)))]) (va_runV (As := [.int x2, .int x4, .int x6, .int x8]) (rest := []) ⟨hx, hb, hml, hown, hts⟩ (f_wished l G H.size h0 pad pp im sg sl ac ak fk x2 x4 x6 x8 hk) (cwV 4 hts gL_law_X9_wished rfl rfl rfl (by decide +kernel) ⟨by decide +kernel, by decide +kernel⟩) (pre_V E hP hD hS hA [0, 1, 2, 3, 4, 5, 6, 7] (by decide) rfl 0 5 rfl rfl) rfl rfl hl.1 rfl (lv_room (Nat.le_of_ble_eq_true rfl)) dL_law_627 ⟨by decide +kernel, by decide +kernel⟩) hS hP hD hA [0, 1, 2, 3, 4, 5, 6, 7] [8, 9, 10, 11, 12, 13, 14, 15] rfl rfl (by decide) (by decide) (fun r10 u11 H locs w9 hP hD hS => ?_)
  try dsimp only at w9 hP hD
  have hP := hP.sub (ws' := [(h1, .inr (6, [.int 6, .ref a_maps, .int 0, .ref a_kinds, .int 0, .int 1, .ref a_part, .ref a_pad, .int 0, .ref a_slips, .int 0, .int 0, .ref a_queue, .ref a_depth, .ref a_by, .ref a_from, .int 0, .ref a_offOf, .ref a_parent, .ref a_best, .int 0, .int 0, .ref a_sums, .ref a_toward, .ref a_kept, .ref a_isKept, .int 0, .int 0])), (a_maps, .inl (gI G, 6, .inl fmm)), (a_kinds, .inl (gI G, 4, .inl fkm)), (a_part, .inl (gI G, 6, .inl fpm)), (a_pad, .inl (gI G, 40, .inl (fun _ => 0))), (a_slips, .inl (gI G, 10, .inl (fun _ => 0))), (a_kept, .inl (gI G, 80, .inl (fun _ => 0))), (a_isKept, .inl (gZ G, 2, .inl (fun _ => 0)))]) [0, 1, 2, 3, 4, 5, 6, 7] rfl
  have hD := hD.sub (ws' := [(h1, .inr (6, [.int 6, .ref a_maps, .int 0, .ref a_kinds, .int 0, .int 1, .ref a_part, .ref a_pad, .int 0, .ref a_slips, .int 0, .int 0, .ref a_queue, .ref a_depth, .ref a_by, .ref a_from, .int 0, .ref a_offOf, .ref a_parent, .ref a_best, .int 0, .int 0, .ref a_sums, .ref a_toward, .ref a_kept, .ref a_isKept, .int 0, .int 0])), (a_maps, .inl (gI G, 6, .inl fmm)), (a_kinds, .inl (gI G, 4, .inl fkm)), (a_part, .inl (gI G, 6, .inl fpm)), (a_pad, .inl (gI G, 40, .inl (fun _ => 0))), (a_slips, .inl (gI G, 10, .inl (fun _ => 0))), (a_kept, .inl (gI G, 80, .inl (fun _ => 0))), (a_isKept, .inl (gZ G, 2, .inl (fun _ => 0)))]) [0, 1, 2, 3, 4, 5, 6, 7] (by decide) rfl
  refine lv_aload_n hx hb dL_law_630 rfl (lv_at hl 1 rfl) ?_
  refine lv_aload_n hx hb dL_law_631 rfl (lv_at hl 3 rfl) ?_
  refine lv_iload_n hx hb dL_law_632 rfl (lv_at hl 0 rfl) ?_
  refine lv_iconst (v := 1) hx hb dL_law_633 (by decide) ?_
  refine lv_iadd hx hb dL_law_634 ?_
  refine lv_topi (fun x12 ex12 => ?_)
  obtain rfl : x12 = 1 := by rw [ex12]; decide
  refine va_sld hx hb hX hbl hbA hS (i := 1) (by rw [hL6]; unfold vp_in; decide) dL_law_635 ?_
  refine lv_topi (fun x13 ex13 => ?_)
  refine lv_aload_n hx hb dL_law_636 rfl (lv_at hl 3 rfl) ?_
  refine lv_iload_n hx hb dL_law_637 rfl (lv_at hl 0 rfl) ?_
  refine lv_iconst (v := 2) hx hb dL_law_638 (by decide) ?_
  refine lv_iadd hx hb dL_law_639 ?_
  refine lv_topi (fun x14 ex14 => ?_)
  obtain rfl : x14 = 2 := by rw [ex14]; decide
  refine va_sld hx hb hX hbl hbA hS (i := 2) (by rw [hL6]; unfold vp_in; decide) dL_law_640 ?_
  refine lv_topi (fun x15 ex15 => ?_)
  refine lv_aload_n hx hb dL_law_641 rfl (lv_at hl 3 rfl) ?_
  refine lv_iload_n hx hb dL_law_642 rfl (lv_at hl 0 rfl) ?_
  refine lv_iconst (v := 3) hx hb dL_law_643 (by decide) ?_
  refine lv_iadd hx hb dL_law_644 ?_
  refine lv_topi (fun x16 ex16 => ?_)
  obtain rfl : x16 = 3 := by rw [ex16]; decide
  refine va_sld hx hb hX hbl hbA hS (i := 3) (by rw [hL6]; unfold vp_in; decide) dL_law_645 ?_
  refine lv_topi (fun x17 ex17 => ?_)
  refine lv_aload_n hx hb dL_law_646 rfl (lv_at hl 3 rfl) ?_
  refine lv_iload_n hx hb dL_law_647 rfl (lv_at hl 0 rfl) ?_
  refine lv_iconst (v := 4) hx hb dL_law_648 (by decide) ?_
  refine lv_iadd hx hb dL_law_649 ?_
  refine lv_topi (fun x18 ex18 => ?_)
  obtain rfl : x18 = 4 := by rw [ex18]; decide
  refine va_sld hx hb hX hbl hbA hS (i := 4) (by rw [hL6]; unfold vp_in; decide) dL_law_650 ?_
  refine lv_topi (fun x19 ex19 => ?_)
  refine ca_i (wr := []) (va_runV (As := [.int x13, .int x15, .int x17, .int x19]) (rest := [.int r10]) ⟨hx, hb, hml, hown, hts⟩ (g_wished l G H.size h1 a_maps a_kinds a_part a_pad a_slips a_queue a_depth a_by a_from a_offOf a_parent a_best a_sums a_toward a_kept a_isKept fmm fkm fpm x13 x15 x17 x19 hkm hpm) (cwV 4 hts gL_law_X10_wished rfl rfl rfl (by decide +kernel) ⟨by decide +kernel, by decide +kernel⟩) (pre_V E hP hD hS hA [0, 1, 2, 3, 4, 5, 6, 7] (by decide) rfl 0 6 rfl rfl) rfl rfl hl.1 rfl (lv_room (Nat.le_of_ble_eq_true rfl)) dL_law_651 ⟨by decide +kernel, by decide +kernel⟩) hS hP hD hA [0, 1, 2, 3, 4, 5, 6, 7] [] rfl rfl (by decide) (by decide) (fun r21 u22 H locs w20 hP hD hS => ?_)
  try dsimp only at w20 hP hD
  have hP := hP.sub (ws' := []) [] rfl
  have hD := hD.sub (ws' := []) [] (by decide) rfl
  refine lv_icmp_eq (tgt := 926) hx hb dL_law_654 (by decide) (fun c23 => ?_) (fun c23 => absurd (by rw [w9, w20]; simp only [ex2, ex4, ex6, ex8, ex13, ex15, ex17, ex19]) c23)
  refine lv_iinc (v := 6) (lv' := [(3, .int 6), (2, .ref h1), (1, .ref h0), (0, .ref b)]) hx hb dL_law_926 hl (k := 0) rfl (by decide) (by decide) rfl (fun ls hl => ?_)
  refine lv_goto (tgt := 18) hx hb dL_law_929 (by decide) ?_
  refine W.widen (k := 600000) (n := 7302249) (by decide +kernel) (by decide +kernel) ?_
  exact law_end hL C0 hS (lv_sub hl [0, 3] rfl)

set_option maxHeartbeats 1000000 in
set_option maxRecDepth 100000 in
theorem law_holds {p : Program} {l : Launch} {e : Env} {s : State} {m : MethodId} {below : List Frame} {meth : Method} {c : Code} {b L : Nat} {xs : Nat → Int32} {G : Gy} {h0 : Nat} {pad : Nat} {pp : Nat} {im : Nat} {sg : Nat} {sl : Nat} {ac : Nat} {ak : Nat} {fk : Nat → Int32} {h1 : Nat} {a_maps : Nat} {a_kinds : Nat} {a_part : Nat} {a_pad : Nat} {a_slips : Nat} {a_queue : Nat} {a_depth : Nat} {a_by : Nat} {a_from : Nat} {a_offOf : Nat} {a_parent : Nat} {a_best : Nat} {a_sums : Nat} {a_toward : Nat} {a_kept : Nat} {a_isKept : Nat} {fmm : Nat → Int32} {fkm : Nat → Int32} {fpm : Nat → Int32} (hL : L ≤ 6) (hL6 : L = 6) (C : lw_At p s m meth c b L xs) (E : EV G (fun q : Nat => s.heap.size ≤ q) s s.heap) (hk : ∀ j : Nat, j < 4 → fk j = 15) (hkm : ∀ j : Nat, j < 4 → fkm j = 15) (hpm : ∀ j : Nat, j < 6 → ¬ fpm j = 0) {H : Heap} {locs : List Loc} {ls : Array Slot} (hP : va_P G.1 vwCl [(h0, .inr (5, [.ref pad, .ref pp, .ref im, .null, .null])), (im, .inl (gP G, 2, .inr (.inr (.inr (.inr (fun _ => none)))))), (pad, .inr (0, [.ref sg, .ref sl, .int 0])), (sg, .inl (gI G, 40, .inl (fun _ => 0))), (sl, .inl (gI G, 10, .inl (fun _ => 0))), (pp, .inr (1, [.int 6, .int 0, .int 1, .int 0, .ref ac, .ref ak])), (ac, .inl (gI G, 6, .inl (fun _ => 0))), (ak, .inl (gI G, 4, .inl fk)), (h1, .inr (6, [.int 6, .ref a_maps, .int 0, .ref a_kinds, .int 0, .int 1, .ref a_part, .ref a_pad, .int 0, .ref a_slips, .int 0, .int 0, .ref a_queue, .ref a_depth, .ref a_by, .ref a_from, .int 0, .ref a_offOf, .ref a_parent, .ref a_best, .int 0, .int 0, .ref a_sums, .ref a_toward, .ref a_kept, .ref a_isKept, .int 0, .int 0])), (a_maps, .inl (gI G, 6, .inl fmm)), (a_kinds, .inl (gI G, 4, .inl fkm)), (a_part, .inl (gI G, 6, .inl fpm)), (a_pad, .inl (gI G, 40, .inl (fun _ => 0))), (a_slips, .inl (gI G, 10, .inl (fun _ => 0))), (a_kept, .inl (gI G, 80, .inl (fun _ => 0))), (a_isKept, .inl (gZ G, 2, .inl (fun _ => 0)))] H) (hD : va_D (fun q : Nat => s.heap.size ≤ q) [(h0, .inr (5, [.ref pad, .ref pp, .ref im, .null, .null])), (im, .inl (gP G, 2, .inr (.inr (.inr (.inr (fun _ => none)))))), (pad, .inr (0, [.ref sg, .ref sl, .int 0])), (sg, .inl (gI G, 40, .inl (fun _ => 0))), (sl, .inl (gI G, 10, .inl (fun _ => 0))), (pp, .inr (1, [.int 6, .int 0, .int 1, .int 0, .ref ac, .ref ak])), (ac, .inl (gI G, 6, .inl (fun _ => 0))), (ak, .inl (gI G, 4, .inl fk)), (h1, .inr (6, [.int 6, .ref a_maps, .int 0, .ref a_kinds, .int 0, .int 1, .ref a_part, .ref a_pad, .int 0, .ref a_slips, .int 0, .int 0, .ref a_queue, .ref a_depth, .ref a_by, .ref a_from, .int 0, .ref a_offOf, .ref a_parent, .ref a_best, .int 0, .int 0, .ref a_sums, .ref a_toward, .ref a_kept, .ref a_isKept, .int 0, .int 0])), (a_maps, .inl (gI G, 6, .inl fmm)), (a_kinds, .inl (gI G, 4, .inl fkm)), (a_part, .inl (gI G, 6, .inl fpm)), (a_pad, .inl (gI G, 40, .inl (fun _ => 0))), (a_slips, .inl (gI G, 10, .inl (fun _ => 0))), (a_kept, .inl (gI G, 80, .inl (fun _ => 0))), (a_isKept, .inl (gZ G, 2, .inl (fun _ => 0)))]) (hS : va_S (fun q : Nat => s.heap.size ≤ q) s.heap H locs) (hl : lv_has ls 4 [(3, .int 0), (2, .ref h1), (1, .ref h0), (0, .ref b)]) : W p l e room_1 s m #[Value.ref b] below meth c H locs 25 94050 (lw_Z below #[Value.ref b] s) (F0 m 659 ls []) := by
  have C0 := C
  obtain ⟨hx, hb, hr, hml, hown, hts0, hX, hbl, hlocks, hgv⟩ := C
  have hts : ∀ w ∈ wsL_law, w.before #[Value.ref b] s = true := fun w h => hts0 w (wsL_law_in w h)
  have hbA : ¬ (fun q : Nat => s.heap.size ≤ q) b := Nat.not_le.mpr hbl
  have hA : ∀ q : Nat, s.heap.size ≤ q → (fun q : Nat => s.heap.size ≤ q) q := fun _ h => h
  refine lv_aload_n hx hb dL_law_659 rfl (lv_at hl 2 rfl) ?_
  refine lv_aload_n hx hb dL_law_660 rfl (lv_at hl 3 rfl) ?_
  refine lv_iload_n hx hb dL_law_661 rfl (lv_at hl 0 rfl) ?_
  refine lv_iconst (v := 1) hx hb dL_law_662 (by decide) ?_
  refine lv_iadd hx hb dL_law_663 ?_
  refine lv_topi (fun x1 ex1 => ?_)
  obtain rfl : x1 = 1 := by rw [ex1]; decide
  refine va_sld hx hb hX hbl hbA hS (i := 1) (by rw [hL6]; unfold vp_in; decide) dL_law_664 ?_
  refine lv_topi (fun x2 ex2 => ?_)
  refine lv_aload_n hx hb dL_law_665 rfl (lv_at hl 3 rfl) ?_
  refine lv_iload_n hx hb dL_law_666 rfl (lv_at hl 0 rfl) ?_
  refine lv_iconst (v := 2) hx hb dL_law_667 (by decide) ?_
  refine lv_iadd hx hb dL_law_668 ?_
  refine lv_topi (fun x3 ex3 => ?_)
  obtain rfl : x3 = 2 := by rw [ex3]; decide
  refine va_sld hx hb hX hbl hbA hS (i := 2) (by rw [hL6]; unfold vp_in; decide) dL_law_669 ?_
  refine lv_topi (fun x4 ex4 => ?_)
  refine ca_i (wr := [(h1, .inr (6, [.int 6, .ref a_maps, .int 0, .ref a_kinds, .int 0, .int 1, .ref a_part, .ref a_pad, .int 0, .ref a_slips, .int 0, .int 0, .ref a_queue, .ref a_depth, .ref a_by, .ref a_from, .int 0, .ref a_offOf, .ref a_parent, .ref a_best, .int 0, .int 0, .ref a_sums, .ref a_toward, .ref a_kept, .ref a_isKept, .int 0, .int 0])), (a_maps, .inl (gI G, 6, .inl fmm)), (a_kinds, .inl (gI G, 4, .inl fkm)), (a_part, .inl (gI G, 6, .inl fpm)), (a_pad, .inl (gI G, 40, .inl (fun _ => 0))), (a_slips, .inl (gI G, 10, .inl (fun _ => 0))), (a_kept, .inl (gI G, 80, .inl (fun _ => 0))), (a_isKept, .inl (gZ G, 2, .inl (fun _ => 0)))]) (va_runV (As := [.int x2, .int x4]) (rest := []) ⟨hx, hb, hml, hown, hts⟩ (f_holds l G H.size h0 pad pp im sg sl ac ak fk x2 x4 hk) (cwV 2 hts gL_law_X9_holds rfl rfl rfl (by decide +kernel) ⟨by decide +kernel, by decide +kernel⟩) (pre_V E hP hD hS hA [0, 1, 2, 3, 4, 5, 6, 7] (by decide) rfl 0 5 rfl rfl) rfl rfl hl.1 rfl (lv_room (Nat.le_of_ble_eq_true rfl)) dL_law_670 ⟨by decide +kernel, by decide +kernel⟩) hS hP hD hA [0, 1, 2, 3, 4, 5, 6, 7] [8, 9, 10, 11, 12, 13, 14, 15] rfl rfl (by decide) (by decide) (fun r6 u7 H locs w5 hP hD hS => ?_)
  try dsimp only at w5 hP hD
  have hP := hP.sub (ws' := [(h1, .inr (6, [.int 6, .ref a_maps, .int 0, .ref a_kinds, .int 0, .int 1, .ref a_part, .ref a_pad, .int 0, .ref a_slips, .int 0, .int 0, .ref a_queue, .ref a_depth, .ref a_by, .ref a_from, .int 0, .ref a_offOf, .ref a_parent, .ref a_best, .int 0, .int 0, .ref a_sums, .ref a_toward, .ref a_kept, .ref a_isKept, .int 0, .int 0])), (a_maps, .inl (gI G, 6, .inl fmm)), (a_kinds, .inl (gI G, 4, .inl fkm)), (a_part, .inl (gI G, 6, .inl fpm)), (a_pad, .inl (gI G, 40, .inl (fun _ => 0))), (a_slips, .inl (gI G, 10, .inl (fun _ => 0))), (a_kept, .inl (gI G, 80, .inl (fun _ => 0))), (a_isKept, .inl (gZ G, 2, .inl (fun _ => 0)))]) [0, 1, 2, 3, 4, 5, 6, 7] rfl
  have hD := hD.sub (ws' := [(h1, .inr (6, [.int 6, .ref a_maps, .int 0, .ref a_kinds, .int 0, .int 1, .ref a_part, .ref a_pad, .int 0, .ref a_slips, .int 0, .int 0, .ref a_queue, .ref a_depth, .ref a_by, .ref a_from, .int 0, .ref a_offOf, .ref a_parent, .ref a_best, .int 0, .int 0, .ref a_sums, .ref a_toward, .ref a_kept, .ref a_isKept, .int 0, .int 0])), (a_maps, .inl (gI G, 6, .inl fmm)), (a_kinds, .inl (gI G, 4, .inl fkm)), (a_part, .inl (gI G, 6, .inl fpm)), (a_pad, .inl (gI G, 40, .inl (fun _ => 0))), (a_slips, .inl (gI G, 10, .inl (fun _ => 0))), (a_kept, .inl (gI G, 80, .inl (fun _ => 0))), (a_isKept, .inl (gZ G, 2, .inl (fun _ => 0)))]) [0, 1, 2, 3, 4, 5, 6, 7] (by decide) rfl
  refine lv_aload_n hx hb dL_law_673 rfl (lv_at hl 1 rfl) ?_
  refine lv_aload_n hx hb dL_law_674 rfl (lv_at hl 3 rfl) ?_
  refine lv_iload_n hx hb dL_law_675 rfl (lv_at hl 0 rfl) ?_
  refine lv_iconst (v := 1) hx hb dL_law_676 (by decide) ?_
  refine lv_iadd hx hb dL_law_677 ?_
  refine lv_topi (fun x8 ex8 => ?_)
  obtain rfl : x8 = 1 := by rw [ex8]; decide
  refine va_sld hx hb hX hbl hbA hS (i := 1) (by rw [hL6]; unfold vp_in; decide) dL_law_678 ?_
  refine lv_topi (fun x9 ex9 => ?_)
  refine lv_aload_n hx hb dL_law_679 rfl (lv_at hl 3 rfl) ?_
  refine lv_iload_n hx hb dL_law_680 rfl (lv_at hl 0 rfl) ?_
  refine lv_iconst (v := 2) hx hb dL_law_681 (by decide) ?_
  refine lv_iadd hx hb dL_law_682 ?_
  refine lv_topi (fun x10 ex10 => ?_)
  obtain rfl : x10 = 2 := by rw [ex10]; decide
  refine va_sld hx hb hX hbl hbA hS (i := 2) (by rw [hL6]; unfold vp_in; decide) dL_law_683 ?_
  refine lv_topi (fun x11 ex11 => ?_)
  refine ca_i (wr := []) (va_runV (As := [.int x9, .int x11]) (rest := [.int r6]) ⟨hx, hb, hml, hown, hts⟩ (g_holds l G H.size h1 a_maps a_kinds a_part a_pad a_slips a_queue a_depth a_by a_from a_offOf a_parent a_best a_sums a_toward a_kept a_isKept fmm fkm fpm x9 x11 hkm hpm) (cwV 2 hts gL_law_X10_holds rfl rfl rfl (by decide +kernel) ⟨by decide +kernel, by decide +kernel⟩) (pre_V E hP hD hS hA [0, 1, 2, 3, 4, 5, 6, 7] (by decide) rfl 0 6 rfl rfl) rfl rfl hl.1 rfl (lv_room (Nat.le_of_ble_eq_true rfl)) dL_law_684 ⟨by decide +kernel, by decide +kernel⟩) hS hP hD hA [0, 1, 2, 3, 4, 5, 6, 7] [] rfl rfl (by decide) (by decide) (fun r13 u14 H locs w12 hP hD hS => ?_)
  try dsimp only at w12 hP hD
  have hP := hP.sub (ws' := []) [] rfl
  have hD := hD.sub (ws' := []) [] (by decide) rfl
  refine lv_icmp_eq (tgt := 926) hx hb dL_law_687 (by decide) (fun c15 => ?_) (fun c15 => absurd (by rw [w5, w12]; simp only [ex2, ex4, ex9, ex11]) c15)
  refine lv_iinc (v := 6) (lv' := [(3, .int 6), (2, .ref h1), (1, .ref h0), (0, .ref b)]) hx hb dL_law_926 hl (k := 0) rfl (by decide) (by decide) rfl (fun ls hl => ?_)
  refine lv_goto (tgt := 18) hx hb dL_law_929 (by decide) ?_
  refine W.widen (k := 600000) (n := 7302249) (by decide +kernel) (by decide +kernel) ?_
  exact law_end hL C0 hS (lv_sub hl [0, 3] rfl)

set_option maxHeartbeats 1000000 in
set_option maxRecDepth 100000 in
theorem law_spades {p : Program} {l : Launch} {e : Env} {s : State} {m : MethodId} {below : List Frame} {meth : Method} {c : Code} {b L : Nat} {xs : Nat → Int32} {G : Gy} {h0 : Nat} {pad : Nat} {pp : Nat} {im : Nat} {sg : Nat} {sl : Nat} {ac : Nat} {ak : Nat} {fk : Nat → Int32} {h1 : Nat} {a_maps : Nat} {a_kinds : Nat} {a_part : Nat} {a_pad : Nat} {a_slips : Nat} {a_queue : Nat} {a_depth : Nat} {a_by : Nat} {a_from : Nat} {a_offOf : Nat} {a_parent : Nat} {a_best : Nat} {a_sums : Nat} {a_toward : Nat} {a_kept : Nat} {a_isKept : Nat} {fmm : Nat → Int32} {fkm : Nat → Int32} {fpm : Nat → Int32} (hL : L ≤ 6) (hL6 : L = 6) (C : lw_At p s m meth c b L xs) (E : EV G (fun q : Nat => s.heap.size ≤ q) s s.heap) (hk : ∀ j : Nat, j < 4 → fk j = 15) (hkm : ∀ j : Nat, j < 4 → fkm j = 15) (hpm : ∀ j : Nat, j < 6 → ¬ fpm j = 0) {H : Heap} {locs : List Loc} {ls : Array Slot} (hP : va_P G.1 vwCl [(h0, .inr (5, [.ref pad, .ref pp, .ref im, .null, .null])), (im, .inl (gP G, 2, .inr (.inr (.inr (.inr (fun _ => none)))))), (pad, .inr (0, [.ref sg, .ref sl, .int 0])), (sg, .inl (gI G, 40, .inl (fun _ => 0))), (sl, .inl (gI G, 10, .inl (fun _ => 0))), (pp, .inr (1, [.int 6, .int 0, .int 1, .int 0, .ref ac, .ref ak])), (ac, .inl (gI G, 6, .inl (fun _ => 0))), (ak, .inl (gI G, 4, .inl fk)), (h1, .inr (6, [.int 6, .ref a_maps, .int 0, .ref a_kinds, .int 0, .int 1, .ref a_part, .ref a_pad, .int 0, .ref a_slips, .int 0, .int 0, .ref a_queue, .ref a_depth, .ref a_by, .ref a_from, .int 0, .ref a_offOf, .ref a_parent, .ref a_best, .int 0, .int 0, .ref a_sums, .ref a_toward, .ref a_kept, .ref a_isKept, .int 0, .int 0])), (a_maps, .inl (gI G, 6, .inl fmm)), (a_kinds, .inl (gI G, 4, .inl fkm)), (a_part, .inl (gI G, 6, .inl fpm)), (a_pad, .inl (gI G, 40, .inl (fun _ => 0))), (a_slips, .inl (gI G, 10, .inl (fun _ => 0))), (a_kept, .inl (gI G, 80, .inl (fun _ => 0))), (a_isKept, .inl (gZ G, 2, .inl (fun _ => 0)))] H) (hD : va_D (fun q : Nat => s.heap.size ≤ q) [(h0, .inr (5, [.ref pad, .ref pp, .ref im, .null, .null])), (im, .inl (gP G, 2, .inr (.inr (.inr (.inr (fun _ => none)))))), (pad, .inr (0, [.ref sg, .ref sl, .int 0])), (sg, .inl (gI G, 40, .inl (fun _ => 0))), (sl, .inl (gI G, 10, .inl (fun _ => 0))), (pp, .inr (1, [.int 6, .int 0, .int 1, .int 0, .ref ac, .ref ak])), (ac, .inl (gI G, 6, .inl (fun _ => 0))), (ak, .inl (gI G, 4, .inl fk)), (h1, .inr (6, [.int 6, .ref a_maps, .int 0, .ref a_kinds, .int 0, .int 1, .ref a_part, .ref a_pad, .int 0, .ref a_slips, .int 0, .int 0, .ref a_queue, .ref a_depth, .ref a_by, .ref a_from, .int 0, .ref a_offOf, .ref a_parent, .ref a_best, .int 0, .int 0, .ref a_sums, .ref a_toward, .ref a_kept, .ref a_isKept, .int 0, .int 0])), (a_maps, .inl (gI G, 6, .inl fmm)), (a_kinds, .inl (gI G, 4, .inl fkm)), (a_part, .inl (gI G, 6, .inl fpm)), (a_pad, .inl (gI G, 40, .inl (fun _ => 0))), (a_slips, .inl (gI G, 10, .inl (fun _ => 0))), (a_kept, .inl (gI G, 80, .inl (fun _ => 0))), (a_isKept, .inl (gZ G, 2, .inl (fun _ => 0)))]) (hS : va_S (fun q : Nat => s.heap.size ≤ q) s.heap H locs) (hl : lv_has ls 4 [(3, .int 0), (2, .ref h1), (1, .ref h0), (0, .ref b)]) : W p l e room_1 s m #[Value.ref b] below meth c H locs 25 94050 (lw_Z below #[Value.ref b] s) (F0 m 692 ls []) := by
  have C0 := C
  obtain ⟨hx, hb, hr, hml, hown, hts0, hX, hbl, hlocks, hgv⟩ := C
  have hts : ∀ w ∈ wsL_law, w.before #[Value.ref b] s = true := fun w h => hts0 w (wsL_law_in w h)
  have hbA : ¬ (fun q : Nat => s.heap.size ≤ q) b := Nat.not_le.mpr hbl
  have hA : ∀ q : Nat, s.heap.size ≤ q → (fun q : Nat => s.heap.size ≤ q) q := fun _ h => h
  refine lv_aload_n hx hb dL_law_692 rfl (lv_at hl 2 rfl) ?_
  refine lv_aload_n hx hb dL_law_693 rfl (lv_at hl 3 rfl) ?_
  refine lv_iload_n hx hb dL_law_694 rfl (lv_at hl 0 rfl) ?_
  refine lv_iconst (v := 1) hx hb dL_law_695 (by decide) ?_
  refine lv_iadd hx hb dL_law_696 ?_
  refine lv_topi (fun x1 ex1 => ?_)
  obtain rfl : x1 = 1 := by rw [ex1]; decide
  refine va_sld hx hb hX hbl hbA hS (i := 1) (by rw [hL6]; unfold vp_in; decide) dL_law_697 ?_
  refine lv_topi (fun x2 ex2 => ?_)
  refine ca_i (wr := [(h1, .inr (6, [.int 6, .ref a_maps, .int 0, .ref a_kinds, .int 0, .int 1, .ref a_part, .ref a_pad, .int 0, .ref a_slips, .int 0, .int 0, .ref a_queue, .ref a_depth, .ref a_by, .ref a_from, .int 0, .ref a_offOf, .ref a_parent, .ref a_best, .int 0, .int 0, .ref a_sums, .ref a_toward, .ref a_kept, .ref a_isKept, .int 0, .int 0])), (a_maps, .inl (gI G, 6, .inl fmm)), (a_kinds, .inl (gI G, 4, .inl fkm)), (a_part, .inl (gI G, 6, .inl fpm)), (a_pad, .inl (gI G, 40, .inl (fun _ => 0))), (a_slips, .inl (gI G, 10, .inl (fun _ => 0))), (a_kept, .inl (gI G, 80, .inl (fun _ => 0))), (a_isKept, .inl (gZ G, 2, .inl (fun _ => 0)))]) (va_runV (As := [.int x2]) (rest := []) ⟨hx, hb, hml, hown, hts⟩ (f_spades l G H.size h0 pad pp im sg sl ac ak fk x2 hk) (cwV 1 hts gL_law_X9_spades rfl rfl rfl (by decide +kernel) ⟨by decide +kernel, by decide +kernel⟩) (pre_V E hP hD hS hA [0, 1, 2, 3, 4, 5, 6, 7] (by decide) rfl 0 5 rfl rfl) rfl rfl hl.1 rfl (lv_room (Nat.le_of_ble_eq_true rfl)) dL_law_698 ⟨by decide +kernel, by decide +kernel⟩) hS hP hD hA [0, 1, 2, 3, 4, 5, 6, 7] [8, 9, 10, 11, 12, 13, 14, 15] rfl rfl (by decide) (by decide) (fun r4 u5 H locs w3 hP hD hS => ?_)
  try dsimp only at w3 hP hD
  have hP := hP.sub (ws' := [(h1, .inr (6, [.int 6, .ref a_maps, .int 0, .ref a_kinds, .int 0, .int 1, .ref a_part, .ref a_pad, .int 0, .ref a_slips, .int 0, .int 0, .ref a_queue, .ref a_depth, .ref a_by, .ref a_from, .int 0, .ref a_offOf, .ref a_parent, .ref a_best, .int 0, .int 0, .ref a_sums, .ref a_toward, .ref a_kept, .ref a_isKept, .int 0, .int 0])), (a_maps, .inl (gI G, 6, .inl fmm)), (a_kinds, .inl (gI G, 4, .inl fkm)), (a_part, .inl (gI G, 6, .inl fpm)), (a_pad, .inl (gI G, 40, .inl (fun _ => 0))), (a_slips, .inl (gI G, 10, .inl (fun _ => 0))), (a_kept, .inl (gI G, 80, .inl (fun _ => 0))), (a_isKept, .inl (gZ G, 2, .inl (fun _ => 0)))]) [0, 1, 2, 3, 4, 5, 6, 7] rfl
  have hD := hD.sub (ws' := [(h1, .inr (6, [.int 6, .ref a_maps, .int 0, .ref a_kinds, .int 0, .int 1, .ref a_part, .ref a_pad, .int 0, .ref a_slips, .int 0, .int 0, .ref a_queue, .ref a_depth, .ref a_by, .ref a_from, .int 0, .ref a_offOf, .ref a_parent, .ref a_best, .int 0, .int 0, .ref a_sums, .ref a_toward, .ref a_kept, .ref a_isKept, .int 0, .int 0])), (a_maps, .inl (gI G, 6, .inl fmm)), (a_kinds, .inl (gI G, 4, .inl fkm)), (a_part, .inl (gI G, 6, .inl fpm)), (a_pad, .inl (gI G, 40, .inl (fun _ => 0))), (a_slips, .inl (gI G, 10, .inl (fun _ => 0))), (a_kept, .inl (gI G, 80, .inl (fun _ => 0))), (a_isKept, .inl (gZ G, 2, .inl (fun _ => 0)))]) [0, 1, 2, 3, 4, 5, 6, 7] (by decide) rfl
  refine lv_aload_n hx hb dL_law_701 rfl (lv_at hl 1 rfl) ?_
  refine lv_aload_n hx hb dL_law_702 rfl (lv_at hl 3 rfl) ?_
  refine lv_iload_n hx hb dL_law_703 rfl (lv_at hl 0 rfl) ?_
  refine lv_iconst (v := 1) hx hb dL_law_704 (by decide) ?_
  refine lv_iadd hx hb dL_law_705 ?_
  refine lv_topi (fun x6 ex6 => ?_)
  obtain rfl : x6 = 1 := by rw [ex6]; decide
  refine va_sld hx hb hX hbl hbA hS (i := 1) (by rw [hL6]; unfold vp_in; decide) dL_law_706 ?_
  refine lv_topi (fun x7 ex7 => ?_)
  refine ca_i (wr := []) (va_runV (As := [.int x7]) (rest := [.int r4]) ⟨hx, hb, hml, hown, hts⟩ (g_spades l G H.size h1 a_maps a_kinds a_part a_pad a_slips a_queue a_depth a_by a_from a_offOf a_parent a_best a_sums a_toward a_kept a_isKept fmm fkm fpm x7 hkm hpm) (cwV 1 hts gL_law_X10_spades rfl rfl rfl (by decide +kernel) ⟨by decide +kernel, by decide +kernel⟩) (pre_V E hP hD hS hA [0, 1, 2, 3, 4, 5, 6, 7] (by decide) rfl 0 6 rfl rfl) rfl rfl hl.1 rfl (lv_room (Nat.le_of_ble_eq_true rfl)) dL_law_707 ⟨by decide +kernel, by decide +kernel⟩) hS hP hD hA [0, 1, 2, 3, 4, 5, 6, 7] [] rfl rfl (by decide) (by decide) (fun r9 u10 H locs w8 hP hD hS => ?_)
  try dsimp only at w8 hP hD
  have hP := hP.sub (ws' := []) [] rfl
  have hD := hD.sub (ws' := []) [] (by decide) rfl
  refine lv_icmp_eq (tgt := 926) hx hb dL_law_710 (by decide) (fun c11 => ?_) (fun c11 => absurd (by rw [w3, w8]; simp only [ex2, ex7]) c11)
  refine lv_iinc (v := 6) (lv' := [(3, .int 6), (2, .ref h1), (1, .ref h0), (0, .ref b)]) hx hb dL_law_926 hl (k := 0) rfl (by decide) (by decide) rfl (fun ls hl => ?_)
  refine lv_goto (tgt := 18) hx hb dL_law_929 (by decide) ?_
  refine W.widen (k := 600000) (n := 7302249) (by decide +kernel) (by decide +kernel) ?_
  exact law_end hL C0 hS (lv_sub hl [0, 3] rfl)

set_option maxHeartbeats 1000000 in
set_option maxRecDepth 100000 in
theorem law_land {p : Program} {l : Launch} {e : Env} {s : State} {m : MethodId} {below : List Frame} {meth : Method} {c : Code} {b L : Nat} {xs : Nat → Int32} {G : Gy} {h0 : Nat} {pad : Nat} {pp : Nat} {im : Nat} {sg : Nat} {sl : Nat} {ac : Nat} {ak : Nat} {fk : Nat → Int32} {h1 : Nat} {a_maps : Nat} {a_kinds : Nat} {a_part : Nat} {a_pad : Nat} {a_slips : Nat} {a_queue : Nat} {a_depth : Nat} {a_by : Nat} {a_from : Nat} {a_offOf : Nat} {a_parent : Nat} {a_best : Nat} {a_sums : Nat} {a_toward : Nat} {a_kept : Nat} {a_isKept : Nat} {fmm : Nat → Int32} {fkm : Nat → Int32} {fpm : Nat → Int32} (hL : L ≤ 6) (hL6 : L = 6) (C : lw_At p s m meth c b L xs) (E : EV G (fun q : Nat => s.heap.size ≤ q) s s.heap) (hk : ∀ j : Nat, j < 4 → fk j = 15) (hkm : ∀ j : Nat, j < 4 → fkm j = 15) (hpm : ∀ j : Nat, j < 6 → ¬ fpm j = 0) {H : Heap} {locs : List Loc} {ls : Array Slot} (hP : va_P G.1 vwCl [(h0, .inr (5, [.ref pad, .ref pp, .ref im, .null, .null])), (im, .inl (gP G, 2, .inr (.inr (.inr (.inr (fun _ => none)))))), (pad, .inr (0, [.ref sg, .ref sl, .int 0])), (sg, .inl (gI G, 40, .inl (fun _ => 0))), (sl, .inl (gI G, 10, .inl (fun _ => 0))), (pp, .inr (1, [.int 6, .int 0, .int 1, .int 0, .ref ac, .ref ak])), (ac, .inl (gI G, 6, .inl (fun _ => 0))), (ak, .inl (gI G, 4, .inl fk)), (h1, .inr (6, [.int 6, .ref a_maps, .int 0, .ref a_kinds, .int 0, .int 1, .ref a_part, .ref a_pad, .int 0, .ref a_slips, .int 0, .int 0, .ref a_queue, .ref a_depth, .ref a_by, .ref a_from, .int 0, .ref a_offOf, .ref a_parent, .ref a_best, .int 0, .int 0, .ref a_sums, .ref a_toward, .ref a_kept, .ref a_isKept, .int 0, .int 0])), (a_maps, .inl (gI G, 6, .inl fmm)), (a_kinds, .inl (gI G, 4, .inl fkm)), (a_part, .inl (gI G, 6, .inl fpm)), (a_pad, .inl (gI G, 40, .inl (fun _ => 0))), (a_slips, .inl (gI G, 10, .inl (fun _ => 0))), (a_kept, .inl (gI G, 80, .inl (fun _ => 0))), (a_isKept, .inl (gZ G, 2, .inl (fun _ => 0)))] H) (hD : va_D (fun q : Nat => s.heap.size ≤ q) [(h0, .inr (5, [.ref pad, .ref pp, .ref im, .null, .null])), (im, .inl (gP G, 2, .inr (.inr (.inr (.inr (fun _ => none)))))), (pad, .inr (0, [.ref sg, .ref sl, .int 0])), (sg, .inl (gI G, 40, .inl (fun _ => 0))), (sl, .inl (gI G, 10, .inl (fun _ => 0))), (pp, .inr (1, [.int 6, .int 0, .int 1, .int 0, .ref ac, .ref ak])), (ac, .inl (gI G, 6, .inl (fun _ => 0))), (ak, .inl (gI G, 4, .inl fk)), (h1, .inr (6, [.int 6, .ref a_maps, .int 0, .ref a_kinds, .int 0, .int 1, .ref a_part, .ref a_pad, .int 0, .ref a_slips, .int 0, .int 0, .ref a_queue, .ref a_depth, .ref a_by, .ref a_from, .int 0, .ref a_offOf, .ref a_parent, .ref a_best, .int 0, .int 0, .ref a_sums, .ref a_toward, .ref a_kept, .ref a_isKept, .int 0, .int 0])), (a_maps, .inl (gI G, 6, .inl fmm)), (a_kinds, .inl (gI G, 4, .inl fkm)), (a_part, .inl (gI G, 6, .inl fpm)), (a_pad, .inl (gI G, 40, .inl (fun _ => 0))), (a_slips, .inl (gI G, 10, .inl (fun _ => 0))), (a_kept, .inl (gI G, 80, .inl (fun _ => 0))), (a_isKept, .inl (gZ G, 2, .inl (fun _ => 0)))]) (hS : va_S (fun q : Nat => s.heap.size ≤ q) s.heap H locs) (hl : lv_has ls 4 [(3, .int 0), (2, .ref h1), (1, .ref h0), (0, .ref b)]) : W p l e room_1 s m #[Value.ref b] below meth c H locs 25 94050 (lw_Z below #[Value.ref b] s) (F0 m 715 ls []) := by
  have C0 := C
  obtain ⟨hx, hb, hr, hml, hown, hts0, hX, hbl, hlocks, hgv⟩ := C
  have hts : ∀ w ∈ wsL_law, w.before #[Value.ref b] s = true := fun w h => hts0 w (wsL_law_in w h)
  have hbA : ¬ (fun q : Nat => s.heap.size ≤ q) b := Nat.not_le.mpr hbl
  have hA : ∀ q : Nat, s.heap.size ≤ q → (fun q : Nat => s.heap.size ≤ q) q := fun _ h => h
  refine lv_aload_n hx hb dL_law_715 rfl (lv_at hl 2 rfl) ?_
  refine lv_aload_n hx hb dL_law_716 rfl (lv_at hl 3 rfl) ?_
  refine lv_iload_n hx hb dL_law_717 rfl (lv_at hl 0 rfl) ?_
  refine lv_iconst (v := 1) hx hb dL_law_718 (by decide) ?_
  refine lv_iadd hx hb dL_law_719 ?_
  refine lv_topi (fun x1 ex1 => ?_)
  obtain rfl : x1 = 1 := by rw [ex1]; decide
  refine va_sld hx hb hX hbl hbA hS (i := 1) (by rw [hL6]; unfold vp_in; decide) dL_law_720 ?_
  refine lv_topi (fun x2 ex2 => ?_)
  refine ca_i (wr := [(h1, .inr (6, [.int 6, .ref a_maps, .int 0, .ref a_kinds, .int 0, .int 1, .ref a_part, .ref a_pad, .int 0, .ref a_slips, .int 0, .int 0, .ref a_queue, .ref a_depth, .ref a_by, .ref a_from, .int 0, .ref a_offOf, .ref a_parent, .ref a_best, .int 0, .int 0, .ref a_sums, .ref a_toward, .ref a_kept, .ref a_isKept, .int 0, .int 0])), (a_maps, .inl (gI G, 6, .inl fmm)), (a_kinds, .inl (gI G, 4, .inl fkm)), (a_part, .inl (gI G, 6, .inl fpm)), (a_pad, .inl (gI G, 40, .inl (fun _ => 0))), (a_slips, .inl (gI G, 10, .inl (fun _ => 0))), (a_kept, .inl (gI G, 80, .inl (fun _ => 0))), (a_isKept, .inl (gZ G, 2, .inl (fun _ => 0)))]) (va_runV (As := [.int x2]) (rest := []) ⟨hx, hb, hml, hown, hts⟩ (f_land l G H.size h0 pad pp im sg sl ac ak fk x2 hk) (cwV 1 hts gL_law_X9_land rfl rfl rfl (by decide +kernel) ⟨by decide +kernel, by decide +kernel⟩) (pre_V E hP hD hS hA [0, 1, 2, 3, 4, 5, 6, 7] (by decide) rfl 0 5 rfl rfl) rfl rfl hl.1 rfl (lv_room (Nat.le_of_ble_eq_true rfl)) dL_law_721 ⟨by decide +kernel, by decide +kernel⟩) hS hP hD hA [0, 1, 2, 3, 4, 5, 6, 7] [8, 9, 10, 11, 12, 13, 14, 15] rfl rfl (by decide) (by decide) (fun r4 u5 H locs w3 hP hD hS => ?_)
  try dsimp only at w3 hP hD
  have hP := hP.sub (ws' := [(h1, .inr (6, [.int 6, .ref a_maps, .int 0, .ref a_kinds, .int 0, .int 1, .ref a_part, .ref a_pad, .int 0, .ref a_slips, .int 0, .int 0, .ref a_queue, .ref a_depth, .ref a_by, .ref a_from, .int 0, .ref a_offOf, .ref a_parent, .ref a_best, .int 0, .int 0, .ref a_sums, .ref a_toward, .ref a_kept, .ref a_isKept, .int 0, .int 0])), (a_maps, .inl (gI G, 6, .inl fmm)), (a_kinds, .inl (gI G, 4, .inl fkm)), (a_part, .inl (gI G, 6, .inl fpm)), (a_pad, .inl (gI G, 40, .inl (fun _ => 0))), (a_slips, .inl (gI G, 10, .inl (fun _ => 0))), (a_kept, .inl (gI G, 80, .inl (fun _ => 0))), (a_isKept, .inl (gZ G, 2, .inl (fun _ => 0)))]) [0, 1, 2, 3, 4, 5, 6, 7] rfl
  have hD := hD.sub (ws' := [(h1, .inr (6, [.int 6, .ref a_maps, .int 0, .ref a_kinds, .int 0, .int 1, .ref a_part, .ref a_pad, .int 0, .ref a_slips, .int 0, .int 0, .ref a_queue, .ref a_depth, .ref a_by, .ref a_from, .int 0, .ref a_offOf, .ref a_parent, .ref a_best, .int 0, .int 0, .ref a_sums, .ref a_toward, .ref a_kept, .ref a_isKept, .int 0, .int 0])), (a_maps, .inl (gI G, 6, .inl fmm)), (a_kinds, .inl (gI G, 4, .inl fkm)), (a_part, .inl (gI G, 6, .inl fpm)), (a_pad, .inl (gI G, 40, .inl (fun _ => 0))), (a_slips, .inl (gI G, 10, .inl (fun _ => 0))), (a_kept, .inl (gI G, 80, .inl (fun _ => 0))), (a_isKept, .inl (gZ G, 2, .inl (fun _ => 0)))]) [0, 1, 2, 3, 4, 5, 6, 7] (by decide) rfl
  refine lv_aload_n hx hb dL_law_724 rfl (lv_at hl 1 rfl) ?_
  refine lv_aload_n hx hb dL_law_725 rfl (lv_at hl 3 rfl) ?_
  refine lv_iload_n hx hb dL_law_726 rfl (lv_at hl 0 rfl) ?_
  refine lv_iconst (v := 1) hx hb dL_law_727 (by decide) ?_
  refine lv_iadd hx hb dL_law_728 ?_
  refine lv_topi (fun x6 ex6 => ?_)
  obtain rfl : x6 = 1 := by rw [ex6]; decide
  refine va_sld hx hb hX hbl hbA hS (i := 1) (by rw [hL6]; unfold vp_in; decide) dL_law_729 ?_
  refine lv_topi (fun x7 ex7 => ?_)
  refine ca_i (wr := []) (va_runV (As := [.int x7]) (rest := [.int r4]) ⟨hx, hb, hml, hown, hts⟩ (g_land l G H.size h1 a_maps a_kinds a_part a_pad a_slips a_queue a_depth a_by a_from a_offOf a_parent a_best a_sums a_toward a_kept a_isKept fmm fkm fpm x7 hkm hpm) (cwV 1 hts gL_law_X10_land rfl rfl rfl (by decide +kernel) ⟨by decide +kernel, by decide +kernel⟩) (pre_V E hP hD hS hA [0, 1, 2, 3, 4, 5, 6, 7] (by decide) rfl 0 6 rfl rfl) rfl rfl hl.1 rfl (lv_room (Nat.le_of_ble_eq_true rfl)) dL_law_730 ⟨by decide +kernel, by decide +kernel⟩) hS hP hD hA [0, 1, 2, 3, 4, 5, 6, 7] [] rfl rfl (by decide) (by decide) (fun r9 u10 H locs w8 hP hD hS => ?_)
  try dsimp only at w8 hP hD
  have hP := hP.sub (ws' := []) [] rfl
  have hD := hD.sub (ws' := []) [] (by decide) rfl
  refine lv_icmp_eq (tgt := 926) hx hb dL_law_733 (by decide) (fun c11 => ?_) (fun c11 => absurd (by rw [w3, w8]; simp only [ex2, ex7]) c11)
  refine lv_iinc (v := 6) (lv' := [(3, .int 6), (2, .ref h1), (1, .ref h0), (0, .ref b)]) hx hb dL_law_926 hl (k := 0) rfl (by decide) (by decide) rfl (fun ls hl => ?_)
  refine lv_goto (tgt := 18) hx hb dL_law_929 (by decide) ?_
  refine W.widen (k := 600000) (n := 7302249) (by decide +kernel) (by decide +kernel) ?_
  exact law_end hL C0 hS (lv_sub hl [0, 3] rfl)

set_option maxHeartbeats 1000000 in
set_option maxRecDepth 100000 in
theorem law_years {p : Program} {l : Launch} {e : Env} {s : State} {m : MethodId} {below : List Frame} {meth : Method} {c : Code} {b L : Nat} {xs : Nat → Int32} {G : Gy} {h0 : Nat} {pad : Nat} {pp : Nat} {im : Nat} {sg : Nat} {sl : Nat} {ac : Nat} {ak : Nat} {fk : Nat → Int32} {h1 : Nat} {a_maps : Nat} {a_kinds : Nat} {a_part : Nat} {a_pad : Nat} {a_slips : Nat} {a_queue : Nat} {a_depth : Nat} {a_by : Nat} {a_from : Nat} {a_offOf : Nat} {a_parent : Nat} {a_best : Nat} {a_sums : Nat} {a_toward : Nat} {a_kept : Nat} {a_isKept : Nat} {fmm : Nat → Int32} {fkm : Nat → Int32} {fpm : Nat → Int32} (hL : L ≤ 6) (hL6 : L = 6) (C : lw_At p s m meth c b L xs) (E : EV G (fun q : Nat => s.heap.size ≤ q) s s.heap) (hk : ∀ j : Nat, j < 4 → fk j = 15) (hkm : ∀ j : Nat, j < 4 → fkm j = 15) (hpm : ∀ j : Nat, j < 6 → ¬ fpm j = 0) {H : Heap} {locs : List Loc} {ls : Array Slot} (hP : va_P G.1 vwCl [(h0, .inr (5, [.ref pad, .ref pp, .ref im, .null, .null])), (im, .inl (gP G, 2, .inr (.inr (.inr (.inr (fun _ => none)))))), (pad, .inr (0, [.ref sg, .ref sl, .int 0])), (sg, .inl (gI G, 40, .inl (fun _ => 0))), (sl, .inl (gI G, 10, .inl (fun _ => 0))), (pp, .inr (1, [.int 6, .int 0, .int 1, .int 0, .ref ac, .ref ak])), (ac, .inl (gI G, 6, .inl (fun _ => 0))), (ak, .inl (gI G, 4, .inl fk)), (h1, .inr (6, [.int 6, .ref a_maps, .int 0, .ref a_kinds, .int 0, .int 1, .ref a_part, .ref a_pad, .int 0, .ref a_slips, .int 0, .int 0, .ref a_queue, .ref a_depth, .ref a_by, .ref a_from, .int 0, .ref a_offOf, .ref a_parent, .ref a_best, .int 0, .int 0, .ref a_sums, .ref a_toward, .ref a_kept, .ref a_isKept, .int 0, .int 0])), (a_maps, .inl (gI G, 6, .inl fmm)), (a_kinds, .inl (gI G, 4, .inl fkm)), (a_part, .inl (gI G, 6, .inl fpm)), (a_pad, .inl (gI G, 40, .inl (fun _ => 0))), (a_slips, .inl (gI G, 10, .inl (fun _ => 0))), (a_kept, .inl (gI G, 80, .inl (fun _ => 0))), (a_isKept, .inl (gZ G, 2, .inl (fun _ => 0)))] H) (hD : va_D (fun q : Nat => s.heap.size ≤ q) [(h0, .inr (5, [.ref pad, .ref pp, .ref im, .null, .null])), (im, .inl (gP G, 2, .inr (.inr (.inr (.inr (fun _ => none)))))), (pad, .inr (0, [.ref sg, .ref sl, .int 0])), (sg, .inl (gI G, 40, .inl (fun _ => 0))), (sl, .inl (gI G, 10, .inl (fun _ => 0))), (pp, .inr (1, [.int 6, .int 0, .int 1, .int 0, .ref ac, .ref ak])), (ac, .inl (gI G, 6, .inl (fun _ => 0))), (ak, .inl (gI G, 4, .inl fk)), (h1, .inr (6, [.int 6, .ref a_maps, .int 0, .ref a_kinds, .int 0, .int 1, .ref a_part, .ref a_pad, .int 0, .ref a_slips, .int 0, .int 0, .ref a_queue, .ref a_depth, .ref a_by, .ref a_from, .int 0, .ref a_offOf, .ref a_parent, .ref a_best, .int 0, .int 0, .ref a_sums, .ref a_toward, .ref a_kept, .ref a_isKept, .int 0, .int 0])), (a_maps, .inl (gI G, 6, .inl fmm)), (a_kinds, .inl (gI G, 4, .inl fkm)), (a_part, .inl (gI G, 6, .inl fpm)), (a_pad, .inl (gI G, 40, .inl (fun _ => 0))), (a_slips, .inl (gI G, 10, .inl (fun _ => 0))), (a_kept, .inl (gI G, 80, .inl (fun _ => 0))), (a_isKept, .inl (gZ G, 2, .inl (fun _ => 0)))]) (hS : va_S (fun q : Nat => s.heap.size ≤ q) s.heap H locs) (hl : lv_has ls 4 [(3, .int 0), (2, .ref h1), (1, .ref h0), (0, .ref b)]) : W p l e room_1 s m #[Value.ref b] below meth c H locs 25 94050 (lw_Z below #[Value.ref b] s) (F0 m 738 ls []) := by
  have C0 := C
  obtain ⟨hx, hb, hr, hml, hown, hts0, hX, hbl, hlocks, hgv⟩ := C
  have hts : ∀ w ∈ wsL_law, w.before #[Value.ref b] s = true := fun w h => hts0 w (wsL_law_in w h)
  have hbA : ¬ (fun q : Nat => s.heap.size ≤ q) b := Nat.not_le.mpr hbl
  have hA : ∀ q : Nat, s.heap.size ≤ q → (fun q : Nat => s.heap.size ≤ q) q := fun _ h => h
  refine lv_aload_n hx hb dL_law_738 rfl (lv_at hl 2 rfl) ?_
  refine lv_aload_n hx hb dL_law_739 rfl (lv_at hl 3 rfl) ?_
  refine lv_iload_n hx hb dL_law_740 rfl (lv_at hl 0 rfl) ?_
  refine lv_iconst (v := 1) hx hb dL_law_741 (by decide) ?_
  refine lv_iadd hx hb dL_law_742 ?_
  refine lv_topi (fun x1 ex1 => ?_)
  obtain rfl : x1 = 1 := by rw [ex1]; decide
  refine va_sld hx hb hX hbl hbA hS (i := 1) (by rw [hL6]; unfold vp_in; decide) dL_law_743 ?_
  refine lv_topi (fun x2 ex2 => ?_)
  refine ca_i (wr := [(h1, .inr (6, [.int 6, .ref a_maps, .int 0, .ref a_kinds, .int 0, .int 1, .ref a_part, .ref a_pad, .int 0, .ref a_slips, .int 0, .int 0, .ref a_queue, .ref a_depth, .ref a_by, .ref a_from, .int 0, .ref a_offOf, .ref a_parent, .ref a_best, .int 0, .int 0, .ref a_sums, .ref a_toward, .ref a_kept, .ref a_isKept, .int 0, .int 0])), (a_maps, .inl (gI G, 6, .inl fmm)), (a_kinds, .inl (gI G, 4, .inl fkm)), (a_part, .inl (gI G, 6, .inl fpm)), (a_pad, .inl (gI G, 40, .inl (fun _ => 0))), (a_slips, .inl (gI G, 10, .inl (fun _ => 0))), (a_kept, .inl (gI G, 80, .inl (fun _ => 0))), (a_isKept, .inl (gZ G, 2, .inl (fun _ => 0)))]) (va_runV (As := [.int x2]) (rest := []) ⟨hx, hb, hml, hown, hts⟩ (f_years l G H.size h0 pad pp im sg sl ac ak fk x2 hk) (cwV 1 hts gL_law_X9_years rfl rfl rfl (by decide +kernel) ⟨by decide +kernel, by decide +kernel⟩) (pre_V E hP hD hS hA [0, 1, 2, 3, 4, 5, 6, 7] (by decide) rfl 0 5 rfl rfl) rfl rfl hl.1 rfl (lv_room (Nat.le_of_ble_eq_true rfl)) dL_law_744 ⟨by decide +kernel, by decide +kernel⟩) hS hP hD hA [0, 1, 2, 3, 4, 5, 6, 7] [8, 9, 10, 11, 12, 13, 14, 15] rfl rfl (by decide) (by decide) (fun r4 u5 H locs w3 hP hD hS => ?_)
  try dsimp only at w3 hP hD
  have hP := hP.sub (ws' := [(h1, .inr (6, [.int 6, .ref a_maps, .int 0, .ref a_kinds, .int 0, .int 1, .ref a_part, .ref a_pad, .int 0, .ref a_slips, .int 0, .int 0, .ref a_queue, .ref a_depth, .ref a_by, .ref a_from, .int 0, .ref a_offOf, .ref a_parent, .ref a_best, .int 0, .int 0, .ref a_sums, .ref a_toward, .ref a_kept, .ref a_isKept, .int 0, .int 0])), (a_maps, .inl (gI G, 6, .inl fmm)), (a_kinds, .inl (gI G, 4, .inl fkm)), (a_part, .inl (gI G, 6, .inl fpm)), (a_pad, .inl (gI G, 40, .inl (fun _ => 0))), (a_slips, .inl (gI G, 10, .inl (fun _ => 0))), (a_kept, .inl (gI G, 80, .inl (fun _ => 0))), (a_isKept, .inl (gZ G, 2, .inl (fun _ => 0)))]) [0, 1, 2, 3, 4, 5, 6, 7] rfl
  have hD := hD.sub (ws' := [(h1, .inr (6, [.int 6, .ref a_maps, .int 0, .ref a_kinds, .int 0, .int 1, .ref a_part, .ref a_pad, .int 0, .ref a_slips, .int 0, .int 0, .ref a_queue, .ref a_depth, .ref a_by, .ref a_from, .int 0, .ref a_offOf, .ref a_parent, .ref a_best, .int 0, .int 0, .ref a_sums, .ref a_toward, .ref a_kept, .ref a_isKept, .int 0, .int 0])), (a_maps, .inl (gI G, 6, .inl fmm)), (a_kinds, .inl (gI G, 4, .inl fkm)), (a_part, .inl (gI G, 6, .inl fpm)), (a_pad, .inl (gI G, 40, .inl (fun _ => 0))), (a_slips, .inl (gI G, 10, .inl (fun _ => 0))), (a_kept, .inl (gI G, 80, .inl (fun _ => 0))), (a_isKept, .inl (gZ G, 2, .inl (fun _ => 0)))]) [0, 1, 2, 3, 4, 5, 6, 7] (by decide) rfl
  refine lv_aload_n hx hb dL_law_747 rfl (lv_at hl 1 rfl) ?_
  refine lv_aload_n hx hb dL_law_748 rfl (lv_at hl 3 rfl) ?_
  refine lv_iload_n hx hb dL_law_749 rfl (lv_at hl 0 rfl) ?_
  refine lv_iconst (v := 1) hx hb dL_law_750 (by decide) ?_
  refine lv_iadd hx hb dL_law_751 ?_
  refine lv_topi (fun x6 ex6 => ?_)
  obtain rfl : x6 = 1 := by rw [ex6]; decide
  refine va_sld hx hb hX hbl hbA hS (i := 1) (by rw [hL6]; unfold vp_in; decide) dL_law_752 ?_
  refine lv_topi (fun x7 ex7 => ?_)
  refine ca_i (wr := []) (va_runV (As := [.int x7]) (rest := [.int r4]) ⟨hx, hb, hml, hown, hts⟩ (g_years l G H.size h1 a_maps a_kinds a_part a_pad a_slips a_queue a_depth a_by a_from a_offOf a_parent a_best a_sums a_toward a_kept a_isKept fmm fkm fpm x7 hkm hpm) (cwV 1 hts gL_law_X10_years rfl rfl rfl (by decide +kernel) ⟨by decide +kernel, by decide +kernel⟩) (pre_V E hP hD hS hA [0, 1, 2, 3, 4, 5, 6, 7] (by decide) rfl 0 6 rfl rfl) rfl rfl hl.1 rfl (lv_room (Nat.le_of_ble_eq_true rfl)) dL_law_753 ⟨by decide +kernel, by decide +kernel⟩) hS hP hD hA [0, 1, 2, 3, 4, 5, 6, 7] [] rfl rfl (by decide) (by decide) (fun r9 u10 H locs w8 hP hD hS => ?_)
  try dsimp only at w8 hP hD
  have hP := hP.sub (ws' := []) [] rfl
  have hD := hD.sub (ws' := []) [] (by decide) rfl
  refine lv_icmp_eq (tgt := 926) hx hb dL_law_756 (by decide) (fun c11 => ?_) (fun c11 => absurd (by rw [w3, w8]; simp only [ex2, ex7]) c11)
  refine lv_iinc (v := 6) (lv' := [(3, .int 6), (2, .ref h1), (1, .ref h0), (0, .ref b)]) hx hb dL_law_926 hl (k := 0) rfl (by decide) (by decide) rfl (fun ls hl => ?_)
  refine lv_goto (tgt := 18) hx hb dL_law_929 (by decide) ?_
  refine W.widen (k := 600000) (n := 7302249) (by decide +kernel) (by decide +kernel) ?_
  exact law_end hL C0 hS (lv_sub hl [0, 3] rfl)

set_option maxHeartbeats 1000000 in
set_option maxRecDepth 100000 in
theorem law_follow {p : Program} {l : Launch} {e : Env} {s : State} {m : MethodId} {below : List Frame} {meth : Method} {c : Code} {b L : Nat} {xs : Nat → Int32} {G : Gy} {h0 : Nat} {pad : Nat} {pp : Nat} {im : Nat} {sg : Nat} {sl : Nat} {ac : Nat} {ak : Nat} {fk : Nat → Int32} {h1 : Nat} {a_maps : Nat} {a_kinds : Nat} {a_part : Nat} {a_pad : Nat} {a_slips : Nat} {a_queue : Nat} {a_depth : Nat} {a_by : Nat} {a_from : Nat} {a_offOf : Nat} {a_parent : Nat} {a_best : Nat} {a_sums : Nat} {a_toward : Nat} {a_kept : Nat} {a_isKept : Nat} {fmm : Nat → Int32} {fkm : Nat → Int32} {fpm : Nat → Int32} (hL : L ≤ 6) (hL6 : L = 6) (C : lw_At p s m meth c b L xs) (E : EV G (fun q : Nat => s.heap.size ≤ q) s s.heap) (hk : ∀ j : Nat, j < 4 → fk j = 15) (hkm : ∀ j : Nat, j < 4 → fkm j = 15) (hpm : ∀ j : Nat, j < 6 → ¬ fpm j = 0) {H : Heap} {locs : List Loc} {ls : Array Slot} (hP : va_P G.1 vwCl [(h0, .inr (5, [.ref pad, .ref pp, .ref im, .null, .null])), (im, .inl (gP G, 2, .inr (.inr (.inr (.inr (fun _ => none)))))), (pad, .inr (0, [.ref sg, .ref sl, .int 0])), (sg, .inl (gI G, 40, .inl (fun _ => 0))), (sl, .inl (gI G, 10, .inl (fun _ => 0))), (pp, .inr (1, [.int 6, .int 0, .int 1, .int 0, .ref ac, .ref ak])), (ac, .inl (gI G, 6, .inl (fun _ => 0))), (ak, .inl (gI G, 4, .inl fk)), (h1, .inr (6, [.int 6, .ref a_maps, .int 0, .ref a_kinds, .int 0, .int 1, .ref a_part, .ref a_pad, .int 0, .ref a_slips, .int 0, .int 0, .ref a_queue, .ref a_depth, .ref a_by, .ref a_from, .int 0, .ref a_offOf, .ref a_parent, .ref a_best, .int 0, .int 0, .ref a_sums, .ref a_toward, .ref a_kept, .ref a_isKept, .int 0, .int 0])), (a_maps, .inl (gI G, 6, .inl fmm)), (a_kinds, .inl (gI G, 4, .inl fkm)), (a_part, .inl (gI G, 6, .inl fpm)), (a_pad, .inl (gI G, 40, .inl (fun _ => 0))), (a_slips, .inl (gI G, 10, .inl (fun _ => 0))), (a_kept, .inl (gI G, 80, .inl (fun _ => 0))), (a_isKept, .inl (gZ G, 2, .inl (fun _ => 0)))] H) (hD : va_D (fun q : Nat => s.heap.size ≤ q) [(h0, .inr (5, [.ref pad, .ref pp, .ref im, .null, .null])), (im, .inl (gP G, 2, .inr (.inr (.inr (.inr (fun _ => none)))))), (pad, .inr (0, [.ref sg, .ref sl, .int 0])), (sg, .inl (gI G, 40, .inl (fun _ => 0))), (sl, .inl (gI G, 10, .inl (fun _ => 0))), (pp, .inr (1, [.int 6, .int 0, .int 1, .int 0, .ref ac, .ref ak])), (ac, .inl (gI G, 6, .inl (fun _ => 0))), (ak, .inl (gI G, 4, .inl fk)), (h1, .inr (6, [.int 6, .ref a_maps, .int 0, .ref a_kinds, .int 0, .int 1, .ref a_part, .ref a_pad, .int 0, .ref a_slips, .int 0, .int 0, .ref a_queue, .ref a_depth, .ref a_by, .ref a_from, .int 0, .ref a_offOf, .ref a_parent, .ref a_best, .int 0, .int 0, .ref a_sums, .ref a_toward, .ref a_kept, .ref a_isKept, .int 0, .int 0])), (a_maps, .inl (gI G, 6, .inl fmm)), (a_kinds, .inl (gI G, 4, .inl fkm)), (a_part, .inl (gI G, 6, .inl fpm)), (a_pad, .inl (gI G, 40, .inl (fun _ => 0))), (a_slips, .inl (gI G, 10, .inl (fun _ => 0))), (a_kept, .inl (gI G, 80, .inl (fun _ => 0))), (a_isKept, .inl (gZ G, 2, .inl (fun _ => 0)))]) (hS : va_S (fun q : Nat => s.heap.size ≤ q) s.heap H locs) (hl : lv_has ls 4 [(3, .int 0), (2, .ref h1), (1, .ref h0), (0, .ref b)]) : W p l e room_1 s m #[Value.ref b] below meth c H locs 25 94050 (lw_Z below #[Value.ref b] s) (F0 m 761 ls []) := by
  have C0 := C
  obtain ⟨hx, hb, hr, hml, hown, hts0, hX, hbl, hlocks, hgv⟩ := C
  have hts : ∀ w ∈ wsL_law, w.before #[Value.ref b] s = true := fun w h => hts0 w (wsL_law_in w h)
  have hbA : ¬ (fun q : Nat => s.heap.size ≤ q) b := Nat.not_le.mpr hbl
  have hA : ∀ q : Nat, s.heap.size ≤ q → (fun q : Nat => s.heap.size ≤ q) q := fun _ h => h
  refine lv_aload_n hx hb dL_law_761 rfl (lv_at hl 2 rfl) ?_
  refine lv_aload_n hx hb dL_law_762 rfl (lv_at hl 3 rfl) ?_
  refine lv_iload_n hx hb dL_law_763 rfl (lv_at hl 0 rfl) ?_
  refine lv_iconst (v := 1) hx hb dL_law_764 (by decide) ?_
  refine lv_iadd hx hb dL_law_765 ?_
  refine lv_topi (fun x1 ex1 => ?_)
  obtain rfl : x1 = 1 := by rw [ex1]; decide
  refine va_sld hx hb hX hbl hbA hS (i := 1) (by rw [hL6]; unfold vp_in; decide) dL_law_766 ?_
  refine lv_topi (fun x2 ex2 => ?_)
  refine lv_aload_n hx hb dL_law_767 rfl (lv_at hl 3 rfl) ?_
  refine lv_iload_n hx hb dL_law_768 rfl (lv_at hl 0 rfl) ?_
  refine lv_iconst (v := 2) hx hb dL_law_769 (by decide) ?_
  refine lv_iadd hx hb dL_law_770 ?_
  refine lv_topi (fun x3 ex3 => ?_)
  obtain rfl : x3 = 2 := by rw [ex3]; decide
  refine va_sld hx hb hX hbl hbA hS (i := 2) (by rw [hL6]; unfold vp_in; decide) dL_law_771 ?_
  refine lv_topi (fun x4 ex4 => ?_)
  refine ca_i (wr := [(h1, .inr (6, [.int 6, .ref a_maps, .int 0, .ref a_kinds, .int 0, .int 1, .ref a_part, .ref a_pad, .int 0, .ref a_slips, .int 0, .int 0, .ref a_queue, .ref a_depth, .ref a_by, .ref a_from, .int 0, .ref a_offOf, .ref a_parent, .ref a_best, .int 0, .int 0, .ref a_sums, .ref a_toward, .ref a_kept, .ref a_isKept, .int 0, .int 0])), (a_maps, .inl (gI G, 6, .inl fmm)), (a_kinds, .inl (gI G, 4, .inl fkm)), (a_part, .inl (gI G, 6, .inl fpm)), (a_pad, .inl (gI G, 40, .inl (fun _ => 0))), (a_slips, .inl (gI G, 10, .inl (fun _ => 0))), (a_kept, .inl (gI G, 80, .inl (fun _ => 0))), (a_isKept, .inl (gZ G, 2, .inl (fun _ => 0)))]) (va_runV (As := [.int x2, .int x4]) (rest := []) ⟨hx, hb, hml, hown, hts⟩ (f_follow l G H.size h0 pad pp im sg sl ac ak fk x2 x4 hk) (cwV 2 hts gL_law_X9_follow rfl rfl rfl (by decide +kernel) ⟨by decide +kernel, by decide +kernel⟩) (pre_V E hP hD hS hA [0, 1, 2, 3, 4, 5, 6, 7] (by decide) rfl 0 5 rfl rfl) rfl rfl hl.1 rfl (lv_room (Nat.le_of_ble_eq_true rfl)) dL_law_772 ⟨by decide +kernel, by decide +kernel⟩) hS hP hD hA [0, 1, 2, 3, 4, 5, 6, 7] [8, 9, 10, 11, 12, 13, 14, 15] rfl rfl (by decide) (by decide) (fun r6 u7 H locs w5 hP hD hS => ?_)
  try dsimp only at w5 hP hD
  have hP := hP.sub (ws' := [(h1, .inr (6, [.int 6, .ref a_maps, .int 0, .ref a_kinds, .int 0, .int 1, .ref a_part, .ref a_pad, .int 0, .ref a_slips, .int 0, .int 0, .ref a_queue, .ref a_depth, .ref a_by, .ref a_from, .int 0, .ref a_offOf, .ref a_parent, .ref a_best, .int 0, .int 0, .ref a_sums, .ref a_toward, .ref a_kept, .ref a_isKept, .int 0, .int 0])), (a_maps, .inl (gI G, 6, .inl fmm)), (a_kinds, .inl (gI G, 4, .inl fkm)), (a_part, .inl (gI G, 6, .inl fpm)), (a_pad, .inl (gI G, 40, .inl (fun _ => 0))), (a_slips, .inl (gI G, 10, .inl (fun _ => 0))), (a_kept, .inl (gI G, 80, .inl (fun _ => 0))), (a_isKept, .inl (gZ G, 2, .inl (fun _ => 0)))]) [0, 1, 2, 3, 4, 5, 6, 7] rfl
  have hD := hD.sub (ws' := [(h1, .inr (6, [.int 6, .ref a_maps, .int 0, .ref a_kinds, .int 0, .int 1, .ref a_part, .ref a_pad, .int 0, .ref a_slips, .int 0, .int 0, .ref a_queue, .ref a_depth, .ref a_by, .ref a_from, .int 0, .ref a_offOf, .ref a_parent, .ref a_best, .int 0, .int 0, .ref a_sums, .ref a_toward, .ref a_kept, .ref a_isKept, .int 0, .int 0])), (a_maps, .inl (gI G, 6, .inl fmm)), (a_kinds, .inl (gI G, 4, .inl fkm)), (a_part, .inl (gI G, 6, .inl fpm)), (a_pad, .inl (gI G, 40, .inl (fun _ => 0))), (a_slips, .inl (gI G, 10, .inl (fun _ => 0))), (a_kept, .inl (gI G, 80, .inl (fun _ => 0))), (a_isKept, .inl (gZ G, 2, .inl (fun _ => 0)))]) [0, 1, 2, 3, 4, 5, 6, 7] (by decide) rfl
  refine lv_aload_n hx hb dL_law_775 rfl (lv_at hl 1 rfl) ?_
  refine lv_aload_n hx hb dL_law_776 rfl (lv_at hl 3 rfl) ?_
  refine lv_iload_n hx hb dL_law_777 rfl (lv_at hl 0 rfl) ?_
  refine lv_iconst (v := 1) hx hb dL_law_778 (by decide) ?_
  refine lv_iadd hx hb dL_law_779 ?_
  refine lv_topi (fun x8 ex8 => ?_)
  obtain rfl : x8 = 1 := by rw [ex8]; decide
  refine va_sld hx hb hX hbl hbA hS (i := 1) (by rw [hL6]; unfold vp_in; decide) dL_law_780 ?_
  refine lv_topi (fun x9 ex9 => ?_)
  refine lv_aload_n hx hb dL_law_781 rfl (lv_at hl 3 rfl) ?_
  refine lv_iload_n hx hb dL_law_782 rfl (lv_at hl 0 rfl) ?_
  refine lv_iconst (v := 2) hx hb dL_law_783 (by decide) ?_
  refine lv_iadd hx hb dL_law_784 ?_
  refine lv_topi (fun x10 ex10 => ?_)
  obtain rfl : x10 = 2 := by rw [ex10]; decide
  refine va_sld hx hb hX hbl hbA hS (i := 2) (by rw [hL6]; unfold vp_in; decide) dL_law_785 ?_
  refine lv_topi (fun x11 ex11 => ?_)
  refine ca_i (wr := []) (va_runV (As := [.int x9, .int x11]) (rest := [.int r6]) ⟨hx, hb, hml, hown, hts⟩ (g_follow l G H.size h1 a_maps a_kinds a_part a_pad a_slips a_queue a_depth a_by a_from a_offOf a_parent a_best a_sums a_toward a_kept a_isKept fmm fkm fpm x9 x11 hkm hpm) (cwV 2 hts gL_law_X10_follow rfl rfl rfl (by decide +kernel) ⟨by decide +kernel, by decide +kernel⟩) (pre_V E hP hD hS hA [0, 1, 2, 3, 4, 5, 6, 7] (by decide) rfl 0 6 rfl rfl) rfl rfl hl.1 rfl (lv_room (Nat.le_of_ble_eq_true rfl)) dL_law_786 ⟨by decide +kernel, by decide +kernel⟩) hS hP hD hA [0, 1, 2, 3, 4, 5, 6, 7] [] rfl rfl (by decide) (by decide) (fun r13 u14 H locs w12 hP hD hS => ?_)
  try dsimp only at w12 hP hD
  have hP := hP.sub (ws' := []) [] rfl
  have hD := hD.sub (ws' := []) [] (by decide) rfl
  refine lv_icmp_eq (tgt := 926) hx hb dL_law_789 (by decide) (fun c15 => ?_) (fun c15 => absurd (by rw [w5, w12]; simp only [ex2, ex4, ex9, ex11]) c15)
  refine lv_iinc (v := 6) (lv' := [(3, .int 6), (2, .ref h1), (1, .ref h0), (0, .ref b)]) hx hb dL_law_926 hl (k := 0) rfl (by decide) (by decide) rfl (fun ls hl => ?_)
  refine lv_goto (tgt := 18) hx hb dL_law_929 (by decide) ?_
  refine W.widen (k := 600000) (n := 7302249) (by decide +kernel) (by decide +kernel) ?_
  exact law_end hL C0 hS (lv_sub hl [0, 3] rfl)

set_option maxHeartbeats 1000000 in
set_option maxRecDepth 100000 in
theorem law_drawn {p : Program} {l : Launch} {e : Env} {s : State} {m : MethodId} {below : List Frame} {meth : Method} {c : Code} {b L : Nat} {xs : Nat → Int32} {G : Gy} {h0 : Nat} {pad : Nat} {pp : Nat} {im : Nat} {sg : Nat} {sl : Nat} {ac : Nat} {ak : Nat} {fk : Nat → Int32} {h1 : Nat} {a_maps : Nat} {a_kinds : Nat} {a_part : Nat} {a_pad : Nat} {a_slips : Nat} {a_queue : Nat} {a_depth : Nat} {a_by : Nat} {a_from : Nat} {a_offOf : Nat} {a_parent : Nat} {a_best : Nat} {a_sums : Nat} {a_toward : Nat} {a_kept : Nat} {a_isKept : Nat} {fmm : Nat → Int32} {fkm : Nat → Int32} {fpm : Nat → Int32} (hL : L ≤ 6) (hL6 : L = 6) (C : lw_At p s m meth c b L xs) (E : EV G (fun q : Nat => s.heap.size ≤ q) s s.heap) (hk : ∀ j : Nat, j < 4 → fk j = 15) (hkm : ∀ j : Nat, j < 4 → fkm j = 15) (hpm : ∀ j : Nat, j < 6 → ¬ fpm j = 0) {H : Heap} {locs : List Loc} {ls : Array Slot} (hP : va_P G.1 vwCl [(h0, .inr (5, [.ref pad, .ref pp, .ref im, .null, .null])), (im, .inl (gP G, 2, .inr (.inr (.inr (.inr (fun _ => none)))))), (pad, .inr (0, [.ref sg, .ref sl, .int 0])), (sg, .inl (gI G, 40, .inl (fun _ => 0))), (sl, .inl (gI G, 10, .inl (fun _ => 0))), (pp, .inr (1, [.int 6, .int 0, .int 1, .int 0, .ref ac, .ref ak])), (ac, .inl (gI G, 6, .inl (fun _ => 0))), (ak, .inl (gI G, 4, .inl fk)), (h1, .inr (6, [.int 6, .ref a_maps, .int 0, .ref a_kinds, .int 0, .int 1, .ref a_part, .ref a_pad, .int 0, .ref a_slips, .int 0, .int 0, .ref a_queue, .ref a_depth, .ref a_by, .ref a_from, .int 0, .ref a_offOf, .ref a_parent, .ref a_best, .int 0, .int 0, .ref a_sums, .ref a_toward, .ref a_kept, .ref a_isKept, .int 0, .int 0])), (a_maps, .inl (gI G, 6, .inl fmm)), (a_kinds, .inl (gI G, 4, .inl fkm)), (a_part, .inl (gI G, 6, .inl fpm)), (a_pad, .inl (gI G, 40, .inl (fun _ => 0))), (a_slips, .inl (gI G, 10, .inl (fun _ => 0))), (a_kept, .inl (gI G, 80, .inl (fun _ => 0))), (a_isKept, .inl (gZ G, 2, .inl (fun _ => 0)))] H) (hD : va_D (fun q : Nat => s.heap.size ≤ q) [(h0, .inr (5, [.ref pad, .ref pp, .ref im, .null, .null])), (im, .inl (gP G, 2, .inr (.inr (.inr (.inr (fun _ => none)))))), (pad, .inr (0, [.ref sg, .ref sl, .int 0])), (sg, .inl (gI G, 40, .inl (fun _ => 0))), (sl, .inl (gI G, 10, .inl (fun _ => 0))), (pp, .inr (1, [.int 6, .int 0, .int 1, .int 0, .ref ac, .ref ak])), (ac, .inl (gI G, 6, .inl (fun _ => 0))), (ak, .inl (gI G, 4, .inl fk)), (h1, .inr (6, [.int 6, .ref a_maps, .int 0, .ref a_kinds, .int 0, .int 1, .ref a_part, .ref a_pad, .int 0, .ref a_slips, .int 0, .int 0, .ref a_queue, .ref a_depth, .ref a_by, .ref a_from, .int 0, .ref a_offOf, .ref a_parent, .ref a_best, .int 0, .int 0, .ref a_sums, .ref a_toward, .ref a_kept, .ref a_isKept, .int 0, .int 0])), (a_maps, .inl (gI G, 6, .inl fmm)), (a_kinds, .inl (gI G, 4, .inl fkm)), (a_part, .inl (gI G, 6, .inl fpm)), (a_pad, .inl (gI G, 40, .inl (fun _ => 0))), (a_slips, .inl (gI G, 10, .inl (fun _ => 0))), (a_kept, .inl (gI G, 80, .inl (fun _ => 0))), (a_isKept, .inl (gZ G, 2, .inl (fun _ => 0)))]) (hS : va_S (fun q : Nat => s.heap.size ≤ q) s.heap H locs) (hl : lv_has ls 4 [(3, .int 0), (2, .ref h1), (1, .ref h0), (0, .ref b)]) : W p l e room_1 s m #[Value.ref b] below meth c H locs 25 94050 (lw_Z below #[Value.ref b] s) (F0 m 794 ls []) := by
  have C0 := C
  obtain ⟨hx, hb, hr, hml, hown, hts0, hX, hbl, hlocks, hgv⟩ := C
  have hts : ∀ w ∈ wsL_law, w.before #[Value.ref b] s = true := fun w h => hts0 w (wsL_law_in w h)
  have hbA : ¬ (fun q : Nat => s.heap.size ≤ q) b := Nat.not_le.mpr hbl
  have hA : ∀ q : Nat, s.heap.size ≤ q → (fun q : Nat => s.heap.size ≤ q) q := fun _ h => h
  refine lv_aload_n hx hb dL_law_794 rfl (lv_at hl 2 rfl) ?_
  refine lv_aload_n hx hb dL_law_795 rfl (lv_at hl 3 rfl) ?_
  refine lv_iload_n hx hb dL_law_796 rfl (lv_at hl 0 rfl) ?_
  refine lv_iconst (v := 1) hx hb dL_law_797 (by decide) ?_
  refine lv_iadd hx hb dL_law_798 ?_
  refine lv_topi (fun x1 ex1 => ?_)
  obtain rfl : x1 = 1 := by rw [ex1]; decide
  refine va_sld hx hb hX hbl hbA hS (i := 1) (by rw [hL6]; unfold vp_in; decide) dL_law_799 ?_
  refine lv_topi (fun x2 ex2 => ?_)
  refine lv_aload_n hx hb dL_law_800 rfl (lv_at hl 3 rfl) ?_
  refine lv_iload_n hx hb dL_law_801 rfl (lv_at hl 0 rfl) ?_
  refine lv_iconst (v := 2) hx hb dL_law_802 (by decide) ?_
  refine lv_iadd hx hb dL_law_803 ?_
  refine lv_topi (fun x3 ex3 => ?_)
  obtain rfl : x3 = 2 := by rw [ex3]; decide
  refine va_sld hx hb hX hbl hbA hS (i := 2) (by rw [hL6]; unfold vp_in; decide) dL_law_804 ?_
  refine lv_topi (fun x4 ex4 => ?_)
  refine lv_aload_n hx hb dL_law_805 rfl (lv_at hl 3 rfl) ?_
  refine lv_iload_n hx hb dL_law_806 rfl (lv_at hl 0 rfl) ?_
  refine lv_iconst (v := 3) hx hb dL_law_807 (by decide) ?_
  refine lv_iadd hx hb dL_law_808 ?_
  refine lv_topi (fun x5 ex5 => ?_)
  obtain rfl : x5 = 3 := by rw [ex5]; decide
  refine va_sld hx hb hX hbl hbA hS (i := 3) (by rw [hL6]; unfold vp_in; decide) dL_law_809 ?_
  refine lv_topi (fun x6 ex6 => ?_)
  refine lv_aload_n hx hb dL_law_810 rfl (lv_at hl 3 rfl) ?_
  refine lv_iload_n hx hb dL_law_811 rfl (lv_at hl 0 rfl) ?_
  refine lv_iconst (v := 4) hx hb dL_law_812 (by decide) ?_
  refine lv_iadd hx hb dL_law_813 ?_
  refine lv_topi (fun x7 ex7 => ?_)
  obtain rfl : x7 = 4 := by rw [ex7]; decide
  refine va_sld hx hb hX hbl hbA hS (i := 4) (by rw [hL6]; unfold vp_in; decide) dL_law_814 ?_
  refine lv_topi (fun x8 ex8 => ?_)
  refine lv_aload_n hx hb dL_law_815 rfl (lv_at hl 3 rfl) ?_
  refine lv_iload_n hx hb dL_law_816 rfl (lv_at hl 0 rfl) ?_
  refine lv_iconst (v := 5) hx hb dL_law_817 (by decide) ?_
  refine lv_iadd hx hb dL_law_818 ?_
  refine lv_topi (fun x9 ex9 => ?_)
  obtain rfl : x9 = 5 := by rw [ex9]; decide
  refine va_sld hx hb hX hbl hbA hS (i := 5) (by rw [hL6]; unfold vp_in; decide) dL_law_819 ?_
  refine lv_topi (fun x10 ex10 => ?_)
  refine ca_i (wr := [(h1, .inr (6, [.int 6, .ref a_maps, .int 0, .ref a_kinds, .int 0, .int 1, .ref a_part, .ref a_pad, .int 0, .ref a_slips, .int 0, .int 0, .ref a_queue, .ref a_depth, .ref a_by, .ref a_from, .int 0, .ref a_offOf, .ref a_parent, .ref a_best, .int 0, .int 0, .ref a_sums, .ref a_toward, .ref a_kept, .ref a_isKept, .int 0, .int 0])), (a_maps, .inl (gI G, 6, .inl fmm)), (a_kinds, .inl (gI G, 4, .inl fkm)), (a_part, .inl (gI G, 6, .inl fpm)), (a_pad, .inl (gI G, 40, .inl (fun _ => 0))), (a_slips, .inl (gI G, 10, .inl (fun _ => 0))), (a_kept, .inl (gI G, 80, .inl (fun _ => 0))), (a_isKept, .inl (gZ G, 2, .inl (fun _ => 0)))]) (va_runV (As := [.int x2, .int x4, .int x6, .int x8, .int x10]) (rest := []) ⟨hx, hb, hml, hown, hts⟩ (f_drawn l G H.size h0 pad pp im sg sl ac ak fk x2 x4 x6 x8 x10 hk) (cwV 5 hts gL_law_X9_drawn rfl rfl rfl (by decide +kernel) ⟨by decide +kernel, by decide +kernel⟩) (pre_V E hP hD hS hA [0, 1, 2, 3, 4, 5, 6, 7] (by decide) rfl 0 5 rfl rfl) rfl rfl hl.1 rfl (lv_room (Nat.le_of_ble_eq_true rfl)) dL_law_820 ⟨by decide +kernel, by decide +kernel⟩) hS hP hD hA [0, 1, 2, 3, 4, 5, 6, 7] [8, 9, 10, 11, 12, 13, 14, 15] rfl rfl (by decide) (by decide) (fun r12 u13 H locs w11 hP hD hS => ?_)
  try dsimp only at w11 hP hD
  have hP := hP.sub (ws' := [(h1, .inr (6, [.int 6, .ref a_maps, .int 0, .ref a_kinds, .int 0, .int 1, .ref a_part, .ref a_pad, .int 0, .ref a_slips, .int 0, .int 0, .ref a_queue, .ref a_depth, .ref a_by, .ref a_from, .int 0, .ref a_offOf, .ref a_parent, .ref a_best, .int 0, .int 0, .ref a_sums, .ref a_toward, .ref a_kept, .ref a_isKept, .int 0, .int 0])), (a_maps, .inl (gI G, 6, .inl fmm)), (a_kinds, .inl (gI G, 4, .inl fkm)), (a_part, .inl (gI G, 6, .inl fpm)), (a_pad, .inl (gI G, 40, .inl (fun _ => 0))), (a_slips, .inl (gI G, 10, .inl (fun _ => 0))), (a_kept, .inl (gI G, 80, .inl (fun _ => 0))), (a_isKept, .inl (gZ G, 2, .inl (fun _ => 0)))]) [0, 1, 2, 3, 4, 5, 6, 7] rfl
  have hD := hD.sub (ws' := [(h1, .inr (6, [.int 6, .ref a_maps, .int 0, .ref a_kinds, .int 0, .int 1, .ref a_part, .ref a_pad, .int 0, .ref a_slips, .int 0, .int 0, .ref a_queue, .ref a_depth, .ref a_by, .ref a_from, .int 0, .ref a_offOf, .ref a_parent, .ref a_best, .int 0, .int 0, .ref a_sums, .ref a_toward, .ref a_kept, .ref a_isKept, .int 0, .int 0])), (a_maps, .inl (gI G, 6, .inl fmm)), (a_kinds, .inl (gI G, 4, .inl fkm)), (a_part, .inl (gI G, 6, .inl fpm)), (a_pad, .inl (gI G, 40, .inl (fun _ => 0))), (a_slips, .inl (gI G, 10, .inl (fun _ => 0))), (a_kept, .inl (gI G, 80, .inl (fun _ => 0))), (a_isKept, .inl (gZ G, 2, .inl (fun _ => 0)))]) [0, 1, 2, 3, 4, 5, 6, 7] (by decide) rfl
  refine lv_aload_n hx hb dL_law_823 rfl (lv_at hl 1 rfl) ?_
  refine lv_aload_n hx hb dL_law_824 rfl (lv_at hl 3 rfl) ?_
  refine lv_iload_n hx hb dL_law_825 rfl (lv_at hl 0 rfl) ?_
  refine lv_iconst (v := 1) hx hb dL_law_826 (by decide) ?_
  refine lv_iadd hx hb dL_law_827 ?_
  refine lv_topi (fun x14 ex14 => ?_)
  obtain rfl : x14 = 1 := by rw [ex14]; decide
  refine va_sld hx hb hX hbl hbA hS (i := 1) (by rw [hL6]; unfold vp_in; decide) dL_law_828 ?_
  refine lv_topi (fun x15 ex15 => ?_)
  refine lv_aload_n hx hb dL_law_829 rfl (lv_at hl 3 rfl) ?_
  refine lv_iload_n hx hb dL_law_830 rfl (lv_at hl 0 rfl) ?_
  refine lv_iconst (v := 2) hx hb dL_law_831 (by decide) ?_
  refine lv_iadd hx hb dL_law_832 ?_
  refine lv_topi (fun x16 ex16 => ?_)
  obtain rfl : x16 = 2 := by rw [ex16]; decide
  refine va_sld hx hb hX hbl hbA hS (i := 2) (by rw [hL6]; unfold vp_in; decide) dL_law_833 ?_
  refine lv_topi (fun x17 ex17 => ?_)
  refine lv_aload_n hx hb dL_law_834 rfl (lv_at hl 3 rfl) ?_
  refine lv_iload_n hx hb dL_law_835 rfl (lv_at hl 0 rfl) ?_
  refine lv_iconst (v := 3) hx hb dL_law_836 (by decide) ?_
  refine lv_iadd hx hb dL_law_837 ?_
  refine lv_topi (fun x18 ex18 => ?_)
  obtain rfl : x18 = 3 := by rw [ex18]; decide
  refine va_sld hx hb hX hbl hbA hS (i := 3) (by rw [hL6]; unfold vp_in; decide) dL_law_838 ?_
  refine lv_topi (fun x19 ex19 => ?_)
  refine lv_aload_n hx hb dL_law_839 rfl (lv_at hl 3 rfl) ?_
  refine lv_iload_n hx hb dL_law_840 rfl (lv_at hl 0 rfl) ?_
  refine lv_iconst (v := 4) hx hb dL_law_841 (by decide) ?_
  refine lv_iadd hx hb dL_law_842 ?_
  refine lv_topi (fun x20 ex20 => ?_)
  obtain rfl : x20 = 4 := by rw [ex20]; decide
  refine va_sld hx hb hX hbl hbA hS (i := 4) (by rw [hL6]; unfold vp_in; decide) dL_law_843 ?_
  refine lv_topi (fun x21 ex21 => ?_)
  refine lv_aload_n hx hb dL_law_844 rfl (lv_at hl 3 rfl) ?_
  refine lv_iload_n hx hb dL_law_845 rfl (lv_at hl 0 rfl) ?_
  refine lv_iconst (v := 5) hx hb dL_law_846 (by decide) ?_
  refine lv_iadd hx hb dL_law_847 ?_
  refine lv_topi (fun x22 ex22 => ?_)
  obtain rfl : x22 = 5 := by rw [ex22]; decide
  refine va_sld hx hb hX hbl hbA hS (i := 5) (by rw [hL6]; unfold vp_in; decide) dL_law_848 ?_
  refine lv_topi (fun x23 ex23 => ?_)
  refine ca_i (wr := []) (va_runV (As := [.int x15, .int x17, .int x19, .int x21, .int x23]) (rest := [.int r12]) ⟨hx, hb, hml, hown, hts⟩ (g_drawn l G H.size h1 a_maps a_kinds a_part a_pad a_slips a_queue a_depth a_by a_from a_offOf a_parent a_best a_sums a_toward a_kept a_isKept fmm fkm fpm x15 x17 x19 x21 x23 hkm hpm) (cwV 5 hts gL_law_X10_drawn rfl rfl rfl (by decide +kernel) ⟨by decide +kernel, by decide +kernel⟩) (pre_V E hP hD hS hA [0, 1, 2, 3, 4, 5, 6, 7] (by decide) rfl 0 6 rfl rfl) rfl rfl hl.1 rfl (lv_room (Nat.le_of_ble_eq_true rfl)) dL_law_849 ⟨by decide +kernel, by decide +kernel⟩) hS hP hD hA [0, 1, 2, 3, 4, 5, 6, 7] [] rfl rfl (by decide) (by decide) (fun r25 u26 H locs w24 hP hD hS => ?_)
  try dsimp only at w24 hP hD
  have hP := hP.sub (ws' := []) [] rfl
  have hD := hD.sub (ws' := []) [] (by decide) rfl
  refine lv_icmp_eq (tgt := 926) hx hb dL_law_852 (by decide) (fun c27 => ?_) (fun c27 => absurd (by rw [w11, w24]; simp only [ex2, ex4, ex6, ex8, ex10, ex15, ex17, ex19, ex21, ex23]) c27)
  refine lv_iinc (v := 6) (lv' := [(3, .int 6), (2, .ref h1), (1, .ref h0), (0, .ref b)]) hx hb dL_law_926 hl (k := 0) rfl (by decide) (by decide) rfl (fun ls hl => ?_)
  refine lv_goto (tgt := 18) hx hb dL_law_929 (by decide) ?_
  refine W.widen (k := 600000) (n := 7302249) (by decide +kernel) (by decide +kernel) ?_
  exact law_end hL C0 hS (lv_sub hl [0, 3] rfl)

set_option maxHeartbeats 1000000 in
set_option maxRecDepth 100000 in
theorem law_image {p : Program} {l : Launch} {e : Env} {s : State} {m : MethodId} {below : List Frame} {meth : Method} {c : Code} {b L : Nat} {xs : Nat → Int32} {G : Gy} {h0 : Nat} {pad : Nat} {pp : Nat} {im : Nat} {sg : Nat} {sl : Nat} {ac : Nat} {ak : Nat} {fk : Nat → Int32} {h1 : Nat} {a_maps : Nat} {a_kinds : Nat} {a_part : Nat} {a_pad : Nat} {a_slips : Nat} {a_queue : Nat} {a_depth : Nat} {a_by : Nat} {a_from : Nat} {a_offOf : Nat} {a_parent : Nat} {a_best : Nat} {a_sums : Nat} {a_toward : Nat} {a_kept : Nat} {a_isKept : Nat} {fmm : Nat → Int32} {fkm : Nat → Int32} {fpm : Nat → Int32} (hL : L ≤ 6) (hL6 : L = 6) (C : lw_At p s m meth c b L xs) (E : EV G (fun q : Nat => s.heap.size ≤ q) s s.heap) (hk : ∀ j : Nat, j < 4 → fk j = 15) (hkm : ∀ j : Nat, j < 4 → fkm j = 15) (hpm : ∀ j : Nat, j < 6 → ¬ fpm j = 0) {H : Heap} {locs : List Loc} {ls : Array Slot} (hP : va_P G.1 vwCl [(h0, .inr (5, [.ref pad, .ref pp, .ref im, .null, .null])), (im, .inl (gP G, 2, .inr (.inr (.inr (.inr (fun _ => none)))))), (pad, .inr (0, [.ref sg, .ref sl, .int 0])), (sg, .inl (gI G, 40, .inl (fun _ => 0))), (sl, .inl (gI G, 10, .inl (fun _ => 0))), (pp, .inr (1, [.int 6, .int 0, .int 1, .int 0, .ref ac, .ref ak])), (ac, .inl (gI G, 6, .inl (fun _ => 0))), (ak, .inl (gI G, 4, .inl fk)), (h1, .inr (6, [.int 6, .ref a_maps, .int 0, .ref a_kinds, .int 0, .int 1, .ref a_part, .ref a_pad, .int 0, .ref a_slips, .int 0, .int 0, .ref a_queue, .ref a_depth, .ref a_by, .ref a_from, .int 0, .ref a_offOf, .ref a_parent, .ref a_best, .int 0, .int 0, .ref a_sums, .ref a_toward, .ref a_kept, .ref a_isKept, .int 0, .int 0])), (a_maps, .inl (gI G, 6, .inl fmm)), (a_kinds, .inl (gI G, 4, .inl fkm)), (a_part, .inl (gI G, 6, .inl fpm)), (a_pad, .inl (gI G, 40, .inl (fun _ => 0))), (a_slips, .inl (gI G, 10, .inl (fun _ => 0))), (a_kept, .inl (gI G, 80, .inl (fun _ => 0))), (a_isKept, .inl (gZ G, 2, .inl (fun _ => 0)))] H) (hD : va_D (fun q : Nat => s.heap.size ≤ q) [(h0, .inr (5, [.ref pad, .ref pp, .ref im, .null, .null])), (im, .inl (gP G, 2, .inr (.inr (.inr (.inr (fun _ => none)))))), (pad, .inr (0, [.ref sg, .ref sl, .int 0])), (sg, .inl (gI G, 40, .inl (fun _ => 0))), (sl, .inl (gI G, 10, .inl (fun _ => 0))), (pp, .inr (1, [.int 6, .int 0, .int 1, .int 0, .ref ac, .ref ak])), (ac, .inl (gI G, 6, .inl (fun _ => 0))), (ak, .inl (gI G, 4, .inl fk)), (h1, .inr (6, [.int 6, .ref a_maps, .int 0, .ref a_kinds, .int 0, .int 1, .ref a_part, .ref a_pad, .int 0, .ref a_slips, .int 0, .int 0, .ref a_queue, .ref a_depth, .ref a_by, .ref a_from, .int 0, .ref a_offOf, .ref a_parent, .ref a_best, .int 0, .int 0, .ref a_sums, .ref a_toward, .ref a_kept, .ref a_isKept, .int 0, .int 0])), (a_maps, .inl (gI G, 6, .inl fmm)), (a_kinds, .inl (gI G, 4, .inl fkm)), (a_part, .inl (gI G, 6, .inl fpm)), (a_pad, .inl (gI G, 40, .inl (fun _ => 0))), (a_slips, .inl (gI G, 10, .inl (fun _ => 0))), (a_kept, .inl (gI G, 80, .inl (fun _ => 0))), (a_isKept, .inl (gZ G, 2, .inl (fun _ => 0)))]) (hS : va_S (fun q : Nat => s.heap.size ≤ q) s.heap H locs) (hl : lv_has ls 4 [(3, .int 0), (2, .ref h1), (1, .ref h0), (0, .ref b)]) : W p l e room_1 s m #[Value.ref b] below meth c H locs 25 94050 (lw_Z below #[Value.ref b] s) (F0 m 857 ls []) := by
  have C0 := C
  obtain ⟨hx, hb, hr, hml, hown, hts0, hX, hbl, hlocks, hgv⟩ := C
  have hts : ∀ w ∈ wsL_law, w.before #[Value.ref b] s = true := fun w h => hts0 w (wsL_law_in w h)
  have hbA : ¬ (fun q : Nat => s.heap.size ≤ q) b := Nat.not_le.mpr hbl
  have hA : ∀ q : Nat, s.heap.size ≤ q → (fun q : Nat => s.heap.size ≤ q) q := fun _ h => h
  refine lv_aload_n hx hb dL_law_857 rfl (lv_at hl 2 rfl) ?_
  refine lv_aload_n hx hb dL_law_858 rfl (lv_at hl 3 rfl) ?_
  refine lv_iload_n hx hb dL_law_859 rfl (lv_at hl 0 rfl) ?_
  refine lv_iconst (v := 1) hx hb dL_law_860 (by decide) ?_
  refine lv_iadd hx hb dL_law_861 ?_
  refine lv_topi (fun x1 ex1 => ?_)
  obtain rfl : x1 = 1 := by rw [ex1]; decide
  refine va_sld hx hb hX hbl hbA hS (i := 1) (by rw [hL6]; unfold vp_in; decide) dL_law_862 ?_
  refine lv_topi (fun x2 ex2 => ?_)
  refine ca_i (wr := [(h1, .inr (6, [.int 6, .ref a_maps, .int 0, .ref a_kinds, .int 0, .int 1, .ref a_part, .ref a_pad, .int 0, .ref a_slips, .int 0, .int 0, .ref a_queue, .ref a_depth, .ref a_by, .ref a_from, .int 0, .ref a_offOf, .ref a_parent, .ref a_best, .int 0, .int 0, .ref a_sums, .ref a_toward, .ref a_kept, .ref a_isKept, .int 0, .int 0])), (a_maps, .inl (gI G, 6, .inl fmm)), (a_kinds, .inl (gI G, 4, .inl fkm)), (a_part, .inl (gI G, 6, .inl fpm)), (a_pad, .inl (gI G, 40, .inl (fun _ => 0))), (a_slips, .inl (gI G, 10, .inl (fun _ => 0))), (a_kept, .inl (gI G, 80, .inl (fun _ => 0))), (a_isKept, .inl (gZ G, 2, .inl (fun _ => 0)))]) (va_runV (As := [.int x2]) (rest := []) ⟨hx, hb, hml, hown, hts⟩ (f_image l G H.size h0 pad pp im sg sl ac ak fk x2 hk) (cwV 1 hts gL_law_X9_image rfl rfl rfl (by decide +kernel) ⟨by decide +kernel, by decide +kernel⟩) (pre_V E hP hD hS hA [0, 1, 2, 3, 4, 5, 6, 7] (by decide) rfl 0 5 rfl rfl) rfl rfl hl.1 rfl (lv_room (Nat.le_of_ble_eq_true rfl)) dL_law_863 ⟨by decide +kernel, by decide +kernel⟩) hS hP hD hA [0, 1, 2, 3, 4, 5, 6, 7] [8, 9, 10, 11, 12, 13, 14, 15] rfl rfl (by decide) (by decide) (fun r4 u5 H locs w3 hP hD hS => ?_)
  try dsimp only at w3 hP hD
  have hP := hP.sub (ws' := [(h1, .inr (6, [.int 6, .ref a_maps, .int 0, .ref a_kinds, .int 0, .int 1, .ref a_part, .ref a_pad, .int 0, .ref a_slips, .int 0, .int 0, .ref a_queue, .ref a_depth, .ref a_by, .ref a_from, .int 0, .ref a_offOf, .ref a_parent, .ref a_best, .int 0, .int 0, .ref a_sums, .ref a_toward, .ref a_kept, .ref a_isKept, .int 0, .int 0])), (a_maps, .inl (gI G, 6, .inl fmm)), (a_kinds, .inl (gI G, 4, .inl fkm)), (a_part, .inl (gI G, 6, .inl fpm)), (a_pad, .inl (gI G, 40, .inl (fun _ => 0))), (a_slips, .inl (gI G, 10, .inl (fun _ => 0))), (a_kept, .inl (gI G, 80, .inl (fun _ => 0))), (a_isKept, .inl (gZ G, 2, .inl (fun _ => 0)))]) [0, 1, 2, 3, 4, 5, 6, 7] rfl
  have hD := hD.sub (ws' := [(h1, .inr (6, [.int 6, .ref a_maps, .int 0, .ref a_kinds, .int 0, .int 1, .ref a_part, .ref a_pad, .int 0, .ref a_slips, .int 0, .int 0, .ref a_queue, .ref a_depth, .ref a_by, .ref a_from, .int 0, .ref a_offOf, .ref a_parent, .ref a_best, .int 0, .int 0, .ref a_sums, .ref a_toward, .ref a_kept, .ref a_isKept, .int 0, .int 0])), (a_maps, .inl (gI G, 6, .inl fmm)), (a_kinds, .inl (gI G, 4, .inl fkm)), (a_part, .inl (gI G, 6, .inl fpm)), (a_pad, .inl (gI G, 40, .inl (fun _ => 0))), (a_slips, .inl (gI G, 10, .inl (fun _ => 0))), (a_kept, .inl (gI G, 80, .inl (fun _ => 0))), (a_isKept, .inl (gZ G, 2, .inl (fun _ => 0)))]) [0, 1, 2, 3, 4, 5, 6, 7] (by decide) rfl
  refine W.widen (k := 28) (n := 94066) (by decide +kernel) (by decide +kernel) ?_
  refine lv_aload_n hx hb dL_law_866 rfl (lv_at hl 1 rfl) ?_
  refine lv_aload_n hx hb dL_law_867 rfl (lv_at hl 3 rfl) ?_
  refine lv_iload_n hx hb dL_law_868 rfl (lv_at hl 0 rfl) ?_
  refine lv_iconst (v := 1) hx hb dL_law_869 (by decide) ?_
  refine lv_iadd hx hb dL_law_870 ?_
  refine lv_topi (fun x6 ex6 => ?_)
  obtain rfl : x6 = 1 := by rw [ex6]; decide
  refine va_sld hx hb hX hbl hbA hS (i := 1) (by rw [hL6]; unfold vp_in; decide) dL_law_871 ?_
  refine lv_topi (fun x7 ex7 => ?_)
  refine ca_i (wr := []) (va_runV (As := [.int x7]) (rest := [.int r4]) ⟨hx, hb, hml, hown, hts⟩ (g_image l G H.size h1 a_maps a_kinds a_part a_pad a_slips a_queue a_depth a_by a_from a_offOf a_parent a_best a_sums a_toward a_kept a_isKept fmm fkm fpm x7 hkm hpm) (cwV 1 hts gL_law_X10_image rfl rfl rfl (by decide +kernel) ⟨by decide +kernel, by decide +kernel⟩) (pre_V E hP hD hS hA [0, 1, 2, 3, 4, 5, 6, 7] (by decide) rfl 0 6 rfl rfl) rfl rfl hl.1 rfl (lv_room (Nat.le_of_ble_eq_true rfl)) dL_law_872 ⟨by decide +kernel, by decide +kernel⟩) hS hP hD hA [0, 1, 2, 3, 4, 5, 6, 7] [] rfl rfl (by decide) (by decide) (fun r9 u10 H locs w8 hP hD hS => ?_)
  try dsimp only at w8 hP hD
  have hP := hP.sub (ws' := []) [] rfl
  have hD := hD.sub (ws' := []) [] (by decide) rfl
  refine lv_icmp_eq (tgt := 926) hx hb dL_law_875 (by decide) (fun c11 => ?_) (fun c11 => absurd (by rw [w3, w8]; simp only [ex2, ex7]) c11)
  refine lv_iinc (v := 6) (lv' := [(3, .int 6), (2, .ref h1), (1, .ref h0), (0, .ref b)]) hx hb dL_law_926 hl (k := 0) rfl (by decide) (by decide) rfl (fun ls hl => ?_)
  refine lv_goto (tgt := 18) hx hb dL_law_929 (by decide) ?_
  refine W.widen (k := 600000) (n := 7302249) (by decide +kernel) (by decide +kernel) ?_
  exact law_end hL C0 hS (lv_sub hl [0, 3] rfl)

set_option maxHeartbeats 1000000 in
set_option maxRecDepth 100000 in
theorem law_restore {p : Program} {l : Launch} {e : Env} {s : State} {m : MethodId} {below : List Frame} {meth : Method} {c : Code} {b L : Nat} {xs : Nat → Int32} {G : Gy} {h0 : Nat} {pad : Nat} {pp : Nat} {im : Nat} {sg : Nat} {sl : Nat} {ac : Nat} {ak : Nat} {fk : Nat → Int32} {h1 : Nat} {a_maps : Nat} {a_kinds : Nat} {a_part : Nat} {a_pad : Nat} {a_slips : Nat} {a_queue : Nat} {a_depth : Nat} {a_by : Nat} {a_from : Nat} {a_offOf : Nat} {a_parent : Nat} {a_best : Nat} {a_sums : Nat} {a_toward : Nat} {a_kept : Nat} {a_isKept : Nat} {fmm : Nat → Int32} {fkm : Nat → Int32} {fpm : Nat → Int32} (hL : L ≤ 6) (hL6 : L = 6) (C : lw_At p s m meth c b L xs) (E : EV G (fun q : Nat => s.heap.size ≤ q) s s.heap) (hk : ∀ j : Nat, j < 4 → fk j = 15) (hkm : ∀ j : Nat, j < 4 → fkm j = 15) (hpm : ∀ j : Nat, j < 6 → ¬ fpm j = 0) {H : Heap} {locs : List Loc} {ls : Array Slot} (hP : va_P G.1 vwCl [(h0, .inr (5, [.ref pad, .ref pp, .ref im, .null, .null])), (im, .inl (gP G, 2, .inr (.inr (.inr (.inr (fun _ => none)))))), (pad, .inr (0, [.ref sg, .ref sl, .int 0])), (sg, .inl (gI G, 40, .inl (fun _ => 0))), (sl, .inl (gI G, 10, .inl (fun _ => 0))), (pp, .inr (1, [.int 6, .int 0, .int 1, .int 0, .ref ac, .ref ak])), (ac, .inl (gI G, 6, .inl (fun _ => 0))), (ak, .inl (gI G, 4, .inl fk)), (h1, .inr (6, [.int 6, .ref a_maps, .int 0, .ref a_kinds, .int 0, .int 1, .ref a_part, .ref a_pad, .int 0, .ref a_slips, .int 0, .int 0, .ref a_queue, .ref a_depth, .ref a_by, .ref a_from, .int 0, .ref a_offOf, .ref a_parent, .ref a_best, .int 0, .int 0, .ref a_sums, .ref a_toward, .ref a_kept, .ref a_isKept, .int 0, .int 0])), (a_maps, .inl (gI G, 6, .inl fmm)), (a_kinds, .inl (gI G, 4, .inl fkm)), (a_part, .inl (gI G, 6, .inl fpm)), (a_pad, .inl (gI G, 40, .inl (fun _ => 0))), (a_slips, .inl (gI G, 10, .inl (fun _ => 0))), (a_kept, .inl (gI G, 80, .inl (fun _ => 0))), (a_isKept, .inl (gZ G, 2, .inl (fun _ => 0)))] H) (hD : va_D (fun q : Nat => s.heap.size ≤ q) [(h0, .inr (5, [.ref pad, .ref pp, .ref im, .null, .null])), (im, .inl (gP G, 2, .inr (.inr (.inr (.inr (fun _ => none)))))), (pad, .inr (0, [.ref sg, .ref sl, .int 0])), (sg, .inl (gI G, 40, .inl (fun _ => 0))), (sl, .inl (gI G, 10, .inl (fun _ => 0))), (pp, .inr (1, [.int 6, .int 0, .int 1, .int 0, .ref ac, .ref ak])), (ac, .inl (gI G, 6, .inl (fun _ => 0))), (ak, .inl (gI G, 4, .inl fk)), (h1, .inr (6, [.int 6, .ref a_maps, .int 0, .ref a_kinds, .int 0, .int 1, .ref a_part, .ref a_pad, .int 0, .ref a_slips, .int 0, .int 0, .ref a_queue, .ref a_depth, .ref a_by, .ref a_from, .int 0, .ref a_offOf, .ref a_parent, .ref a_best, .int 0, .int 0, .ref a_sums, .ref a_toward, .ref a_kept, .ref a_isKept, .int 0, .int 0])), (a_maps, .inl (gI G, 6, .inl fmm)), (a_kinds, .inl (gI G, 4, .inl fkm)), (a_part, .inl (gI G, 6, .inl fpm)), (a_pad, .inl (gI G, 40, .inl (fun _ => 0))), (a_slips, .inl (gI G, 10, .inl (fun _ => 0))), (a_kept, .inl (gI G, 80, .inl (fun _ => 0))), (a_isKept, .inl (gZ G, 2, .inl (fun _ => 0)))]) (hS : va_S (fun q : Nat => s.heap.size ≤ q) s.heap H locs) (hl : lv_has ls 4 [(3, .int 0), (2, .ref h1), (1, .ref h0), (0, .ref b)]) : W p l e room_1 s m #[Value.ref b] below meth c H locs 25 94050 (lw_Z below #[Value.ref b] s) (F0 m 880 ls []) := by
  have C0 := C
  obtain ⟨hx, hb, hr, hml, hown, hts0, hX, hbl, hlocks, hgv⟩ := C
  have hts : ∀ w ∈ wsL_law, w.before #[Value.ref b] s = true := fun w h => hts0 w (wsL_law_in w h)
  have hbA : ¬ (fun q : Nat => s.heap.size ≤ q) b := Nat.not_le.mpr hbl
  have hA : ∀ q : Nat, s.heap.size ≤ q → (fun q : Nat => s.heap.size ≤ q) q := fun _ h => h
  refine lv_aload_n hx hb dL_law_880 rfl (lv_at hl 2 rfl) ?_
  refine lv_aload_n hx hb dL_law_881 rfl (lv_at hl 3 rfl) ?_
  refine lv_iload_n hx hb dL_law_882 rfl (lv_at hl 0 rfl) ?_
  refine lv_iconst (v := 1) hx hb dL_law_883 (by decide) ?_
  refine lv_iadd hx hb dL_law_884 ?_
  refine lv_topi (fun x1 ex1 => ?_)
  obtain rfl : x1 = 1 := by rw [ex1]; decide
  refine va_sld hx hb hX hbl hbA hS (i := 1) (by rw [hL6]; unfold vp_in; decide) dL_law_885 ?_
  refine lv_topi (fun x2 ex2 => ?_)
  refine ca_i (wr := [(h1, .inr (6, [.int 6, .ref a_maps, .int 0, .ref a_kinds, .int 0, .int 1, .ref a_part, .ref a_pad, .int 0, .ref a_slips, .int 0, .int 0, .ref a_queue, .ref a_depth, .ref a_by, .ref a_from, .int 0, .ref a_offOf, .ref a_parent, .ref a_best, .int 0, .int 0, .ref a_sums, .ref a_toward, .ref a_kept, .ref a_isKept, .int 0, .int 0])), (a_maps, .inl (gI G, 6, .inl fmm)), (a_kinds, .inl (gI G, 4, .inl fkm)), (a_part, .inl (gI G, 6, .inl fpm)), (a_pad, .inl (gI G, 40, .inl (fun _ => 0))), (a_slips, .inl (gI G, 10, .inl (fun _ => 0))), (a_kept, .inl (gI G, 80, .inl (fun _ => 0))), (a_isKept, .inl (gZ G, 2, .inl (fun _ => 0)))]) (va_runV (As := [.int x2]) (rest := []) ⟨hx, hb, hml, hown, hts⟩ (f_restore l G H.size h0 pad pp im sg sl ac ak fk x2 hk) (cwV 1 hts gL_law_X9_restore rfl rfl rfl (by decide +kernel) ⟨by decide +kernel, by decide +kernel⟩) (pre_V E hP hD hS hA [0, 1, 2, 3, 4, 5, 6, 7] (by decide) rfl 0 5 rfl rfl) rfl rfl hl.1 rfl (lv_room (Nat.le_of_ble_eq_true rfl)) dL_law_886 ⟨by decide +kernel, by decide +kernel⟩) hS hP hD hA [0, 1, 2, 3, 4, 5, 6, 7] [8, 9, 10, 11, 12, 13, 14, 15] rfl rfl (by decide) (by decide) (fun r4 u5 H locs w3 hP hD hS => ?_)
  try dsimp only at w3 hP hD
  have hP := hP.sub (ws' := [(h1, .inr (6, [.int 6, .ref a_maps, .int 0, .ref a_kinds, .int 0, .int 1, .ref a_part, .ref a_pad, .int 0, .ref a_slips, .int 0, .int 0, .ref a_queue, .ref a_depth, .ref a_by, .ref a_from, .int 0, .ref a_offOf, .ref a_parent, .ref a_best, .int 0, .int 0, .ref a_sums, .ref a_toward, .ref a_kept, .ref a_isKept, .int 0, .int 0])), (a_maps, .inl (gI G, 6, .inl fmm)), (a_kinds, .inl (gI G, 4, .inl fkm)), (a_part, .inl (gI G, 6, .inl fpm)), (a_pad, .inl (gI G, 40, .inl (fun _ => 0))), (a_slips, .inl (gI G, 10, .inl (fun _ => 0))), (a_kept, .inl (gI G, 80, .inl (fun _ => 0))), (a_isKept, .inl (gZ G, 2, .inl (fun _ => 0)))]) [0, 1, 2, 3, 4, 5, 6, 7] rfl
  have hD := hD.sub (ws' := [(h1, .inr (6, [.int 6, .ref a_maps, .int 0, .ref a_kinds, .int 0, .int 1, .ref a_part, .ref a_pad, .int 0, .ref a_slips, .int 0, .int 0, .ref a_queue, .ref a_depth, .ref a_by, .ref a_from, .int 0, .ref a_offOf, .ref a_parent, .ref a_best, .int 0, .int 0, .ref a_sums, .ref a_toward, .ref a_kept, .ref a_isKept, .int 0, .int 0])), (a_maps, .inl (gI G, 6, .inl fmm)), (a_kinds, .inl (gI G, 4, .inl fkm)), (a_part, .inl (gI G, 6, .inl fpm)), (a_pad, .inl (gI G, 40, .inl (fun _ => 0))), (a_slips, .inl (gI G, 10, .inl (fun _ => 0))), (a_kept, .inl (gI G, 80, .inl (fun _ => 0))), (a_isKept, .inl (gZ G, 2, .inl (fun _ => 0)))]) [0, 1, 2, 3, 4, 5, 6, 7] (by decide) rfl
  refine lv_aload_n hx hb dL_law_889 rfl (lv_at hl 1 rfl) ?_
  refine lv_aload_n hx hb dL_law_890 rfl (lv_at hl 3 rfl) ?_
  refine lv_iload_n hx hb dL_law_891 rfl (lv_at hl 0 rfl) ?_
  refine lv_iconst (v := 1) hx hb dL_law_892 (by decide) ?_
  refine lv_iadd hx hb dL_law_893 ?_
  refine lv_topi (fun x6 ex6 => ?_)
  obtain rfl : x6 = 1 := by rw [ex6]; decide
  refine va_sld hx hb hX hbl hbA hS (i := 1) (by rw [hL6]; unfold vp_in; decide) dL_law_894 ?_
  refine lv_topi (fun x7 ex7 => ?_)
  refine ca_i (wr := []) (va_runV (As := [.int x7]) (rest := [.int r4]) ⟨hx, hb, hml, hown, hts⟩ (g_restore l G H.size h1 a_maps a_kinds a_part a_pad a_slips a_queue a_depth a_by a_from a_offOf a_parent a_best a_sums a_toward a_kept a_isKept fmm fkm fpm x7 hkm hpm) (cwV 1 hts gL_law_X10_restore rfl rfl rfl (by decide +kernel) ⟨by decide +kernel, by decide +kernel⟩) (pre_V E hP hD hS hA [0, 1, 2, 3, 4, 5, 6, 7] (by decide) rfl 0 6 rfl rfl) rfl rfl hl.1 rfl (lv_room (Nat.le_of_ble_eq_true rfl)) dL_law_895 ⟨by decide +kernel, by decide +kernel⟩) hS hP hD hA [0, 1, 2, 3, 4, 5, 6, 7] [] rfl rfl (by decide) (by decide) (fun r9 u10 H locs w8 hP hD hS => ?_)
  try dsimp only at w8 hP hD
  have hP := hP.sub (ws' := []) [] rfl
  have hD := hD.sub (ws' := []) [] (by decide) rfl
  refine lv_icmp_eq (tgt := 926) hx hb dL_law_898 (by decide) (fun c11 => ?_) (fun c11 => absurd (by rw [w3, w8]; simp only [ex2, ex7]) c11)
  refine lv_iinc (v := 6) (lv' := [(3, .int 6), (2, .ref h1), (1, .ref h0), (0, .ref b)]) hx hb dL_law_926 hl (k := 0) rfl (by decide) (by decide) rfl (fun ls hl => ?_)
  refine lv_goto (tgt := 18) hx hb dL_law_929 (by decide) ?_
  refine W.widen (k := 600000) (n := 7302249) (by decide +kernel) (by decide +kernel) ?_
  exact law_end hL C0 hS (lv_sub hl [0, 3] rfl)

set_option maxHeartbeats 1000000 in
set_option maxRecDepth 100000 in
theorem law_told {p : Program} {l : Launch} {e : Env} {s : State} {m : MethodId} {below : List Frame} {meth : Method} {c : Code} {b L : Nat} {xs : Nat → Int32} {G : Gy} {h0 : Nat} {pad : Nat} {pp : Nat} {im : Nat} {sg : Nat} {sl : Nat} {ac : Nat} {ak : Nat} {fk : Nat → Int32} {h1 : Nat} {a_maps : Nat} {a_kinds : Nat} {a_part : Nat} {a_pad : Nat} {a_slips : Nat} {a_queue : Nat} {a_depth : Nat} {a_by : Nat} {a_from : Nat} {a_offOf : Nat} {a_parent : Nat} {a_best : Nat} {a_sums : Nat} {a_toward : Nat} {a_kept : Nat} {a_isKept : Nat} {fmm : Nat → Int32} {fkm : Nat → Int32} {fpm : Nat → Int32} (hL : L ≤ 6) (hL6 : L = 6) (C : lw_At p s m meth c b L xs) (E : EV G (fun q : Nat => s.heap.size ≤ q) s s.heap) (hk : ∀ j : Nat, j < 4 → fk j = 15) (hkm : ∀ j : Nat, j < 4 → fkm j = 15) (hpm : ∀ j : Nat, j < 6 → ¬ fpm j = 0) {H : Heap} {locs : List Loc} {ls : Array Slot} (hP : va_P G.1 vwCl [(h0, .inr (5, [.ref pad, .ref pp, .ref im, .null, .null])), (im, .inl (gP G, 2, .inr (.inr (.inr (.inr (fun _ => none)))))), (pad, .inr (0, [.ref sg, .ref sl, .int 0])), (sg, .inl (gI G, 40, .inl (fun _ => 0))), (sl, .inl (gI G, 10, .inl (fun _ => 0))), (pp, .inr (1, [.int 6, .int 0, .int 1, .int 0, .ref ac, .ref ak])), (ac, .inl (gI G, 6, .inl (fun _ => 0))), (ak, .inl (gI G, 4, .inl fk)), (h1, .inr (6, [.int 6, .ref a_maps, .int 0, .ref a_kinds, .int 0, .int 1, .ref a_part, .ref a_pad, .int 0, .ref a_slips, .int 0, .int 0, .ref a_queue, .ref a_depth, .ref a_by, .ref a_from, .int 0, .ref a_offOf, .ref a_parent, .ref a_best, .int 0, .int 0, .ref a_sums, .ref a_toward, .ref a_kept, .ref a_isKept, .int 0, .int 0])), (a_maps, .inl (gI G, 6, .inl fmm)), (a_kinds, .inl (gI G, 4, .inl fkm)), (a_part, .inl (gI G, 6, .inl fpm)), (a_pad, .inl (gI G, 40, .inl (fun _ => 0))), (a_slips, .inl (gI G, 10, .inl (fun _ => 0))), (a_kept, .inl (gI G, 80, .inl (fun _ => 0))), (a_isKept, .inl (gZ G, 2, .inl (fun _ => 0)))] H) (hD : va_D (fun q : Nat => s.heap.size ≤ q) [(h0, .inr (5, [.ref pad, .ref pp, .ref im, .null, .null])), (im, .inl (gP G, 2, .inr (.inr (.inr (.inr (fun _ => none)))))), (pad, .inr (0, [.ref sg, .ref sl, .int 0])), (sg, .inl (gI G, 40, .inl (fun _ => 0))), (sl, .inl (gI G, 10, .inl (fun _ => 0))), (pp, .inr (1, [.int 6, .int 0, .int 1, .int 0, .ref ac, .ref ak])), (ac, .inl (gI G, 6, .inl (fun _ => 0))), (ak, .inl (gI G, 4, .inl fk)), (h1, .inr (6, [.int 6, .ref a_maps, .int 0, .ref a_kinds, .int 0, .int 1, .ref a_part, .ref a_pad, .int 0, .ref a_slips, .int 0, .int 0, .ref a_queue, .ref a_depth, .ref a_by, .ref a_from, .int 0, .ref a_offOf, .ref a_parent, .ref a_best, .int 0, .int 0, .ref a_sums, .ref a_toward, .ref a_kept, .ref a_isKept, .int 0, .int 0])), (a_maps, .inl (gI G, 6, .inl fmm)), (a_kinds, .inl (gI G, 4, .inl fkm)), (a_part, .inl (gI G, 6, .inl fpm)), (a_pad, .inl (gI G, 40, .inl (fun _ => 0))), (a_slips, .inl (gI G, 10, .inl (fun _ => 0))), (a_kept, .inl (gI G, 80, .inl (fun _ => 0))), (a_isKept, .inl (gZ G, 2, .inl (fun _ => 0)))]) (hS : va_S (fun q : Nat => s.heap.size ≤ q) s.heap H locs) (hl : lv_has ls 4 [(3, .int 0), (2, .ref h1), (1, .ref h0), (0, .ref b)]) : W p l e room_1 s m #[Value.ref b] below meth c H locs 25 94050 (lw_Z below #[Value.ref b] s) (F0 m 903 ls []) := by
  have C0 := C
  obtain ⟨hx, hb, hr, hml, hown, hts0, hX, hbl, hlocks, hgv⟩ := C
  have hts : ∀ w ∈ wsL_law, w.before #[Value.ref b] s = true := fun w h => hts0 w (wsL_law_in w h)
  have hbA : ¬ (fun q : Nat => s.heap.size ≤ q) b := Nat.not_le.mpr hbl
  have hA : ∀ q : Nat, s.heap.size ≤ q → (fun q : Nat => s.heap.size ≤ q) q := fun _ h => h
  refine lv_aload_n hx hb dL_law_903 rfl (lv_at hl 2 rfl) ?_
  refine lv_aload_n hx hb dL_law_904 rfl (lv_at hl 3 rfl) ?_
  refine lv_iload_n hx hb dL_law_905 rfl (lv_at hl 0 rfl) ?_
  refine lv_iconst (v := 1) hx hb dL_law_906 (by decide) ?_
  refine lv_iadd hx hb dL_law_907 ?_
  refine lv_topi (fun x1 ex1 => ?_)
  obtain rfl : x1 = 1 := by rw [ex1]; decide
  refine va_sld hx hb hX hbl hbA hS (i := 1) (by rw [hL6]; unfold vp_in; decide) dL_law_908 ?_
  refine lv_topi (fun x2 ex2 => ?_)
  refine ca_i (wr := [(h1, .inr (6, [.int 6, .ref a_maps, .int 0, .ref a_kinds, .int 0, .int 1, .ref a_part, .ref a_pad, .int 0, .ref a_slips, .int 0, .int 0, .ref a_queue, .ref a_depth, .ref a_by, .ref a_from, .int 0, .ref a_offOf, .ref a_parent, .ref a_best, .int 0, .int 0, .ref a_sums, .ref a_toward, .ref a_kept, .ref a_isKept, .int 0, .int 0])), (a_maps, .inl (gI G, 6, .inl fmm)), (a_kinds, .inl (gI G, 4, .inl fkm)), (a_part, .inl (gI G, 6, .inl fpm)), (a_pad, .inl (gI G, 40, .inl (fun _ => 0))), (a_slips, .inl (gI G, 10, .inl (fun _ => 0))), (a_kept, .inl (gI G, 80, .inl (fun _ => 0))), (a_isKept, .inl (gZ G, 2, .inl (fun _ => 0)))]) (va_runV (As := [.int x2]) (rest := []) ⟨hx, hb, hml, hown, hts⟩ (f_told l G H.size h0 pad pp im sg sl ac ak fk x2 hk) (cwV 1 hts gL_law_X9_told rfl rfl rfl (by decide +kernel) ⟨by decide +kernel, by decide +kernel⟩) (pre_V E hP hD hS hA [0, 1, 2, 3, 4, 5, 6, 7] (by decide) rfl 0 5 rfl rfl) rfl rfl hl.1 rfl (lv_room (Nat.le_of_ble_eq_true rfl)) dL_law_909 ⟨by decide +kernel, by decide +kernel⟩) hS hP hD hA [0, 1, 2, 3, 4, 5, 6, 7] [8, 9, 10, 11, 12, 13, 14, 15] rfl rfl (by decide) (by decide) (fun r4 u5 H locs w3 hP hD hS => ?_)
  try dsimp only at w3 hP hD
  have hP := hP.sub (ws' := [(h1, .inr (6, [.int 6, .ref a_maps, .int 0, .ref a_kinds, .int 0, .int 1, .ref a_part, .ref a_pad, .int 0, .ref a_slips, .int 0, .int 0, .ref a_queue, .ref a_depth, .ref a_by, .ref a_from, .int 0, .ref a_offOf, .ref a_parent, .ref a_best, .int 0, .int 0, .ref a_sums, .ref a_toward, .ref a_kept, .ref a_isKept, .int 0, .int 0])), (a_maps, .inl (gI G, 6, .inl fmm)), (a_kinds, .inl (gI G, 4, .inl fkm)), (a_part, .inl (gI G, 6, .inl fpm)), (a_pad, .inl (gI G, 40, .inl (fun _ => 0))), (a_slips, .inl (gI G, 10, .inl (fun _ => 0))), (a_kept, .inl (gI G, 80, .inl (fun _ => 0))), (a_isKept, .inl (gZ G, 2, .inl (fun _ => 0)))]) [0, 1, 2, 3, 4, 5, 6, 7] rfl
  have hD := hD.sub (ws' := [(h1, .inr (6, [.int 6, .ref a_maps, .int 0, .ref a_kinds, .int 0, .int 1, .ref a_part, .ref a_pad, .int 0, .ref a_slips, .int 0, .int 0, .ref a_queue, .ref a_depth, .ref a_by, .ref a_from, .int 0, .ref a_offOf, .ref a_parent, .ref a_best, .int 0, .int 0, .ref a_sums, .ref a_toward, .ref a_kept, .ref a_isKept, .int 0, .int 0])), (a_maps, .inl (gI G, 6, .inl fmm)), (a_kinds, .inl (gI G, 4, .inl fkm)), (a_part, .inl (gI G, 6, .inl fpm)), (a_pad, .inl (gI G, 40, .inl (fun _ => 0))), (a_slips, .inl (gI G, 10, .inl (fun _ => 0))), (a_kept, .inl (gI G, 80, .inl (fun _ => 0))), (a_isKept, .inl (gZ G, 2, .inl (fun _ => 0)))]) [0, 1, 2, 3, 4, 5, 6, 7] (by decide) rfl
  refine lv_aload_n hx hb dL_law_912 rfl (lv_at hl 1 rfl) ?_
  refine lv_aload_n hx hb dL_law_913 rfl (lv_at hl 3 rfl) ?_
  refine lv_iload_n hx hb dL_law_914 rfl (lv_at hl 0 rfl) ?_
  refine lv_iconst (v := 1) hx hb dL_law_915 (by decide) ?_
  refine lv_iadd hx hb dL_law_916 ?_
  refine lv_topi (fun x6 ex6 => ?_)
  obtain rfl : x6 = 1 := by rw [ex6]; decide
  refine va_sld hx hb hX hbl hbA hS (i := 1) (by rw [hL6]; unfold vp_in; decide) dL_law_917 ?_
  refine lv_topi (fun x7 ex7 => ?_)
  refine ca_i (wr := []) (va_runV (As := [.int x7]) (rest := [.int r4]) ⟨hx, hb, hml, hown, hts⟩ (g_told l G H.size h1 a_maps a_kinds a_part a_pad a_slips a_queue a_depth a_by a_from a_offOf a_parent a_best a_sums a_toward a_kept a_isKept fmm fkm fpm x7 hkm hpm) (cwV 1 hts gL_law_X10_told rfl rfl rfl (by decide +kernel) ⟨by decide +kernel, by decide +kernel⟩) (pre_V E hP hD hS hA [0, 1, 2, 3, 4, 5, 6, 7] (by decide) rfl 0 6 rfl rfl) rfl rfl hl.1 rfl (lv_room (Nat.le_of_ble_eq_true rfl)) dL_law_918 ⟨by decide +kernel, by decide +kernel⟩) hS hP hD hA [0, 1, 2, 3, 4, 5, 6, 7] [] rfl rfl (by decide) (by decide) (fun r9 u10 H locs w8 hP hD hS => ?_)
  try dsimp only at w8 hP hD
  have hP := hP.sub (ws' := []) [] rfl
  have hD := hD.sub (ws' := []) [] (by decide) rfl
  refine lv_icmp_eq (tgt := 926) hx hb dL_law_921 (by decide) (fun c11 => ?_) (fun c11 => absurd (by rw [w3, w8]; simp only [ex2, ex7]) c11)
  refine lv_iinc (v := 6) (lv' := [(3, .int 6), (2, .ref h1), (1, .ref h0), (0, .ref b)]) hx hb dL_law_926 hl (k := 0) rfl (by decide) (by decide) rfl (fun ls hl => ?_)
  refine lv_goto (tgt := 18) hx hb dL_law_929 (by decide) ?_
  refine W.widen (k := 600000) (n := 7302249) (by decide +kernel) (by decide +kernel) ?_
  exact law_end hL C0 hS (lv_sub hl [0, 3] rfl)
