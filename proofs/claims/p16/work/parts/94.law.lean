def R_law : String := "LastMapLaw"
def lw_P (b : Addr) (xs : List Int32) (args : Array Value) (s : State) : Prop := args = #[.ref b] ∧ s.IntsAt b xs ∧ xs.length ≤ 3072 ∧ (Jvm.Cond.and given_1 narrow_1).before args s = true
def lw_Q (_ : Array Value) (s : State) (o : Outcome) (t : State) : Prop := o = .returned (some (.int 1)) ∧ Framed s o t [] 600000 7302250
def lw_Z (below : List Frame) (a : Array Value) (s : State) : State → Prop := fun t => ∃ o, t.status = .running ∧ Ended t below o ∧ lw_Q a s o t
/-- the law's own end, with 1 on the stack, nothing written that was there before, its room as the claim has it -/
theorem lw_ret {p : Program} {l : Launch} {e : Env} {s : State} {m : MethodId} {below : List Frame} {meth : Method} {c : Code} {b : Nat} (hx : p.tables.exec = Jvm.exec) (hb : c.code = code) (hr : meth.sig.returnType = ret) (hlocks : meth.locks = false) {pc : Nat} {H : Heap} {ls : Array Slot} (hdg : decode code pc = .ok (.ireturn, 1)) : W p l e room_1 s m #[Value.ref b] below meth c H [] 600000 7302250 (lw_Z below #[Value.ref b] s) (F0 m pc ls [.int 1]) := by
  intro T hT X
  obtain ⟨fs, hret, hrun, hended, hW, hframe⟩ := X.leave (v := some (.int 1)) (hlocks := hlocks) (fun h => by rw [hr] at h; cases h)
  have hmeth' : T.vm.method? m = some meth := X.method'
  refine ⟨T.setFrames fs, ?_, .returned (some (.int 1)), hrun, hended, rfl, ⟨_, rfl⟩, hW, hframe⟩
  jvm_step X.here [X.here.top, hx, hb, hdg, hmeth', hr, ret, narrow_b1]
  (try refine ⟨rfl, ?_⟩); (try refine ⟨rfl, ?_⟩)
  first | (intro acts; rw [hret _ acts rfl rfl rfl]) | rw [hret _ _ rfl rfl rfl]
  exact Steps.refl _
/-- what holds at the law's entry: the machine, the code, the tables' words (any of lw_tbl by 'hts w (by decide +kernel)'), the script of L ints xs at the cell b, what the Statement gives of the start (any of its parts by flat_of_before) -/
def lw_At (p : Program) (s : State) (m : MethodId) (meth : Method) (c : Code) (b L : Nat) (xs : Nat → Int32) : Prop :=
  p.tables.exec = Jvm.exec ∧ c.code = code ∧ meth.sig.returnType = ret ∧ c.maxLocals = 4 ∧ s.vm.findClass R_law = some m.cls ∧ (∀ w ∈ lw_tbl, w.before #[Value.ref b] s = true) ∧ va_X b L xs s s.heap ∧ b < s.heap.size ∧ meth.locks = false ∧ (Jvm.Cond.and given_1 narrow_1).before #[Value.ref b] s = true
theorem arr_I {s : State} {args : Array Value} (h : (Cond.arrayClass .int).before args s = true) : ∃ cA : ClassId, ArrOfT s cA .int ∧ va_RA s cA .int := by
  obtain ⟨cA, kA, comp, h1, h2, h3⟩ := Cond.arrayClass_spec h
  exact ⟨cA, fun n z => ⟨fun k h => (by cases h), kA, h2, comp, h3⟩, h1⟩
theorem arr_B {s : State} {args : Array Value} (h : (Cond.arrayClass .byte).before args s = true) : ∃ cA : ClassId, ArrOfT s cA .byte ∧ va_RA s cA .byte := by
  obtain ⟨cA, kA, comp, h1, h2, h3⟩ := Cond.arrayClass_spec h
  exact ⟨cA, fun n z => ⟨fun k h => (by cases h), kA, h2, comp, h3⟩, h1⟩
theorem arr_Z {s : State} {args : Array Value} (h : (Cond.arrayClass .boolean).before args s = true) : ∃ cA : ClassId, ArrOfT s cA .boolean ∧ va_RA s cA .boolean := by
  obtain ⟨cA, kA, comp, h1, h2, h3⟩ := Cond.arrayClass_spec h
  exact ⟨cA, fun n z => ⟨fun k h => (by cases h), kA, h2, comp, h3⟩, h1⟩
theorem arr_O {s : State} {args : Array Value} {C : String} (h : (Cond.arrayOver (.object C)).before args s = true) : ∃ cA : ClassId, ArrOfT s cA (.object C) ∧ va_RA s cA (.object C) := by
  obtain ⟨comp, cA, kA, h1, h2, h3, h4, h5⟩ := Cond.arrayOver_spec h
  exact ⟨cA, fun n z => ⟨fun k h => (by cases h), kA, h3, comp, h4⟩, kA, comp, h3, h4, h1, h5⟩
set_option maxHeartbeats 1000000 in
set_option maxRecDepth 100000 in
theorem ev_start {p : Program} {s : State} {m : MethodId} {meth : Method} {c : Code} {b L : Nat} {xs : Nat → Int32} (C0 : lw_At p s m meth c b L xs) : ∃ G : Gy, EV G (fun q : Nat => s.heap.size ≤ q) s s.heap := by
  obtain ⟨hx, hb, hr, hml, hown, hts, hX, hbl, hlocks, hgv⟩ := C0
  have hs := flat_of_before _ hgv
  obtain ⟨c0, iS0, hKn0⟩ := u_known (C := RX2) (T := TX2) (N := 3) (n := 3) hts inX2 (hts (.instantiable RX2 3) (by decide +kernel))
  obtain ⟨c1, iS1, hKn1⟩ := u_known (C := RX3) (T := TX3) (N := 6) (n := 6) hts inX3 (hts (.instantiable RX3 6) (by decide +kernel))
  obtain ⟨c2, iS2, hKn2⟩ := u_known (C := RX4) (T := TX4) (N := 3) (n := 3) hts inX4 (hts (.instantiable RX4 3) (by decide +kernel))
  obtain ⟨c3, iS3, hKn3⟩ := u_known (C := RX7) (T := TX7) (N := 7) (n := 7) hts inX7 (hts (.instantiable RX7 7) (by decide +kernel))
  obtain ⟨c4, iS4, hKn4⟩ := u_known (C := RX8) (T := TX8) (N := 5) (n := 5) hts inX8 (hts (.instantiable RX8 5) (by decide +kernel))
  obtain ⟨c5, iS5, hKn5⟩ := u_known (C := RX9) (T := TX9) (N := 5) (n := 5) hts inX9 (hts (.instantiable RX9 5) (by decide +kernel))
  obtain ⟨c6, iS6, hKn6⟩ := u_known (C := RX10) (T := TX10) (N := 28) (n := 28) hts inX10 (hts (.instantiable RX10 28) (by decide +kernel))
  obtain ⟨cB, kB⟩ := arr_B (hts (.arrayClass .byte) (by decide +kernel))
  obtain ⟨cI, kI⟩ := arr_I (hts (.arrayClass .int) (by decide +kernel))
  obtain ⟨cZ, kZ⟩ := arr_Z (hts (.arrayClass .boolean) (by decide +kernel))
  have oP := hts (.arrayOver (.object RX3)) (by decide +kernel)
  have oT := hts (.arrayOver (.object RX7)) (by decide +kernel)
  obtain ⟨cP, kP⟩ := arr_O oP
  obtain ⟨cT, kT⟩ := arr_O oT
  have etW : ∀ j : Nat, j < 6 → (Term.elem (.static RX5 "WRITTEN" "[I") (.int (Int32.ofNat j))).eval #[Value.ref b] s none [] s = some (tW j) := by
    intro j hj
    rcases (show j = 0 ∨ j = 1 ∨ j = 2 ∨ j = 3 ∨ j = 4 ∨ j = 5 by omega) with rfl | rfl | rfl | rfl | rfl | rfl
    · exact va_eqt (hs (.eq (.elem (.static RX5 "WRITTEN" "[I") (.int 0)) (.int 97)) (by decide +kernel))
    · exact va_eqt (hs (.eq (.elem (.static RX5 "WRITTEN" "[I") (.int 1)) (.int 98)) (by decide +kernel))
    · exact va_eqt (hs (.eq (.elem (.static RX5 "WRITTEN" "[I") (.int 2)) (.int 99)) (by decide +kernel))
    · exact va_eqt (hs (.eq (.elem (.static RX5 "WRITTEN" "[I") (.int 3)) (.int 100)) (by decide +kernel))
    · exact va_eqt (hs (.eq (.elem (.static RX5 "WRITTEN" "[I") (.int 4)) (.int 45)) (by decide +kernel))
    · exact va_eqt (hs (.eq (.elem (.static RX5 "WRITTEN" "[I") (.int 5)) (.int 63)) (by decide +kernel))
  obtain ⟨xtW, vtW, TtW⟩ := va_Tof (s := s) (tm := .static RX5 "WRITTEN" "[I") (ty := .int) (N := 6) (f := tW) (A := fun q : Nat => s.heap.size ≤ q) (by decide) (hs (.arrayOf (.static RX5 "WRITTEN" "[I") .int) (by decide +kernel)) (va_eqt (hs (.eq (.length (.static RX5 "WRITTEN" "[I")) (.int 6)) (by decide +kernel))) etW (fun a h => Nat.not_le.mpr h)
  have ztW := va_Zref (A := fun q : Nat => s.heap.size ≤ q) (hts (.laysStatic RX5 "WRITTEN" "[I") (by decide +kernel)) (hts (.initialized RX5) (by decide +kernel)) vtW (fun a h => Nat.not_le.mpr h)
  have etM : ∀ j : Nat, j < 6 → (Term.elem (.static RX1 "WEIGHTS" "[I") (.int (Int32.ofNat j))).eval #[Value.ref b] s none [] s = some (tM j) := by
    intro j hj
    rcases (show j = 0 ∨ j = 1 ∨ j = 2 ∨ j = 3 ∨ j = 4 ∨ j = 5 by omega) with rfl | rfl | rfl | rfl | rfl | rfl
    · exact va_eqt (hs (.eq (.elem (.static RX1 "WEIGHTS" "[I") (.int 0)) (.int 3125)) (by decide +kernel))
    · exact va_eqt (hs (.eq (.elem (.static RX1 "WEIGHTS" "[I") (.int 1)) (.int 625)) (by decide +kernel))
    · exact va_eqt (hs (.eq (.elem (.static RX1 "WEIGHTS" "[I") (.int 2)) (.int 125)) (by decide +kernel))
    · exact va_eqt (hs (.eq (.elem (.static RX1 "WEIGHTS" "[I") (.int 3)) (.int 25)) (by decide +kernel))
    · exact va_eqt (hs (.eq (.elem (.static RX1 "WEIGHTS" "[I") (.int 4)) (.int 5)) (by decide +kernel))
    · exact va_eqt (hs (.eq (.elem (.static RX1 "WEIGHTS" "[I") (.int 5)) (.int 1)) (by decide +kernel))
  obtain ⟨xtM, vtM, TtM⟩ := va_Tof (s := s) (tm := .static RX1 "WEIGHTS" "[I") (ty := .int) (N := 6) (f := tM) (A := fun q : Nat => s.heap.size ≤ q) (by decide) (hs (.arrayOf (.static RX1 "WEIGHTS" "[I") .int) (by decide +kernel)) (va_eqt (hs (.eq (.length (.static RX1 "WEIGHTS" "[I")) (.int 6)) (by decide +kernel))) etM (fun a h => Nat.not_le.mpr h)
  have ztM := va_Zref (A := fun q : Nat => s.heap.size ≤ q) (hts (.laysStatic RX1 "WEIGHTS" "[I") (by decide +kernel)) (hts (.initialized RX1) (by decide +kernel)) vtM (fun a h => Nat.not_le.mpr h)
  have etO : ∀ j : Nat, j < 40 → (Term.elem (.static RX6 "ORDER" "[I") (.int (Int32.ofNat j))).eval #[Value.ref b] s none [] s = some (tO j) := by
    intro j hj
    rcases (show j = 0 ∨ j = 1 ∨ j = 2 ∨ j = 3 ∨ j = 4 ∨ j = 5 ∨ j = 6 ∨ j = 7 ∨ j = 8 ∨ j = 9 ∨ j = 10 ∨ j = 11 ∨ j = 12 ∨ j = 13 ∨ j = 14 ∨ j = 15 ∨ j = 16 ∨ j = 17 ∨ j = 18 ∨ j = 19 ∨ j = 20 ∨ j = 21 ∨ j = 22 ∨ j = 23 ∨ j = 24 ∨ j = 25 ∨ j = 26 ∨ j = 27 ∨ j = 28 ∨ j = 29 ∨ j = 30 ∨ j = 31 ∨ j = 32 ∨ j = 33 ∨ j = 34 ∨ j = 35 ∨ j = 36 ∨ j = 37 ∨ j = 38 ∨ j = 39 by omega) with rfl | rfl | rfl | rfl | rfl | rfl | rfl | rfl | rfl | rfl | rfl | rfl | rfl | rfl | rfl | rfl | rfl | rfl | rfl | rfl | rfl | rfl | rfl | rfl | rfl | rfl | rfl | rfl | rfl | rfl | rfl | rfl | rfl | rfl | rfl | rfl | rfl | rfl | rfl | rfl
    · exact va_eqt (hs (.eq (.elem (.static RX6 "ORDER" "[I") (.int 0)) (.int 0)) (by decide +kernel))
    · exact va_eqt (hs (.eq (.elem (.static RX6 "ORDER" "[I") (.int 1)) (.int 1)) (by decide +kernel))
    · exact va_eqt (hs (.eq (.elem (.static RX6 "ORDER" "[I") (.int 2)) (.int 2)) (by decide +kernel))
    · exact va_eqt (hs (.eq (.elem (.static RX6 "ORDER" "[I") (.int 3)) (.int 3)) (by decide +kernel))
    · exact va_eqt (hs (.eq (.elem (.static RX6 "ORDER" "[I") (.int 4)) (.int 10)) (by decide +kernel))
    · exact va_eqt (hs (.eq (.elem (.static RX6 "ORDER" "[I") (.int 5)) (.int 11)) (by decide +kernel))
    · exact va_eqt (hs (.eq (.elem (.static RX6 "ORDER" "[I") (.int 6)) (.int 12)) (by decide +kernel))
    · exact va_eqt (hs (.eq (.elem (.static RX6 "ORDER" "[I") (.int 7)) (.int 13)) (by decide +kernel))
    · exact va_eqt (hs (.eq (.elem (.static RX6 "ORDER" "[I") (.int 8)) (.int 20)) (by decide +kernel))
    · exact va_eqt (hs (.eq (.elem (.static RX6 "ORDER" "[I") (.int 9)) (.int 21)) (by decide +kernel))
    · exact va_eqt (hs (.eq (.elem (.static RX6 "ORDER" "[I") (.int 10)) (.int 22)) (by decide +kernel))
    · exact va_eqt (hs (.eq (.elem (.static RX6 "ORDER" "[I") (.int 11)) (.int 23)) (by decide +kernel))
    · exact va_eqt (hs (.eq (.elem (.static RX6 "ORDER" "[I") (.int 12)) (.int 30)) (by decide +kernel))
    · exact va_eqt (hs (.eq (.elem (.static RX6 "ORDER" "[I") (.int 13)) (.int 31)) (by decide +kernel))
    · exact va_eqt (hs (.eq (.elem (.static RX6 "ORDER" "[I") (.int 14)) (.int 32)) (by decide +kernel))
    · exact va_eqt (hs (.eq (.elem (.static RX6 "ORDER" "[I") (.int 15)) (.int 33)) (by decide +kernel))
    · exact va_eqt (hs (.eq (.elem (.static RX6 "ORDER" "[I") (.int 16)) (.int 40)) (by decide +kernel))
    · exact va_eqt (hs (.eq (.elem (.static RX6 "ORDER" "[I") (.int 17)) (.int 41)) (by decide +kernel))
    · exact va_eqt (hs (.eq (.elem (.static RX6 "ORDER" "[I") (.int 18)) (.int 42)) (by decide +kernel))
    · exact va_eqt (hs (.eq (.elem (.static RX6 "ORDER" "[I") (.int 19)) (.int 43)) (by decide +kernel))
    · exact va_eqt (hs (.eq (.elem (.static RX6 "ORDER" "[I") (.int 20)) (.int 50)) (by decide +kernel))
    · exact va_eqt (hs (.eq (.elem (.static RX6 "ORDER" "[I") (.int 21)) (.int 51)) (by decide +kernel))
    · exact va_eqt (hs (.eq (.elem (.static RX6 "ORDER" "[I") (.int 22)) (.int 52)) (by decide +kernel))
    · exact va_eqt (hs (.eq (.elem (.static RX6 "ORDER" "[I") (.int 23)) (.int 53)) (by decide +kernel))
    · exact va_eqt (hs (.eq (.elem (.static RX6 "ORDER" "[I") (.int 24)) (.int 100)) (by decide +kernel))
    · exact va_eqt (hs (.eq (.elem (.static RX6 "ORDER" "[I") (.int 25)) (.int 110)) (by decide +kernel))
    · exact va_eqt (hs (.eq (.elem (.static RX6 "ORDER" "[I") (.int 26)) (.int 120)) (by decide +kernel))
    · exact va_eqt (hs (.eq (.elem (.static RX6 "ORDER" "[I") (.int 27)) (.int 130)) (by decide +kernel))
    · exact va_eqt (hs (.eq (.elem (.static RX6 "ORDER" "[I") (.int 28)) (.int 140)) (by decide +kernel))
    · exact va_eqt (hs (.eq (.elem (.static RX6 "ORDER" "[I") (.int 29)) (.int 200)) (by decide +kernel))
    · exact va_eqt (hs (.eq (.elem (.static RX6 "ORDER" "[I") (.int 30)) (.int 210)) (by decide +kernel))
    · exact va_eqt (hs (.eq (.elem (.static RX6 "ORDER" "[I") (.int 31)) (.int 220)) (by decide +kernel))
    · exact va_eqt (hs (.eq (.elem (.static RX6 "ORDER" "[I") (.int 32)) (.int 230)) (by decide +kernel))
    · exact va_eqt (hs (.eq (.elem (.static RX6 "ORDER" "[I") (.int 33)) (.int 240)) (by decide +kernel))
    · exact va_eqt (hs (.eq (.elem (.static RX6 "ORDER" "[I") (.int 34)) (.int 300)) (by decide +kernel))
    · exact va_eqt (hs (.eq (.elem (.static RX6 "ORDER" "[I") (.int 35)) (.int 310)) (by decide +kernel))
    · exact va_eqt (hs (.eq (.elem (.static RX6 "ORDER" "[I") (.int 36)) (.int 320)) (by decide +kernel))
    · exact va_eqt (hs (.eq (.elem (.static RX6 "ORDER" "[I") (.int 37)) (.int 330)) (by decide +kernel))
    · exact va_eqt (hs (.eq (.elem (.static RX6 "ORDER" "[I") (.int 38)) (.int 340)) (by decide +kernel))
    · exact va_eqt (hs (.eq (.elem (.static RX6 "ORDER" "[I") (.int 39)) (.int 350)) (by decide +kernel))
  obtain ⟨xtO, vtO, TtO⟩ := va_Tof (s := s) (tm := .static RX6 "ORDER" "[I") (ty := .int) (N := 40) (f := tO) (A := fun q : Nat => s.heap.size ≤ q) (by decide) (hs (.arrayOf (.static RX6 "ORDER" "[I") .int) (by decide +kernel)) (va_eqt (hs (.eq (.length (.static RX6 "ORDER" "[I")) (.int 40)) (by decide +kernel))) etO (fun a h => Nat.not_le.mpr h)
  have ztO := va_Zref (A := fun q : Nat => s.heap.size ≤ q) (hts (.laysStatic RX6 "ORDER" "[I") (by decide +kernel)) (hts (.initialized RX6) (by decide +kernel)) vtO (fun a h => Nat.not_le.mpr h)
  refine ⟨((fun k => if k = 0 then c0 else if k = 1 then c1 else if k = 2 then c2 else if k = 3 then c3 else if k = 4 then c4 else if k = 5 then c5 else c6, fun k => if k = 0 then iS0 else if k = 1 then iS1 else if k = 2 then iS2 else if k = 3 then iS3 else if k = 4 then iS4 else if k = 5 then iS5 else iS6), cB, cI, cZ, cP, cT), ⟨?_, ?_⟩, ⟨xtW, ztW, TtW⟩, ⟨xtM, ztM, TtM⟩, ⟨xtO, ztO, TtO⟩, va_AO.of oP, va_AO.of oT, va_Nw.of rfl (hts (.methodLinkNest RX9 9 yX2_init RX9) (by decide +kernel)), va_Nw.of rfl (hts (.methodLinkNest RX9 18 yX3_init RX9) (by decide +kernel)), va_Nw.of rfl (hts (.methodLinkNest RX9 220 yX4_init RX9) (by decide +kernel)), va_Nw.of rfl (hts (.methodLinkNest RX9 131 yX8_init RX9) (by decide +kernel)), va_Nw.of rfl (hts (.methodLinkNest RX4 39 yX7_init RX9) (by decide +kernel)), va_Nw.of rfl (hts (.methodLinkNest RX8 21 yX9_isMap RX9) (by decide +kernel)), va_Nw.of rfl (hts (.methodLinkNest RX8 46 yX9_isOf RX9) (by decide +kernel))⟩
  · intro k q hq
    match k, hq with
    | 0, hq => cases hq; exact hKn0
    | 1, hq => cases hq; exact hKn1
    | 2, hq => cases hq; exact hKn2
    | 3, hq => cases hq; exact hKn3
    | 4, hq => cases hq; exact hKn4
    | 5, hq => cases hq; exact hKn5
    | 6, hq => cases hq; exact hKn6
    | k + 7, hq => simp [vwCl] at hq
  · intro k q hq
    match k, hq with
    | 0, hq => cases hq; exact kB
    | 1, hq => cases hq; exact kI
    | 2, hq => cases hq; exact kZ
    | 3, hq => cases hq; exact kP
    | 4, hq => cases hq; exact kT
    | k + 5, hq => simp [gt] at hq

section LC
variable {p : Program} {l : Launch} {e : Env} {R : Room} {s : State} {m : MethodId} {args : Array Value} {below : List Frame} {meth : Method} {c : Code} {H : Heap} {locs : List Loc} {cells slots : Nat} {Q : State → Prop}
variable {pc : Nat} {ls : Array Slot} {rest st0 : List Value} {a : Array Value} {A : Nat → Prop} {mc ms : Nat} {G : Gy} {ws : va_W}
theorem ca_LS {S : Type} {post : Int32 → S → Prop} {W' : S → va_W} {gc gs : S → Nat} {k0 n0 : Nat} (g0 : GF s.heap H k0 n0) (hr : va_Run p l e R s m args below meth c H locs cells slots mc ms (F0 m pc ls st0) rest (va_Qi post (cPostH G W' (va_A ws H.size) H gc gs) (va_A ws H.size) a) (va_A ws H.size)) (hS : va_S A s.heap H locs) (hD : va_D A ws) (hA : ∀ q, s.heap.size ≤ q → A q)
    (kk : ∀ (r : Int32) (u : S) (H1 : Heap) (locs1 : List Loc), post r u → va_P G.1 vwCl (W' u) H1 → va_D A (W' u) → va_S A s.heap H1 locs1 → W p l e R s m args below meth c H1 locs1 (k0 + gc u) (n0 + gs u) Q (F0 m (pc + 3) ls (.int r :: rest))) : W p l e R s m args below meth c H locs cells slots Q (F0 m pc ls st0) := by
  have hF : ∀ q, va_A ws H.size q → A q := by
    intro q h
    rcases A_mem.mp h with ⟨e, he⟩ | h
    · exact (D_mem.mp hD).2 (q, e) he
    · exact hA q (Nat.le_trans hS.1 h)
  refine va_calli hr hS (fun q _ h => hF q h) hF (fun r u t H1 locs1 ht hvm hw hB hz hk hS1 => ?_)
  obtain ⟨b1, b2, b3⟩ := hB
  rw [ht] at b1 b3
  exact W_lower (g0.trans b3) (kk r u H1 locs1 hw b1 (D_mem.mpr ⟨(D_mem.mp b2).1, fun q hq => hF _ ((D_mem.mp b2).2 q hq)⟩) hS1)
end LC

set_option maxHeartbeats 1000000 in
set_option maxRecDepth 100000 in
theorem law_sites {p : Program} {l : Launch} {e : Env} {s : State} {m : MethodId} {below : List Frame} {meth : Method} {c : Code} {b L : Nat} {xs : Nat → Int32} {G : Gy} {h0 h1 i : Nat} (hL : L ≤ 3072) (hi : i + 6 ≤ L) (C0 : lw_At p s m meth c b L xs) (E : EV G (fun q : Nat => s.heap.size ≤ q) s s.heap) (xn : Int32) (xtold : Int32) (xsp : Int32) (xgr : Int32) (xfc : Nat → Int32) (xfk : Nat → Int32) (xlen : Int32) (xfsg : Nat → Int32) (xwa : Option PQ) (xwb : Option PQ) (xc0 : Nat) (xb0 : Nat) (mk : Nat) (mtold : Int32) (mla : Nat) (msp : Int32) (mfm : Nat → Int32) (mfk : Nat → Int32) (mpm : Nat) (mfpd : Nat → Int32) (mfz : Nat → Int32) (mfkp : Nat → Int32) (wx wm : va_W) (hC : CWd G h0 (xn, xtold, xsp, xgr, xfc, xfk, xlen, xfsg, xwa, xwb, xc0, xb0) wx) (hM : MWd G h1 (mk, mtold, mla, msp, mfm, mfk, mpm, mfpd, mfz, mfkp) wm) (hR : RELB xn xtold xsp xgr xfc xfk xlen xfsg xwa xwb mk mtold mla msp mfm mfk mpm mfpd mfz mfkp) {H : Heap} {locs : List Loc} {ls : Array Slot} (hP : va_P G.1 vwCl (wx ++ wm) H) (hD : va_D (fun q : Nat => s.heap.size ≤ q) (wx ++ wm)) (hS : va_S (fun q : Nat => s.heap.size ≤ q) s.heap H locs) (hl : lv_has ls 4 [(3, .int (nI i)), (2, .ref h1), (1, .ref h0), (0, .ref b)]) (ih : ∀ (xn : Int32) (xtold : Int32) (xsp : Int32) (xgr : Int32) (xfc : Nat → Int32) (xfk : Nat → Int32) (xlen : Int32) (xfsg : Nat → Int32) (xwa : Option PQ) (xwb : Option PQ) (xc0 : Nat) (xb0 : Nat) (mk : Nat) (mtold : Int32) (mla : Nat) (msp : Int32) (mfm : Nat → Int32) (mfk : Nat → Int32) (mpm : Nat) (mfpd : Nat → Int32) (mfz : Nat → Int32) (mfkp : Nat → Int32) (wx2 wm2 : va_W), CWd G h0 (xn, xtold, xsp, xgr, xfc, xfk, xlen, xfsg, xwa, xwb, xc0, xb0) wx2 → MWd G h1 (mk, mtold, mla, msp, mfm, mfk, mpm, mfpd, mfz, mfkp) wm2 → RELB xn xtold xsp xgr xfc xfk xlen xfsg xwa xwb mk mtold mla msp mfm mfk mpm mfpd mfz mfkp → ∀ (H1 : Heap) (locs1 : List Loc) (ls1 : Array Slot), va_P G.1 vwCl (wx2 ++ wm2) H1 → va_D (fun q : Nat => s.heap.size ≤ q) (wx2 ++ wm2) → va_S (fun q : Nat => s.heap.size ≤ q) s.heap H1 locs1 → lv_has ls1 4 [(3, .int (nI (i + 6))), (2, .ref h1), (1, .ref h0), (0, .ref b)] → W p l e room_1 s m #[Value.ref b] below meth c H1 locs1 (25 + cqN xwa xwb xc0 xb0) (94050 + sqN xwa xwb xc0 xb0) (lw_Z below #[Value.ref b] s) (F0 m 18 ls1 [])) : W p l e room_1 s m #[Value.ref b] below meth c H locs (25 + cqN xwa xwb xc0 xb0) (94050 + sqN xwa xwb xc0 xb0) (lw_Z below #[Value.ref b] s) (F0 m 144 ls []) := by
  obtain ⟨hx, hb, hr, hml, hown, hts0, hX, hbl, hlocks, hgv⟩ := id C0
  have hts : ∀ w ∈ wsL_law, w.before #[Value.ref b] s = true := fun w h => hts0 w (wsL_law_in w h)
  have hbA : ¬ (fun q : Nat => s.heap.size ≤ q) b := Nat.not_le.mpr hbl
  have hA : ∀ q : Nat, s.heap.size ≤ q → (fun q : Nat => s.heap.size ≤ q) q := fun _ h => h
  obtain ⟨hk2, hk6, hpm40, hla, hsp, hfm⟩ := mw_inv hM
  have hR0 := hR
  obtain ⟨rfl, rfl, rfl, rfl, rfl, rfl, hcr, -⟩ := hR
  refine lv_aload_n hx hb dL_law_144 rfl (lv_at hl 2 rfl) ?_
  refine lv_aload_n hx hb dL_law_145 rfl (lv_at hl 3 rfl) ?_
  refine lv_iload_n hx hb dL_law_146 rfl (lv_at hl 0 rfl) ?_
  refine lv_iconst (v := 1) hx hb dL_law_147 (by decide) ?_
  refine lv_iadd hx hb dL_law_148 ?_
  refine lv_topi (fun z1_q ez1_q => ?_)
  obtain rfl : z1_q = nI (i + 1) := by rw [ez1_q]; exact nI_add i 1
  refine va_sld hx hb hX hbl hbA hS (i := nI (i + 1)) (vp_in_nI (by omega) (by omega)) dL_law_149 ?_
  refine lv_topi (fun a0_q ea0_q => ?_)
  have hcq_q := cq_le hC
  obtain ⟨fs9_q, hhd_q⟩ := cw_head hC wm
  refine W_facts (fun hg => ?_)
  have hKx_q := K_left (x2_sites l G H h0 mk mpm mla mtold msp xfc xfk mfpd xwa xwb xc0 xb0 (maN mfm) wx hC hk2 hk6 hpm40 hla hcr hsp a0_q) wm
  refine ca_LS (ws := wx ++ wm) hg (va_runV (As := [.int a0_q]) (rest := []) ⟨hx, hb, hml, hown, hts⟩ hKx_q (cwV 1 hts gL_law_X9_sites rfl rfl rfl (by decide +kernel) ⟨by decide +kernel, by decide +kernel⟩) (pre_L E hP hD hS hA 0 5 rfl hhd_q) rfl rfl hl.1 rfl (lv_room (Nat.le_of_ble_eq_true rfl)) dL_law_150 ⟨show 25 + cqN xwa xwb xc0 xb0 + 0 ≤ 600000 by omega, show 94050 + sqN xwa xwb xc0 xb0 + 0 ≤ 7302250 by omega⟩) hS hD hA (fun r1_q u1_q H locs hw hP hD hS => ?_)
  obtain ⟨w2_q, g1_q, n1_q⟩ := u1_q
  dsimp only at hw hP hD
  obtain ⟨wx2_q, rfl, xn1_q, told1_q, gr1_q, hC2_q, hg1_q, hn1_q, hpc_q⟩ := hw
  refine lv_pop hx hb dL_law_153 rfl ?_
  refine lv_aload_n hx hb dL_law_154 rfl (lv_at hl 1 rfl) ?_
  refine lv_aload_n hx hb dL_law_155 rfl (lv_at hl 3 rfl) ?_
  refine lv_iload_n hx hb dL_law_156 rfl (lv_at hl 0 rfl) ?_
  refine lv_iconst (v := 1) hx hb dL_law_157 (by decide) ?_
  refine lv_iadd hx hb dL_law_158 ?_
  refine lv_topi (fun z2_q ez2_q => ?_)
  obtain rfl : z2_q = nI (i + 1) := by rw [ez2_q]; exact nI_add i 1
  refine va_sld hx hb hX hbl hbA hS (i := nI (i + 1)) (vp_in_nI (by omega) (by omega)) dL_law_159 ?_
  refine lv_topi (fun d0_q ed0_q => ?_)
  obtain rfl : a0_q = d0_q := by rw [ea0_q, ed0_q]
  have hcq2_q := cq_le hC2_q
  obtain ⟨fs8_q, hhd2_q⟩ := mw_head hM wx2_q
  refine W_facts (fun hg => ?_)
  have hKm_q := K_right (k2_sites l G H h1 mk mtold mla msp mfm mfk mpm mfpd mfz mfkp wm hM a0_q) wx2_q
  refine ca_LS (ws := wx2_q ++ wm) hg (va_runV (As := [.int a0_q]) (rest := []) ⟨hx, hb, hml, hown, hts⟩ hKm_q (cwV 1 hts gL_law_X10_sites rfl rfl rfl (by decide +kernel) ⟨by decide +kernel, by decide +kernel⟩) (pre_L E hP hD hS hA wx2_q.length 6 rfl hhd2_q) rfl rfl hl.1 rfl (lv_room (Nat.le_of_ble_eq_true rfl)) dL_law_160 ⟨show 25 + cqN xwa xwb xc0 xb0 + g1_q + 0 ≤ 600000 by omega, show 94050 + sqN xwa xwb xc0 xb0 + n1_q + 0 ≤ 7302250 by omega⟩) hS hD hA (fun r2_q u2_q H locs hw hP hD hS => ?_)
  obtain ⟨w3_q, g2_q, n2_q⟩ := u2_q
  dsimp only at hw hP hD
  obtain ⟨wm2_q, rfl, hg2_q, hn2_q, k1_q, mtold1_q, mla1_q, mgm_q, mgp_q, hM2_q, hpm_q⟩ := hw
  have hR2_q := rb_sites hR0 hpc_q hpm_q.2.2.2.2.2
  refine lv_pop hx hb dL_law_163 rfl ?_
  refine lv_goto (tgt := 926) hx hb dL_law_164 (by decide) ?_
  obtain ⟨z9_q, ez9_q⟩ : ∃ yy_ : Int32, yy_ = nI i + 6 := ⟨_, rfl⟩
  refine lv_iinc (v := z9_q) (lv' := [(3, .int z9_q), (2, .ref h1), (1, .ref h0), (0, .ref b)]) hx hb dL_law_926 hl (k := 0) rfl (by rw [ez9_q]; rfl) (by decide) rfl (fun ls hl => ?_)
  obtain rfl : z9_q = nI (i + 6) := by rw [ez9_q]; exact nI_add i 6
  refine lv_goto (tgt := 18) hx hb dL_law_929 (by decide) ?_
  refine W_facts (fun hg => ?_)
  refine W_lower (k := 25 + cqN xwa xwb xc0 xb0) (n := 94050 + sqN xwa xwb xc0 xb0) (GF.wide hg (show 25 + cqN xwa xwb xc0 xb0 + g1_q + g2_q ≤ 25 + cqN xwa xwb xc0 xb0 by omega) (show 94050 + sqN xwa xwb xc0 xb0 + n1_q + n2_q ≤ 94050 + sqN xwa xwb xc0 xb0 by omega)) ?_
  exact ih xn1_q told1_q msp gr1_q xfc xfk (nI mpm) mfpd xwa xwb xc0 xb0 k1_q mtold1_q mla1_q msp mgm_q mfk mpm mfpd mfz mfkp wx2_q wm2_q hC2_q hM2_q hR2_q.2 H locs ls hP hD hS hl

set_option maxHeartbeats 1000000 in
set_option maxRecDepth 100000 in
theorem law_say {p : Program} {l : Launch} {e : Env} {s : State} {m : MethodId} {below : List Frame} {meth : Method} {c : Code} {b L : Nat} {xs : Nat → Int32} {G : Gy} {h0 h1 i : Nat} (hL : L ≤ 3072) (hi : i + 6 ≤ L) (C0 : lw_At p s m meth c b L xs) (E : EV G (fun q : Nat => s.heap.size ≤ q) s s.heap) (xn : Int32) (xtold : Int32) (xsp : Int32) (xgr : Int32) (xfc : Nat → Int32) (xfk : Nat → Int32) (xlen : Int32) (xfsg : Nat → Int32) (xwa : Option PQ) (xwb : Option PQ) (xc0 : Nat) (xb0 : Nat) (mk : Nat) (mtold : Int32) (mla : Nat) (msp : Int32) (mfm : Nat → Int32) (mfk : Nat → Int32) (mpm : Nat) (mfpd : Nat → Int32) (mfz : Nat → Int32) (mfkp : Nat → Int32) (wx wm : va_W) (hC : CWd G h0 (xn, xtold, xsp, xgr, xfc, xfk, xlen, xfsg, xwa, xwb, xc0, xb0) wx) (hM : MWd G h1 (mk, mtold, mla, msp, mfm, mfk, mpm, mfpd, mfz, mfkp) wm) (hR : RELB xn xtold xsp xgr xfc xfk xlen xfsg xwa xwb mk mtold mla msp mfm mfk mpm mfpd mfz mfkp) {H : Heap} {locs : List Loc} {ls : Array Slot} (hP : va_P G.1 vwCl (wx ++ wm) H) (hD : va_D (fun q : Nat => s.heap.size ≤ q) (wx ++ wm)) (hS : va_S (fun q : Nat => s.heap.size ≤ q) s.heap H locs) (hl : lv_has ls 4 [(3, .int (nI i)), (2, .ref h1), (1, .ref h0), (0, .ref b)]) (ih : ∀ (xn : Int32) (xtold : Int32) (xsp : Int32) (xgr : Int32) (xfc : Nat → Int32) (xfk : Nat → Int32) (xlen : Int32) (xfsg : Nat → Int32) (xwa : Option PQ) (xwb : Option PQ) (xc0 : Nat) (xb0 : Nat) (mk : Nat) (mtold : Int32) (mla : Nat) (msp : Int32) (mfm : Nat → Int32) (mfk : Nat → Int32) (mpm : Nat) (mfpd : Nat → Int32) (mfz : Nat → Int32) (mfkp : Nat → Int32) (wx2 wm2 : va_W), CWd G h0 (xn, xtold, xsp, xgr, xfc, xfk, xlen, xfsg, xwa, xwb, xc0, xb0) wx2 → MWd G h1 (mk, mtold, mla, msp, mfm, mfk, mpm, mfpd, mfz, mfkp) wm2 → RELB xn xtold xsp xgr xfc xfk xlen xfsg xwa xwb mk mtold mla msp mfm mfk mpm mfpd mfz mfkp → ∀ (H1 : Heap) (locs1 : List Loc) (ls1 : Array Slot), va_P G.1 vwCl (wx2 ++ wm2) H1 → va_D (fun q : Nat => s.heap.size ≤ q) (wx2 ++ wm2) → va_S (fun q : Nat => s.heap.size ≤ q) s.heap H1 locs1 → lv_has ls1 4 [(3, .int (nI (i + 6))), (2, .ref h1), (1, .ref h0), (0, .ref b)] → W p l e room_1 s m #[Value.ref b] below meth c H1 locs1 (25 + cqN xwa xwb xc0 xb0) (94050 + sqN xwa xwb xc0 xb0) (lw_Z below #[Value.ref b] s) (F0 m 18 ls1 [])) : W p l e room_1 s m #[Value.ref b] below meth c H locs (25 + cqN xwa xwb xc0 xb0) (94050 + sqN xwa xwb xc0 xb0) (lw_Z below #[Value.ref b] s) (F0 m 167 ls []) := by
  obtain ⟨hx, hb, hr, hml, hown, hts0, hX, hbl, hlocks, hgv⟩ := id C0
  have hts : ∀ w ∈ wsL_law, w.before #[Value.ref b] s = true := fun w h => hts0 w (wsL_law_in w h)
  have hbA : ¬ (fun q : Nat => s.heap.size ≤ q) b := Nat.not_le.mpr hbl
  have hA : ∀ q : Nat, s.heap.size ≤ q → (fun q : Nat => s.heap.size ≤ q) q := fun _ h => h
  obtain ⟨hk2, hk6, hpm40, hla, hsp, hfm⟩ := mw_inv hM
  have hR0 := hR
  obtain ⟨rfl, rfl, rfl, rfl, rfl, rfl, hcr, -⟩ := hR
  refine lv_aload_n hx hb dL_law_167 rfl (lv_at hl 2 rfl) ?_
  refine lv_aload_n hx hb dL_law_168 rfl (lv_at hl 3 rfl) ?_
  refine lv_iload_n hx hb dL_law_169 rfl (lv_at hl 0 rfl) ?_
  refine lv_iconst (v := 1) hx hb dL_law_170 (by decide) ?_
  refine lv_iadd hx hb dL_law_171 ?_
  refine lv_topi (fun z1_q ez1_q => ?_)
  obtain rfl : z1_q = nI (i + 1) := by rw [ez1_q]; exact nI_add i 1
  refine va_sld hx hb hX hbl hbA hS (i := nI (i + 1)) (vp_in_nI (by omega) (by omega)) dL_law_172 ?_
  refine lv_topi (fun a0_q ea0_q => ?_)
  have hcq_q := cq_le hC
  obtain ⟨fs9_q, hhd_q⟩ := cw_head hC wm
  refine W_facts (fun hg => ?_)
  have hKx_q := K_left (x2_say l G H h0 mk mpm mla mtold msp xfc xfk mfpd xwa xwb xc0 xb0 (maN mfm) wx hC hk2 hk6 hpm40 hla hcr hsp a0_q) wm
  refine ca_LS (ws := wx ++ wm) hg (va_runV (As := [.int a0_q]) (rest := []) ⟨hx, hb, hml, hown, hts⟩ hKx_q (cwV 1 hts gL_law_X9_say rfl rfl rfl (by decide +kernel) ⟨by decide +kernel, by decide +kernel⟩) (pre_L E hP hD hS hA 0 5 rfl hhd_q) rfl rfl hl.1 rfl (lv_room (Nat.le_of_ble_eq_true rfl)) dL_law_173 ⟨show 25 + cqN xwa xwb xc0 xb0 + 0 ≤ 600000 by omega, show 94050 + sqN xwa xwb xc0 xb0 + 0 ≤ 7302250 by omega⟩) hS hD hA (fun r1_q u1_q H locs hw hP hD hS => ?_)
  obtain ⟨w2_q, g1_q, n1_q⟩ := u1_q
  dsimp only at hw hP hD
  obtain ⟨wx2_q, rfl, len1_q, fsg1_q, hC2_q, hg1_q, hn1_q, hpc_q⟩ := hw
  refine lv_pop hx hb dL_law_176 rfl ?_
  refine lv_aload_n hx hb dL_law_177 rfl (lv_at hl 1 rfl) ?_
  refine lv_aload_n hx hb dL_law_178 rfl (lv_at hl 3 rfl) ?_
  refine lv_iload_n hx hb dL_law_179 rfl (lv_at hl 0 rfl) ?_
  refine lv_iconst (v := 1) hx hb dL_law_180 (by decide) ?_
  refine lv_iadd hx hb dL_law_181 ?_
  refine lv_topi (fun z2_q ez2_q => ?_)
  obtain rfl : z2_q = nI (i + 1) := by rw [ez2_q]; exact nI_add i 1
  refine va_sld hx hb hX hbl hbA hS (i := nI (i + 1)) (vp_in_nI (by omega) (by omega)) dL_law_182 ?_
  refine lv_topi (fun d0_q ed0_q => ?_)
  obtain rfl : a0_q = d0_q := by rw [ea0_q, ed0_q]
  have hcq2_q := cq_le hC2_q
  obtain ⟨fs8_q, hhd2_q⟩ := mw_head hM wx2_q
  refine W_facts (fun hg => ?_)
  have hKm_q := K_right (k_say l G H h1 mk mtold mla msp mfm mfk mpm mfpd mfz mfkp wm hM a0_q) wx2_q
  refine ca_LS (ws := wx2_q ++ wm) hg (va_runV (As := [.int a0_q]) (rest := []) ⟨hx, hb, hml, hown, hts⟩ hKm_q (cwV 1 hts gL_law_X10_say rfl rfl rfl (by decide +kernel) ⟨by decide +kernel, by decide +kernel⟩) (pre_L E hP hD hS hA wx2_q.length 6 rfl hhd2_q) rfl rfl hl.1 rfl (lv_room (Nat.le_of_ble_eq_true rfl)) dL_law_183 ⟨show 25 + cqN xwa xwb xc0 xb0 + g1_q + 0 ≤ 600000 by omega, show 94050 + sqN xwa xwb xc0 xb0 + n1_q + 0 ≤ 7302250 by omega⟩) hS hD hA (fun r2_q u2_q H locs hw hP hD hS => ?_)
  obtain ⟨w3_q, g2_q, n2_q⟩ := u2_q
  dsimp only at hw hP hD
  obtain ⟨wm2_q, rfl, hg2_q, hn2_q, pm1_q, mfd1_q, hM2_q, hpm_q⟩ := hw
  have hR2_q := rb_say hR0 hpc_q hpm_q
  refine lv_pop hx hb dL_law_186 rfl ?_
  refine lv_goto (tgt := 926) hx hb dL_law_187 (by decide) ?_
  obtain ⟨z9_q, ez9_q⟩ : ∃ yy_ : Int32, yy_ = nI i + 6 := ⟨_, rfl⟩
  refine lv_iinc (v := z9_q) (lv' := [(3, .int z9_q), (2, .ref h1), (1, .ref h0), (0, .ref b)]) hx hb dL_law_926 hl (k := 0) rfl (by rw [ez9_q]; rfl) (by decide) rfl (fun ls hl => ?_)
  obtain rfl : z9_q = nI (i + 6) := by rw [ez9_q]; exact nI_add i 6
  refine lv_goto (tgt := 18) hx hb dL_law_929 (by decide) ?_
  refine W_facts (fun hg => ?_)
  refine W_lower (k := 25 + cqN xwa xwb xc0 xb0) (n := 94050 + sqN xwa xwb xc0 xb0) (GF.wide hg (show 25 + cqN xwa xwb xc0 xb0 + g1_q + g2_q ≤ 25 + cqN xwa xwb xc0 xb0 by omega) (show 94050 + sqN xwa xwb xc0 xb0 + n1_q + n2_q ≤ 94050 + sqN xwa xwb xc0 xb0 by omega)) ?_
  exact ih (nI mk) mtold msp (nI (sc mk mla)) xfc xfk len1_q fsg1_q xwa xwb xc0 xb0 mk mtold mla msp mfm mfk pm1_q mfd1_q mfz mfkp wx2_q wm2_q hC2_q hM2_q hR2_q.2 H locs ls hP hD hS hl

set_option maxHeartbeats 1000000 in
set_option maxRecDepth 100000 in
theorem law_wipe {p : Program} {l : Launch} {e : Env} {s : State} {m : MethodId} {below : List Frame} {meth : Method} {c : Code} {b L : Nat} {xs : Nat → Int32} {G : Gy} {h0 h1 i : Nat} (hL : L ≤ 3072) (hi : i + 6 ≤ L) (C0 : lw_At p s m meth c b L xs) (E : EV G (fun q : Nat => s.heap.size ≤ q) s s.heap) (xn : Int32) (xtold : Int32) (xsp : Int32) (xgr : Int32) (xfc : Nat → Int32) (xfk : Nat → Int32) (xlen : Int32) (xfsg : Nat → Int32) (xwa : Option PQ) (xwb : Option PQ) (xc0 : Nat) (xb0 : Nat) (mk : Nat) (mtold : Int32) (mla : Nat) (msp : Int32) (mfm : Nat → Int32) (mfk : Nat → Int32) (mpm : Nat) (mfpd : Nat → Int32) (mfz : Nat → Int32) (mfkp : Nat → Int32) (wx wm : va_W) (hC : CWd G h0 (xn, xtold, xsp, xgr, xfc, xfk, xlen, xfsg, xwa, xwb, xc0, xb0) wx) (hM : MWd G h1 (mk, mtold, mla, msp, mfm, mfk, mpm, mfpd, mfz, mfkp) wm) (hR : RELB xn xtold xsp xgr xfc xfk xlen xfsg xwa xwb mk mtold mla msp mfm mfk mpm mfpd mfz mfkp) {H : Heap} {locs : List Loc} {ls : Array Slot} (hP : va_P G.1 vwCl (wx ++ wm) H) (hD : va_D (fun q : Nat => s.heap.size ≤ q) (wx ++ wm)) (hS : va_S (fun q : Nat => s.heap.size ≤ q) s.heap H locs) (hl : lv_has ls 4 [(3, .int (nI i)), (2, .ref h1), (1, .ref h0), (0, .ref b)]) (ih : ∀ (xn : Int32) (xtold : Int32) (xsp : Int32) (xgr : Int32) (xfc : Nat → Int32) (xfk : Nat → Int32) (xlen : Int32) (xfsg : Nat → Int32) (xwa : Option PQ) (xwb : Option PQ) (xc0 : Nat) (xb0 : Nat) (mk : Nat) (mtold : Int32) (mla : Nat) (msp : Int32) (mfm : Nat → Int32) (mfk : Nat → Int32) (mpm : Nat) (mfpd : Nat → Int32) (mfz : Nat → Int32) (mfkp : Nat → Int32) (wx2 wm2 : va_W), CWd G h0 (xn, xtold, xsp, xgr, xfc, xfk, xlen, xfsg, xwa, xwb, xc0, xb0) wx2 → MWd G h1 (mk, mtold, mla, msp, mfm, mfk, mpm, mfpd, mfz, mfkp) wm2 → RELB xn xtold xsp xgr xfc xfk xlen xfsg xwa xwb mk mtold mla msp mfm mfk mpm mfpd mfz mfkp → ∀ (H1 : Heap) (locs1 : List Loc) (ls1 : Array Slot), va_P G.1 vwCl (wx2 ++ wm2) H1 → va_D (fun q : Nat => s.heap.size ≤ q) (wx2 ++ wm2) → va_S (fun q : Nat => s.heap.size ≤ q) s.heap H1 locs1 → lv_has ls1 4 [(3, .int (nI (i + 6))), (2, .ref h1), (1, .ref h0), (0, .ref b)] → W p l e room_1 s m #[Value.ref b] below meth c H1 locs1 (25 + cqN xwa xwb xc0 xb0) (94050 + sqN xwa xwb xc0 xb0) (lw_Z below #[Value.ref b] s) (F0 m 18 ls1 [])) : W p l e room_1 s m #[Value.ref b] below meth c H locs (25 + cqN xwa xwb xc0 xb0) (94050 + sqN xwa xwb xc0 xb0) (lw_Z below #[Value.ref b] s) (F0 m 190 ls []) := by
  obtain ⟨hx, hb, hr, hml, hown, hts0, hX, hbl, hlocks, hgv⟩ := id C0
  have hts : ∀ w ∈ wsL_law, w.before #[Value.ref b] s = true := fun w h => hts0 w (wsL_law_in w h)
  have hbA : ¬ (fun q : Nat => s.heap.size ≤ q) b := Nat.not_le.mpr hbl
  have hA : ∀ q : Nat, s.heap.size ≤ q → (fun q : Nat => s.heap.size ≤ q) q := fun _ h => h
  obtain ⟨hk2, hk6, hpm40, hla, hsp, hfm⟩ := mw_inv hM
  have hR0 := hR
  obtain ⟨rfl, rfl, rfl, rfl, rfl, rfl, hcr, -⟩ := hR
  refine lv_aload_n hx hb dL_law_190 rfl (lv_at hl 2 rfl) ?_
  have hcq_q := cq_le hC
  obtain ⟨fs9_q, hhd_q⟩ := cw_head hC wm
  refine W_facts (fun hg => ?_)
  have hKx_q := K_left (x2_wipe l G H h0 mk mpm mla mtold msp xfc xfk mfpd xwa xwb xc0 xb0 (maN mfm) wx hC hk2 hk6 hpm40 hla hcr hsp ) wm
  refine ca_LS (ws := wx ++ wm) hg (va_runV (As := []) (rest := []) ⟨hx, hb, hml, hown, hts⟩ hKx_q (cwV 0 hts gL_law_X9_wipe rfl rfl rfl (by decide +kernel) ⟨by decide +kernel, by decide +kernel⟩) (pre_L E hP hD hS hA 0 5 rfl hhd_q) rfl rfl hl.1 rfl (lv_room (Nat.le_of_ble_eq_true rfl)) dL_law_191 ⟨show 25 + cqN xwa xwb xc0 xb0 + 0 ≤ 600000 by omega, show 94050 + sqN xwa xwb xc0 xb0 + 0 ≤ 7302250 by omega⟩) hS hD hA (fun r1_q u1_q H locs hw hP hD hS => ?_)
  obtain ⟨w2_q, g1_q, n1_q⟩ := u1_q
  dsimp only at hw hP hD
  obtain ⟨wx2_q, rfl, len1_q, hC2_q, hg1_q, hn1_q, hpc_q⟩ := hw
  refine lv_pop hx hb dL_law_194 rfl ?_
  refine lv_aload_n hx hb dL_law_195 rfl (lv_at hl 1 rfl) ?_
  have hcq2_q := cq_le hC2_q
  obtain ⟨fs8_q, hhd2_q⟩ := mw_head hM wx2_q
  refine W_facts (fun hg => ?_)
  have hKm_q := K_right (k_wipe l G H h1 mk mtold mla msp mfm mfk mpm mfpd mfz mfkp wm hM ) wx2_q
  refine ca_LS (ws := wx2_q ++ wm) hg (va_runV (As := []) (rest := []) ⟨hx, hb, hml, hown, hts⟩ hKm_q (cwV 0 hts gL_law_X10_wipe rfl rfl rfl (by decide +kernel) ⟨by decide +kernel, by decide +kernel⟩) (pre_L E hP hD hS hA wx2_q.length 6 rfl hhd2_q) rfl rfl hl.1 rfl (lv_room (Nat.le_of_ble_eq_true rfl)) dL_law_196 ⟨show 25 + cqN xwa xwb xc0 xb0 + g1_q + 0 ≤ 600000 by omega, show 94050 + sqN xwa xwb xc0 xb0 + n1_q + 0 ≤ 7302250 by omega⟩) hS hD hA (fun r2_q u2_q H locs hw hP hD hS => ?_)
  obtain ⟨w3_q, g2_q, n2_q⟩ := u2_q
  dsimp only at hw hP hD
  obtain ⟨wm2_q, rfl, hg2_q, hn2_q, hM2_q, hpm_q⟩ := hw
  have hR2_q := rb_wipe hR0 hpc_q hpm_q
  refine lv_pop hx hb dL_law_199 rfl ?_
  refine lv_goto (tgt := 926) hx hb dL_law_200 (by decide) ?_
  obtain ⟨z9_q, ez9_q⟩ : ∃ yy_ : Int32, yy_ = nI i + 6 := ⟨_, rfl⟩
  refine lv_iinc (v := z9_q) (lv' := [(3, .int z9_q), (2, .ref h1), (1, .ref h0), (0, .ref b)]) hx hb dL_law_926 hl (k := 0) rfl (by rw [ez9_q]; rfl) (by decide) rfl (fun ls hl => ?_)
  obtain rfl : z9_q = nI (i + 6) := by rw [ez9_q]; exact nI_add i 6
  refine lv_goto (tgt := 18) hx hb dL_law_929 (by decide) ?_
  refine W_facts (fun hg => ?_)
  refine W_lower (k := 25 + cqN xwa xwb xc0 xb0) (n := 94050 + sqN xwa xwb xc0 xb0) (GF.wide hg (show 25 + cqN xwa xwb xc0 xb0 + g1_q + g2_q ≤ 25 + cqN xwa xwb xc0 xb0 by omega) (show 94050 + sqN xwa xwb xc0 xb0 + n1_q + n2_q ≤ 94050 + sqN xwa xwb xc0 xb0 by omega)) ?_
  exact ih (nI mk) mtold msp (nI (sc mk mla)) xfc xfk len1_q mfpd xwa xwb xc0 xb0 mk mtold mla msp mfm mfk 0 mfpd mfz mfkp wx2_q wm2_q hC2_q hM2_q hR2_q.2 H locs ls hP hD hS hl

set_option maxHeartbeats 1000000 in
set_option maxRecDepth 100000 in
theorem law_fault {p : Program} {l : Launch} {e : Env} {s : State} {m : MethodId} {below : List Frame} {meth : Method} {c : Code} {b L : Nat} {xs : Nat → Int32} {G : Gy} {h0 h1 i : Nat} (hL : L ≤ 3072) (hi : i + 6 ≤ L) (C0 : lw_At p s m meth c b L xs) (E : EV G (fun q : Nat => s.heap.size ≤ q) s s.heap) (xn : Int32) (xtold : Int32) (xsp : Int32) (xgr : Int32) (xfc : Nat → Int32) (xfk : Nat → Int32) (xlen : Int32) (xfsg : Nat → Int32) (xwa : Option PQ) (xwb : Option PQ) (xc0 : Nat) (xb0 : Nat) (mk : Nat) (mtold : Int32) (mla : Nat) (msp : Int32) (mfm : Nat → Int32) (mfk : Nat → Int32) (mpm : Nat) (mfpd : Nat → Int32) (mfz : Nat → Int32) (mfkp : Nat → Int32) (wx wm : va_W) (hC : CWd G h0 (xn, xtold, xsp, xgr, xfc, xfk, xlen, xfsg, xwa, xwb, xc0, xb0) wx) (hM : MWd G h1 (mk, mtold, mla, msp, mfm, mfk, mpm, mfpd, mfz, mfkp) wm) (hR : RELB xn xtold xsp xgr xfc xfk xlen xfsg xwa xwb mk mtold mla msp mfm mfk mpm mfpd mfz mfkp) {H : Heap} {locs : List Loc} {ls : Array Slot} (hP : va_P G.1 vwCl (wx ++ wm) H) (hD : va_D (fun q : Nat => s.heap.size ≤ q) (wx ++ wm)) (hS : va_S (fun q : Nat => s.heap.size ≤ q) s.heap H locs) (hl : lv_has ls 4 [(3, .int (nI i)), (2, .ref h1), (1, .ref h0), (0, .ref b)]) (ih : ∀ (xn : Int32) (xtold : Int32) (xsp : Int32) (xgr : Int32) (xfc : Nat → Int32) (xfk : Nat → Int32) (xlen : Int32) (xfsg : Nat → Int32) (xwa : Option PQ) (xwb : Option PQ) (xc0 : Nat) (xb0 : Nat) (mk : Nat) (mtold : Int32) (mla : Nat) (msp : Int32) (mfm : Nat → Int32) (mfk : Nat → Int32) (mpm : Nat) (mfpd : Nat → Int32) (mfz : Nat → Int32) (mfkp : Nat → Int32) (wx2 wm2 : va_W), CWd G h0 (xn, xtold, xsp, xgr, xfc, xfk, xlen, xfsg, xwa, xwb, xc0, xb0) wx2 → MWd G h1 (mk, mtold, mla, msp, mfm, mfk, mpm, mfpd, mfz, mfkp) wm2 → RELB xn xtold xsp xgr xfc xfk xlen xfsg xwa xwb mk mtold mla msp mfm mfk mpm mfpd mfz mfkp → ∀ (H1 : Heap) (locs1 : List Loc) (ls1 : Array Slot), va_P G.1 vwCl (wx2 ++ wm2) H1 → va_D (fun q : Nat => s.heap.size ≤ q) (wx2 ++ wm2) → va_S (fun q : Nat => s.heap.size ≤ q) s.heap H1 locs1 → lv_has ls1 4 [(3, .int (nI (i + 6))), (2, .ref h1), (1, .ref h0), (0, .ref b)] → W p l e room_1 s m #[Value.ref b] below meth c H1 locs1 (25 + cqN xwa xwb xc0 xb0) (94050 + sqN xwa xwb xc0 xb0) (lw_Z below #[Value.ref b] s) (F0 m 18 ls1 [])) : W p l e room_1 s m #[Value.ref b] below meth c H locs (25 + cqN xwa xwb xc0 xb0) (94050 + sqN xwa xwb xc0 xb0) (lw_Z below #[Value.ref b] s) (F0 m 203 ls []) := by
  obtain ⟨hx, hb, hr, hml, hown, hts0, hX, hbl, hlocks, hgv⟩ := id C0
  have hts : ∀ w ∈ wsL_law, w.before #[Value.ref b] s = true := fun w h => hts0 w (wsL_law_in w h)
  have hbA : ¬ (fun q : Nat => s.heap.size ≤ q) b := Nat.not_le.mpr hbl
  have hA : ∀ q : Nat, s.heap.size ≤ q → (fun q : Nat => s.heap.size ≤ q) q := fun _ h => h
  obtain ⟨hk2, hk6, hpm40, hla, hsp, hfm⟩ := mw_inv hM
  have hR0 := hR
  obtain ⟨rfl, rfl, rfl, rfl, rfl, rfl, hcr, -⟩ := hR
  refine lv_aload_n hx hb dL_law_203 rfl (lv_at hl 2 rfl) ?_
  refine lv_aload_n hx hb dL_law_204 rfl (lv_at hl 3 rfl) ?_
  refine lv_iload_n hx hb dL_law_205 rfl (lv_at hl 0 rfl) ?_
  refine lv_iconst (v := 1) hx hb dL_law_206 (by decide) ?_
  refine lv_iadd hx hb dL_law_207 ?_
  refine lv_topi (fun z1_q ez1_q => ?_)
  obtain rfl : z1_q = nI (i + 1) := by rw [ez1_q]; exact nI_add i 1
  refine va_sld hx hb hX hbl hbA hS (i := nI (i + 1)) (vp_in_nI (by omega) (by omega)) dL_law_208 ?_
  refine lv_topi (fun a0_q ea0_q => ?_)
  have hcq_q := cq_le hC
  obtain ⟨fs9_q, hhd_q⟩ := cw_head hC wm
  refine W_facts (fun hg => ?_)
  have hKx_q := K_left (x2_fault l G H h0 mk mpm mla mtold msp xfc xfk mfpd xwa xwb xc0 xb0 (maN mfm) wx hC hk2 hk6 hpm40 hla hcr hsp a0_q) wm
  refine ca_LS (ws := wx ++ wm) hg (va_runV (As := [.int a0_q]) (rest := []) ⟨hx, hb, hml, hown, hts⟩ hKx_q (cwV 1 hts gL_law_X9_fault rfl rfl rfl (by decide +kernel) ⟨by decide +kernel, by decide +kernel⟩) (pre_L E hP hD hS hA 0 5 rfl hhd_q) rfl rfl hl.1 rfl (lv_room (Nat.le_of_ble_eq_true rfl)) dL_law_209 ⟨show 25 + cqN xwa xwb xc0 xb0 + 0 ≤ 600000 by omega, show 94050 + sqN xwa xwb xc0 xb0 + 0 ≤ 7302250 by omega⟩) hS hD hA (fun r1_q u1_q H locs hw hP hD hS => ?_)
  obtain ⟨w2_q, g1_q, n1_q⟩ := u1_q
  dsimp only at hw hP hD
  obtain ⟨wx2_q, rfl, hC2_q, hg1_q, hn1_q, hpc_q⟩ := hw
  refine lv_pop hx hb dL_law_212 rfl ?_
  refine lv_aload_n hx hb dL_law_213 rfl (lv_at hl 1 rfl) ?_
  refine lv_aload_n hx hb dL_law_214 rfl (lv_at hl 3 rfl) ?_
  refine lv_iload_n hx hb dL_law_215 rfl (lv_at hl 0 rfl) ?_
  refine lv_iconst (v := 1) hx hb dL_law_216 (by decide) ?_
  refine lv_iadd hx hb dL_law_217 ?_
  refine lv_topi (fun z2_q ez2_q => ?_)
  obtain rfl : z2_q = nI (i + 1) := by rw [ez2_q]; exact nI_add i 1
  refine va_sld hx hb hX hbl hbA hS (i := nI (i + 1)) (vp_in_nI (by omega) (by omega)) dL_law_218 ?_
  refine lv_topi (fun d0_q ed0_q => ?_)
  obtain rfl : a0_q = d0_q := by rw [ea0_q, ed0_q]
  have hcq2_q := cq_le hC2_q
  obtain ⟨fs8_q, hhd2_q⟩ := mw_head hM wx2_q
  refine W_facts (fun hg => ?_)
  have hKm_q := K_right (k2_fault l G H h1 mk mtold mla msp mfm mfk mpm mfpd mfz mfkp wm hM a0_q) wx2_q
  refine ca_LS (ws := wx2_q ++ wm) hg (va_runV (As := [.int a0_q]) (rest := []) ⟨hx, hb, hml, hown, hts⟩ hKm_q (cwV 1 hts gL_law_X10_fault rfl rfl rfl (by decide +kernel) ⟨by decide +kernel, by decide +kernel⟩) (pre_L E hP hD hS hA wx2_q.length 6 rfl hhd2_q) rfl rfl hl.1 rfl (lv_room (Nat.le_of_ble_eq_true rfl)) dL_law_219 ⟨show 25 + cqN xwa xwb xc0 xb0 + g1_q + 0 ≤ 600000 by omega, show 94050 + sqN xwa xwb xc0 xb0 + n1_q + 0 ≤ 7302250 by omega⟩) hS hD hA (fun r2_q u2_q H locs hw hP hD hS => ?_)
  obtain ⟨w3_q, g2_q, n2_q⟩ := u2_q
  dsimp only at hw hP hD
  obtain ⟨wm2_q, rfl, hg2_q, hn2_q, q1__q, q2__q, hM2_q, hpm_q⟩ := hw
  have hR2_q := And.intro (hpc_q.trans hpm_q.symm) hR0
  refine lv_pop hx hb dL_law_222 rfl ?_
  refine lv_goto (tgt := 926) hx hb dL_law_223 (by decide) ?_
  obtain ⟨z9_q, ez9_q⟩ : ∃ yy_ : Int32, yy_ = nI i + 6 := ⟨_, rfl⟩
  refine lv_iinc (v := z9_q) (lv' := [(3, .int z9_q), (2, .ref h1), (1, .ref h0), (0, .ref b)]) hx hb dL_law_926 hl (k := 0) rfl (by rw [ez9_q]; rfl) (by decide) rfl (fun ls hl => ?_)
  obtain rfl : z9_q = nI (i + 6) := by rw [ez9_q]; exact nI_add i 6
  refine lv_goto (tgt := 18) hx hb dL_law_929 (by decide) ?_
  refine W_facts (fun hg => ?_)
  refine W_lower (k := 25 + cqN xwa xwb xc0 xb0) (n := 94050 + sqN xwa xwb xc0 xb0) (GF.wide hg (show 25 + cqN xwa xwb xc0 xb0 + g1_q + g2_q ≤ 25 + cqN xwa xwb xc0 xb0 by omega) (show 94050 + sqN xwa xwb xc0 xb0 + n1_q + n2_q ≤ 94050 + sqN xwa xwb xc0 xb0 by omega)) ?_
  exact ih (nI mk) mtold msp (nI (sc mk mla)) xfc xfk (nI mpm) mfpd xwa xwb xc0 xb0 mk mtold mla msp mfm mfk mpm mfpd mfz mfkp wx2_q wm2_q hC2_q hM2_q hR2_q.2 H locs ls hP hD hS hl

set_option maxHeartbeats 1000000 in
set_option maxRecDepth 100000 in
theorem law_map {p : Program} {l : Launch} {e : Env} {s : State} {m : MethodId} {below : List Frame} {meth : Method} {c : Code} {b L : Nat} {xs : Nat → Int32} {G : Gy} {h0 h1 i : Nat} (hL : L ≤ 3072) (hi : i + 6 ≤ L) (C0 : lw_At p s m meth c b L xs) (E : EV G (fun q : Nat => s.heap.size ≤ q) s s.heap) (xn : Int32) (xtold : Int32) (xsp : Int32) (xgr : Int32) (xfc : Nat → Int32) (xfk : Nat → Int32) (xlen : Int32) (xfsg : Nat → Int32) (xwa : Option PQ) (xwb : Option PQ) (xc0 : Nat) (xb0 : Nat) (mk : Nat) (mtold : Int32) (mla : Nat) (msp : Int32) (mfm : Nat → Int32) (mfk : Nat → Int32) (mpm : Nat) (mfpd : Nat → Int32) (mfz : Nat → Int32) (mfkp : Nat → Int32) (wx wm : va_W) (hC : CWd G h0 (xn, xtold, xsp, xgr, xfc, xfk, xlen, xfsg, xwa, xwb, xc0, xb0) wx) (hM : MWd G h1 (mk, mtold, mla, msp, mfm, mfk, mpm, mfpd, mfz, mfkp) wm) (hR : RELB xn xtold xsp xgr xfc xfk xlen xfsg xwa xwb mk mtold mla msp mfm mfk mpm mfpd mfz mfkp) {H : Heap} {locs : List Loc} {ls : Array Slot} (hP : va_P G.1 vwCl (wx ++ wm) H) (hD : va_D (fun q : Nat => s.heap.size ≤ q) (wx ++ wm)) (hS : va_S (fun q : Nat => s.heap.size ≤ q) s.heap H locs) (hl : lv_has ls 4 [(3, .int (nI i)), (2, .ref h1), (1, .ref h0), (0, .ref b)]) (ih : ∀ (xn : Int32) (xtold : Int32) (xsp : Int32) (xgr : Int32) (xfc : Nat → Int32) (xfk : Nat → Int32) (xlen : Int32) (xfsg : Nat → Int32) (xwa : Option PQ) (xwb : Option PQ) (xc0 : Nat) (xb0 : Nat) (mk : Nat) (mtold : Int32) (mla : Nat) (msp : Int32) (mfm : Nat → Int32) (mfk : Nat → Int32) (mpm : Nat) (mfpd : Nat → Int32) (mfz : Nat → Int32) (mfkp : Nat → Int32) (wx2 wm2 : va_W), CWd G h0 (xn, xtold, xsp, xgr, xfc, xfk, xlen, xfsg, xwa, xwb, xc0, xb0) wx2 → MWd G h1 (mk, mtold, mla, msp, mfm, mfk, mpm, mfpd, mfz, mfkp) wm2 → RELB xn xtold xsp xgr xfc xfk xlen xfsg xwa xwb mk mtold mla msp mfm mfk mpm mfpd mfz mfkp → ∀ (H1 : Heap) (locs1 : List Loc) (ls1 : Array Slot), va_P G.1 vwCl (wx2 ++ wm2) H1 → va_D (fun q : Nat => s.heap.size ≤ q) (wx2 ++ wm2) → va_S (fun q : Nat => s.heap.size ≤ q) s.heap H1 locs1 → lv_has ls1 4 [(3, .int (nI (i + 6))), (2, .ref h1), (1, .ref h0), (0, .ref b)] → W p l e room_1 s m #[Value.ref b] below meth c H1 locs1 (25 + cqN xwa xwb xc0 xb0) (94050 + sqN xwa xwb xc0 xb0) (lw_Z below #[Value.ref b] s) (F0 m 18 ls1 [])) : W p l e room_1 s m #[Value.ref b] below meth c H locs (25 + cqN xwa xwb xc0 xb0) (94050 + sqN xwa xwb xc0 xb0) (lw_Z below #[Value.ref b] s) (F0 m 226 ls []) := by
  obtain ⟨hx, hb, hr, hml, hown, hts0, hX, hbl, hlocks, hgv⟩ := id C0
  have hts : ∀ w ∈ wsL_law, w.before #[Value.ref b] s = true := fun w h => hts0 w (wsL_law_in w h)
  have hbA : ¬ (fun q : Nat => s.heap.size ≤ q) b := Nat.not_le.mpr hbl
  have hA : ∀ q : Nat, s.heap.size ≤ q → (fun q : Nat => s.heap.size ≤ q) q := fun _ h => h
  obtain ⟨hk2, hk6, hpm40, hla, hsp, hfm⟩ := mw_inv hM
  have hR0 := hR
  obtain ⟨rfl, rfl, rfl, rfl, rfl, rfl, hcr, -⟩ := hR
  refine lv_aload_n hx hb dL_law_226 rfl (lv_at hl 2 rfl) ?_
  refine lv_aload_n hx hb dL_law_227 rfl (lv_at hl 3 rfl) ?_
  refine lv_iload_n hx hb dL_law_228 rfl (lv_at hl 0 rfl) ?_
  refine lv_iconst (v := 1) hx hb dL_law_229 (by decide) ?_
  refine lv_iadd hx hb dL_law_230 ?_
  refine lv_topi (fun z1_q ez1_q => ?_)
  obtain rfl : z1_q = nI (i + 1) := by rw [ez1_q]; exact nI_add i 1
  refine va_sld hx hb hX hbl hbA hS (i := nI (i + 1)) (vp_in_nI (by omega) (by omega)) dL_law_231 ?_
  refine lv_topi (fun a0_q ea0_q => ?_)
  have hcq_q := cq_le hC
  obtain ⟨fs9_q, hhd_q⟩ := cw_head hC wm
  refine W_facts (fun hg => ?_)
  have hKx_q := K_left (x2_map l G H h0 mk mpm mla mtold msp xfc xfk mfpd xwa xwb xc0 xb0 (maN mfm) wx hC hk2 hk6 hpm40 hla hcr hsp a0_q) wm
  refine ca_LS (ws := wx ++ wm) hg (va_runV (As := [.int a0_q]) (rest := []) ⟨hx, hb, hml, hown, hts⟩ hKx_q (cwV 1 hts gL_law_X9_map rfl rfl rfl (by decide +kernel) ⟨by decide +kernel, by decide +kernel⟩) (pre_L E hP hD hS hA 0 5 rfl hhd_q) rfl rfl hl.1 rfl (lv_room (Nat.le_of_ble_eq_true rfl)) dL_law_232 ⟨show 25 + cqN xwa xwb xc0 xb0 + 0 ≤ 600000 by omega, show 94050 + sqN xwa xwb xc0 xb0 + 0 ≤ 7302250 by omega⟩) hS hD hA (fun r1_q u1_q H locs hw hP hD hS => ?_)
  obtain ⟨w2_q, g1_q, n1_q⟩ := u1_q
  dsimp only at hw hP hD
  obtain ⟨wx2_q, rfl, len1_q, told1_q, fc1_q, hC2_q, hg1_q, hn1_q, hpc_q⟩ := hw
  refine lv_pop hx hb dL_law_235 rfl ?_
  refine lv_aload_n hx hb dL_law_236 rfl (lv_at hl 1 rfl) ?_
  refine lv_aload_n hx hb dL_law_237 rfl (lv_at hl 3 rfl) ?_
  refine lv_iload_n hx hb dL_law_238 rfl (lv_at hl 0 rfl) ?_
  refine lv_iconst (v := 1) hx hb dL_law_239 (by decide) ?_
  refine lv_iadd hx hb dL_law_240 ?_
  refine lv_topi (fun z2_q ez2_q => ?_)
  obtain rfl : z2_q = nI (i + 1) := by rw [ez2_q]; exact nI_add i 1
  refine va_sld hx hb hX hbl hbA hS (i := nI (i + 1)) (vp_in_nI (by omega) (by omega)) dL_law_241 ?_
  refine lv_topi (fun d0_q ed0_q => ?_)
  obtain rfl : a0_q = d0_q := by rw [ea0_q, ed0_q]
  have hcq2_q := cq_le hC2_q
  obtain ⟨fs8_q, hhd2_q⟩ := mw_head hM wx2_q
  refine W_facts (fun hg => ?_)
  have hKm_q := K_right (k2_map l G H h1 mk mtold mla msp mfm mfk mpm mfpd mfz mfkp wm hM a0_q) wx2_q
  refine ca_LS (ws := wx2_q ++ wm) hg (va_runV (As := [.int a0_q]) (rest := []) ⟨hx, hb, hml, hown, hts⟩ hKm_q (cwV 1 hts gL_law_X10_map rfl rfl rfl (by decide +kernel) ⟨by decide +kernel, by decide +kernel⟩) (pre_L E hP hD hS hA wx2_q.length 6 rfl hhd2_q) rfl rfl hl.1 rfl (lv_room (Nat.le_of_ble_eq_true rfl)) dL_law_242 ⟨show 25 + cqN xwa xwb xc0 xb0 + g1_q + 0 ≤ 600000 by omega, show 94050 + sqN xwa xwb xc0 xb0 + n1_q + 0 ≤ 7302250 by omega⟩) hS hD hA (fun r2_q u2_q H locs hw hP hD hS => ?_)
  obtain ⟨w3_q, g2_q, n2_q⟩ := u2_q
  dsimp only at hw hP hD
  obtain ⟨wm2_q, rfl, hg2_q, hn2_q, mtold1_q, pm1_q, mfm1_q, hM2_q, hpm_q⟩ := hw
  have hR2_q := rb_out hk6 hR0 hpc_q hpm_q.2.2
  refine lv_pop hx hb dL_law_245 rfl ?_
  refine lv_goto (tgt := 926) hx hb dL_law_246 (by decide) ?_
  obtain ⟨z9_q, ez9_q⟩ : ∃ yy_ : Int32, yy_ = nI i + 6 := ⟨_, rfl⟩
  refine lv_iinc (v := z9_q) (lv' := [(3, .int z9_q), (2, .ref h1), (1, .ref h0), (0, .ref b)]) hx hb dL_law_926 hl (k := 0) rfl (by rw [ez9_q]; rfl) (by decide) rfl (fun ls hl => ?_)
  obtain rfl : z9_q = nI (i + 6) := by rw [ez9_q]; exact nI_add i 6
  refine lv_goto (tgt := 18) hx hb dL_law_929 (by decide) ?_
  refine W_facts (fun hg => ?_)
  refine W_lower (k := 25 + cqN xwa xwb xc0 xb0) (n := 94050 + sqN xwa xwb xc0 xb0) (GF.wide hg (show 25 + cqN xwa xwb xc0 xb0 + g1_q + g2_q ≤ 25 + cqN xwa xwb xc0 xb0 by omega) (show 94050 + sqN xwa xwb xc0 xb0 + n1_q + n2_q ≤ 94050 + sqN xwa xwb xc0 xb0 by omega)) ?_
  exact ih (nI mk) told1_q msp (nI (sc mk mla)) fc1_q xfk len1_q mfpd xwa xwb xc0 xb0 mk mtold1_q mla msp mfm1_q mfk pm1_q mfpd mfz mfkp wx2_q wm2_q hC2_q hM2_q hR2_q.2 H locs ls hP hD hS hl

set_option maxHeartbeats 1000000 in
set_option maxRecDepth 100000 in
theorem law_at {p : Program} {l : Launch} {e : Env} {s : State} {m : MethodId} {below : List Frame} {meth : Method} {c : Code} {b L : Nat} {xs : Nat → Int32} {G : Gy} {h0 h1 i : Nat} (hL : L ≤ 3072) (hi : i + 6 ≤ L) (C0 : lw_At p s m meth c b L xs) (E : EV G (fun q : Nat => s.heap.size ≤ q) s s.heap) (xn : Int32) (xtold : Int32) (xsp : Int32) (xgr : Int32) (xfc : Nat → Int32) (xfk : Nat → Int32) (xlen : Int32) (xfsg : Nat → Int32) (xwa : Option PQ) (xwb : Option PQ) (xc0 : Nat) (xb0 : Nat) (mk : Nat) (mtold : Int32) (mla : Nat) (msp : Int32) (mfm : Nat → Int32) (mfk : Nat → Int32) (mpm : Nat) (mfpd : Nat → Int32) (mfz : Nat → Int32) (mfkp : Nat → Int32) (wx wm : va_W) (hC : CWd G h0 (xn, xtold, xsp, xgr, xfc, xfk, xlen, xfsg, xwa, xwb, xc0, xb0) wx) (hM : MWd G h1 (mk, mtold, mla, msp, mfm, mfk, mpm, mfpd, mfz, mfkp) wm) (hR : RELB xn xtold xsp xgr xfc xfk xlen xfsg xwa xwb mk mtold mla msp mfm mfk mpm mfpd mfz mfkp) {H : Heap} {locs : List Loc} {ls : Array Slot} (hP : va_P G.1 vwCl (wx ++ wm) H) (hD : va_D (fun q : Nat => s.heap.size ≤ q) (wx ++ wm)) (hS : va_S (fun q : Nat => s.heap.size ≤ q) s.heap H locs) (hl : lv_has ls 4 [(3, .int (nI i)), (2, .ref h1), (1, .ref h0), (0, .ref b)]) (ih : ∀ (xn : Int32) (xtold : Int32) (xsp : Int32) (xgr : Int32) (xfc : Nat → Int32) (xfk : Nat → Int32) (xlen : Int32) (xfsg : Nat → Int32) (xwa : Option PQ) (xwb : Option PQ) (xc0 : Nat) (xb0 : Nat) (mk : Nat) (mtold : Int32) (mla : Nat) (msp : Int32) (mfm : Nat → Int32) (mfk : Nat → Int32) (mpm : Nat) (mfpd : Nat → Int32) (mfz : Nat → Int32) (mfkp : Nat → Int32) (wx2 wm2 : va_W), CWd G h0 (xn, xtold, xsp, xgr, xfc, xfk, xlen, xfsg, xwa, xwb, xc0, xb0) wx2 → MWd G h1 (mk, mtold, mla, msp, mfm, mfk, mpm, mfpd, mfz, mfkp) wm2 → RELB xn xtold xsp xgr xfc xfk xlen xfsg xwa xwb mk mtold mla msp mfm mfk mpm mfpd mfz mfkp → ∀ (H1 : Heap) (locs1 : List Loc) (ls1 : Array Slot), va_P G.1 vwCl (wx2 ++ wm2) H1 → va_D (fun q : Nat => s.heap.size ≤ q) (wx2 ++ wm2) → va_S (fun q : Nat => s.heap.size ≤ q) s.heap H1 locs1 → lv_has ls1 4 [(3, .int (nI (i + 6))), (2, .ref h1), (1, .ref h0), (0, .ref b)] → W p l e room_1 s m #[Value.ref b] below meth c H1 locs1 (25 + cqN xwa xwb xc0 xb0) (94050 + sqN xwa xwb xc0 xb0) (lw_Z below #[Value.ref b] s) (F0 m 18 ls1 [])) : W p l e room_1 s m #[Value.ref b] below meth c H locs (25 + cqN xwa xwb xc0 xb0) (94050 + sqN xwa xwb xc0 xb0) (lw_Z below #[Value.ref b] s) (F0 m 249 ls []) := by
  obtain ⟨hx, hb, hr, hml, hown, hts0, hX, hbl, hlocks, hgv⟩ := id C0
  have hts : ∀ w ∈ wsL_law, w.before #[Value.ref b] s = true := fun w h => hts0 w (wsL_law_in w h)
  have hbA : ¬ (fun q : Nat => s.heap.size ≤ q) b := Nat.not_le.mpr hbl
  have hA : ∀ q : Nat, s.heap.size ≤ q → (fun q : Nat => s.heap.size ≤ q) q := fun _ h => h
  obtain ⟨hk2, hk6, hpm40, hla, hsp, hfm⟩ := mw_inv hM
  have hR0 := hR
  obtain ⟨rfl, rfl, rfl, rfl, rfl, rfl, hcr, -⟩ := hR
  refine lv_aload_n hx hb dL_law_249 rfl (lv_at hl 2 rfl) ?_
  refine lv_aload_n hx hb dL_law_250 rfl (lv_at hl 3 rfl) ?_
  refine lv_iload_n hx hb dL_law_251 rfl (lv_at hl 0 rfl) ?_
  refine lv_iconst (v := 1) hx hb dL_law_252 (by decide) ?_
  refine lv_iadd hx hb dL_law_253 ?_
  refine lv_topi (fun z1_q ez1_q => ?_)
  obtain rfl : z1_q = nI (i + 1) := by rw [ez1_q]; exact nI_add i 1
  refine va_sld hx hb hX hbl hbA hS (i := nI (i + 1)) (vp_in_nI (by omega) (by omega)) dL_law_254 ?_
  refine lv_topi (fun a0_q ea0_q => ?_)
  refine lv_aload_n hx hb dL_law_255 rfl (lv_at hl 3 rfl) ?_
  refine lv_iload_n hx hb dL_law_256 rfl (lv_at hl 0 rfl) ?_
  refine lv_iconst (v := 2) hx hb dL_law_257 (by decide) ?_
  refine lv_iadd hx hb dL_law_258 ?_
  refine lv_topi (fun z2_q ez2_q => ?_)
  obtain rfl : z2_q = nI (i + 2) := by rw [ez2_q]; exact nI_add i 2
  refine va_sld hx hb hX hbl hbA hS (i := nI (i + 2)) (vp_in_nI (by omega) (by omega)) dL_law_259 ?_
  refine lv_topi (fun a1_q ea1_q => ?_)
  have hcq_q := cq_le hC
  obtain ⟨fs9_q, hhd_q⟩ := cw_head hC wm
  refine W_facts (fun hg => ?_)
  have hKx_q := K_left (x2_at l G H h0 mk mpm mla mtold msp xfc xfk mfpd xwa xwb xc0 xb0 (maN mfm) wx hC hk2 hk6 hpm40 hla hcr hsp a0_q a1_q) wm
  refine ca_LS (ws := wx ++ wm) hg (va_runV (As := [.int a0_q, .int a1_q]) (rest := []) ⟨hx, hb, hml, hown, hts⟩ hKx_q (cwV 2 hts gL_law_X9_at rfl rfl rfl (by decide +kernel) ⟨by decide +kernel, by decide +kernel⟩) (pre_L E hP hD hS hA 0 5 rfl hhd_q) rfl rfl hl.1 rfl (lv_room (Nat.le_of_ble_eq_true rfl)) dL_law_260 ⟨show 25 + cqN xwa xwb xc0 xb0 + 0 ≤ 600000 by omega, show 94050 + sqN xwa xwb xc0 xb0 + 0 ≤ 7302250 by omega⟩) hS hD hA (fun r1_q u1_q H locs hw hP hD hS => ?_)
  obtain ⟨w2_q, g1_q, n1_q⟩ := u1_q
  dsimp only at hw hP hD
  obtain ⟨wx2_q, rfl, hC2_q, hg1_q, hn1_q, hpc_q⟩ := hw
  refine lv_pop hx hb dL_law_263 rfl ?_
  refine lv_aload_n hx hb dL_law_264 rfl (lv_at hl 1 rfl) ?_
  refine lv_aload_n hx hb dL_law_265 rfl (lv_at hl 3 rfl) ?_
  refine lv_iload_n hx hb dL_law_266 rfl (lv_at hl 0 rfl) ?_
  refine lv_iconst (v := 1) hx hb dL_law_267 (by decide) ?_
  refine lv_iadd hx hb dL_law_268 ?_
  refine lv_topi (fun z3_q ez3_q => ?_)
  obtain rfl : z3_q = nI (i + 1) := by rw [ez3_q]; exact nI_add i 1
  refine va_sld hx hb hX hbl hbA hS (i := nI (i + 1)) (vp_in_nI (by omega) (by omega)) dL_law_269 ?_
  refine lv_topi (fun d0_q ed0_q => ?_)
  obtain rfl : a0_q = d0_q := by rw [ea0_q, ed0_q]
  refine lv_aload_n hx hb dL_law_270 rfl (lv_at hl 3 rfl) ?_
  refine lv_iload_n hx hb dL_law_271 rfl (lv_at hl 0 rfl) ?_
  refine lv_iconst (v := 2) hx hb dL_law_272 (by decide) ?_
  refine lv_iadd hx hb dL_law_273 ?_
  refine lv_topi (fun z4_q ez4_q => ?_)
  obtain rfl : z4_q = nI (i + 2) := by rw [ez4_q]; exact nI_add i 2
  refine va_sld hx hb hX hbl hbA hS (i := nI (i + 2)) (vp_in_nI (by omega) (by omega)) dL_law_274 ?_
  refine lv_topi (fun d1_q ed1_q => ?_)
  obtain rfl : a1_q = d1_q := by rw [ea1_q, ed1_q]
  have hcq2_q := cq_le hC2_q
  obtain ⟨fs8_q, hhd2_q⟩ := mw_head hM wx2_q
  refine W_facts (fun hg => ?_)
  have hKm_q := K_right (k2_at l G H h1 mk mtold mla msp mfm mfk mpm mfpd mfz mfkp wm hM a0_q a1_q) wx2_q
  refine ca_LS (ws := wx2_q ++ wm) hg (va_runV (As := [.int a0_q, .int a1_q]) (rest := []) ⟨hx, hb, hml, hown, hts⟩ hKm_q (cwV 2 hts gL_law_X10_at rfl rfl rfl (by decide +kernel) ⟨by decide +kernel, by decide +kernel⟩) (pre_L E hP hD hS hA wx2_q.length 6 rfl hhd2_q) rfl rfl hl.1 rfl (lv_room (Nat.le_of_ble_eq_true rfl)) dL_law_275 ⟨show 25 + cqN xwa xwb xc0 xb0 + g1_q + 0 ≤ 600000 by omega, show 94050 + sqN xwa xwb xc0 xb0 + n1_q + 0 ≤ 7302250 by omega⟩) hS hD hA (fun r2_q u2_q H locs hw hP hD hS => ?_)
  obtain ⟨w3_q, g2_q, n2_q⟩ := u2_q
  dsimp only at hw hP hD
  obtain ⟨wm2_q, rfl, hg2_q, hn2_q, hM2_q, hpm_q⟩ := hw
  have hR2_q := And.intro (hpc_q.trans hpm_q.symm) hR0
  refine lv_pop hx hb dL_law_278 rfl ?_
  refine lv_goto (tgt := 926) hx hb dL_law_279 (by decide) ?_
  obtain ⟨z9_q, ez9_q⟩ : ∃ yy_ : Int32, yy_ = nI i + 6 := ⟨_, rfl⟩
  refine lv_iinc (v := z9_q) (lv' := [(3, .int z9_q), (2, .ref h1), (1, .ref h0), (0, .ref b)]) hx hb dL_law_926 hl (k := 0) rfl (by rw [ez9_q]; rfl) (by decide) rfl (fun ls hl => ?_)
  obtain rfl : z9_q = nI (i + 6) := by rw [ez9_q]; exact nI_add i 6
  refine lv_goto (tgt := 18) hx hb dL_law_929 (by decide) ?_
  refine W_facts (fun hg => ?_)
  refine W_lower (k := 25 + cqN xwa xwb xc0 xb0) (n := 94050 + sqN xwa xwb xc0 xb0) (GF.wide hg (show 25 + cqN xwa xwb xc0 xb0 + g1_q + g2_q ≤ 25 + cqN xwa xwb xc0 xb0 by omega) (show 94050 + sqN xwa xwb xc0 xb0 + n1_q + n2_q ≤ 94050 + sqN xwa xwb xc0 xb0 by omega)) ?_
  exact ih (nI mk) mtold msp (nI (sc mk mla)) xfc xfk (nI mpm) mfpd xwa xwb xc0 xb0 mk mtold mla msp mfm mfk mpm mfpd mfz mfkp wx2_q wm2_q hC2_q hM2_q hR2_q.2 H locs ls hP hD hS hl

set_option maxHeartbeats 1000000 in
set_option maxRecDepth 100000 in
theorem law_hand {p : Program} {l : Launch} {e : Env} {s : State} {m : MethodId} {below : List Frame} {meth : Method} {c : Code} {b L : Nat} {xs : Nat → Int32} {G : Gy} {h0 h1 i : Nat} (hL : L ≤ 3072) (hi : i + 6 ≤ L) (C0 : lw_At p s m meth c b L xs) (E : EV G (fun q : Nat => s.heap.size ≤ q) s s.heap) (xn : Int32) (xtold : Int32) (xsp : Int32) (xgr : Int32) (xfc : Nat → Int32) (xfk : Nat → Int32) (xlen : Int32) (xfsg : Nat → Int32) (xwa : Option PQ) (xwb : Option PQ) (xc0 : Nat) (xb0 : Nat) (mk : Nat) (mtold : Int32) (mla : Nat) (msp : Int32) (mfm : Nat → Int32) (mfk : Nat → Int32) (mpm : Nat) (mfpd : Nat → Int32) (mfz : Nat → Int32) (mfkp : Nat → Int32) (wx wm : va_W) (hC : CWd G h0 (xn, xtold, xsp, xgr, xfc, xfk, xlen, xfsg, xwa, xwb, xc0, xb0) wx) (hM : MWd G h1 (mk, mtold, mla, msp, mfm, mfk, mpm, mfpd, mfz, mfkp) wm) (hR : RELB xn xtold xsp xgr xfc xfk xlen xfsg xwa xwb mk mtold mla msp mfm mfk mpm mfpd mfz mfkp) {H : Heap} {locs : List Loc} {ls : Array Slot} (hP : va_P G.1 vwCl (wx ++ wm) H) (hD : va_D (fun q : Nat => s.heap.size ≤ q) (wx ++ wm)) (hS : va_S (fun q : Nat => s.heap.size ≤ q) s.heap H locs) (hl : lv_has ls 4 [(3, .int (nI i)), (2, .ref h1), (1, .ref h0), (0, .ref b)]) (ih : ∀ (xn : Int32) (xtold : Int32) (xsp : Int32) (xgr : Int32) (xfc : Nat → Int32) (xfk : Nat → Int32) (xlen : Int32) (xfsg : Nat → Int32) (xwa : Option PQ) (xwb : Option PQ) (xc0 : Nat) (xb0 : Nat) (mk : Nat) (mtold : Int32) (mla : Nat) (msp : Int32) (mfm : Nat → Int32) (mfk : Nat → Int32) (mpm : Nat) (mfpd : Nat → Int32) (mfz : Nat → Int32) (mfkp : Nat → Int32) (wx2 wm2 : va_W), CWd G h0 (xn, xtold, xsp, xgr, xfc, xfk, xlen, xfsg, xwa, xwb, xc0, xb0) wx2 → MWd G h1 (mk, mtold, mla, msp, mfm, mfk, mpm, mfpd, mfz, mfkp) wm2 → RELB xn xtold xsp xgr xfc xfk xlen xfsg xwa xwb mk mtold mla msp mfm mfk mpm mfpd mfz mfkp → ∀ (H1 : Heap) (locs1 : List Loc) (ls1 : Array Slot), va_P G.1 vwCl (wx2 ++ wm2) H1 → va_D (fun q : Nat => s.heap.size ≤ q) (wx2 ++ wm2) → va_S (fun q : Nat => s.heap.size ≤ q) s.heap H1 locs1 → lv_has ls1 4 [(3, .int (nI (i + 6))), (2, .ref h1), (1, .ref h0), (0, .ref b)] → W p l e room_1 s m #[Value.ref b] below meth c H1 locs1 (25 + cqN xwa xwb xc0 xb0) (94050 + sqN xwa xwb xc0 xb0) (lw_Z below #[Value.ref b] s) (F0 m 18 ls1 [])) : W p l e room_1 s m #[Value.ref b] below meth c H locs (25 + cqN xwa xwb xc0 xb0) (94050 + sqN xwa xwb xc0 xb0) (lw_Z below #[Value.ref b] s) (F0 m 282 ls []) := by
  obtain ⟨hx, hb, hr, hml, hown, hts0, hX, hbl, hlocks, hgv⟩ := id C0
  have hts : ∀ w ∈ wsL_law, w.before #[Value.ref b] s = true := fun w h => hts0 w (wsL_law_in w h)
  have hbA : ¬ (fun q : Nat => s.heap.size ≤ q) b := Nat.not_le.mpr hbl
  have hA : ∀ q : Nat, s.heap.size ≤ q → (fun q : Nat => s.heap.size ≤ q) q := fun _ h => h
  obtain ⟨hk2, hk6, hpm40, hla, hsp, hfm⟩ := mw_inv hM
  have hR0 := hR
  obtain ⟨rfl, rfl, rfl, rfl, rfl, rfl, hcr, -⟩ := hR
  refine lv_aload_n hx hb dL_law_282 rfl (lv_at hl 2 rfl) ?_
  refine lv_aload_n hx hb dL_law_283 rfl (lv_at hl 3 rfl) ?_
  refine lv_iload_n hx hb dL_law_284 rfl (lv_at hl 0 rfl) ?_
  refine lv_iconst (v := 1) hx hb dL_law_285 (by decide) ?_
  refine lv_iadd hx hb dL_law_286 ?_
  refine lv_topi (fun z1_q ez1_q => ?_)
  obtain rfl : z1_q = nI (i + 1) := by rw [ez1_q]; exact nI_add i 1
  refine va_sld hx hb hX hbl hbA hS (i := nI (i + 1)) (vp_in_nI (by omega) (by omega)) dL_law_287 ?_
  refine lv_topi (fun a0_q ea0_q => ?_)
  refine lv_aload_n hx hb dL_law_288 rfl (lv_at hl 3 rfl) ?_
  refine lv_iload_n hx hb dL_law_289 rfl (lv_at hl 0 rfl) ?_
  refine lv_iconst (v := 2) hx hb dL_law_290 (by decide) ?_
  refine lv_iadd hx hb dL_law_291 ?_
  refine lv_topi (fun z2_q ez2_q => ?_)
  obtain rfl : z2_q = nI (i + 2) := by rw [ez2_q]; exact nI_add i 2
  refine va_sld hx hb hX hbl hbA hS (i := nI (i + 2)) (vp_in_nI (by omega) (by omega)) dL_law_292 ?_
  refine lv_topi (fun a1_q ea1_q => ?_)
  have hcq_q := cq_le hC
  obtain ⟨fs9_q, hhd_q⟩ := cw_head hC wm
  refine W_facts (fun hg => ?_)
  have hKx_q := K_left (x_hand l G H h0 (nI mk) mtold msp (nI (sc mk mla)) xfc xfk (nI mpm) mfpd xwa xwb xc0 xb0 wx hC a0_q a1_q) wm
  refine ca_LS (ws := wx ++ wm) hg (va_runV (As := [.int a0_q, .int a1_q]) (rest := []) ⟨hx, hb, hml, hown, hts⟩ hKx_q (cwV 2 hts gL_law_X9_hand rfl rfl rfl (by decide +kernel) ⟨by decide +kernel, by decide +kernel⟩) (pre_L E hP hD hS hA 0 5 rfl hhd_q) rfl rfl hl.1 rfl (lv_room (Nat.le_of_ble_eq_true rfl)) dL_law_293 ⟨show 25 + cqN xwa xwb xc0 xb0 + 0 ≤ 600000 by omega, show 94050 + sqN xwa xwb xc0 xb0 + 0 ≤ 7302250 by omega⟩) hS hD hA (fun r1_q u1_q H locs hw hP hD hS => ?_)
  obtain ⟨w2_q, g1_q, n1_q⟩ := u1_q
  dsimp only at hw hP hD
  obtain ⟨wx2_q, rfl, fk1_q, hC2_q, hg1_q, hn1_q, hpc_q⟩ := hw
  refine lv_pop hx hb dL_law_296 rfl ?_
  refine lv_aload_n hx hb dL_law_297 rfl (lv_at hl 1 rfl) ?_
  refine lv_aload_n hx hb dL_law_298 rfl (lv_at hl 3 rfl) ?_
  refine lv_iload_n hx hb dL_law_299 rfl (lv_at hl 0 rfl) ?_
  refine lv_iconst (v := 1) hx hb dL_law_300 (by decide) ?_
  refine lv_iadd hx hb dL_law_301 ?_
  refine lv_topi (fun z3_q ez3_q => ?_)
  obtain rfl : z3_q = nI (i + 1) := by rw [ez3_q]; exact nI_add i 1
  refine va_sld hx hb hX hbl hbA hS (i := nI (i + 1)) (vp_in_nI (by omega) (by omega)) dL_law_302 ?_
  refine lv_topi (fun d0_q ed0_q => ?_)
  obtain rfl : a0_q = d0_q := by rw [ea0_q, ed0_q]
  refine lv_aload_n hx hb dL_law_303 rfl (lv_at hl 3 rfl) ?_
  refine lv_iload_n hx hb dL_law_304 rfl (lv_at hl 0 rfl) ?_
  refine lv_iconst (v := 2) hx hb dL_law_305 (by decide) ?_
  refine lv_iadd hx hb dL_law_306 ?_
  refine lv_topi (fun z4_q ez4_q => ?_)
  obtain rfl : z4_q = nI (i + 2) := by rw [ez4_q]; exact nI_add i 2
  refine va_sld hx hb hX hbl hbA hS (i := nI (i + 2)) (vp_in_nI (by omega) (by omega)) dL_law_307 ?_
  refine lv_topi (fun d1_q ed1_q => ?_)
  obtain rfl : a1_q = d1_q := by rw [ea1_q, ed1_q]
  have hcq2_q := cq_le hC2_q
  obtain ⟨fs8_q, hhd2_q⟩ := mw_head hM wx2_q
  refine W_facts (fun hg => ?_)
  have hKm_q := K_right (k_hand l G H h1 mk mtold mla msp mfm mfk mpm mfpd mfz mfkp wm hM a0_q a1_q) wx2_q
  refine ca_LS (ws := wx2_q ++ wm) hg (va_runV (As := [.int a0_q, .int a1_q]) (rest := []) ⟨hx, hb, hml, hown, hts⟩ hKm_q (cwV 2 hts gL_law_X10_hand rfl rfl rfl (by decide +kernel) ⟨by decide +kernel, by decide +kernel⟩) (pre_L E hP hD hS hA wx2_q.length 6 rfl hhd2_q) rfl rfl hl.1 rfl (lv_room (Nat.le_of_ble_eq_true rfl)) dL_law_308 ⟨show 25 + cqN xwa xwb xc0 xb0 + g1_q + 0 ≤ 600000 by omega, show 94050 + sqN xwa xwb xc0 xb0 + n1_q + 0 ≤ 7302250 by omega⟩) hS hD hA (fun r2_q u2_q H locs hw hP hD hS => ?_)
  obtain ⟨w3_q, g2_q, n2_q⟩ := u2_q
  dsimp only at hw hP hD
  obtain ⟨wm2_q, rfl, hg2_q, hn2_q, mfk1_q, hM2_q, hpm_q⟩ := hw
  have hR2_q := rb_hand hR0 hpc_q hpm_q
  refine lv_pop hx hb dL_law_311 rfl ?_
  refine lv_goto (tgt := 926) hx hb dL_law_312 (by decide) ?_
  obtain ⟨z9_q, ez9_q⟩ : ∃ yy_ : Int32, yy_ = nI i + 6 := ⟨_, rfl⟩
  refine lv_iinc (v := z9_q) (lv' := [(3, .int z9_q), (2, .ref h1), (1, .ref h0), (0, .ref b)]) hx hb dL_law_926 hl (k := 0) rfl (by rw [ez9_q]; rfl) (by decide) rfl (fun ls hl => ?_)
  obtain rfl : z9_q = nI (i + 6) := by rw [ez9_q]; exact nI_add i 6
  refine lv_goto (tgt := 18) hx hb dL_law_929 (by decide) ?_
  refine W_facts (fun hg => ?_)
  refine W_lower (k := 25 + cqN xwa xwb xc0 xb0) (n := 94050 + sqN xwa xwb xc0 xb0) (GF.wide hg (show 25 + cqN xwa xwb xc0 xb0 + g1_q + g2_q ≤ 25 + cqN xwa xwb xc0 xb0 by omega) (show 94050 + sqN xwa xwb xc0 xb0 + n1_q + n2_q ≤ 94050 + sqN xwa xwb xc0 xb0 by omega)) ?_
  exact ih (nI mk) mtold msp (nI (sc mk mla)) xfc fk1_q (nI mpm) mfpd xwa xwb xc0 xb0 mk mtold mla msp mfm mfk1_q mpm mfpd mfz mfkp wx2_q wm2_q hC2_q hM2_q hR2_q.2 H locs ls hP hD hS hl

set_option maxHeartbeats 1000000 in
set_option maxRecDepth 100000 in
theorem law_judge {p : Program} {l : Launch} {e : Env} {s : State} {m : MethodId} {below : List Frame} {meth : Method} {c : Code} {b L : Nat} {xs : Nat → Int32} {G : Gy} {h0 h1 i : Nat} (hL : L ≤ 3072) (hi : i + 6 ≤ L) (C0 : lw_At p s m meth c b L xs) (E : EV G (fun q : Nat => s.heap.size ≤ q) s s.heap) (xn : Int32) (xtold : Int32) (xsp : Int32) (xgr : Int32) (xfc : Nat → Int32) (xfk : Nat → Int32) (xlen : Int32) (xfsg : Nat → Int32) (xwa : Option PQ) (xwb : Option PQ) (xc0 : Nat) (xb0 : Nat) (mk : Nat) (mtold : Int32) (mla : Nat) (msp : Int32) (mfm : Nat → Int32) (mfk : Nat → Int32) (mpm : Nat) (mfpd : Nat → Int32) (mfz : Nat → Int32) (mfkp : Nat → Int32) (wx wm : va_W) (hC : CWd G h0 (xn, xtold, xsp, xgr, xfc, xfk, xlen, xfsg, xwa, xwb, xc0, xb0) wx) (hM : MWd G h1 (mk, mtold, mla, msp, mfm, mfk, mpm, mfpd, mfz, mfkp) wm) (hR : RELB xn xtold xsp xgr xfc xfk xlen xfsg xwa xwb mk mtold mla msp mfm mfk mpm mfpd mfz mfkp) {H : Heap} {locs : List Loc} {ls : Array Slot} (hP : va_P G.1 vwCl (wx ++ wm) H) (hD : va_D (fun q : Nat => s.heap.size ≤ q) (wx ++ wm)) (hS : va_S (fun q : Nat => s.heap.size ≤ q) s.heap H locs) (hl : lv_has ls 4 [(3, .int (nI i)), (2, .ref h1), (1, .ref h0), (0, .ref b)]) (ih : ∀ (xn : Int32) (xtold : Int32) (xsp : Int32) (xgr : Int32) (xfc : Nat → Int32) (xfk : Nat → Int32) (xlen : Int32) (xfsg : Nat → Int32) (xwa : Option PQ) (xwb : Option PQ) (xc0 : Nat) (xb0 : Nat) (mk : Nat) (mtold : Int32) (mla : Nat) (msp : Int32) (mfm : Nat → Int32) (mfk : Nat → Int32) (mpm : Nat) (mfpd : Nat → Int32) (mfz : Nat → Int32) (mfkp : Nat → Int32) (wx2 wm2 : va_W), CWd G h0 (xn, xtold, xsp, xgr, xfc, xfk, xlen, xfsg, xwa, xwb, xc0, xb0) wx2 → MWd G h1 (mk, mtold, mla, msp, mfm, mfk, mpm, mfpd, mfz, mfkp) wm2 → RELB xn xtold xsp xgr xfc xfk xlen xfsg xwa xwb mk mtold mla msp mfm mfk mpm mfpd mfz mfkp → ∀ (H1 : Heap) (locs1 : List Loc) (ls1 : Array Slot), va_P G.1 vwCl (wx2 ++ wm2) H1 → va_D (fun q : Nat => s.heap.size ≤ q) (wx2 ++ wm2) → va_S (fun q : Nat => s.heap.size ≤ q) s.heap H1 locs1 → lv_has ls1 4 [(3, .int (nI (i + 6))), (2, .ref h1), (1, .ref h0), (0, .ref b)] → W p l e room_1 s m #[Value.ref b] below meth c H1 locs1 (25 + cqN xwa xwb xc0 xb0) (94050 + sqN xwa xwb xc0 xb0) (lw_Z below #[Value.ref b] s) (F0 m 18 ls1 [])) : W p l e room_1 s m #[Value.ref b] below meth c H locs (25 + cqN xwa xwb xc0 xb0) (94050 + sqN xwa xwb xc0 xb0) (lw_Z below #[Value.ref b] s) (F0 m 315 ls []) := by
  obtain ⟨hx, hb, hr, hml, hown, hts0, hX, hbl, hlocks, hgv⟩ := id C0
  have hts : ∀ w ∈ wsL_law, w.before #[Value.ref b] s = true := fun w h => hts0 w (wsL_law_in w h)
  have hbA : ¬ (fun q : Nat => s.heap.size ≤ q) b := Nat.not_le.mpr hbl
  have hA : ∀ q : Nat, s.heap.size ≤ q → (fun q : Nat => s.heap.size ≤ q) q := fun _ h => h
  obtain ⟨hk2, hk6, hpm40, hla, hsp, hfm⟩ := mw_inv hM
  have hR0 := hR
  obtain ⟨rfl, rfl, rfl, rfl, rfl, rfl, hcr, -⟩ := hR
  refine lv_aload_n hx hb dL_law_315 rfl (lv_at hl 2 rfl) ?_
  refine lv_aload_n hx hb dL_law_316 rfl (lv_at hl 3 rfl) ?_
  refine lv_iload_n hx hb dL_law_317 rfl (lv_at hl 0 rfl) ?_
  refine lv_iconst (v := 1) hx hb dL_law_318 (by decide) ?_
  refine lv_iadd hx hb dL_law_319 ?_
  refine lv_topi (fun z1_q ez1_q => ?_)
  obtain rfl : z1_q = nI (i + 1) := by rw [ez1_q]; exact nI_add i 1
  refine va_sld hx hb hX hbl hbA hS (i := nI (i + 1)) (vp_in_nI (by omega) (by omega)) dL_law_320 ?_
  refine lv_topi (fun a0_q ea0_q => ?_)
  have hcq_q := cq_le hC
  obtain ⟨fs9_q, hhd_q⟩ := cw_head hC wm
  refine W_facts (fun hg => ?_)
  have hKx_q := K_left (x2_judge l G H h0 mk mpm mla mtold msp xfc xfk mfpd xwa xwb xc0 xb0 (maN mfm) wx hC hk2 hk6 hpm40 hla hcr hsp a0_q) wm
  refine ca_LS (ws := wx ++ wm) hg (va_runV (As := [.int a0_q]) (rest := []) ⟨hx, hb, hml, hown, hts⟩ hKx_q (cwV 1 hts gL_law_X9_judge rfl rfl rfl (by decide +kernel) ⟨by decide +kernel, by decide +kernel⟩) (pre_L E hP hD hS hA 0 5 rfl hhd_q) rfl rfl hl.1 rfl (lv_room (Nat.le_of_ble_eq_true rfl)) dL_law_321 ⟨show 25 + cqN xwa xwb xc0 xb0 + 0 ≤ 600000 by omega, show 94050 + sqN xwa xwb xc0 xb0 + 0 ≤ 7302250 by omega⟩) hS hD hA (fun r1_q u1_q H locs hw hP hD hS => ?_)
  obtain ⟨w2_q, g1_q, n1_q⟩ := u1_q
  dsimp only at hw hP hD
  obtain ⟨wx2_q, rfl, hC2_q, hg1_q, hn1_q, hpc_q⟩ := hw
  refine lv_pop hx hb dL_law_324 rfl ?_
  refine lv_aload_n hx hb dL_law_325 rfl (lv_at hl 1 rfl) ?_
  refine lv_aload_n hx hb dL_law_326 rfl (lv_at hl 3 rfl) ?_
  refine lv_iload_n hx hb dL_law_327 rfl (lv_at hl 0 rfl) ?_
  refine lv_iconst (v := 1) hx hb dL_law_328 (by decide) ?_
  refine lv_iadd hx hb dL_law_329 ?_
  refine lv_topi (fun z2_q ez2_q => ?_)
  obtain rfl : z2_q = nI (i + 1) := by rw [ez2_q]; exact nI_add i 1
  refine va_sld hx hb hX hbl hbA hS (i := nI (i + 1)) (vp_in_nI (by omega) (by omega)) dL_law_330 ?_
  refine lv_topi (fun d0_q ed0_q => ?_)
  obtain rfl : a0_q = d0_q := by rw [ea0_q, ed0_q]
  have hcq2_q := cq_le hC2_q
  obtain ⟨fs8_q, hhd2_q⟩ := mw_head hM wx2_q
  refine W_facts (fun hg => ?_)
  have hKm_q := K_right (k2_judge l G H h1 mk mtold mla msp mfm mfk mpm mfpd mfz mfkp wm hM a0_q) wx2_q
  refine ca_LS (ws := wx2_q ++ wm) hg (va_runV (As := [.int a0_q]) (rest := []) ⟨hx, hb, hml, hown, hts⟩ hKm_q (cwV 1 hts gL_law_X10_judge rfl rfl rfl (by decide +kernel) ⟨by decide +kernel, by decide +kernel⟩) (pre_L E hP hD hS hA wx2_q.length 6 rfl hhd2_q) rfl rfl hl.1 rfl (lv_room (Nat.le_of_ble_eq_true rfl)) dL_law_331 ⟨show 25 + cqN xwa xwb xc0 xb0 + g1_q + 0 ≤ 600000 by omega, show 94050 + sqN xwa xwb xc0 xb0 + n1_q + 0 ≤ 7302250 by omega⟩) hS hD hA (fun r2_q u2_q H locs hw hP hD hS => ?_)
  obtain ⟨w3_q, g2_q, n2_q⟩ := u2_q
  dsimp only at hw hP hD
  obtain ⟨wm2_q, rfl, hg2_q, hn2_q, q1__q, q2__q, q3__q, hM2_q, hpm_q⟩ := hw
  have hR2_q := And.intro (hpc_q.trans hpm_q.symm) hR0
  refine lv_pop hx hb dL_law_334 rfl ?_
  refine lv_goto (tgt := 926) hx hb dL_law_335 (by decide) ?_
  obtain ⟨z9_q, ez9_q⟩ : ∃ yy_ : Int32, yy_ = nI i + 6 := ⟨_, rfl⟩
  refine lv_iinc (v := z9_q) (lv' := [(3, .int z9_q), (2, .ref h1), (1, .ref h0), (0, .ref b)]) hx hb dL_law_926 hl (k := 0) rfl (by rw [ez9_q]; rfl) (by decide) rfl (fun ls hl => ?_)
  obtain rfl : z9_q = nI (i + 6) := by rw [ez9_q]; exact nI_add i 6
  refine lv_goto (tgt := 18) hx hb dL_law_929 (by decide) ?_
  refine W_facts (fun hg => ?_)
  refine W_lower (k := 25 + cqN xwa xwb xc0 xb0) (n := 94050 + sqN xwa xwb xc0 xb0) (GF.wide hg (show 25 + cqN xwa xwb xc0 xb0 + g1_q + g2_q ≤ 25 + cqN xwa xwb xc0 xb0 by omega) (show 94050 + sqN xwa xwb xc0 xb0 + n1_q + n2_q ≤ 94050 + sqN xwa xwb xc0 xb0 by omega)) ?_
  exact ih (nI mk) mtold msp (nI (sc mk mla)) xfc xfk (nI mpm) mfpd xwa xwb xc0 xb0 mk mtold mla msp mfm mfk mpm mfpd mfz mfkp wx2_q wm2_q hC2_q hM2_q hR2_q.2 H locs ls hP hD hS hl

set_option maxHeartbeats 1000000 in
set_option maxRecDepth 100000 in
theorem law_copy {p : Program} {l : Launch} {e : Env} {s : State} {m : MethodId} {below : List Frame} {meth : Method} {c : Code} {b L : Nat} {xs : Nat → Int32} {G : Gy} {h0 h1 i : Nat} (hL : L ≤ 3072) (hi : i + 6 ≤ L) (C0 : lw_At p s m meth c b L xs) (E : EV G (fun q : Nat => s.heap.size ≤ q) s s.heap) (xn : Int32) (xtold : Int32) (xsp : Int32) (xgr : Int32) (xfc : Nat → Int32) (xfk : Nat → Int32) (xlen : Int32) (xfsg : Nat → Int32) (xwa : Option PQ) (xwb : Option PQ) (xc0 : Nat) (xb0 : Nat) (mk : Nat) (mtold : Int32) (mla : Nat) (msp : Int32) (mfm : Nat → Int32) (mfk : Nat → Int32) (mpm : Nat) (mfpd : Nat → Int32) (mfz : Nat → Int32) (mfkp : Nat → Int32) (wx wm : va_W) (hC : CWd G h0 (xn, xtold, xsp, xgr, xfc, xfk, xlen, xfsg, xwa, xwb, xc0, xb0) wx) (hM : MWd G h1 (mk, mtold, mla, msp, mfm, mfk, mpm, mfpd, mfz, mfkp) wm) (hR : RELB xn xtold xsp xgr xfc xfk xlen xfsg xwa xwb mk mtold mla msp mfm mfk mpm mfpd mfz mfkp) {H : Heap} {locs : List Loc} {ls : Array Slot} (hP : va_P G.1 vwCl (wx ++ wm) H) (hD : va_D (fun q : Nat => s.heap.size ≤ q) (wx ++ wm)) (hS : va_S (fun q : Nat => s.heap.size ≤ q) s.heap H locs) (hl : lv_has ls 4 [(3, .int (nI i)), (2, .ref h1), (1, .ref h0), (0, .ref b)]) (ih : ∀ (xn : Int32) (xtold : Int32) (xsp : Int32) (xgr : Int32) (xfc : Nat → Int32) (xfk : Nat → Int32) (xlen : Int32) (xfsg : Nat → Int32) (xwa : Option PQ) (xwb : Option PQ) (xc0 : Nat) (xb0 : Nat) (mk : Nat) (mtold : Int32) (mla : Nat) (msp : Int32) (mfm : Nat → Int32) (mfk : Nat → Int32) (mpm : Nat) (mfpd : Nat → Int32) (mfz : Nat → Int32) (mfkp : Nat → Int32) (wx2 wm2 : va_W), CWd G h0 (xn, xtold, xsp, xgr, xfc, xfk, xlen, xfsg, xwa, xwb, xc0, xb0) wx2 → MWd G h1 (mk, mtold, mla, msp, mfm, mfk, mpm, mfpd, mfz, mfkp) wm2 → RELB xn xtold xsp xgr xfc xfk xlen xfsg xwa xwb mk mtold mla msp mfm mfk mpm mfpd mfz mfkp → ∀ (H1 : Heap) (locs1 : List Loc) (ls1 : Array Slot), va_P G.1 vwCl (wx2 ++ wm2) H1 → va_D (fun q : Nat => s.heap.size ≤ q) (wx2 ++ wm2) → va_S (fun q : Nat => s.heap.size ≤ q) s.heap H1 locs1 → lv_has ls1 4 [(3, .int (nI (i + 6))), (2, .ref h1), (1, .ref h0), (0, .ref b)] → W p l e room_1 s m #[Value.ref b] below meth c H1 locs1 (25 + cqN xwa xwb xc0 xb0) (94050 + sqN xwa xwb xc0 xb0) (lw_Z below #[Value.ref b] s) (F0 m 18 ls1 [])) : W p l e room_1 s m #[Value.ref b] below meth c H locs (25 + cqN xwa xwb xc0 xb0) (94050 + sqN xwa xwb xc0 xb0) (lw_Z below #[Value.ref b] s) (F0 m 338 ls []) := by
  obtain ⟨hx, hb, hr, hml, hown, hts0, hX, hbl, hlocks, hgv⟩ := id C0
  have hts : ∀ w ∈ wsL_law, w.before #[Value.ref b] s = true := fun w h => hts0 w (wsL_law_in w h)
  have hbA : ¬ (fun q : Nat => s.heap.size ≤ q) b := Nat.not_le.mpr hbl
  have hA : ∀ q : Nat, s.heap.size ≤ q → (fun q : Nat => s.heap.size ≤ q) q := fun _ h => h
  obtain ⟨hk2, hk6, hpm40, hla, hsp, hfm⟩ := mw_inv hM
  have hR0 := hR
  obtain ⟨rfl, rfl, rfl, rfl, rfl, rfl, hcr, -⟩ := hR
  refine lv_aload_n hx hb dL_law_338 rfl (lv_at hl 2 rfl) ?_
  refine lv_aload_n hx hb dL_law_339 rfl (lv_at hl 3 rfl) ?_
  refine lv_iload_n hx hb dL_law_340 rfl (lv_at hl 0 rfl) ?_
  refine lv_iconst (v := 1) hx hb dL_law_341 (by decide) ?_
  refine lv_iadd hx hb dL_law_342 ?_
  refine lv_topi (fun z1_q ez1_q => ?_)
  obtain rfl : z1_q = nI (i + 1) := by rw [ez1_q]; exact nI_add i 1
  refine va_sld hx hb hX hbl hbA hS (i := nI (i + 1)) (vp_in_nI (by omega) (by omega)) dL_law_343 ?_
  refine lv_topi (fun a0_q ea0_q => ?_)
  refine lv_aload_n hx hb dL_law_344 rfl (lv_at hl 3 rfl) ?_
  refine lv_iload_n hx hb dL_law_345 rfl (lv_at hl 0 rfl) ?_
  refine lv_iconst (v := 2) hx hb dL_law_346 (by decide) ?_
  refine lv_iadd hx hb dL_law_347 ?_
  refine lv_topi (fun z2_q ez2_q => ?_)
  obtain rfl : z2_q = nI (i + 2) := by rw [ez2_q]; exact nI_add i 2
  refine va_sld hx hb hX hbl hbA hS (i := nI (i + 2)) (vp_in_nI (by omega) (by omega)) dL_law_348 ?_
  refine lv_topi (fun a1_q ea1_q => ?_)
  have hcq_q := cq_le hC
  obtain ⟨fs9_q, hhd_q⟩ := cw_head hC wm
  refine W_facts (fun hg => ?_)
  have hKx_q := K_left (x2_copy l G H h0 mk mpm mla mtold msp xfc xfk mfpd xwa xwb xc0 xb0 (maN mfm) wx hC hk2 hk6 hpm40 hla hcr hsp a0_q a1_q) wm
  refine ca_LS (ws := wx ++ wm) hg (va_runV (As := [.int a0_q, .int a1_q]) (rest := []) ⟨hx, hb, hml, hown, hts⟩ hKx_q (cwV 2 hts gL_law_X9_copy rfl rfl rfl (by decide +kernel) ⟨by decide +kernel, by decide +kernel⟩) (pre_L E hP hD hS hA 0 5 rfl hhd_q) rfl rfl hl.1 rfl (lv_room (Nat.le_of_ble_eq_true rfl)) dL_law_349 ⟨show 25 + cqN xwa xwb xc0 xb0 + 0 ≤ 600000 by omega, show 94050 + sqN xwa xwb xc0 xb0 + 0 ≤ 7302250 by omega⟩) hS hD hA (fun r1_q u1_q H locs hw hP hD hS => ?_)
  obtain ⟨w2_q, g1_q, n1_q⟩ := u1_q
  dsimp only at hw hP hD
  obtain ⟨wx2_q, rfl, len1_q, told1_q, fc1_q, hC2_q, hg1_q, hn1_q, hpc_q⟩ := hw
  refine lv_pop hx hb dL_law_352 rfl ?_
  refine lv_aload_n hx hb dL_law_353 rfl (lv_at hl 1 rfl) ?_
  refine lv_aload_n hx hb dL_law_354 rfl (lv_at hl 3 rfl) ?_
  refine lv_iload_n hx hb dL_law_355 rfl (lv_at hl 0 rfl) ?_
  refine lv_iconst (v := 1) hx hb dL_law_356 (by decide) ?_
  refine lv_iadd hx hb dL_law_357 ?_
  refine lv_topi (fun z3_q ez3_q => ?_)
  obtain rfl : z3_q = nI (i + 1) := by rw [ez3_q]; exact nI_add i 1
  refine va_sld hx hb hX hbl hbA hS (i := nI (i + 1)) (vp_in_nI (by omega) (by omega)) dL_law_358 ?_
  refine lv_topi (fun d0_q ed0_q => ?_)
  obtain rfl : a0_q = d0_q := by rw [ea0_q, ed0_q]
  refine lv_aload_n hx hb dL_law_359 rfl (lv_at hl 3 rfl) ?_
  refine lv_iload_n hx hb dL_law_360 rfl (lv_at hl 0 rfl) ?_
  refine lv_iconst (v := 2) hx hb dL_law_361 (by decide) ?_
  refine lv_iadd hx hb dL_law_362 ?_
  refine lv_topi (fun z4_q ez4_q => ?_)
  obtain rfl : z4_q = nI (i + 2) := by rw [ez4_q]; exact nI_add i 2
  refine va_sld hx hb hX hbl hbA hS (i := nI (i + 2)) (vp_in_nI (by omega) (by omega)) dL_law_363 ?_
  refine lv_topi (fun d1_q ed1_q => ?_)
  obtain rfl : a1_q = d1_q := by rw [ea1_q, ed1_q]
  have hcq2_q := cq_le hC2_q
  obtain ⟨fs8_q, hhd2_q⟩ := mw_head hM wx2_q
  refine W_facts (fun hg => ?_)
  have hKm_q := K_right (k2_copy l G H h1 mk mtold mla msp mfm mfk mpm mfpd mfz mfkp wm hM a0_q a1_q) wx2_q
  refine ca_LS (ws := wx2_q ++ wm) hg (va_runV (As := [.int a0_q, .int a1_q]) (rest := []) ⟨hx, hb, hml, hown, hts⟩ hKm_q (cwV 2 hts gL_law_X10_copy rfl rfl rfl (by decide +kernel) ⟨by decide +kernel, by decide +kernel⟩) (pre_L E hP hD hS hA wx2_q.length 6 rfl hhd2_q) rfl rfl hl.1 rfl (lv_room (Nat.le_of_ble_eq_true rfl)) dL_law_364 ⟨show 25 + cqN xwa xwb xc0 xb0 + g1_q + 0 ≤ 600000 by omega, show 94050 + sqN xwa xwb xc0 xb0 + n1_q + 0 ≤ 7302250 by omega⟩) hS hD hA (fun r2_q u2_q H locs hw hP hD hS => ?_)
  obtain ⟨w3_q, g2_q, n2_q⟩ := u2_q
  dsimp only at hw hP hD
  obtain ⟨wm2_q, rfl, hg2_q, hn2_q, mtold1_q, pm1_q, q1__q, q2__q, mfm1_q, q3__q, hM2_q, hpm_q⟩ := hw
  have hR2_q := rb_out hk6 hR0 hpc_q hpm_q.2.2
  refine lv_pop hx hb dL_law_367 rfl ?_
  refine lv_goto (tgt := 926) hx hb dL_law_368 (by decide) ?_
  obtain ⟨z9_q, ez9_q⟩ : ∃ yy_ : Int32, yy_ = nI i + 6 := ⟨_, rfl⟩
  refine lv_iinc (v := z9_q) (lv' := [(3, .int z9_q), (2, .ref h1), (1, .ref h0), (0, .ref b)]) hx hb dL_law_926 hl (k := 0) rfl (by rw [ez9_q]; rfl) (by decide) rfl (fun ls hl => ?_)
  obtain rfl : z9_q = nI (i + 6) := by rw [ez9_q]; exact nI_add i 6
  refine lv_goto (tgt := 18) hx hb dL_law_929 (by decide) ?_
  refine W_facts (fun hg => ?_)
  refine W_lower (k := 25 + cqN xwa xwb xc0 xb0) (n := 94050 + sqN xwa xwb xc0 xb0) (GF.wide hg (show 25 + cqN xwa xwb xc0 xb0 + g1_q + g2_q ≤ 25 + cqN xwa xwb xc0 xb0 by omega) (show 94050 + sqN xwa xwb xc0 xb0 + n1_q + n2_q ≤ 94050 + sqN xwa xwb xc0 xb0 by omega)) ?_
  exact ih (nI mk) told1_q msp (nI (sc mk mla)) fc1_q xfk len1_q mfpd xwa xwb xc0 xb0 mk mtold1_q mla msp mfm1_q mfk pm1_q mfpd mfz mfkp wx2_q wm2_q hC2_q hM2_q hR2_q.2 H locs ls hP hD hS hl

set_option maxHeartbeats 1000000 in
set_option maxRecDepth 100000 in
theorem law_far {p : Program} {l : Launch} {e : Env} {s : State} {m : MethodId} {below : List Frame} {meth : Method} {c : Code} {b L : Nat} {xs : Nat → Int32} {G : Gy} {h0 h1 i : Nat} (hL : L ≤ 3072) (hi : i + 6 ≤ L) (C0 : lw_At p s m meth c b L xs) (E : EV G (fun q : Nat => s.heap.size ≤ q) s s.heap) (xn : Int32) (xtold : Int32) (xsp : Int32) (xgr : Int32) (xfc : Nat → Int32) (xfk : Nat → Int32) (xlen : Int32) (xfsg : Nat → Int32) (xwa : Option PQ) (xwb : Option PQ) (xc0 : Nat) (xb0 : Nat) (mk : Nat) (mtold : Int32) (mla : Nat) (msp : Int32) (mfm : Nat → Int32) (mfk : Nat → Int32) (mpm : Nat) (mfpd : Nat → Int32) (mfz : Nat → Int32) (mfkp : Nat → Int32) (wx wm : va_W) (hC : CWd G h0 (xn, xtold, xsp, xgr, xfc, xfk, xlen, xfsg, xwa, xwb, xc0, xb0) wx) (hM : MWd G h1 (mk, mtold, mla, msp, mfm, mfk, mpm, mfpd, mfz, mfkp) wm) (hR : RELB xn xtold xsp xgr xfc xfk xlen xfsg xwa xwb mk mtold mla msp mfm mfk mpm mfpd mfz mfkp) {H : Heap} {locs : List Loc} {ls : Array Slot} (hP : va_P G.1 vwCl (wx ++ wm) H) (hD : va_D (fun q : Nat => s.heap.size ≤ q) (wx ++ wm)) (hS : va_S (fun q : Nat => s.heap.size ≤ q) s.heap H locs) (hl : lv_has ls 4 [(3, .int (nI i)), (2, .ref h1), (1, .ref h0), (0, .ref b)]) (ih : ∀ (xn : Int32) (xtold : Int32) (xsp : Int32) (xgr : Int32) (xfc : Nat → Int32) (xfk : Nat → Int32) (xlen : Int32) (xfsg : Nat → Int32) (xwa : Option PQ) (xwb : Option PQ) (xc0 : Nat) (xb0 : Nat) (mk : Nat) (mtold : Int32) (mla : Nat) (msp : Int32) (mfm : Nat → Int32) (mfk : Nat → Int32) (mpm : Nat) (mfpd : Nat → Int32) (mfz : Nat → Int32) (mfkp : Nat → Int32) (wx2 wm2 : va_W), CWd G h0 (xn, xtold, xsp, xgr, xfc, xfk, xlen, xfsg, xwa, xwb, xc0, xb0) wx2 → MWd G h1 (mk, mtold, mla, msp, mfm, mfk, mpm, mfpd, mfz, mfkp) wm2 → RELB xn xtold xsp xgr xfc xfk xlen xfsg xwa xwb mk mtold mla msp mfm mfk mpm mfpd mfz mfkp → ∀ (H1 : Heap) (locs1 : List Loc) (ls1 : Array Slot), va_P G.1 vwCl (wx2 ++ wm2) H1 → va_D (fun q : Nat => s.heap.size ≤ q) (wx2 ++ wm2) → va_S (fun q : Nat => s.heap.size ≤ q) s.heap H1 locs1 → lv_has ls1 4 [(3, .int (nI (i + 6))), (2, .ref h1), (1, .ref h0), (0, .ref b)] → W p l e room_1 s m #[Value.ref b] below meth c H1 locs1 (25 + cqN xwa xwb xc0 xb0) (94050 + sqN xwa xwb xc0 xb0) (lw_Z below #[Value.ref b] s) (F0 m 18 ls1 [])) : W p l e room_1 s m #[Value.ref b] below meth c H locs (25 + cqN xwa xwb xc0 xb0) (94050 + sqN xwa xwb xc0 xb0) (lw_Z below #[Value.ref b] s) (F0 m 371 ls []) := by
  obtain ⟨hx, hb, hr, hml, hown, hts0, hX, hbl, hlocks, hgv⟩ := id C0
  have hts : ∀ w ∈ wsL_law, w.before #[Value.ref b] s = true := fun w h => hts0 w (wsL_law_in w h)
  have hbA : ¬ (fun q : Nat => s.heap.size ≤ q) b := Nat.not_le.mpr hbl
  have hA : ∀ q : Nat, s.heap.size ≤ q → (fun q : Nat => s.heap.size ≤ q) q := fun _ h => h
  obtain ⟨hk2, hk6, hpm40, hla, hsp, hfm⟩ := mw_inv hM
  have hR0 := hR
  obtain ⟨rfl, rfl, rfl, rfl, rfl, rfl, hcr, -⟩ := hR
  refine lv_aload_n hx hb dL_law_371 rfl (lv_at hl 2 rfl) ?_
  refine lv_aload_n hx hb dL_law_372 rfl (lv_at hl 3 rfl) ?_
  refine lv_iload_n hx hb dL_law_373 rfl (lv_at hl 0 rfl) ?_
  refine lv_iconst (v := 1) hx hb dL_law_374 (by decide) ?_
  refine lv_iadd hx hb dL_law_375 ?_
  refine lv_topi (fun z1_q ez1_q => ?_)
  obtain rfl : z1_q = nI (i + 1) := by rw [ez1_q]; exact nI_add i 1
  refine va_sld hx hb hX hbl hbA hS (i := nI (i + 1)) (vp_in_nI (by omega) (by omega)) dL_law_376 ?_
  refine lv_topi (fun a0_q ea0_q => ?_)
  refine lv_aload_n hx hb dL_law_377 rfl (lv_at hl 3 rfl) ?_
  refine lv_iload_n hx hb dL_law_378 rfl (lv_at hl 0 rfl) ?_
  refine lv_iconst (v := 2) hx hb dL_law_379 (by decide) ?_
  refine lv_iadd hx hb dL_law_380 ?_
  refine lv_topi (fun z2_q ez2_q => ?_)
  obtain rfl : z2_q = nI (i + 2) := by rw [ez2_q]; exact nI_add i 2
  refine va_sld hx hb hX hbl hbA hS (i := nI (i + 2)) (vp_in_nI (by omega) (by omega)) dL_law_381 ?_
  refine lv_topi (fun a1_q ea1_q => ?_)
  refine lv_aload_n hx hb dL_law_382 rfl (lv_at hl 3 rfl) ?_
  refine lv_iload_n hx hb dL_law_383 rfl (lv_at hl 0 rfl) ?_
  refine lv_iconst (v := 3) hx hb dL_law_384 (by decide) ?_
  refine lv_iadd hx hb dL_law_385 ?_
  refine lv_topi (fun z3_q ez3_q => ?_)
  obtain rfl : z3_q = nI (i + 3) := by rw [ez3_q]; exact nI_add i 3
  refine va_sld hx hb hX hbl hbA hS (i := nI (i + 3)) (vp_in_nI (by omega) (by omega)) dL_law_386 ?_
  refine lv_topi (fun a2_q ea2_q => ?_)
  refine lv_aload_n hx hb dL_law_387 rfl (lv_at hl 3 rfl) ?_
  refine lv_iload_n hx hb dL_law_388 rfl (lv_at hl 0 rfl) ?_
  refine lv_iconst (v := 4) hx hb dL_law_389 (by decide) ?_
  refine lv_iadd hx hb dL_law_390 ?_
  refine lv_topi (fun z4_q ez4_q => ?_)
  obtain rfl : z4_q = nI (i + 4) := by rw [ez4_q]; exact nI_add i 4
  refine va_sld hx hb hX hbl hbA hS (i := nI (i + 4)) (vp_in_nI (by omega) (by omega)) dL_law_391 ?_
  refine lv_topi (fun a3_q ea3_q => ?_)
  have hcq_q := cq_le hC
  obtain ⟨fs9_q, hhd_q⟩ := cw_head hC wm
  refine W_facts (fun hg => ?_)
  have hKx_q := K_left (x2_far l G H h0 mk mpm mla mtold msp xfc xfk mfpd xwa xwb xc0 xb0 (maN mfm) wx hC hk2 hk6 hpm40 hla hcr hsp a0_q a1_q a2_q a3_q) wm
  refine ca_LS (ws := wx ++ wm) hg (va_runV (As := [.int a0_q, .int a1_q, .int a2_q, .int a3_q]) (rest := []) ⟨hx, hb, hml, hown, hts⟩ hKx_q (cwV 4 hts gL_law_X9_far rfl rfl rfl (by decide +kernel) ⟨by decide +kernel, by decide +kernel⟩) (pre_L E hP hD hS hA 0 5 rfl hhd_q) rfl rfl hl.1 rfl (lv_room (Nat.le_of_ble_eq_true rfl)) dL_law_392 ⟨show 25 + cqN xwa xwb xc0 xb0 + 6 ≤ 600000 by omega, show 94050 + sqN xwa xwb xc0 xb0 + 62514 ≤ 7302250 by omega⟩) hS hD hA (fun r1_q u1_q H locs hw hP hD hS => ?_)
  obtain ⟨w2_q, g1_q, n1_q⟩ := u1_q
  dsimp only at hw hP hD
  obtain ⟨wx2_q, rfl, kk1_q, hC2_q, hg1_q, hn1_q, hpc_q⟩ := hw
  refine lv_pop hx hb dL_law_395 rfl ?_
  refine lv_aload_n hx hb dL_law_396 rfl (lv_at hl 1 rfl) ?_
  refine lv_aload_n hx hb dL_law_397 rfl (lv_at hl 3 rfl) ?_
  refine lv_iload_n hx hb dL_law_398 rfl (lv_at hl 0 rfl) ?_
  refine lv_iconst (v := 1) hx hb dL_law_399 (by decide) ?_
  refine lv_iadd hx hb dL_law_400 ?_
  refine lv_topi (fun z5_q ez5_q => ?_)
  obtain rfl : z5_q = nI (i + 1) := by rw [ez5_q]; exact nI_add i 1
  refine va_sld hx hb hX hbl hbA hS (i := nI (i + 1)) (vp_in_nI (by omega) (by omega)) dL_law_401 ?_
  refine lv_topi (fun d0_q ed0_q => ?_)
  obtain rfl : a0_q = d0_q := by rw [ea0_q, ed0_q]
  refine lv_aload_n hx hb dL_law_402 rfl (lv_at hl 3 rfl) ?_
  refine lv_iload_n hx hb dL_law_403 rfl (lv_at hl 0 rfl) ?_
  refine lv_iconst (v := 2) hx hb dL_law_404 (by decide) ?_
  refine lv_iadd hx hb dL_law_405 ?_
  refine lv_topi (fun z6_q ez6_q => ?_)
  obtain rfl : z6_q = nI (i + 2) := by rw [ez6_q]; exact nI_add i 2
  refine va_sld hx hb hX hbl hbA hS (i := nI (i + 2)) (vp_in_nI (by omega) (by omega)) dL_law_406 ?_
  refine lv_topi (fun d1_q ed1_q => ?_)
  obtain rfl : a1_q = d1_q := by rw [ea1_q, ed1_q]
  refine lv_aload_n hx hb dL_law_407 rfl (lv_at hl 3 rfl) ?_
  refine lv_iload_n hx hb dL_law_408 rfl (lv_at hl 0 rfl) ?_
  refine lv_iconst (v := 3) hx hb dL_law_409 (by decide) ?_
  refine lv_iadd hx hb dL_law_410 ?_
  refine lv_topi (fun z7_q ez7_q => ?_)
  obtain rfl : z7_q = nI (i + 3) := by rw [ez7_q]; exact nI_add i 3
  refine va_sld hx hb hX hbl hbA hS (i := nI (i + 3)) (vp_in_nI (by omega) (by omega)) dL_law_411 ?_
  refine lv_topi (fun d2_q ed2_q => ?_)
  obtain rfl : a2_q = d2_q := by rw [ea2_q, ed2_q]
  refine lv_aload_n hx hb dL_law_412 rfl (lv_at hl 3 rfl) ?_
  refine lv_iload_n hx hb dL_law_413 rfl (lv_at hl 0 rfl) ?_
  refine lv_iconst (v := 4) hx hb dL_law_414 (by decide) ?_
  refine lv_iadd hx hb dL_law_415 ?_
  refine lv_topi (fun z8_q ez8_q => ?_)
  obtain rfl : z8_q = nI (i + 4) := by rw [ez8_q]; exact nI_add i 4
  refine va_sld hx hb hX hbl hbA hS (i := nI (i + 4)) (vp_in_nI (by omega) (by omega)) dL_law_416 ?_
  refine lv_topi (fun d3_q ed3_q => ?_)
  obtain rfl : a3_q = d3_q := by rw [ea3_q, ed3_q]
  have hcq2_q := cq_le hC2_q
  obtain ⟨fs8_q, hhd2_q⟩ := mw_head hM wx2_q
  refine W_facts (fun hg => ?_)
  have hKm_q := K_right (k2_far l G H h1 mk mtold mla msp mfm mfk mpm mfpd mfz mfkp wm hM a0_q a1_q a2_q a3_q) wx2_q
  refine ca_LS (ws := wx2_q ++ wm) hg (va_runV (As := [.int a0_q, .int a1_q, .int a2_q, .int a3_q]) (rest := []) ⟨hx, hb, hml, hown, hts⟩ hKm_q (cwV 4 hts gL_law_X10_far rfl rfl rfl (by decide +kernel) ⟨by decide +kernel, by decide +kernel⟩) (pre_L E hP hD hS hA wx2_q.length 6 rfl hhd2_q) rfl rfl hl.1 rfl (lv_room (Nat.le_of_ble_eq_true rfl)) dL_law_417 ⟨show 25 + cqN xwa xwb xc0 xb0 + g1_q + 0 ≤ 600000 by omega, show 94050 + sqN xwa xwb xc0 xb0 + n1_q + 0 ≤ 7302250 by omega⟩) hS hD hA (fun r2_q u2_q H locs hw hP hD hS => ?_)
  obtain ⟨w3_q, g2_q, n2_q⟩ := u2_q
  dsimp only at hw hP hD
  obtain ⟨wm2_q, rfl, hg2_q, hn2_q, q0__q, q1__q, q2__q, q3__q, q4__q, hM2_q, hpm_q⟩ := hw
  have hR2_q := And.intro (farP_fun hR0.2.2.2.2.2.2.2.1 hpc_q hpm_q) hR0
  refine lv_pop hx hb dL_law_420 rfl ?_
  refine lv_goto (tgt := 926) hx hb dL_law_421 (by decide) ?_
  obtain ⟨z9_q, ez9_q⟩ : ∃ yy_ : Int32, yy_ = nI i + 6 := ⟨_, rfl⟩
  refine lv_iinc (v := z9_q) (lv' := [(3, .int z9_q), (2, .ref h1), (1, .ref h0), (0, .ref b)]) hx hb dL_law_926 hl (k := 0) rfl (by rw [ez9_q]; rfl) (by decide) rfl (fun ls hl => ?_)
  obtain rfl : z9_q = nI (i + 6) := by rw [ez9_q]; exact nI_add i 6
  refine lv_goto (tgt := 18) hx hb dL_law_929 (by decide) ?_
  refine W_facts (fun hg => ?_)
  refine W_lower (k := 25 + cqN xwa xwb (xc0 + kk1_q) xb0) (n := 94050 + sqN xwa xwb (xc0 + kk1_q) xb0) (GF.wide hg (show 25 + cqN xwa xwb xc0 xb0 + g1_q + g2_q ≤ 25 + cqN xwa xwb (xc0 + kk1_q) xb0 by omega) (show 94050 + sqN xwa xwb xc0 xb0 + n1_q + n2_q ≤ 94050 + sqN xwa xwb (xc0 + kk1_q) xb0 by omega)) ?_
  exact ih (nI mk) mtold msp (nI (sc mk mla)) xfc xfk (nI mpm) mfpd xwa xwb (xc0 + kk1_q) xb0 mk mtold mla msp mfm mfk mpm mfpd mfz mfkp wx2_q wm2_q hC2_q hM2_q hR2_q.2 H locs ls hP hD hS hl

set_option maxHeartbeats 1000000 in
set_option maxRecDepth 100000 in
theorem law_who {p : Program} {l : Launch} {e : Env} {s : State} {m : MethodId} {below : List Frame} {meth : Method} {c : Code} {b L : Nat} {xs : Nat → Int32} {G : Gy} {h0 h1 i : Nat} (hL : L ≤ 3072) (hi : i + 6 ≤ L) (C0 : lw_At p s m meth c b L xs) (E : EV G (fun q : Nat => s.heap.size ≤ q) s s.heap) (xn : Int32) (xtold : Int32) (xsp : Int32) (xgr : Int32) (xfc : Nat → Int32) (xfk : Nat → Int32) (xlen : Int32) (xfsg : Nat → Int32) (xwa : Option PQ) (xwb : Option PQ) (xc0 : Nat) (xb0 : Nat) (mk : Nat) (mtold : Int32) (mla : Nat) (msp : Int32) (mfm : Nat → Int32) (mfk : Nat → Int32) (mpm : Nat) (mfpd : Nat → Int32) (mfz : Nat → Int32) (mfkp : Nat → Int32) (wx wm : va_W) (hC : CWd G h0 (xn, xtold, xsp, xgr, xfc, xfk, xlen, xfsg, xwa, xwb, xc0, xb0) wx) (hM : MWd G h1 (mk, mtold, mla, msp, mfm, mfk, mpm, mfpd, mfz, mfkp) wm) (hR : RELB xn xtold xsp xgr xfc xfk xlen xfsg xwa xwb mk mtold mla msp mfm mfk mpm mfpd mfz mfkp) {H : Heap} {locs : List Loc} {ls : Array Slot} (hP : va_P G.1 vwCl (wx ++ wm) H) (hD : va_D (fun q : Nat => s.heap.size ≤ q) (wx ++ wm)) (hS : va_S (fun q : Nat => s.heap.size ≤ q) s.heap H locs) (hl : lv_has ls 4 [(3, .int (nI i)), (2, .ref h1), (1, .ref h0), (0, .ref b)]) (ih : ∀ (xn : Int32) (xtold : Int32) (xsp : Int32) (xgr : Int32) (xfc : Nat → Int32) (xfk : Nat → Int32) (xlen : Int32) (xfsg : Nat → Int32) (xwa : Option PQ) (xwb : Option PQ) (xc0 : Nat) (xb0 : Nat) (mk : Nat) (mtold : Int32) (mla : Nat) (msp : Int32) (mfm : Nat → Int32) (mfk : Nat → Int32) (mpm : Nat) (mfpd : Nat → Int32) (mfz : Nat → Int32) (mfkp : Nat → Int32) (wx2 wm2 : va_W), CWd G h0 (xn, xtold, xsp, xgr, xfc, xfk, xlen, xfsg, xwa, xwb, xc0, xb0) wx2 → MWd G h1 (mk, mtold, mla, msp, mfm, mfk, mpm, mfpd, mfz, mfkp) wm2 → RELB xn xtold xsp xgr xfc xfk xlen xfsg xwa xwb mk mtold mla msp mfm mfk mpm mfpd mfz mfkp → ∀ (H1 : Heap) (locs1 : List Loc) (ls1 : Array Slot), va_P G.1 vwCl (wx2 ++ wm2) H1 → va_D (fun q : Nat => s.heap.size ≤ q) (wx2 ++ wm2) → va_S (fun q : Nat => s.heap.size ≤ q) s.heap H1 locs1 → lv_has ls1 4 [(3, .int (nI (i + 6))), (2, .ref h1), (1, .ref h0), (0, .ref b)] → W p l e room_1 s m #[Value.ref b] below meth c H1 locs1 (25 + cqN xwa xwb xc0 xb0) (94050 + sqN xwa xwb xc0 xb0) (lw_Z below #[Value.ref b] s) (F0 m 18 ls1 [])) : W p l e room_1 s m #[Value.ref b] below meth c H locs (25 + cqN xwa xwb xc0 xb0) (94050 + sqN xwa xwb xc0 xb0) (lw_Z below #[Value.ref b] s) (F0 m 424 ls []) := by
  obtain ⟨hx, hb, hr, hml, hown, hts0, hX, hbl, hlocks, hgv⟩ := id C0
  have hts : ∀ w ∈ wsL_law, w.before #[Value.ref b] s = true := fun w h => hts0 w (wsL_law_in w h)
  have hbA : ¬ (fun q : Nat => s.heap.size ≤ q) b := Nat.not_le.mpr hbl
  have hA : ∀ q : Nat, s.heap.size ≤ q → (fun q : Nat => s.heap.size ≤ q) q := fun _ h => h
  obtain ⟨hk2, hk6, hpm40, hla, hsp, hfm⟩ := mw_inv hM
  have hR0 := hR
  obtain ⟨rfl, rfl, rfl, rfl, rfl, rfl, hcr, -⟩ := hR
  refine lv_aload_n hx hb dL_law_424 rfl (lv_at hl 2 rfl) ?_
  refine lv_aload_n hx hb dL_law_425 rfl (lv_at hl 3 rfl) ?_
  refine lv_iload_n hx hb dL_law_426 rfl (lv_at hl 0 rfl) ?_
  refine lv_iconst (v := 1) hx hb dL_law_427 (by decide) ?_
  refine lv_iadd hx hb dL_law_428 ?_
  refine lv_topi (fun z1_q ez1_q => ?_)
  obtain rfl : z1_q = nI (i + 1) := by rw [ez1_q]; exact nI_add i 1
  refine va_sld hx hb hX hbl hbA hS (i := nI (i + 1)) (vp_in_nI (by omega) (by omega)) dL_law_429 ?_
  refine lv_topi (fun a0_q ea0_q => ?_)
  refine lv_aload_n hx hb dL_law_430 rfl (lv_at hl 3 rfl) ?_
  refine lv_iload_n hx hb dL_law_431 rfl (lv_at hl 0 rfl) ?_
  refine lv_iconst (v := 2) hx hb dL_law_432 (by decide) ?_
  refine lv_iadd hx hb dL_law_433 ?_
  refine lv_topi (fun z2_q ez2_q => ?_)
  obtain rfl : z2_q = nI (i + 2) := by rw [ez2_q]; exact nI_add i 2
  refine va_sld hx hb hX hbl hbA hS (i := nI (i + 2)) (vp_in_nI (by omega) (by omega)) dL_law_434 ?_
  refine lv_topi (fun a1_q ea1_q => ?_)
  refine lv_aload_n hx hb dL_law_435 rfl (lv_at hl 3 rfl) ?_
  refine lv_iload_n hx hb dL_law_436 rfl (lv_at hl 0 rfl) ?_
  refine lv_iconst (v := 3) hx hb dL_law_437 (by decide) ?_
  refine lv_iadd hx hb dL_law_438 ?_
  refine lv_topi (fun z3_q ez3_q => ?_)
  obtain rfl : z3_q = nI (i + 3) := by rw [ez3_q]; exact nI_add i 3
  refine va_sld hx hb hX hbl hbA hS (i := nI (i + 3)) (vp_in_nI (by omega) (by omega)) dL_law_439 ?_
  refine lv_topi (fun a2_q ea2_q => ?_)
  have hcq_q := cq_le hC
  obtain ⟨fs9_q, hhd_q⟩ := cw_head hC wm
  refine W_facts (fun hg => ?_)
  have hKx_q := K_left (x2_who l G H h0 mk mpm mla mtold msp xfc xfk mfpd xwa xwb xc0 xb0 (maN mfm) wx hC hk2 hk6 hpm40 hla hcr hsp a0_q a1_q a2_q) wm
  refine ca_LS (ws := wx ++ wm) hg (va_runV (As := [.int a0_q, .int a1_q, .int a2_q]) (rest := []) ⟨hx, hb, hml, hown, hts⟩ hKx_q (cwV 3 hts gL_law_X9_who rfl rfl rfl (by decide +kernel) ⟨by decide +kernel, by decide +kernel⟩) (pre_L E hP hD hS hA 0 5 rfl hhd_q) rfl rfl hl.1 rfl (lv_room (Nat.le_of_ble_eq_true rfl)) dL_law_440 ⟨show 25 + cqN xwa xwb xc0 xb0 + 33 ≤ 600000 by omega, show 94050 + sqN xwa xwb xc0 xb0 + 343827 ≤ 7302250 by omega⟩) hS hD hA (fun r1_q u1_q H locs hw hP hD hS => ?_)
  obtain ⟨w2_q, g1_q, n1_q⟩ := u1_q
  dsimp only at hw hP hD
  obtain ⟨wx2_q, rfl, kk1_q, hC2_q, hg1_q, hn1_q, hpc_q⟩ := hw
  refine lv_pop hx hb dL_law_443 rfl ?_
  refine lv_aload_n hx hb dL_law_444 rfl (lv_at hl 1 rfl) ?_
  refine lv_aload_n hx hb dL_law_445 rfl (lv_at hl 3 rfl) ?_
  refine lv_iload_n hx hb dL_law_446 rfl (lv_at hl 0 rfl) ?_
  refine lv_iconst (v := 1) hx hb dL_law_447 (by decide) ?_
  refine lv_iadd hx hb dL_law_448 ?_
  refine lv_topi (fun z4_q ez4_q => ?_)
  obtain rfl : z4_q = nI (i + 1) := by rw [ez4_q]; exact nI_add i 1
  refine va_sld hx hb hX hbl hbA hS (i := nI (i + 1)) (vp_in_nI (by omega) (by omega)) dL_law_449 ?_
  refine lv_topi (fun d0_q ed0_q => ?_)
  obtain rfl : a0_q = d0_q := by rw [ea0_q, ed0_q]
  refine lv_aload_n hx hb dL_law_450 rfl (lv_at hl 3 rfl) ?_
  refine lv_iload_n hx hb dL_law_451 rfl (lv_at hl 0 rfl) ?_
  refine lv_iconst (v := 2) hx hb dL_law_452 (by decide) ?_
  refine lv_iadd hx hb dL_law_453 ?_
  refine lv_topi (fun z5_q ez5_q => ?_)
  obtain rfl : z5_q = nI (i + 2) := by rw [ez5_q]; exact nI_add i 2
  refine va_sld hx hb hX hbl hbA hS (i := nI (i + 2)) (vp_in_nI (by omega) (by omega)) dL_law_454 ?_
  refine lv_topi (fun d1_q ed1_q => ?_)
  obtain rfl : a1_q = d1_q := by rw [ea1_q, ed1_q]
  refine lv_aload_n hx hb dL_law_455 rfl (lv_at hl 3 rfl) ?_
  refine lv_iload_n hx hb dL_law_456 rfl (lv_at hl 0 rfl) ?_
  refine lv_iconst (v := 3) hx hb dL_law_457 (by decide) ?_
  refine lv_iadd hx hb dL_law_458 ?_
  refine lv_topi (fun z6_q ez6_q => ?_)
  obtain rfl : z6_q = nI (i + 3) := by rw [ez6_q]; exact nI_add i 3
  refine va_sld hx hb hX hbl hbA hS (i := nI (i + 3)) (vp_in_nI (by omega) (by omega)) dL_law_459 ?_
  refine lv_topi (fun d2_q ed2_q => ?_)
  obtain rfl : a2_q = d2_q := by rw [ea2_q, ed2_q]
  have hcq2_q := cq_le hC2_q
  obtain ⟨fs8_q, hhd2_q⟩ := mw_head hM wx2_q
  refine W_facts (fun hg => ?_)
  have hKm_q := K_right (k2_who l G H h1 mk mtold mla msp mfm mfk mpm mfpd mfz mfkp wm hM a0_q a1_q a2_q) wx2_q
  refine ca_LS (ws := wx2_q ++ wm) hg (va_runV (As := [.int a0_q, .int a1_q, .int a2_q]) (rest := []) ⟨hx, hb, hml, hown, hts⟩ hKm_q (cwV 3 hts gL_law_X10_who rfl rfl rfl (by decide +kernel) ⟨by decide +kernel, by decide +kernel⟩) (pre_L E hP hD hS hA wx2_q.length 6 rfl hhd2_q) rfl rfl hl.1 rfl (lv_room (Nat.le_of_ble_eq_true rfl)) dL_law_460 ⟨show 25 + cqN xwa xwb xc0 xb0 + g1_q + 0 ≤ 600000 by omega, show 94050 + sqN xwa xwb xc0 xb0 + n1_q + 0 ≤ 7302250 by omega⟩) hS hD hA (fun r2_q u2_q H locs hw hP hD hS => ?_)
  obtain ⟨w3_q, g2_q, n2_q⟩ := u2_q
  dsimp only at hw hP hD
  obtain ⟨wm2_q, rfl, hg2_q, hn2_q, q0__q, q1__q, q2__q, q3__q, q4__q, hM2_q, hpm_q⟩ := hw
  have hR2_q := And.intro (hpc_q.trans ((whA_congr hR0.2.2.2.2.2.2.2.1).trans hpm_q.symm)) hR0
  refine lv_pop hx hb dL_law_463 rfl ?_
  refine lv_goto (tgt := 926) hx hb dL_law_464 (by decide) ?_
  obtain ⟨z9_q, ez9_q⟩ : ∃ yy_ : Int32, yy_ = nI i + 6 := ⟨_, rfl⟩
  refine lv_iinc (v := z9_q) (lv' := [(3, .int z9_q), (2, .ref h1), (1, .ref h0), (0, .ref b)]) hx hb dL_law_926 hl (k := 0) rfl (by rw [ez9_q]; rfl) (by decide) rfl (fun ls hl => ?_)
  obtain rfl : z9_q = nI (i + 6) := by rw [ez9_q]; exact nI_add i 6
  refine lv_goto (tgt := 18) hx hb dL_law_929 (by decide) ?_
  refine W_facts (fun hg => ?_)
  refine W_lower (k := 25 + cqN xwa xwb (xc0 + kk1_q) xb0) (n := 94050 + sqN xwa xwb (xc0 + kk1_q) xb0) (GF.wide hg (show 25 + cqN xwa xwb xc0 xb0 + g1_q + g2_q ≤ 25 + cqN xwa xwb (xc0 + kk1_q) xb0 by omega) (show 94050 + sqN xwa xwb xc0 xb0 + n1_q + n2_q ≤ 94050 + sqN xwa xwb (xc0 + kk1_q) xb0 by omega)) ?_
  exact ih (nI mk) mtold msp (nI (sc mk mla)) xfc xfk (nI mpm) mfpd xwa xwb (xc0 + kk1_q) xb0 mk mtold mla msp mfm mfk mpm mfpd mfz mfkp wx2_q wm2_q hC2_q hM2_q hR2_q.2 H locs ls hP hD hS hl

set_option maxHeartbeats 1000000 in
set_option maxRecDepth 100000 in
theorem law_between {p : Program} {l : Launch} {e : Env} {s : State} {m : MethodId} {below : List Frame} {meth : Method} {c : Code} {b L : Nat} {xs : Nat → Int32} {G : Gy} {h0 h1 i : Nat} (hL : L ≤ 3072) (hi : i + 6 ≤ L) (C0 : lw_At p s m meth c b L xs) (E : EV G (fun q : Nat => s.heap.size ≤ q) s s.heap) (xn : Int32) (xtold : Int32) (xsp : Int32) (xgr : Int32) (xfc : Nat → Int32) (xfk : Nat → Int32) (xlen : Int32) (xfsg : Nat → Int32) (xwa : Option PQ) (xwb : Option PQ) (xc0 : Nat) (xb0 : Nat) (mk : Nat) (mtold : Int32) (mla : Nat) (msp : Int32) (mfm : Nat → Int32) (mfk : Nat → Int32) (mpm : Nat) (mfpd : Nat → Int32) (mfz : Nat → Int32) (mfkp : Nat → Int32) (wx wm : va_W) (hC : CWd G h0 (xn, xtold, xsp, xgr, xfc, xfk, xlen, xfsg, xwa, xwb, xc0, xb0) wx) (hM : MWd G h1 (mk, mtold, mla, msp, mfm, mfk, mpm, mfpd, mfz, mfkp) wm) (hR : RELB xn xtold xsp xgr xfc xfk xlen xfsg xwa xwb mk mtold mla msp mfm mfk mpm mfpd mfz mfkp) {H : Heap} {locs : List Loc} {ls : Array Slot} (hP : va_P G.1 vwCl (wx ++ wm) H) (hD : va_D (fun q : Nat => s.heap.size ≤ q) (wx ++ wm)) (hS : va_S (fun q : Nat => s.heap.size ≤ q) s.heap H locs) (hl : lv_has ls 4 [(3, .int (nI i)), (2, .ref h1), (1, .ref h0), (0, .ref b)]) (ih : ∀ (xn : Int32) (xtold : Int32) (xsp : Int32) (xgr : Int32) (xfc : Nat → Int32) (xfk : Nat → Int32) (xlen : Int32) (xfsg : Nat → Int32) (xwa : Option PQ) (xwb : Option PQ) (xc0 : Nat) (xb0 : Nat) (mk : Nat) (mtold : Int32) (mla : Nat) (msp : Int32) (mfm : Nat → Int32) (mfk : Nat → Int32) (mpm : Nat) (mfpd : Nat → Int32) (mfz : Nat → Int32) (mfkp : Nat → Int32) (wx2 wm2 : va_W), CWd G h0 (xn, xtold, xsp, xgr, xfc, xfk, xlen, xfsg, xwa, xwb, xc0, xb0) wx2 → MWd G h1 (mk, mtold, mla, msp, mfm, mfk, mpm, mfpd, mfz, mfkp) wm2 → RELB xn xtold xsp xgr xfc xfk xlen xfsg xwa xwb mk mtold mla msp mfm mfk mpm mfpd mfz mfkp → ∀ (H1 : Heap) (locs1 : List Loc) (ls1 : Array Slot), va_P G.1 vwCl (wx2 ++ wm2) H1 → va_D (fun q : Nat => s.heap.size ≤ q) (wx2 ++ wm2) → va_S (fun q : Nat => s.heap.size ≤ q) s.heap H1 locs1 → lv_has ls1 4 [(3, .int (nI (i + 6))), (2, .ref h1), (1, .ref h0), (0, .ref b)] → W p l e room_1 s m #[Value.ref b] below meth c H1 locs1 (25 + cqN xwa xwb xc0 xb0) (94050 + sqN xwa xwb xc0 xb0) (lw_Z below #[Value.ref b] s) (F0 m 18 ls1 [])) : W p l e room_1 s m #[Value.ref b] below meth c H locs (25 + cqN xwa xwb xc0 xb0) (94050 + sqN xwa xwb xc0 xb0) (lw_Z below #[Value.ref b] s) (F0 m 467 ls []) := by
  obtain ⟨hx, hb, hr, hml, hown, hts0, hX, hbl, hlocks, hgv⟩ := id C0
  have hts : ∀ w ∈ wsL_law, w.before #[Value.ref b] s = true := fun w h => hts0 w (wsL_law_in w h)
  have hbA : ¬ (fun q : Nat => s.heap.size ≤ q) b := Nat.not_le.mpr hbl
  have hA : ∀ q : Nat, s.heap.size ≤ q → (fun q : Nat => s.heap.size ≤ q) q := fun _ h => h
  obtain ⟨hk2, hk6, hpm40, hla, hsp, hfm⟩ := mw_inv hM
  have hR0 := hR
  obtain ⟨rfl, rfl, rfl, rfl, rfl, rfl, hcr, -⟩ := hR
  refine lv_aload_n hx hb dL_law_467 rfl (lv_at hl 2 rfl) ?_
  refine lv_aload_n hx hb dL_law_468 rfl (lv_at hl 3 rfl) ?_
  refine lv_iload_n hx hb dL_law_469 rfl (lv_at hl 0 rfl) ?_
  refine lv_iconst (v := 1) hx hb dL_law_470 (by decide) ?_
  refine lv_iadd hx hb dL_law_471 ?_
  refine lv_topi (fun z1_q ez1_q => ?_)
  obtain rfl : z1_q = nI (i + 1) := by rw [ez1_q]; exact nI_add i 1
  refine va_sld hx hb hX hbl hbA hS (i := nI (i + 1)) (vp_in_nI (by omega) (by omega)) dL_law_472 ?_
  refine lv_topi (fun a0_q ea0_q => ?_)
  refine lv_aload_n hx hb dL_law_473 rfl (lv_at hl 3 rfl) ?_
  refine lv_iload_n hx hb dL_law_474 rfl (lv_at hl 0 rfl) ?_
  refine lv_iconst (v := 2) hx hb dL_law_475 (by decide) ?_
  refine lv_iadd hx hb dL_law_476 ?_
  refine lv_topi (fun z2_q ez2_q => ?_)
  obtain rfl : z2_q = nI (i + 2) := by rw [ez2_q]; exact nI_add i 2
  refine va_sld hx hb hX hbl hbA hS (i := nI (i + 2)) (vp_in_nI (by omega) (by omega)) dL_law_477 ?_
  refine lv_topi (fun a1_q ea1_q => ?_)
  refine lv_aload_n hx hb dL_law_478 rfl (lv_at hl 3 rfl) ?_
  refine lv_iload_n hx hb dL_law_479 rfl (lv_at hl 0 rfl) ?_
  refine lv_iconst (v := 3) hx hb dL_law_480 (by decide) ?_
  refine lv_iadd hx hb dL_law_481 ?_
  refine lv_topi (fun z3_q ez3_q => ?_)
  obtain rfl : z3_q = nI (i + 3) := by rw [ez3_q]; exact nI_add i 3
  refine va_sld hx hb hX hbl hbA hS (i := nI (i + 3)) (vp_in_nI (by omega) (by omega)) dL_law_482 ?_
  refine lv_topi (fun a2_q ea2_q => ?_)
  refine lv_aload_n hx hb dL_law_483 rfl (lv_at hl 3 rfl) ?_
  refine lv_iload_n hx hb dL_law_484 rfl (lv_at hl 0 rfl) ?_
  refine lv_iconst (v := 4) hx hb dL_law_485 (by decide) ?_
  refine lv_iadd hx hb dL_law_486 ?_
  refine lv_topi (fun z4_q ez4_q => ?_)
  obtain rfl : z4_q = nI (i + 4) := by rw [ez4_q]; exact nI_add i 4
  refine va_sld hx hb hX hbl hbA hS (i := nI (i + 4)) (vp_in_nI (by omega) (by omega)) dL_law_487 ?_
  refine lv_topi (fun a3_q ea3_q => ?_)
  have hcq_q := cq_le hC
  obtain ⟨fs9_q, hhd_q⟩ := cw_head hC wm
  refine W_facts (fun hg => ?_)
  have hKx_q := K_left (x2_between l G H h0 mk mpm mla mtold msp xfc xfk mfpd xwa xwb xc0 xb0 (maN mfm) wx hC hk2 hk6 hpm40 hla hcr hsp a0_q a1_q a2_q a3_q) wm
  refine ca_LS (ws := wx ++ wm) hg (va_runV (As := [.int a0_q, .int a1_q, .int a2_q, .int a3_q]) (rest := []) ⟨hx, hb, hml, hown, hts⟩ hKx_q (cwV 4 hts gL_law_X9_between rfl rfl rfl (by decide +kernel) ⟨by decide +kernel, by decide +kernel⟩) (pre_L E hP hD hS hA 0 5 rfl hhd_q) rfl rfl hl.1 rfl (lv_room (Nat.le_of_ble_eq_true rfl)) dL_law_488 ⟨show 25 + cqN xwa xwb xc0 xb0 + 6 ≤ 600000 by omega, show 94050 + sqN xwa xwb xc0 xb0 + 62514 ≤ 7302250 by omega⟩) hS hD hA (fun r1_q u1_q H locs hw hP hD hS => ?_)
  obtain ⟨w2_q, g1_q, n1_q⟩ := u1_q
  dsimp only at hw hP hD
  obtain ⟨wx2_q, rfl, kk1_q, hC2_q, hg1_q, hn1_q, hpc_q⟩ := hw
  refine lv_pop hx hb dL_law_491 rfl ?_
  refine lv_aload_n hx hb dL_law_492 rfl (lv_at hl 1 rfl) ?_
  refine lv_aload_n hx hb dL_law_493 rfl (lv_at hl 3 rfl) ?_
  refine lv_iload_n hx hb dL_law_494 rfl (lv_at hl 0 rfl) ?_
  refine lv_iconst (v := 1) hx hb dL_law_495 (by decide) ?_
  refine lv_iadd hx hb dL_law_496 ?_
  refine lv_topi (fun z5_q ez5_q => ?_)
  obtain rfl : z5_q = nI (i + 1) := by rw [ez5_q]; exact nI_add i 1
  refine va_sld hx hb hX hbl hbA hS (i := nI (i + 1)) (vp_in_nI (by omega) (by omega)) dL_law_497 ?_
  refine lv_topi (fun d0_q ed0_q => ?_)
  obtain rfl : a0_q = d0_q := by rw [ea0_q, ed0_q]
  refine lv_aload_n hx hb dL_law_498 rfl (lv_at hl 3 rfl) ?_
  refine lv_iload_n hx hb dL_law_499 rfl (lv_at hl 0 rfl) ?_
  refine lv_iconst (v := 2) hx hb dL_law_500 (by decide) ?_
  refine lv_iadd hx hb dL_law_501 ?_
  refine lv_topi (fun z6_q ez6_q => ?_)
  obtain rfl : z6_q = nI (i + 2) := by rw [ez6_q]; exact nI_add i 2
  refine va_sld hx hb hX hbl hbA hS (i := nI (i + 2)) (vp_in_nI (by omega) (by omega)) dL_law_502 ?_
  refine lv_topi (fun d1_q ed1_q => ?_)
  obtain rfl : a1_q = d1_q := by rw [ea1_q, ed1_q]
  refine lv_aload_n hx hb dL_law_503 rfl (lv_at hl 3 rfl) ?_
  refine lv_iload_n hx hb dL_law_504 rfl (lv_at hl 0 rfl) ?_
  refine lv_iconst (v := 3) hx hb dL_law_505 (by decide) ?_
  refine lv_iadd hx hb dL_law_506 ?_
  refine lv_topi (fun z7_q ez7_q => ?_)
  obtain rfl : z7_q = nI (i + 3) := by rw [ez7_q]; exact nI_add i 3
  refine va_sld hx hb hX hbl hbA hS (i := nI (i + 3)) (vp_in_nI (by omega) (by omega)) dL_law_507 ?_
  refine lv_topi (fun d2_q ed2_q => ?_)
  obtain rfl : a2_q = d2_q := by rw [ea2_q, ed2_q]
  refine lv_aload_n hx hb dL_law_508 rfl (lv_at hl 3 rfl) ?_
  refine lv_iload_n hx hb dL_law_509 rfl (lv_at hl 0 rfl) ?_
  refine lv_iconst (v := 4) hx hb dL_law_510 (by decide) ?_
  refine lv_iadd hx hb dL_law_511 ?_
  refine lv_topi (fun z8_q ez8_q => ?_)
  obtain rfl : z8_q = nI (i + 4) := by rw [ez8_q]; exact nI_add i 4
  refine va_sld hx hb hX hbl hbA hS (i := nI (i + 4)) (vp_in_nI (by omega) (by omega)) dL_law_512 ?_
  refine lv_topi (fun d3_q ed3_q => ?_)
  obtain rfl : a3_q = d3_q := by rw [ea3_q, ed3_q]
  have hcq2_q := cq_le hC2_q
  obtain ⟨fs8_q, hhd2_q⟩ := mw_head hM wx2_q
  refine W_facts (fun hg => ?_)
  have hKm_q := K_right (k2_between l G H h1 mk mtold mla msp mfm mfk mpm mfpd mfz mfkp wm hM a0_q a1_q a2_q a3_q) wx2_q
  refine ca_LS (ws := wx2_q ++ wm) hg (va_runV (As := [.int a0_q, .int a1_q, .int a2_q, .int a3_q]) (rest := []) ⟨hx, hb, hml, hown, hts⟩ hKm_q (cwV 4 hts gL_law_X10_between rfl rfl rfl (by decide +kernel) ⟨by decide +kernel, by decide +kernel⟩) (pre_L E hP hD hS hA wx2_q.length 6 rfl hhd2_q) rfl rfl hl.1 rfl (lv_room (Nat.le_of_ble_eq_true rfl)) dL_law_513 ⟨show 25 + cqN xwa xwb xc0 xb0 + g1_q + 0 ≤ 600000 by omega, show 94050 + sqN xwa xwb xc0 xb0 + n1_q + 0 ≤ 7302250 by omega⟩) hS hD hA (fun r2_q u2_q H locs hw hP hD hS => ?_)
  obtain ⟨w3_q, g2_q, n2_q⟩ := u2_q
  dsimp only at hw hP hD
  obtain ⟨wm2_q, rfl, hg2_q, hn2_q, q0__q, q1__q, q2__q, q3__q, q4__q, hM2_q, hpm_q⟩ := hw
  have hR2_q := And.intro (btP_fun hR0.2.2.2.2.2.2.2.1 hpc_q hpm_q) hR0
  refine lv_pop hx hb dL_law_516 rfl ?_
  refine lv_goto (tgt := 926) hx hb dL_law_517 (by decide) ?_
  obtain ⟨z9_q, ez9_q⟩ : ∃ yy_ : Int32, yy_ = nI i + 6 := ⟨_, rfl⟩
  refine lv_iinc (v := z9_q) (lv' := [(3, .int z9_q), (2, .ref h1), (1, .ref h0), (0, .ref b)]) hx hb dL_law_926 hl (k := 0) rfl (by rw [ez9_q]; rfl) (by decide) rfl (fun ls hl => ?_)
  obtain rfl : z9_q = nI (i + 6) := by rw [ez9_q]; exact nI_add i 6
  refine lv_goto (tgt := 18) hx hb dL_law_929 (by decide) ?_
  refine W_facts (fun hg => ?_)
  refine W_lower (k := 25 + cqN xwa xwb (xc0 + kk1_q) xb0) (n := 94050 + sqN xwa xwb (xc0 + kk1_q) xb0) (GF.wide hg (show 25 + cqN xwa xwb xc0 xb0 + g1_q + g2_q ≤ 25 + cqN xwa xwb (xc0 + kk1_q) xb0 by omega) (show 94050 + sqN xwa xwb xc0 xb0 + n1_q + n2_q ≤ 94050 + sqN xwa xwb (xc0 + kk1_q) xb0 by omega)) ?_
  exact ih (nI mk) mtold msp (nI (sc mk mla)) xfc xfk (nI mpm) mfpd xwa xwb (xc0 + kk1_q) xb0 mk mtold mla msp mfm mfk mpm mfpd mfz mfkp wx2_q wm2_q hC2_q hM2_q hR2_q.2 H locs ls hP hD hS hl

set_option maxHeartbeats 1000000 in
set_option maxRecDepth 100000 in
theorem law_tree {p : Program} {l : Launch} {e : Env} {s : State} {m : MethodId} {below : List Frame} {meth : Method} {c : Code} {b L : Nat} {xs : Nat → Int32} {G : Gy} {h0 h1 i : Nat} (hL : L ≤ 3072) (hi : i + 6 ≤ L) (C0 : lw_At p s m meth c b L xs) (E : EV G (fun q : Nat => s.heap.size ≤ q) s s.heap) (xn : Int32) (xtold : Int32) (xsp : Int32) (xgr : Int32) (xfc : Nat → Int32) (xfk : Nat → Int32) (xlen : Int32) (xfsg : Nat → Int32) (xwa : Option PQ) (xwb : Option PQ) (xc0 : Nat) (xb0 : Nat) (mk : Nat) (mtold : Int32) (mla : Nat) (msp : Int32) (mfm : Nat → Int32) (mfk : Nat → Int32) (mpm : Nat) (mfpd : Nat → Int32) (mfz : Nat → Int32) (mfkp : Nat → Int32) (wx wm : va_W) (hC : CWd G h0 (xn, xtold, xsp, xgr, xfc, xfk, xlen, xfsg, xwa, xwb, xc0, xb0) wx) (hM : MWd G h1 (mk, mtold, mla, msp, mfm, mfk, mpm, mfpd, mfz, mfkp) wm) (hR : RELB xn xtold xsp xgr xfc xfk xlen xfsg xwa xwb mk mtold mla msp mfm mfk mpm mfpd mfz mfkp) {H : Heap} {locs : List Loc} {ls : Array Slot} (hP : va_P G.1 vwCl (wx ++ wm) H) (hD : va_D (fun q : Nat => s.heap.size ≤ q) (wx ++ wm)) (hS : va_S (fun q : Nat => s.heap.size ≤ q) s.heap H locs) (hl : lv_has ls 4 [(3, .int (nI i)), (2, .ref h1), (1, .ref h0), (0, .ref b)]) (ih : ∀ (xn : Int32) (xtold : Int32) (xsp : Int32) (xgr : Int32) (xfc : Nat → Int32) (xfk : Nat → Int32) (xlen : Int32) (xfsg : Nat → Int32) (xwa : Option PQ) (xwb : Option PQ) (xc0 : Nat) (xb0 : Nat) (mk : Nat) (mtold : Int32) (mla : Nat) (msp : Int32) (mfm : Nat → Int32) (mfk : Nat → Int32) (mpm : Nat) (mfpd : Nat → Int32) (mfz : Nat → Int32) (mfkp : Nat → Int32) (wx2 wm2 : va_W), CWd G h0 (xn, xtold, xsp, xgr, xfc, xfk, xlen, xfsg, xwa, xwb, xc0, xb0) wx2 → MWd G h1 (mk, mtold, mla, msp, mfm, mfk, mpm, mfpd, mfz, mfkp) wm2 → RELB xn xtold xsp xgr xfc xfk xlen xfsg xwa xwb mk mtold mla msp mfm mfk mpm mfpd mfz mfkp → ∀ (H1 : Heap) (locs1 : List Loc) (ls1 : Array Slot), va_P G.1 vwCl (wx2 ++ wm2) H1 → va_D (fun q : Nat => s.heap.size ≤ q) (wx2 ++ wm2) → va_S (fun q : Nat => s.heap.size ≤ q) s.heap H1 locs1 → lv_has ls1 4 [(3, .int (nI (i + 6))), (2, .ref h1), (1, .ref h0), (0, .ref b)] → W p l e room_1 s m #[Value.ref b] below meth c H1 locs1 (25 + cqN xwa xwb xc0 xb0) (94050 + sqN xwa xwb xc0 xb0) (lw_Z below #[Value.ref b] s) (F0 m 18 ls1 [])) : W p l e room_1 s m #[Value.ref b] below meth c H locs (25 + cqN xwa xwb xc0 xb0) (94050 + sqN xwa xwb xc0 xb0) (lw_Z below #[Value.ref b] s) (F0 m 520 ls []) := by
  obtain ⟨hx, hb, hr, hml, hown, hts0, hX, hbl, hlocks, hgv⟩ := id C0
  have hts : ∀ w ∈ wsL_law, w.before #[Value.ref b] s = true := fun w h => hts0 w (wsL_law_in w h)
  have hbA : ¬ (fun q : Nat => s.heap.size ≤ q) b := Nat.not_le.mpr hbl
  have hA : ∀ q : Nat, s.heap.size ≤ q → (fun q : Nat => s.heap.size ≤ q) q := fun _ h => h
  obtain ⟨hk2, hk6, hpm40, hla, hsp, hfm⟩ := mw_inv hM
  have hR0 := hR
  obtain ⟨rfl, rfl, rfl, rfl, rfl, rfl, hcr, -⟩ := hR
  refine lv_aload_n hx hb dL_law_520 rfl (lv_at hl 2 rfl) ?_
  refine lv_aload_n hx hb dL_law_521 rfl (lv_at hl 3 rfl) ?_
  refine lv_iload_n hx hb dL_law_522 rfl (lv_at hl 0 rfl) ?_
  refine lv_iconst (v := 1) hx hb dL_law_523 (by decide) ?_
  refine lv_iadd hx hb dL_law_524 ?_
  refine lv_topi (fun z1_q ez1_q => ?_)
  obtain rfl : z1_q = nI (i + 1) := by rw [ez1_q]; exact nI_add i 1
  refine va_sld hx hb hX hbl hbA hS (i := nI (i + 1)) (vp_in_nI (by omega) (by omega)) dL_law_525 ?_
  refine lv_topi (fun a0_q ea0_q => ?_)
  refine lv_aload_n hx hb dL_law_526 rfl (lv_at hl 3 rfl) ?_
  refine lv_iload_n hx hb dL_law_527 rfl (lv_at hl 0 rfl) ?_
  refine lv_iconst (v := 2) hx hb dL_law_528 (by decide) ?_
  refine lv_iadd hx hb dL_law_529 ?_
  refine lv_topi (fun z2_q ez2_q => ?_)
  obtain rfl : z2_q = nI (i + 2) := by rw [ez2_q]; exact nI_add i 2
  refine va_sld hx hb hX hbl hbA hS (i := nI (i + 2)) (vp_in_nI (by omega) (by omega)) dL_law_530 ?_
  refine lv_topi (fun a1_q ea1_q => ?_)
  refine lv_aload_n hx hb dL_law_531 rfl (lv_at hl 3 rfl) ?_
  refine lv_iload_n hx hb dL_law_532 rfl (lv_at hl 0 rfl) ?_
  refine lv_iconst (v := 3) hx hb dL_law_533 (by decide) ?_
  refine lv_iadd hx hb dL_law_534 ?_
  refine lv_topi (fun z3_q ez3_q => ?_)
  obtain rfl : z3_q = nI (i + 3) := by rw [ez3_q]; exact nI_add i 3
  refine va_sld hx hb hX hbl hbA hS (i := nI (i + 3)) (vp_in_nI (by omega) (by omega)) dL_law_535 ?_
  refine lv_topi (fun a2_q ea2_q => ?_)
  have hcq_q := cq_le hC
  obtain ⟨fs9_q, hhd_q⟩ := cw_head hC wm
  refine W_facts (fun hg => ?_)
  have hKx_q := K_left (x2_tree l G H h0 mk mpm mla mtold msp xfc xfk mfpd xwa xwb xc0 xb0 (maN mfm) wx hC hk2 hk6 hpm40 hla hcr hsp a0_q a1_q a2_q) wm
  refine ca_LS (ws := wx ++ wm) hg (va_runV (As := [.int a0_q, .int a1_q, .int a2_q]) (rest := []) ⟨hx, hb, hml, hown, hts⟩ hKx_q (cwV 3 hts gL_law_X9_tree rfl rfl rfl (by decide +kernel) ⟨by decide +kernel, by decide +kernel⟩) (pre_L E hP hD hS hA 0 5 rfl hhd_q) rfl rfl hl.1 rfl (lv_room (Nat.le_of_ble_eq_true rfl)) dL_law_536 ⟨show 25 + cqN xwa xwb xc0 xb0 + 40 ≤ 600000 by omega, show 94050 + sqN xwa xwb xc0 xb0 + 343880 ≤ 7302250 by omega⟩) hS hD hA (fun r1_q u1_q H locs hw hP hD hS => ?_)
  obtain ⟨w2_q, g1_q, n1_q⟩ := u1_q
  dsimp only at hw hP hD
  obtain ⟨wx2_q, rfl, kk1_q, bb1_q, hC2_q, hg1_q, hn1_q, hpc_q⟩ := hw
  refine lv_pop hx hb dL_law_539 rfl ?_
  refine lv_aload_n hx hb dL_law_540 rfl (lv_at hl 1 rfl) ?_
  refine lv_aload_n hx hb dL_law_541 rfl (lv_at hl 3 rfl) ?_
  refine lv_iload_n hx hb dL_law_542 rfl (lv_at hl 0 rfl) ?_
  refine lv_iconst (v := 1) hx hb dL_law_543 (by decide) ?_
  refine lv_iadd hx hb dL_law_544 ?_
  refine lv_topi (fun z4_q ez4_q => ?_)
  obtain rfl : z4_q = nI (i + 1) := by rw [ez4_q]; exact nI_add i 1
  refine va_sld hx hb hX hbl hbA hS (i := nI (i + 1)) (vp_in_nI (by omega) (by omega)) dL_law_545 ?_
  refine lv_topi (fun d0_q ed0_q => ?_)
  obtain rfl : a0_q = d0_q := by rw [ea0_q, ed0_q]
  refine lv_aload_n hx hb dL_law_546 rfl (lv_at hl 3 rfl) ?_
  refine lv_iload_n hx hb dL_law_547 rfl (lv_at hl 0 rfl) ?_
  refine lv_iconst (v := 2) hx hb dL_law_548 (by decide) ?_
  refine lv_iadd hx hb dL_law_549 ?_
  refine lv_topi (fun z5_q ez5_q => ?_)
  obtain rfl : z5_q = nI (i + 2) := by rw [ez5_q]; exact nI_add i 2
  refine va_sld hx hb hX hbl hbA hS (i := nI (i + 2)) (vp_in_nI (by omega) (by omega)) dL_law_550 ?_
  refine lv_topi (fun d1_q ed1_q => ?_)
  obtain rfl : a1_q = d1_q := by rw [ea1_q, ed1_q]
  refine lv_aload_n hx hb dL_law_551 rfl (lv_at hl 3 rfl) ?_
  refine lv_iload_n hx hb dL_law_552 rfl (lv_at hl 0 rfl) ?_
  refine lv_iconst (v := 3) hx hb dL_law_553 (by decide) ?_
  refine lv_iadd hx hb dL_law_554 ?_
  refine lv_topi (fun z6_q ez6_q => ?_)
  obtain rfl : z6_q = nI (i + 3) := by rw [ez6_q]; exact nI_add i 3
  refine va_sld hx hb hX hbl hbA hS (i := nI (i + 3)) (vp_in_nI (by omega) (by omega)) dL_law_555 ?_
  refine lv_topi (fun d2_q ed2_q => ?_)
  obtain rfl : a2_q = d2_q := by rw [ea2_q, ed2_q]
  have hcq2_q := cq_le hC2_q
  obtain ⟨fs8_q, hhd2_q⟩ := mw_head hM wx2_q
  refine W_facts (fun hg => ?_)
  have hKm_q := K_right (k_tree l G H h1 mk mtold mla msp mfm mfk mpm mfpd mfz mfkp wm hM a0_q a1_q a2_q) wx2_q
  refine ca_LS (ws := wx2_q ++ wm) hg (va_runV (As := [.int a0_q, .int a1_q, .int a2_q]) (rest := []) ⟨hx, hb, hml, hown, hts⟩ hKm_q (cwV 3 hts gL_law_X10_tree rfl rfl rfl (by decide +kernel) ⟨by decide +kernel, by decide +kernel⟩) (pre_L E hP hD hS hA wx2_q.length 6 rfl hhd2_q) rfl rfl hl.1 rfl (lv_room (Nat.le_of_ble_eq_true rfl)) dL_law_556 ⟨show 25 + cqN xwa xwb xc0 xb0 + g1_q + 0 ≤ 600000 by omega, show 94050 + sqN xwa xwb xc0 xb0 + n1_q + 0 ≤ 7302250 by omega⟩) hS hD hA (fun r2_q u2_q H locs hw hP hD hS => ?_)
  obtain ⟨w3_q, g2_q, n2_q⟩ := u2_q
  dsimp only at hw hP hD
  obtain ⟨wm2_q, rfl, hg2_q, hn2_q, q0__q, q1__q, q2__q, q3__q, q4__q, q5__q, q6__q, q7__q, q8__q, q9__q, hM2_q, hpm_q⟩ := hw
  have hR2_q := hR0
  refine lv_pop hx hb dL_law_559 rfl ?_
  refine lv_goto (tgt := 926) hx hb dL_law_560 (by decide) ?_
  obtain ⟨z9_q, ez9_q⟩ : ∃ yy_ : Int32, yy_ = nI i + 6 := ⟨_, rfl⟩
  refine lv_iinc (v := z9_q) (lv' := [(3, .int z9_q), (2, .ref h1), (1, .ref h0), (0, .ref b)]) hx hb dL_law_926 hl (k := 0) rfl (by rw [ez9_q]; rfl) (by decide) rfl (fun ls hl => ?_)
  obtain rfl : z9_q = nI (i + 6) := by rw [ez9_q]; exact nI_add i 6
  refine lv_goto (tgt := 18) hx hb dL_law_929 (by decide) ?_
  refine W_facts (fun hg => ?_)
  refine W_lower (k := 25 + cqN xwa xwb (xc0 + kk1_q) (xb0 + bb1_q)) (n := 94050 + sqN xwa xwb (xc0 + kk1_q) (xb0 + bb1_q)) (GF.wide hg (show 25 + cqN xwa xwb xc0 xb0 + g1_q + g2_q ≤ 25 + cqN xwa xwb (xc0 + kk1_q) (xb0 + bb1_q) by omega) (show 94050 + sqN xwa xwb xc0 xb0 + n1_q + n2_q ≤ 94050 + sqN xwa xwb (xc0 + kk1_q) (xb0 + bb1_q) by omega)) ?_
  exact ih (nI mk) mtold msp (nI (sc mk mla)) xfc xfk (nI mpm) mfpd xwa xwb (xc0 + kk1_q) (xb0 + bb1_q) mk mtold mla msp mfm mfk mpm mfpd mfz mfkp wx2_q wm2_q hC2_q hM2_q hR2_q H locs ls hP hD hS hl

set_option maxHeartbeats 1000000 in
set_option maxRecDepth 100000 in
theorem law_lost {p : Program} {l : Launch} {e : Env} {s : State} {m : MethodId} {below : List Frame} {meth : Method} {c : Code} {b L : Nat} {xs : Nat → Int32} {G : Gy} {h0 h1 i : Nat} (hL : L ≤ 3072) (hi : i + 6 ≤ L) (C0 : lw_At p s m meth c b L xs) (E : EV G (fun q : Nat => s.heap.size ≤ q) s s.heap) (xn : Int32) (xtold : Int32) (xsp : Int32) (xgr : Int32) (xfc : Nat → Int32) (xfk : Nat → Int32) (xlen : Int32) (xfsg : Nat → Int32) (xwa : Option PQ) (xwb : Option PQ) (xc0 : Nat) (xb0 : Nat) (mk : Nat) (mtold : Int32) (mla : Nat) (msp : Int32) (mfm : Nat → Int32) (mfk : Nat → Int32) (mpm : Nat) (mfpd : Nat → Int32) (mfz : Nat → Int32) (mfkp : Nat → Int32) (wx wm : va_W) (hC : CWd G h0 (xn, xtold, xsp, xgr, xfc, xfk, xlen, xfsg, xwa, xwb, xc0, xb0) wx) (hM : MWd G h1 (mk, mtold, mla, msp, mfm, mfk, mpm, mfpd, mfz, mfkp) wm) (hR : RELB xn xtold xsp xgr xfc xfk xlen xfsg xwa xwb mk mtold mla msp mfm mfk mpm mfpd mfz mfkp) {H : Heap} {locs : List Loc} {ls : Array Slot} (hP : va_P G.1 vwCl (wx ++ wm) H) (hD : va_D (fun q : Nat => s.heap.size ≤ q) (wx ++ wm)) (hS : va_S (fun q : Nat => s.heap.size ≤ q) s.heap H locs) (hl : lv_has ls 4 [(3, .int (nI i)), (2, .ref h1), (1, .ref h0), (0, .ref b)]) (ih : ∀ (xn : Int32) (xtold : Int32) (xsp : Int32) (xgr : Int32) (xfc : Nat → Int32) (xfk : Nat → Int32) (xlen : Int32) (xfsg : Nat → Int32) (xwa : Option PQ) (xwb : Option PQ) (xc0 : Nat) (xb0 : Nat) (mk : Nat) (mtold : Int32) (mla : Nat) (msp : Int32) (mfm : Nat → Int32) (mfk : Nat → Int32) (mpm : Nat) (mfpd : Nat → Int32) (mfz : Nat → Int32) (mfkp : Nat → Int32) (wx2 wm2 : va_W), CWd G h0 (xn, xtold, xsp, xgr, xfc, xfk, xlen, xfsg, xwa, xwb, xc0, xb0) wx2 → MWd G h1 (mk, mtold, mla, msp, mfm, mfk, mpm, mfpd, mfz, mfkp) wm2 → RELB xn xtold xsp xgr xfc xfk xlen xfsg xwa xwb mk mtold mla msp mfm mfk mpm mfpd mfz mfkp → ∀ (H1 : Heap) (locs1 : List Loc) (ls1 : Array Slot), va_P G.1 vwCl (wx2 ++ wm2) H1 → va_D (fun q : Nat => s.heap.size ≤ q) (wx2 ++ wm2) → va_S (fun q : Nat => s.heap.size ≤ q) s.heap H1 locs1 → lv_has ls1 4 [(3, .int (nI (i + 6))), (2, .ref h1), (1, .ref h0), (0, .ref b)] → W p l e room_1 s m #[Value.ref b] below meth c H1 locs1 (25 + cqN xwa xwb xc0 xb0) (94050 + sqN xwa xwb xc0 xb0) (lw_Z below #[Value.ref b] s) (F0 m 18 ls1 [])) : W p l e room_1 s m #[Value.ref b] below meth c H locs (25 + cqN xwa xwb xc0 xb0) (94050 + sqN xwa xwb xc0 xb0) (lw_Z below #[Value.ref b] s) (F0 m 563 ls []) := by
  obtain ⟨hx, hb, hr, hml, hown, hts0, hX, hbl, hlocks, hgv⟩ := id C0
  have hts : ∀ w ∈ wsL_law, w.before #[Value.ref b] s = true := fun w h => hts0 w (wsL_law_in w h)
  have hbA : ¬ (fun q : Nat => s.heap.size ≤ q) b := Nat.not_le.mpr hbl
  have hA : ∀ q : Nat, s.heap.size ≤ q → (fun q : Nat => s.heap.size ≤ q) q := fun _ h => h
  obtain ⟨hk2, hk6, hpm40, hla, hsp, hfm⟩ := mw_inv hM
  have hR0 := hR
  obtain ⟨rfl, rfl, rfl, rfl, rfl, rfl, hcr, -⟩ := hR
  refine lv_aload_n hx hb dL_law_563 rfl (lv_at hl 2 rfl) ?_
  refine lv_aload_n hx hb dL_law_564 rfl (lv_at hl 3 rfl) ?_
  refine lv_iload_n hx hb dL_law_565 rfl (lv_at hl 0 rfl) ?_
  refine lv_iconst (v := 1) hx hb dL_law_566 (by decide) ?_
  refine lv_iadd hx hb dL_law_567 ?_
  refine lv_topi (fun z1_q ez1_q => ?_)
  obtain rfl : z1_q = nI (i + 1) := by rw [ez1_q]; exact nI_add i 1
  refine va_sld hx hb hX hbl hbA hS (i := nI (i + 1)) (vp_in_nI (by omega) (by omega)) dL_law_568 ?_
  refine lv_topi (fun a0_q ea0_q => ?_)
  refine lv_aload_n hx hb dL_law_569 rfl (lv_at hl 3 rfl) ?_
  refine lv_iload_n hx hb dL_law_570 rfl (lv_at hl 0 rfl) ?_
  refine lv_iconst (v := 2) hx hb dL_law_571 (by decide) ?_
  refine lv_iadd hx hb dL_law_572 ?_
  refine lv_topi (fun z2_q ez2_q => ?_)
  obtain rfl : z2_q = nI (i + 2) := by rw [ez2_q]; exact nI_add i 2
  refine va_sld hx hb hX hbl hbA hS (i := nI (i + 2)) (vp_in_nI (by omega) (by omega)) dL_law_573 ?_
  refine lv_topi (fun a1_q ea1_q => ?_)
  refine lv_aload_n hx hb dL_law_574 rfl (lv_at hl 3 rfl) ?_
  refine lv_iload_n hx hb dL_law_575 rfl (lv_at hl 0 rfl) ?_
  refine lv_iconst (v := 3) hx hb dL_law_576 (by decide) ?_
  refine lv_iadd hx hb dL_law_577 ?_
  refine lv_topi (fun z3_q ez3_q => ?_)
  obtain rfl : z3_q = nI (i + 3) := by rw [ez3_q]; exact nI_add i 3
  refine va_sld hx hb hX hbl hbA hS (i := nI (i + 3)) (vp_in_nI (by omega) (by omega)) dL_law_578 ?_
  refine lv_topi (fun a2_q ea2_q => ?_)
  have hcq_q := cq_le hC
  obtain ⟨fs9_q, hhd_q⟩ := cw_head hC wm
  refine W_facts (fun hg => ?_)
  have hKx_q := K_left (x2_lost l G H h0 mk mpm mla mtold msp xfc xfk mfpd xwa xwb xc0 xb0 (maN mfm) wx hC hk2 hk6 hpm40 hla hcr hsp a0_q a1_q a2_q) wm
  refine ca_LS (ws := wx ++ wm) hg (va_runV (As := [.int a0_q, .int a1_q, .int a2_q]) (rest := []) ⟨hx, hb, hml, hown, hts⟩ hKx_q (cwV 3 hts gL_law_X9_lost rfl rfl rfl (by decide +kernel) ⟨by decide +kernel, by decide +kernel⟩) (pre_L E hP hD hS hA 0 5 rfl hhd_q) rfl rfl hl.1 rfl (lv_room (Nat.le_of_ble_eq_true rfl)) dL_law_579 ⟨show 25 + cqN xwa xwb xc0 xb0 + 33 ≤ 600000 by omega, show 94050 + sqN xwa xwb xc0 xb0 + 343827 ≤ 7302250 by omega⟩) hS hD hA (fun r1_q u1_q H locs hw hP hD hS => ?_)
  obtain ⟨w2_q, g1_q, n1_q⟩ := u1_q
  dsimp only at hw hP hD
  obtain ⟨wx2_q, rfl, kk1_q, hC2_q, hg1_q, hn1_q, hpc_q⟩ := hw
  refine lv_pop hx hb dL_law_582 rfl ?_
  refine lv_aload_n hx hb dL_law_583 rfl (lv_at hl 1 rfl) ?_
  refine lv_aload_n hx hb dL_law_584 rfl (lv_at hl 3 rfl) ?_
  refine lv_iload_n hx hb dL_law_585 rfl (lv_at hl 0 rfl) ?_
  refine lv_iconst (v := 1) hx hb dL_law_586 (by decide) ?_
  refine lv_iadd hx hb dL_law_587 ?_
  refine lv_topi (fun z4_q ez4_q => ?_)
  obtain rfl : z4_q = nI (i + 1) := by rw [ez4_q]; exact nI_add i 1
  refine va_sld hx hb hX hbl hbA hS (i := nI (i + 1)) (vp_in_nI (by omega) (by omega)) dL_law_588 ?_
  refine lv_topi (fun d0_q ed0_q => ?_)
  obtain rfl : a0_q = d0_q := by rw [ea0_q, ed0_q]
  refine lv_aload_n hx hb dL_law_589 rfl (lv_at hl 3 rfl) ?_
  refine lv_iload_n hx hb dL_law_590 rfl (lv_at hl 0 rfl) ?_
  refine lv_iconst (v := 2) hx hb dL_law_591 (by decide) ?_
  refine lv_iadd hx hb dL_law_592 ?_
  refine lv_topi (fun z5_q ez5_q => ?_)
  obtain rfl : z5_q = nI (i + 2) := by rw [ez5_q]; exact nI_add i 2
  refine va_sld hx hb hX hbl hbA hS (i := nI (i + 2)) (vp_in_nI (by omega) (by omega)) dL_law_593 ?_
  refine lv_topi (fun d1_q ed1_q => ?_)
  obtain rfl : a1_q = d1_q := by rw [ea1_q, ed1_q]
  refine lv_aload_n hx hb dL_law_594 rfl (lv_at hl 3 rfl) ?_
  refine lv_iload_n hx hb dL_law_595 rfl (lv_at hl 0 rfl) ?_
  refine lv_iconst (v := 3) hx hb dL_law_596 (by decide) ?_
  refine lv_iadd hx hb dL_law_597 ?_
  refine lv_topi (fun z6_q ez6_q => ?_)
  obtain rfl : z6_q = nI (i + 3) := by rw [ez6_q]; exact nI_add i 3
  refine va_sld hx hb hX hbl hbA hS (i := nI (i + 3)) (vp_in_nI (by omega) (by omega)) dL_law_598 ?_
  refine lv_topi (fun d2_q ed2_q => ?_)
  obtain rfl : a2_q = d2_q := by rw [ea2_q, ed2_q]
  have hcq2_q := cq_le hC2_q
  obtain ⟨fs8_q, hhd2_q⟩ := mw_head hM wx2_q
  refine W_facts (fun hg => ?_)
  have hKm_q := K_right (k2_lost l G H h1 mk mtold mla msp mfm mfk mpm mfpd mfz mfkp wm hM a0_q a1_q a2_q) wx2_q
  refine ca_LS (ws := wx2_q ++ wm) hg (va_runV (As := [.int a0_q, .int a1_q, .int a2_q]) (rest := []) ⟨hx, hb, hml, hown, hts⟩ hKm_q (cwV 3 hts gL_law_X10_lost rfl rfl rfl (by decide +kernel) ⟨by decide +kernel, by decide +kernel⟩) (pre_L E hP hD hS hA wx2_q.length 6 rfl hhd2_q) rfl rfl hl.1 rfl (lv_room (Nat.le_of_ble_eq_true rfl)) dL_law_599 ⟨show 25 + cqN xwa xwb xc0 xb0 + g1_q + 0 ≤ 600000 by omega, show 94050 + sqN xwa xwb xc0 xb0 + n1_q + 0 ≤ 7302250 by omega⟩) hS hD hA (fun r2_q u2_q H locs hw hP hD hS => ?_)
  obtain ⟨w3_q, g2_q, n2_q⟩ := u2_q
  dsimp only at hw hP hD
  obtain ⟨wm2_q, rfl, hg2_q, hn2_q, q1__q, q2__q, hM2_q, hpm_q⟩ := hw
  have hR2_q := And.intro (hpc_q.trans ((lsA_congr hR0.2.2.2.2.2.2.2.1).trans hpm_q.symm)) hR0
  refine lv_pop hx hb dL_law_602 rfl ?_
  refine lv_goto (tgt := 926) hx hb dL_law_603 (by decide) ?_
  obtain ⟨z9_q, ez9_q⟩ : ∃ yy_ : Int32, yy_ = nI i + 6 := ⟨_, rfl⟩
  refine lv_iinc (v := z9_q) (lv' := [(3, .int z9_q), (2, .ref h1), (1, .ref h0), (0, .ref b)]) hx hb dL_law_926 hl (k := 0) rfl (by rw [ez9_q]; rfl) (by decide) rfl (fun ls hl => ?_)
  obtain rfl : z9_q = nI (i + 6) := by rw [ez9_q]; exact nI_add i 6
  refine lv_goto (tgt := 18) hx hb dL_law_929 (by decide) ?_
  refine W_facts (fun hg => ?_)
  refine W_lower (k := 25 + cqN xwa xwb (xc0 + kk1_q) xb0) (n := 94050 + sqN xwa xwb (xc0 + kk1_q) xb0) (GF.wide hg (show 25 + cqN xwa xwb xc0 xb0 + g1_q + g2_q ≤ 25 + cqN xwa xwb (xc0 + kk1_q) xb0 by omega) (show 94050 + sqN xwa xwb xc0 xb0 + n1_q + n2_q ≤ 94050 + sqN xwa xwb (xc0 + kk1_q) xb0 by omega)) ?_
  exact ih (nI mk) mtold msp (nI (sc mk mla)) xfc xfk (nI mpm) mfpd xwa xwb (xc0 + kk1_q) xb0 mk mtold mla msp mfm mfk mpm mfpd mfz mfkp wx2_q wm2_q hC2_q hM2_q hR2_q.2 H locs ls hP hD hS hl

set_option maxHeartbeats 1000000 in
set_option maxRecDepth 100000 in
theorem law_wished {p : Program} {l : Launch} {e : Env} {s : State} {m : MethodId} {below : List Frame} {meth : Method} {c : Code} {b L : Nat} {xs : Nat → Int32} {G : Gy} {h0 h1 i : Nat} (hL : L ≤ 3072) (hi : i + 6 ≤ L) (C0 : lw_At p s m meth c b L xs) (E : EV G (fun q : Nat => s.heap.size ≤ q) s s.heap) (xn : Int32) (xtold : Int32) (xsp : Int32) (xgr : Int32) (xfc : Nat → Int32) (xfk : Nat → Int32) (xlen : Int32) (xfsg : Nat → Int32) (xwa : Option PQ) (xwb : Option PQ) (xc0 : Nat) (xb0 : Nat) (mk : Nat) (mtold : Int32) (mla : Nat) (msp : Int32) (mfm : Nat → Int32) (mfk : Nat → Int32) (mpm : Nat) (mfpd : Nat → Int32) (mfz : Nat → Int32) (mfkp : Nat → Int32) (wx wm : va_W) (hC : CWd G h0 (xn, xtold, xsp, xgr, xfc, xfk, xlen, xfsg, xwa, xwb, xc0, xb0) wx) (hM : MWd G h1 (mk, mtold, mla, msp, mfm, mfk, mpm, mfpd, mfz, mfkp) wm) (hR : RELB xn xtold xsp xgr xfc xfk xlen xfsg xwa xwb mk mtold mla msp mfm mfk mpm mfpd mfz mfkp) {H : Heap} {locs : List Loc} {ls : Array Slot} (hP : va_P G.1 vwCl (wx ++ wm) H) (hD : va_D (fun q : Nat => s.heap.size ≤ q) (wx ++ wm)) (hS : va_S (fun q : Nat => s.heap.size ≤ q) s.heap H locs) (hl : lv_has ls 4 [(3, .int (nI i)), (2, .ref h1), (1, .ref h0), (0, .ref b)]) (ih : ∀ (xn : Int32) (xtold : Int32) (xsp : Int32) (xgr : Int32) (xfc : Nat → Int32) (xfk : Nat → Int32) (xlen : Int32) (xfsg : Nat → Int32) (xwa : Option PQ) (xwb : Option PQ) (xc0 : Nat) (xb0 : Nat) (mk : Nat) (mtold : Int32) (mla : Nat) (msp : Int32) (mfm : Nat → Int32) (mfk : Nat → Int32) (mpm : Nat) (mfpd : Nat → Int32) (mfz : Nat → Int32) (mfkp : Nat → Int32) (wx2 wm2 : va_W), CWd G h0 (xn, xtold, xsp, xgr, xfc, xfk, xlen, xfsg, xwa, xwb, xc0, xb0) wx2 → MWd G h1 (mk, mtold, mla, msp, mfm, mfk, mpm, mfpd, mfz, mfkp) wm2 → RELB xn xtold xsp xgr xfc xfk xlen xfsg xwa xwb mk mtold mla msp mfm mfk mpm mfpd mfz mfkp → ∀ (H1 : Heap) (locs1 : List Loc) (ls1 : Array Slot), va_P G.1 vwCl (wx2 ++ wm2) H1 → va_D (fun q : Nat => s.heap.size ≤ q) (wx2 ++ wm2) → va_S (fun q : Nat => s.heap.size ≤ q) s.heap H1 locs1 → lv_has ls1 4 [(3, .int (nI (i + 6))), (2, .ref h1), (1, .ref h0), (0, .ref b)] → W p l e room_1 s m #[Value.ref b] below meth c H1 locs1 (25 + cqN xwa xwb xc0 xb0) (94050 + sqN xwa xwb xc0 xb0) (lw_Z below #[Value.ref b] s) (F0 m 18 ls1 [])) : W p l e room_1 s m #[Value.ref b] below meth c H locs (25 + cqN xwa xwb xc0 xb0) (94050 + sqN xwa xwb xc0 xb0) (lw_Z below #[Value.ref b] s) (F0 m 606 ls []) := by
  obtain ⟨hx, hb, hr, hml, hown, hts0, hX, hbl, hlocks, hgv⟩ := id C0
  have hts : ∀ w ∈ wsL_law, w.before #[Value.ref b] s = true := fun w h => hts0 w (wsL_law_in w h)
  have hbA : ¬ (fun q : Nat => s.heap.size ≤ q) b := Nat.not_le.mpr hbl
  have hA : ∀ q : Nat, s.heap.size ≤ q → (fun q : Nat => s.heap.size ≤ q) q := fun _ h => h
  obtain ⟨hk2, hk6, hpm40, hla, hsp, hfm⟩ := mw_inv hM
  have hR0 := hR
  obtain ⟨rfl, rfl, rfl, rfl, rfl, rfl, hcr, -⟩ := hR
  refine lv_aload_n hx hb dL_law_606 rfl (lv_at hl 2 rfl) ?_
  refine lv_aload_n hx hb dL_law_607 rfl (lv_at hl 3 rfl) ?_
  refine lv_iload_n hx hb dL_law_608 rfl (lv_at hl 0 rfl) ?_
  refine lv_iconst (v := 1) hx hb dL_law_609 (by decide) ?_
  refine lv_iadd hx hb dL_law_610 ?_
  refine lv_topi (fun z1_q ez1_q => ?_)
  obtain rfl : z1_q = nI (i + 1) := by rw [ez1_q]; exact nI_add i 1
  refine va_sld hx hb hX hbl hbA hS (i := nI (i + 1)) (vp_in_nI (by omega) (by omega)) dL_law_611 ?_
  refine lv_topi (fun a0_q ea0_q => ?_)
  refine lv_aload_n hx hb dL_law_612 rfl (lv_at hl 3 rfl) ?_
  refine lv_iload_n hx hb dL_law_613 rfl (lv_at hl 0 rfl) ?_
  refine lv_iconst (v := 2) hx hb dL_law_614 (by decide) ?_
  refine lv_iadd hx hb dL_law_615 ?_
  refine lv_topi (fun z2_q ez2_q => ?_)
  obtain rfl : z2_q = nI (i + 2) := by rw [ez2_q]; exact nI_add i 2
  refine va_sld hx hb hX hbl hbA hS (i := nI (i + 2)) (vp_in_nI (by omega) (by omega)) dL_law_616 ?_
  refine lv_topi (fun a1_q ea1_q => ?_)
  refine lv_aload_n hx hb dL_law_617 rfl (lv_at hl 3 rfl) ?_
  refine lv_iload_n hx hb dL_law_618 rfl (lv_at hl 0 rfl) ?_
  refine lv_iconst (v := 3) hx hb dL_law_619 (by decide) ?_
  refine lv_iadd hx hb dL_law_620 ?_
  refine lv_topi (fun z3_q ez3_q => ?_)
  obtain rfl : z3_q = nI (i + 3) := by rw [ez3_q]; exact nI_add i 3
  refine va_sld hx hb hX hbl hbA hS (i := nI (i + 3)) (vp_in_nI (by omega) (by omega)) dL_law_621 ?_
  refine lv_topi (fun a2_q ea2_q => ?_)
  refine lv_aload_n hx hb dL_law_622 rfl (lv_at hl 3 rfl) ?_
  refine lv_iload_n hx hb dL_law_623 rfl (lv_at hl 0 rfl) ?_
  refine lv_iconst (v := 4) hx hb dL_law_624 (by decide) ?_
  refine lv_iadd hx hb dL_law_625 ?_
  refine lv_topi (fun z4_q ez4_q => ?_)
  obtain rfl : z4_q = nI (i + 4) := by rw [ez4_q]; exact nI_add i 4
  refine va_sld hx hb hX hbl hbA hS (i := nI (i + 4)) (vp_in_nI (by omega) (by omega)) dL_law_626 ?_
  refine lv_topi (fun a3_q ea3_q => ?_)
  have hcq_q := cq_le hC
  obtain ⟨fs9_q, hhd_q⟩ := cw_head hC wm
  refine W_facts (fun hg => ?_)
  have hKx_q := K_left (x2_wished l G H h0 mk mpm mla mtold msp xfc xfk mfpd xwa xwb xc0 xb0 (maN mfm) wx hC hk2 hk6 hpm40 hla hcr hsp a0_q a1_q a2_q a3_q) wm
  refine ca_LS (ws := wx ++ wm) hg (va_runV (As := [.int a0_q, .int a1_q, .int a2_q, .int a3_q]) (rest := []) ⟨hx, hb, hml, hown, hts⟩ hKx_q (cwV 4 hts gL_law_X9_wished rfl rfl rfl (by decide +kernel) ⟨by decide +kernel, by decide +kernel⟩) (pre_L E hP hD hS hA 0 5 rfl hhd_q) rfl rfl hl.1 rfl (lv_room (Nat.le_of_ble_eq_true rfl)) dL_law_627 ⟨show 25 + cqN xwa xwb xc0 xb0 + 6 ≤ 600000 by omega, show 94050 + sqN xwa xwb xc0 xb0 + 62514 ≤ 7302250 by omega⟩) hS hD hA (fun r1_q u1_q H locs hw hP hD hS => ?_)
  obtain ⟨w2_q, g1_q, n1_q⟩ := u1_q
  dsimp only at hw hP hD
  obtain ⟨wx2_q, rfl, kk1_q, hC2_q, hg1_q, hn1_q, hpc_q⟩ := hw
  refine lv_aload_n hx hb dL_law_630 rfl (lv_at hl 1 rfl) ?_
  refine lv_aload_n hx hb dL_law_631 rfl (lv_at hl 3 rfl) ?_
  refine lv_iload_n hx hb dL_law_632 rfl (lv_at hl 0 rfl) ?_
  refine lv_iconst (v := 1) hx hb dL_law_633 (by decide) ?_
  refine lv_iadd hx hb dL_law_634 ?_
  refine lv_topi (fun z5_q ez5_q => ?_)
  obtain rfl : z5_q = nI (i + 1) := by rw [ez5_q]; exact nI_add i 1
  refine va_sld hx hb hX hbl hbA hS (i := nI (i + 1)) (vp_in_nI (by omega) (by omega)) dL_law_635 ?_
  refine lv_topi (fun d0_q ed0_q => ?_)
  obtain rfl : a0_q = d0_q := by rw [ea0_q, ed0_q]
  refine lv_aload_n hx hb dL_law_636 rfl (lv_at hl 3 rfl) ?_
  refine lv_iload_n hx hb dL_law_637 rfl (lv_at hl 0 rfl) ?_
  refine lv_iconst (v := 2) hx hb dL_law_638 (by decide) ?_
  refine lv_iadd hx hb dL_law_639 ?_
  refine lv_topi (fun z6_q ez6_q => ?_)
  obtain rfl : z6_q = nI (i + 2) := by rw [ez6_q]; exact nI_add i 2
  refine va_sld hx hb hX hbl hbA hS (i := nI (i + 2)) (vp_in_nI (by omega) (by omega)) dL_law_640 ?_
  refine lv_topi (fun d1_q ed1_q => ?_)
  obtain rfl : a1_q = d1_q := by rw [ea1_q, ed1_q]
  refine lv_aload_n hx hb dL_law_641 rfl (lv_at hl 3 rfl) ?_
  refine lv_iload_n hx hb dL_law_642 rfl (lv_at hl 0 rfl) ?_
  refine lv_iconst (v := 3) hx hb dL_law_643 (by decide) ?_
  refine lv_iadd hx hb dL_law_644 ?_
  refine lv_topi (fun z7_q ez7_q => ?_)
  obtain rfl : z7_q = nI (i + 3) := by rw [ez7_q]; exact nI_add i 3
  refine va_sld hx hb hX hbl hbA hS (i := nI (i + 3)) (vp_in_nI (by omega) (by omega)) dL_law_645 ?_
  refine lv_topi (fun d2_q ed2_q => ?_)
  obtain rfl : a2_q = d2_q := by rw [ea2_q, ed2_q]
  refine lv_aload_n hx hb dL_law_646 rfl (lv_at hl 3 rfl) ?_
  refine lv_iload_n hx hb dL_law_647 rfl (lv_at hl 0 rfl) ?_
  refine lv_iconst (v := 4) hx hb dL_law_648 (by decide) ?_
  refine lv_iadd hx hb dL_law_649 ?_
  refine lv_topi (fun z8_q ez8_q => ?_)
  obtain rfl : z8_q = nI (i + 4) := by rw [ez8_q]; exact nI_add i 4
  refine va_sld hx hb hX hbl hbA hS (i := nI (i + 4)) (vp_in_nI (by omega) (by omega)) dL_law_650 ?_
  refine lv_topi (fun d3_q ed3_q => ?_)
  obtain rfl : a3_q = d3_q := by rw [ea3_q, ed3_q]
  have hcq2_q := cq_le hC2_q
  obtain ⟨fs8_q, hhd2_q⟩ := mw_head hM wx2_q
  refine W_facts (fun hg => ?_)
  have hKm_q := K_right (k2_wished l G H h1 mk mtold mla msp mfm mfk mpm mfpd mfz mfkp wm hM a0_q a1_q a2_q a3_q) wx2_q
  refine ca_LS (ws := wx2_q ++ wm) hg (va_runV (As := [.int a0_q, .int a1_q, .int a2_q, .int a3_q]) (rest := [.int r1_q]) ⟨hx, hb, hml, hown, hts⟩ hKm_q (cwV 4 hts gL_law_X10_wished rfl rfl rfl (by decide +kernel) ⟨by decide +kernel, by decide +kernel⟩) (pre_L E hP hD hS hA wx2_q.length 6 rfl hhd2_q) rfl rfl hl.1 rfl (lv_room (Nat.le_of_ble_eq_true rfl)) dL_law_651 ⟨show 25 + cqN xwa xwb xc0 xb0 + g1_q + 0 ≤ 600000 by omega, show 94050 + sqN xwa xwb xc0 xb0 + n1_q + 0 ≤ 7302250 by omega⟩) hS hD hA (fun r2_q u2_q H locs hw hP hD hS => ?_)
  obtain ⟨w3_q, g2_q, n2_q⟩ := u2_q
  dsimp only at hw hP hD
  obtain ⟨wm2_q, rfl, hg2_q, hn2_q, q0__q, q1__q, q2__q, q3__q, q4__q, hM2_q, hpm_q⟩ := hw
  have hR2_q := And.intro (wsP_fun hpm40 hR0.2.2.2.2.2.2.2.1 (fun _ _ => rfl) hpc_q hpm_q) hR0
  refine lv_icmp_eq (tgt := 926) hx hb dL_law_654 (by decide) (fun _ => ?_) (fun c9 => absurd hR2_q.1 c9)
  obtain ⟨z9_q, ez9_q⟩ : ∃ yy_ : Int32, yy_ = nI i + 6 := ⟨_, rfl⟩
  refine lv_iinc (v := z9_q) (lv' := [(3, .int z9_q), (2, .ref h1), (1, .ref h0), (0, .ref b)]) hx hb dL_law_926 hl (k := 0) rfl (by rw [ez9_q]; rfl) (by decide) rfl (fun ls hl => ?_)
  obtain rfl : z9_q = nI (i + 6) := by rw [ez9_q]; exact nI_add i 6
  refine lv_goto (tgt := 18) hx hb dL_law_929 (by decide) ?_
  refine W_facts (fun hg => ?_)
  refine W_lower (k := 25 + cqN xwa xwb (xc0 + kk1_q) xb0) (n := 94050 + sqN xwa xwb (xc0 + kk1_q) xb0) (GF.wide hg (show 25 + cqN xwa xwb xc0 xb0 + g1_q + g2_q ≤ 25 + cqN xwa xwb (xc0 + kk1_q) xb0 by omega) (show 94050 + sqN xwa xwb xc0 xb0 + n1_q + n2_q ≤ 94050 + sqN xwa xwb (xc0 + kk1_q) xb0 by omega)) ?_
  exact ih (nI mk) mtold msp (nI (sc mk mla)) xfc xfk (nI mpm) mfpd xwa xwb (xc0 + kk1_q) xb0 mk mtold mla msp mfm mfk mpm mfpd mfz mfkp wx2_q wm2_q hC2_q hM2_q hR2_q.2 H locs ls hP hD hS hl

set_option maxHeartbeats 1000000 in
set_option maxRecDepth 100000 in
theorem law_holds {p : Program} {l : Launch} {e : Env} {s : State} {m : MethodId} {below : List Frame} {meth : Method} {c : Code} {b L : Nat} {xs : Nat → Int32} {G : Gy} {h0 h1 i : Nat} (hL : L ≤ 3072) (hi : i + 6 ≤ L) (C0 : lw_At p s m meth c b L xs) (E : EV G (fun q : Nat => s.heap.size ≤ q) s s.heap) (xn : Int32) (xtold : Int32) (xsp : Int32) (xgr : Int32) (xfc : Nat → Int32) (xfk : Nat → Int32) (xlen : Int32) (xfsg : Nat → Int32) (xwa : Option PQ) (xwb : Option PQ) (xc0 : Nat) (xb0 : Nat) (mk : Nat) (mtold : Int32) (mla : Nat) (msp : Int32) (mfm : Nat → Int32) (mfk : Nat → Int32) (mpm : Nat) (mfpd : Nat → Int32) (mfz : Nat → Int32) (mfkp : Nat → Int32) (wx wm : va_W) (hC : CWd G h0 (xn, xtold, xsp, xgr, xfc, xfk, xlen, xfsg, xwa, xwb, xc0, xb0) wx) (hM : MWd G h1 (mk, mtold, mla, msp, mfm, mfk, mpm, mfpd, mfz, mfkp) wm) (hR : RELB xn xtold xsp xgr xfc xfk xlen xfsg xwa xwb mk mtold mla msp mfm mfk mpm mfpd mfz mfkp) {H : Heap} {locs : List Loc} {ls : Array Slot} (hP : va_P G.1 vwCl (wx ++ wm) H) (hD : va_D (fun q : Nat => s.heap.size ≤ q) (wx ++ wm)) (hS : va_S (fun q : Nat => s.heap.size ≤ q) s.heap H locs) (hl : lv_has ls 4 [(3, .int (nI i)), (2, .ref h1), (1, .ref h0), (0, .ref b)]) (ih : ∀ (xn : Int32) (xtold : Int32) (xsp : Int32) (xgr : Int32) (xfc : Nat → Int32) (xfk : Nat → Int32) (xlen : Int32) (xfsg : Nat → Int32) (xwa : Option PQ) (xwb : Option PQ) (xc0 : Nat) (xb0 : Nat) (mk : Nat) (mtold : Int32) (mla : Nat) (msp : Int32) (mfm : Nat → Int32) (mfk : Nat → Int32) (mpm : Nat) (mfpd : Nat → Int32) (mfz : Nat → Int32) (mfkp : Nat → Int32) (wx2 wm2 : va_W), CWd G h0 (xn, xtold, xsp, xgr, xfc, xfk, xlen, xfsg, xwa, xwb, xc0, xb0) wx2 → MWd G h1 (mk, mtold, mla, msp, mfm, mfk, mpm, mfpd, mfz, mfkp) wm2 → RELB xn xtold xsp xgr xfc xfk xlen xfsg xwa xwb mk mtold mla msp mfm mfk mpm mfpd mfz mfkp → ∀ (H1 : Heap) (locs1 : List Loc) (ls1 : Array Slot), va_P G.1 vwCl (wx2 ++ wm2) H1 → va_D (fun q : Nat => s.heap.size ≤ q) (wx2 ++ wm2) → va_S (fun q : Nat => s.heap.size ≤ q) s.heap H1 locs1 → lv_has ls1 4 [(3, .int (nI (i + 6))), (2, .ref h1), (1, .ref h0), (0, .ref b)] → W p l e room_1 s m #[Value.ref b] below meth c H1 locs1 (25 + cqN xwa xwb xc0 xb0) (94050 + sqN xwa xwb xc0 xb0) (lw_Z below #[Value.ref b] s) (F0 m 18 ls1 [])) : W p l e room_1 s m #[Value.ref b] below meth c H locs (25 + cqN xwa xwb xc0 xb0) (94050 + sqN xwa xwb xc0 xb0) (lw_Z below #[Value.ref b] s) (F0 m 659 ls []) := by
  obtain ⟨hx, hb, hr, hml, hown, hts0, hX, hbl, hlocks, hgv⟩ := id C0
  have hts : ∀ w ∈ wsL_law, w.before #[Value.ref b] s = true := fun w h => hts0 w (wsL_law_in w h)
  have hbA : ¬ (fun q : Nat => s.heap.size ≤ q) b := Nat.not_le.mpr hbl
  have hA : ∀ q : Nat, s.heap.size ≤ q → (fun q : Nat => s.heap.size ≤ q) q := fun _ h => h
  obtain ⟨hk2, hk6, hpm40, hla, hsp, hfm⟩ := mw_inv hM
  have hR0 := hR
  obtain ⟨rfl, rfl, rfl, rfl, rfl, rfl, hcr, -⟩ := hR
  refine lv_aload_n hx hb dL_law_659 rfl (lv_at hl 2 rfl) ?_
  refine lv_aload_n hx hb dL_law_660 rfl (lv_at hl 3 rfl) ?_
  refine lv_iload_n hx hb dL_law_661 rfl (lv_at hl 0 rfl) ?_
  refine lv_iconst (v := 1) hx hb dL_law_662 (by decide) ?_
  refine lv_iadd hx hb dL_law_663 ?_
  refine lv_topi (fun z1_q ez1_q => ?_)
  obtain rfl : z1_q = nI (i + 1) := by rw [ez1_q]; exact nI_add i 1
  refine va_sld hx hb hX hbl hbA hS (i := nI (i + 1)) (vp_in_nI (by omega) (by omega)) dL_law_664 ?_
  refine lv_topi (fun a0_q ea0_q => ?_)
  refine lv_aload_n hx hb dL_law_665 rfl (lv_at hl 3 rfl) ?_
  refine lv_iload_n hx hb dL_law_666 rfl (lv_at hl 0 rfl) ?_
  refine lv_iconst (v := 2) hx hb dL_law_667 (by decide) ?_
  refine lv_iadd hx hb dL_law_668 ?_
  refine lv_topi (fun z2_q ez2_q => ?_)
  obtain rfl : z2_q = nI (i + 2) := by rw [ez2_q]; exact nI_add i 2
  refine va_sld hx hb hX hbl hbA hS (i := nI (i + 2)) (vp_in_nI (by omega) (by omega)) dL_law_669 ?_
  refine lv_topi (fun a1_q ea1_q => ?_)
  have hcq_q := cq_le hC
  obtain ⟨fs9_q, hhd_q⟩ := cw_head hC wm
  refine W_facts (fun hg => ?_)
  have hKx_q := K_left (x2_holds l G H h0 mk mpm mla mtold msp xfc xfk mfpd xwa xwb xc0 xb0 (maN mfm) wx hC hk2 hk6 hpm40 hla hcr hsp a0_q a1_q) wm
  refine ca_LS (ws := wx ++ wm) hg (va_runV (As := [.int a0_q, .int a1_q]) (rest := []) ⟨hx, hb, hml, hown, hts⟩ hKx_q (cwV 2 hts gL_law_X9_holds rfl rfl rfl (by decide +kernel) ⟨by decide +kernel, by decide +kernel⟩) (pre_L E hP hD hS hA 0 5 rfl hhd_q) rfl rfl hl.1 rfl (lv_room (Nat.le_of_ble_eq_true rfl)) dL_law_670 ⟨show 25 + cqN xwa xwb xc0 xb0 + 0 ≤ 600000 by omega, show 94050 + sqN xwa xwb xc0 xb0 + 0 ≤ 7302250 by omega⟩) hS hD hA (fun r1_q u1_q H locs hw hP hD hS => ?_)
  obtain ⟨w2_q, g1_q, n1_q⟩ := u1_q
  dsimp only at hw hP hD
  obtain ⟨wx2_q, rfl, hC2_q, hg1_q, hn1_q, hpc_q⟩ := hw
  refine lv_pop hx hb dL_law_673 rfl ?_
  refine lv_aload_n hx hb dL_law_674 rfl (lv_at hl 1 rfl) ?_
  refine lv_aload_n hx hb dL_law_675 rfl (lv_at hl 3 rfl) ?_
  refine lv_iload_n hx hb dL_law_676 rfl (lv_at hl 0 rfl) ?_
  refine lv_iconst (v := 1) hx hb dL_law_677 (by decide) ?_
  refine lv_iadd hx hb dL_law_678 ?_
  refine lv_topi (fun z3_q ez3_q => ?_)
  obtain rfl : z3_q = nI (i + 1) := by rw [ez3_q]; exact nI_add i 1
  refine va_sld hx hb hX hbl hbA hS (i := nI (i + 1)) (vp_in_nI (by omega) (by omega)) dL_law_679 ?_
  refine lv_topi (fun d0_q ed0_q => ?_)
  obtain rfl : a0_q = d0_q := by rw [ea0_q, ed0_q]
  refine lv_aload_n hx hb dL_law_680 rfl (lv_at hl 3 rfl) ?_
  refine lv_iload_n hx hb dL_law_681 rfl (lv_at hl 0 rfl) ?_
  refine lv_iconst (v := 2) hx hb dL_law_682 (by decide) ?_
  refine lv_iadd hx hb dL_law_683 ?_
  refine lv_topi (fun z4_q ez4_q => ?_)
  obtain rfl : z4_q = nI (i + 2) := by rw [ez4_q]; exact nI_add i 2
  refine va_sld hx hb hX hbl hbA hS (i := nI (i + 2)) (vp_in_nI (by omega) (by omega)) dL_law_684 ?_
  refine lv_topi (fun d1_q ed1_q => ?_)
  obtain rfl : a1_q = d1_q := by rw [ea1_q, ed1_q]
  have hcq2_q := cq_le hC2_q
  obtain ⟨fs8_q, hhd2_q⟩ := mw_head hM wx2_q
  refine W_facts (fun hg => ?_)
  have hKm_q := K_right (k2_holds l G H h1 mk mtold mla msp mfm mfk mpm mfpd mfz mfkp wm hM a0_q a1_q) wx2_q
  refine ca_LS (ws := wx2_q ++ wm) hg (va_runV (As := [.int a0_q, .int a1_q]) (rest := []) ⟨hx, hb, hml, hown, hts⟩ hKm_q (cwV 2 hts gL_law_X10_holds rfl rfl rfl (by decide +kernel) ⟨by decide +kernel, by decide +kernel⟩) (pre_L E hP hD hS hA wx2_q.length 6 rfl hhd2_q) rfl rfl hl.1 rfl (lv_room (Nat.le_of_ble_eq_true rfl)) dL_law_685 ⟨show 25 + cqN xwa xwb xc0 xb0 + g1_q + 0 ≤ 600000 by omega, show 94050 + sqN xwa xwb xc0 xb0 + n1_q + 0 ≤ 7302250 by omega⟩) hS hD hA (fun r2_q u2_q H locs hw hP hD hS => ?_)
  obtain ⟨w3_q, g2_q, n2_q⟩ := u2_q
  dsimp only at hw hP hD
  obtain ⟨wm2_q, rfl, hg2_q, hn2_q, hM2_q, hpm_q⟩ := hw
  have hR2_q := And.intro (hpc_q.trans hpm_q.symm) hR0
  refine lv_pop hx hb dL_law_688 rfl ?_
  refine lv_goto (tgt := 926) hx hb dL_law_689 (by decide) ?_
  obtain ⟨z9_q, ez9_q⟩ : ∃ yy_ : Int32, yy_ = nI i + 6 := ⟨_, rfl⟩
  refine lv_iinc (v := z9_q) (lv' := [(3, .int z9_q), (2, .ref h1), (1, .ref h0), (0, .ref b)]) hx hb dL_law_926 hl (k := 0) rfl (by rw [ez9_q]; rfl) (by decide) rfl (fun ls hl => ?_)
  obtain rfl : z9_q = nI (i + 6) := by rw [ez9_q]; exact nI_add i 6
  refine lv_goto (tgt := 18) hx hb dL_law_929 (by decide) ?_
  refine W_facts (fun hg => ?_)
  refine W_lower (k := 25 + cqN xwa xwb xc0 xb0) (n := 94050 + sqN xwa xwb xc0 xb0) (GF.wide hg (show 25 + cqN xwa xwb xc0 xb0 + g1_q + g2_q ≤ 25 + cqN xwa xwb xc0 xb0 by omega) (show 94050 + sqN xwa xwb xc0 xb0 + n1_q + n2_q ≤ 94050 + sqN xwa xwb xc0 xb0 by omega)) ?_
  exact ih (nI mk) mtold msp (nI (sc mk mla)) xfc xfk (nI mpm) mfpd xwa xwb xc0 xb0 mk mtold mla msp mfm mfk mpm mfpd mfz mfkp wx2_q wm2_q hC2_q hM2_q hR2_q.2 H locs ls hP hD hS hl

set_option maxHeartbeats 1000000 in
set_option maxRecDepth 100000 in
theorem law_spades {p : Program} {l : Launch} {e : Env} {s : State} {m : MethodId} {below : List Frame} {meth : Method} {c : Code} {b L : Nat} {xs : Nat → Int32} {G : Gy} {h0 h1 i : Nat} (hL : L ≤ 3072) (hi : i + 6 ≤ L) (C0 : lw_At p s m meth c b L xs) (E : EV G (fun q : Nat => s.heap.size ≤ q) s s.heap) (xn : Int32) (xtold : Int32) (xsp : Int32) (xgr : Int32) (xfc : Nat → Int32) (xfk : Nat → Int32) (xlen : Int32) (xfsg : Nat → Int32) (xwa : Option PQ) (xwb : Option PQ) (xc0 : Nat) (xb0 : Nat) (mk : Nat) (mtold : Int32) (mla : Nat) (msp : Int32) (mfm : Nat → Int32) (mfk : Nat → Int32) (mpm : Nat) (mfpd : Nat → Int32) (mfz : Nat → Int32) (mfkp : Nat → Int32) (wx wm : va_W) (hC : CWd G h0 (xn, xtold, xsp, xgr, xfc, xfk, xlen, xfsg, xwa, xwb, xc0, xb0) wx) (hM : MWd G h1 (mk, mtold, mla, msp, mfm, mfk, mpm, mfpd, mfz, mfkp) wm) (hR : RELB xn xtold xsp xgr xfc xfk xlen xfsg xwa xwb mk mtold mla msp mfm mfk mpm mfpd mfz mfkp) {H : Heap} {locs : List Loc} {ls : Array Slot} (hP : va_P G.1 vwCl (wx ++ wm) H) (hD : va_D (fun q : Nat => s.heap.size ≤ q) (wx ++ wm)) (hS : va_S (fun q : Nat => s.heap.size ≤ q) s.heap H locs) (hl : lv_has ls 4 [(3, .int (nI i)), (2, .ref h1), (1, .ref h0), (0, .ref b)]) (ih : ∀ (xn : Int32) (xtold : Int32) (xsp : Int32) (xgr : Int32) (xfc : Nat → Int32) (xfk : Nat → Int32) (xlen : Int32) (xfsg : Nat → Int32) (xwa : Option PQ) (xwb : Option PQ) (xc0 : Nat) (xb0 : Nat) (mk : Nat) (mtold : Int32) (mla : Nat) (msp : Int32) (mfm : Nat → Int32) (mfk : Nat → Int32) (mpm : Nat) (mfpd : Nat → Int32) (mfz : Nat → Int32) (mfkp : Nat → Int32) (wx2 wm2 : va_W), CWd G h0 (xn, xtold, xsp, xgr, xfc, xfk, xlen, xfsg, xwa, xwb, xc0, xb0) wx2 → MWd G h1 (mk, mtold, mla, msp, mfm, mfk, mpm, mfpd, mfz, mfkp) wm2 → RELB xn xtold xsp xgr xfc xfk xlen xfsg xwa xwb mk mtold mla msp mfm mfk mpm mfpd mfz mfkp → ∀ (H1 : Heap) (locs1 : List Loc) (ls1 : Array Slot), va_P G.1 vwCl (wx2 ++ wm2) H1 → va_D (fun q : Nat => s.heap.size ≤ q) (wx2 ++ wm2) → va_S (fun q : Nat => s.heap.size ≤ q) s.heap H1 locs1 → lv_has ls1 4 [(3, .int (nI (i + 6))), (2, .ref h1), (1, .ref h0), (0, .ref b)] → W p l e room_1 s m #[Value.ref b] below meth c H1 locs1 (25 + cqN xwa xwb xc0 xb0) (94050 + sqN xwa xwb xc0 xb0) (lw_Z below #[Value.ref b] s) (F0 m 18 ls1 [])) : W p l e room_1 s m #[Value.ref b] below meth c H locs (25 + cqN xwa xwb xc0 xb0) (94050 + sqN xwa xwb xc0 xb0) (lw_Z below #[Value.ref b] s) (F0 m 692 ls []) := by
  obtain ⟨hx, hb, hr, hml, hown, hts0, hX, hbl, hlocks, hgv⟩ := id C0
  have hts : ∀ w ∈ wsL_law, w.before #[Value.ref b] s = true := fun w h => hts0 w (wsL_law_in w h)
  have hbA : ¬ (fun q : Nat => s.heap.size ≤ q) b := Nat.not_le.mpr hbl
  have hA : ∀ q : Nat, s.heap.size ≤ q → (fun q : Nat => s.heap.size ≤ q) q := fun _ h => h
  obtain ⟨hk2, hk6, hpm40, hla, hsp, hfm⟩ := mw_inv hM
  have hR0 := hR
  obtain ⟨rfl, rfl, rfl, rfl, rfl, rfl, hcr, -⟩ := hR
  refine lv_aload_n hx hb dL_law_692 rfl (lv_at hl 2 rfl) ?_
  refine lv_aload_n hx hb dL_law_693 rfl (lv_at hl 3 rfl) ?_
  refine lv_iload_n hx hb dL_law_694 rfl (lv_at hl 0 rfl) ?_
  refine lv_iconst (v := 1) hx hb dL_law_695 (by decide) ?_
  refine lv_iadd hx hb dL_law_696 ?_
  refine lv_topi (fun z1_q ez1_q => ?_)
  obtain rfl : z1_q = nI (i + 1) := by rw [ez1_q]; exact nI_add i 1
  refine va_sld hx hb hX hbl hbA hS (i := nI (i + 1)) (vp_in_nI (by omega) (by omega)) dL_law_697 ?_
  refine lv_topi (fun a0_q ea0_q => ?_)
  have hcq_q := cq_le hC
  obtain ⟨fs9_q, hhd_q⟩ := cw_head hC wm
  refine W_facts (fun hg => ?_)
  have hKx_q := K_left (x_spades l G H h0 (nI mk) mtold msp (nI (sc mk mla)) xfc xfk (nI mpm) mfpd xwa xwb xc0 xb0 wx hC a0_q) wm
  refine ca_LS (ws := wx ++ wm) hg (va_runV (As := [.int a0_q]) (rest := []) ⟨hx, hb, hml, hown, hts⟩ hKx_q (cwV 1 hts gL_law_X9_spades rfl rfl rfl (by decide +kernel) ⟨by decide +kernel, by decide +kernel⟩) (pre_L E hP hD hS hA 0 5 rfl hhd_q) rfl rfl hl.1 rfl (lv_room (Nat.le_of_ble_eq_true rfl)) dL_law_698 ⟨show 25 + cqN xwa xwb xc0 xb0 + 0 ≤ 600000 by omega, show 94050 + sqN xwa xwb xc0 xb0 + 0 ≤ 7302250 by omega⟩) hS hD hA (fun r1_q u1_q H locs hw hP hD hS => ?_)
  obtain ⟨w2_q, g1_q, n1_q⟩ := u1_q
  dsimp only at hw hP hD
  obtain ⟨wx2_q, rfl, sp1_q, hC2_q, hg1_q, hn1_q, hpc_q⟩ := hw
  refine lv_pop hx hb dL_law_701 rfl ?_
  refine lv_aload_n hx hb dL_law_702 rfl (lv_at hl 1 rfl) ?_
  refine lv_aload_n hx hb dL_law_703 rfl (lv_at hl 3 rfl) ?_
  refine lv_iload_n hx hb dL_law_704 rfl (lv_at hl 0 rfl) ?_
  refine lv_iconst (v := 1) hx hb dL_law_705 (by decide) ?_
  refine lv_iadd hx hb dL_law_706 ?_
  refine lv_topi (fun z2_q ez2_q => ?_)
  obtain rfl : z2_q = nI (i + 1) := by rw [ez2_q]; exact nI_add i 1
  refine va_sld hx hb hX hbl hbA hS (i := nI (i + 1)) (vp_in_nI (by omega) (by omega)) dL_law_707 ?_
  refine lv_topi (fun d0_q ed0_q => ?_)
  obtain rfl : a0_q = d0_q := by rw [ea0_q, ed0_q]
  have hcq2_q := cq_le hC2_q
  obtain ⟨fs8_q, hhd2_q⟩ := mw_head hM wx2_q
  refine W_facts (fun hg => ?_)
  have hKm_q := K_right (k_spades l G H h1 mk mtold mla msp mfm mfk mpm mfpd mfz mfkp wm hM a0_q) wx2_q
  refine ca_LS (ws := wx2_q ++ wm) hg (va_runV (As := [.int a0_q]) (rest := []) ⟨hx, hb, hml, hown, hts⟩ hKm_q (cwV 1 hts gL_law_X10_spades rfl rfl rfl (by decide +kernel) ⟨by decide +kernel, by decide +kernel⟩) (pre_L E hP hD hS hA wx2_q.length 6 rfl hhd2_q) rfl rfl hl.1 rfl (lv_room (Nat.le_of_ble_eq_true rfl)) dL_law_708 ⟨show 25 + cqN xwa xwb xc0 xb0 + g1_q + 0 ≤ 600000 by omega, show 94050 + sqN xwa xwb xc0 xb0 + n1_q + 0 ≤ 7302250 by omega⟩) hS hD hA (fun r2_q u2_q H locs hw hP hD hS => ?_)
  obtain ⟨w3_q, g2_q, n2_q⟩ := u2_q
  dsimp only at hw hP hD
  obtain ⟨wm2_q, rfl, hg2_q, hn2_q, msp1_q, hM2_q, hpm_q⟩ := hw
  have hR2_q := rb_spades hR0 hpc_q hpm_q
  refine lv_pop hx hb dL_law_711 rfl ?_
  refine lv_goto (tgt := 926) hx hb dL_law_712 (by decide) ?_
  obtain ⟨z9_q, ez9_q⟩ : ∃ yy_ : Int32, yy_ = nI i + 6 := ⟨_, rfl⟩
  refine lv_iinc (v := z9_q) (lv' := [(3, .int z9_q), (2, .ref h1), (1, .ref h0), (0, .ref b)]) hx hb dL_law_926 hl (k := 0) rfl (by rw [ez9_q]; rfl) (by decide) rfl (fun ls hl => ?_)
  obtain rfl : z9_q = nI (i + 6) := by rw [ez9_q]; exact nI_add i 6
  refine lv_goto (tgt := 18) hx hb dL_law_929 (by decide) ?_
  refine W_facts (fun hg => ?_)
  refine W_lower (k := 25 + cqN xwa xwb xc0 xb0) (n := 94050 + sqN xwa xwb xc0 xb0) (GF.wide hg (show 25 + cqN xwa xwb xc0 xb0 + g1_q + g2_q ≤ 25 + cqN xwa xwb xc0 xb0 by omega) (show 94050 + sqN xwa xwb xc0 xb0 + n1_q + n2_q ≤ 94050 + sqN xwa xwb xc0 xb0 by omega)) ?_
  exact ih (nI mk) mtold sp1_q (nI (sc mk mla)) xfc xfk (nI mpm) mfpd xwa xwb xc0 xb0 mk mtold mla msp1_q mfm mfk mpm mfpd mfz mfkp wx2_q wm2_q hC2_q hM2_q hR2_q.2 H locs ls hP hD hS hl

set_option maxHeartbeats 1000000 in
set_option maxRecDepth 100000 in
theorem law_land {p : Program} {l : Launch} {e : Env} {s : State} {m : MethodId} {below : List Frame} {meth : Method} {c : Code} {b L : Nat} {xs : Nat → Int32} {G : Gy} {h0 h1 i : Nat} (hL : L ≤ 3072) (hi : i + 6 ≤ L) (C0 : lw_At p s m meth c b L xs) (E : EV G (fun q : Nat => s.heap.size ≤ q) s s.heap) (xn : Int32) (xtold : Int32) (xsp : Int32) (xgr : Int32) (xfc : Nat → Int32) (xfk : Nat → Int32) (xlen : Int32) (xfsg : Nat → Int32) (xwa : Option PQ) (xwb : Option PQ) (xc0 : Nat) (xb0 : Nat) (mk : Nat) (mtold : Int32) (mla : Nat) (msp : Int32) (mfm : Nat → Int32) (mfk : Nat → Int32) (mpm : Nat) (mfpd : Nat → Int32) (mfz : Nat → Int32) (mfkp : Nat → Int32) (wx wm : va_W) (hC : CWd G h0 (xn, xtold, xsp, xgr, xfc, xfk, xlen, xfsg, xwa, xwb, xc0, xb0) wx) (hM : MWd G h1 (mk, mtold, mla, msp, mfm, mfk, mpm, mfpd, mfz, mfkp) wm) (hR : RELB xn xtold xsp xgr xfc xfk xlen xfsg xwa xwb mk mtold mla msp mfm mfk mpm mfpd mfz mfkp) {H : Heap} {locs : List Loc} {ls : Array Slot} (hP : va_P G.1 vwCl (wx ++ wm) H) (hD : va_D (fun q : Nat => s.heap.size ≤ q) (wx ++ wm)) (hS : va_S (fun q : Nat => s.heap.size ≤ q) s.heap H locs) (hl : lv_has ls 4 [(3, .int (nI i)), (2, .ref h1), (1, .ref h0), (0, .ref b)]) (ih : ∀ (xn : Int32) (xtold : Int32) (xsp : Int32) (xgr : Int32) (xfc : Nat → Int32) (xfk : Nat → Int32) (xlen : Int32) (xfsg : Nat → Int32) (xwa : Option PQ) (xwb : Option PQ) (xc0 : Nat) (xb0 : Nat) (mk : Nat) (mtold : Int32) (mla : Nat) (msp : Int32) (mfm : Nat → Int32) (mfk : Nat → Int32) (mpm : Nat) (mfpd : Nat → Int32) (mfz : Nat → Int32) (mfkp : Nat → Int32) (wx2 wm2 : va_W), CWd G h0 (xn, xtold, xsp, xgr, xfc, xfk, xlen, xfsg, xwa, xwb, xc0, xb0) wx2 → MWd G h1 (mk, mtold, mla, msp, mfm, mfk, mpm, mfpd, mfz, mfkp) wm2 → RELB xn xtold xsp xgr xfc xfk xlen xfsg xwa xwb mk mtold mla msp mfm mfk mpm mfpd mfz mfkp → ∀ (H1 : Heap) (locs1 : List Loc) (ls1 : Array Slot), va_P G.1 vwCl (wx2 ++ wm2) H1 → va_D (fun q : Nat => s.heap.size ≤ q) (wx2 ++ wm2) → va_S (fun q : Nat => s.heap.size ≤ q) s.heap H1 locs1 → lv_has ls1 4 [(3, .int (nI (i + 6))), (2, .ref h1), (1, .ref h0), (0, .ref b)] → W p l e room_1 s m #[Value.ref b] below meth c H1 locs1 (25 + cqN xwa xwb xc0 xb0) (94050 + sqN xwa xwb xc0 xb0) (lw_Z below #[Value.ref b] s) (F0 m 18 ls1 [])) : W p l e room_1 s m #[Value.ref b] below meth c H locs (25 + cqN xwa xwb xc0 xb0) (94050 + sqN xwa xwb xc0 xb0) (lw_Z below #[Value.ref b] s) (F0 m 715 ls []) := by
  obtain ⟨hx, hb, hr, hml, hown, hts0, hX, hbl, hlocks, hgv⟩ := id C0
  have hts : ∀ w ∈ wsL_law, w.before #[Value.ref b] s = true := fun w h => hts0 w (wsL_law_in w h)
  have hbA : ¬ (fun q : Nat => s.heap.size ≤ q) b := Nat.not_le.mpr hbl
  have hA : ∀ q : Nat, s.heap.size ≤ q → (fun q : Nat => s.heap.size ≤ q) q := fun _ h => h
  obtain ⟨hk2, hk6, hpm40, hla, hsp, hfm⟩ := mw_inv hM
  have hR0 := hR
  obtain ⟨rfl, rfl, rfl, rfl, rfl, rfl, hcr, -⟩ := hR
  refine lv_aload_n hx hb dL_law_715 rfl (lv_at hl 2 rfl) ?_
  refine lv_aload_n hx hb dL_law_716 rfl (lv_at hl 3 rfl) ?_
  refine lv_iload_n hx hb dL_law_717 rfl (lv_at hl 0 rfl) ?_
  refine lv_iconst (v := 1) hx hb dL_law_718 (by decide) ?_
  refine lv_iadd hx hb dL_law_719 ?_
  refine lv_topi (fun z1_q ez1_q => ?_)
  obtain rfl : z1_q = nI (i + 1) := by rw [ez1_q]; exact nI_add i 1
  refine va_sld hx hb hX hbl hbA hS (i := nI (i + 1)) (vp_in_nI (by omega) (by omega)) dL_law_720 ?_
  refine lv_topi (fun a0_q ea0_q => ?_)
  have hcq_q := cq_le hC
  obtain ⟨fs9_q, hhd_q⟩ := cw_head hC wm
  refine W_facts (fun hg => ?_)
  have hKx_q := K_left (x2_land l G H h0 mk mpm mla mtold msp xfc xfk mfpd xwa xwb xc0 xb0 (maN mfm) wx hC hk2 hk6 hpm40 hla hcr hsp a0_q) wm
  refine ca_LS (ws := wx ++ wm) hg (va_runV (As := [.int a0_q]) (rest := []) ⟨hx, hb, hml, hown, hts⟩ hKx_q (cwV 1 hts gL_law_X9_land rfl rfl rfl (by decide +kernel) ⟨by decide +kernel, by decide +kernel⟩) (pre_L E hP hD hS hA 0 5 rfl hhd_q) rfl rfl hl.1 rfl (lv_room (Nat.le_of_ble_eq_true rfl)) dL_law_721 ⟨show 25 + cqN xwa xwb xc0 xb0 + 0 ≤ 600000 by omega, show 94050 + sqN xwa xwb xc0 xb0 + 0 ≤ 7302250 by omega⟩) hS hD hA (fun r1_q u1_q H locs hw hP hD hS => ?_)
  obtain ⟨w2_q, g1_q, n1_q⟩ := u1_q
  dsimp only at hw hP hD
  obtain ⟨wx2_q, rfl, hC2_q, hg1_q, hn1_q, hpc_q⟩ := hw
  refine lv_pop hx hb dL_law_724 rfl ?_
  refine lv_aload_n hx hb dL_law_725 rfl (lv_at hl 1 rfl) ?_
  refine lv_aload_n hx hb dL_law_726 rfl (lv_at hl 3 rfl) ?_
  refine lv_iload_n hx hb dL_law_727 rfl (lv_at hl 0 rfl) ?_
  refine lv_iconst (v := 1) hx hb dL_law_728 (by decide) ?_
  refine lv_iadd hx hb dL_law_729 ?_
  refine lv_topi (fun z2_q ez2_q => ?_)
  obtain rfl : z2_q = nI (i + 1) := by rw [ez2_q]; exact nI_add i 1
  refine va_sld hx hb hX hbl hbA hS (i := nI (i + 1)) (vp_in_nI (by omega) (by omega)) dL_law_730 ?_
  refine lv_topi (fun d0_q ed0_q => ?_)
  obtain rfl : a0_q = d0_q := by rw [ea0_q, ed0_q]
  have hcq2_q := cq_le hC2_q
  obtain ⟨fs8_q, hhd2_q⟩ := mw_head hM wx2_q
  refine W_facts (fun hg => ?_)
  have hKm_q := K_right (k2_land l G H h1 mk mtold mla msp mfm mfk mpm mfpd mfz mfkp wm hM a0_q) wx2_q
  refine ca_LS (ws := wx2_q ++ wm) hg (va_runV (As := [.int a0_q]) (rest := []) ⟨hx, hb, hml, hown, hts⟩ hKm_q (cwV 1 hts gL_law_X10_land rfl rfl rfl (by decide +kernel) ⟨by decide +kernel, by decide +kernel⟩) (pre_L E hP hD hS hA wx2_q.length 6 rfl hhd2_q) rfl rfl hl.1 rfl (lv_room (Nat.le_of_ble_eq_true rfl)) dL_law_731 ⟨show 25 + cqN xwa xwb xc0 xb0 + g1_q + 0 ≤ 600000 by omega, show 94050 + sqN xwa xwb xc0 xb0 + n1_q + 0 ≤ 7302250 by omega⟩) hS hD hA (fun r2_q u2_q H locs hw hP hD hS => ?_)
  obtain ⟨w3_q, g2_q, n2_q⟩ := u2_q
  dsimp only at hw hP hD
  obtain ⟨wm2_q, rfl, hg2_q, hn2_q, hM2_q, hpm_q⟩ := hw
  have hR2_q := And.intro (hpc_q.trans hpm_q.symm) hR0
  refine lv_pop hx hb dL_law_734 rfl ?_
  refine lv_goto (tgt := 926) hx hb dL_law_735 (by decide) ?_
  obtain ⟨z9_q, ez9_q⟩ : ∃ yy_ : Int32, yy_ = nI i + 6 := ⟨_, rfl⟩
  refine lv_iinc (v := z9_q) (lv' := [(3, .int z9_q), (2, .ref h1), (1, .ref h0), (0, .ref b)]) hx hb dL_law_926 hl (k := 0) rfl (by rw [ez9_q]; rfl) (by decide) rfl (fun ls hl => ?_)
  obtain rfl : z9_q = nI (i + 6) := by rw [ez9_q]; exact nI_add i 6
  refine lv_goto (tgt := 18) hx hb dL_law_929 (by decide) ?_
  refine W_facts (fun hg => ?_)
  refine W_lower (k := 25 + cqN xwa xwb xc0 xb0) (n := 94050 + sqN xwa xwb xc0 xb0) (GF.wide hg (show 25 + cqN xwa xwb xc0 xb0 + g1_q + g2_q ≤ 25 + cqN xwa xwb xc0 xb0 by omega) (show 94050 + sqN xwa xwb xc0 xb0 + n1_q + n2_q ≤ 94050 + sqN xwa xwb xc0 xb0 by omega)) ?_
  exact ih (nI mk) mtold msp (nI (sc mk mla)) xfc xfk (nI mpm) mfpd xwa xwb xc0 xb0 mk mtold mla msp mfm mfk mpm mfpd mfz mfkp wx2_q wm2_q hC2_q hM2_q hR2_q.2 H locs ls hP hD hS hl

set_option maxHeartbeats 1000000 in
set_option maxRecDepth 100000 in
theorem law_years {p : Program} {l : Launch} {e : Env} {s : State} {m : MethodId} {below : List Frame} {meth : Method} {c : Code} {b L : Nat} {xs : Nat → Int32} {G : Gy} {h0 h1 i : Nat} (hL : L ≤ 3072) (hi : i + 6 ≤ L) (C0 : lw_At p s m meth c b L xs) (E : EV G (fun q : Nat => s.heap.size ≤ q) s s.heap) (xn : Int32) (xtold : Int32) (xsp : Int32) (xgr : Int32) (xfc : Nat → Int32) (xfk : Nat → Int32) (xlen : Int32) (xfsg : Nat → Int32) (xwa : Option PQ) (xwb : Option PQ) (xc0 : Nat) (xb0 : Nat) (mk : Nat) (mtold : Int32) (mla : Nat) (msp : Int32) (mfm : Nat → Int32) (mfk : Nat → Int32) (mpm : Nat) (mfpd : Nat → Int32) (mfz : Nat → Int32) (mfkp : Nat → Int32) (wx wm : va_W) (hC : CWd G h0 (xn, xtold, xsp, xgr, xfc, xfk, xlen, xfsg, xwa, xwb, xc0, xb0) wx) (hM : MWd G h1 (mk, mtold, mla, msp, mfm, mfk, mpm, mfpd, mfz, mfkp) wm) (hR : RELB xn xtold xsp xgr xfc xfk xlen xfsg xwa xwb mk mtold mla msp mfm mfk mpm mfpd mfz mfkp) {H : Heap} {locs : List Loc} {ls : Array Slot} (hP : va_P G.1 vwCl (wx ++ wm) H) (hD : va_D (fun q : Nat => s.heap.size ≤ q) (wx ++ wm)) (hS : va_S (fun q : Nat => s.heap.size ≤ q) s.heap H locs) (hl : lv_has ls 4 [(3, .int (nI i)), (2, .ref h1), (1, .ref h0), (0, .ref b)]) (ih : ∀ (xn : Int32) (xtold : Int32) (xsp : Int32) (xgr : Int32) (xfc : Nat → Int32) (xfk : Nat → Int32) (xlen : Int32) (xfsg : Nat → Int32) (xwa : Option PQ) (xwb : Option PQ) (xc0 : Nat) (xb0 : Nat) (mk : Nat) (mtold : Int32) (mla : Nat) (msp : Int32) (mfm : Nat → Int32) (mfk : Nat → Int32) (mpm : Nat) (mfpd : Nat → Int32) (mfz : Nat → Int32) (mfkp : Nat → Int32) (wx2 wm2 : va_W), CWd G h0 (xn, xtold, xsp, xgr, xfc, xfk, xlen, xfsg, xwa, xwb, xc0, xb0) wx2 → MWd G h1 (mk, mtold, mla, msp, mfm, mfk, mpm, mfpd, mfz, mfkp) wm2 → RELB xn xtold xsp xgr xfc xfk xlen xfsg xwa xwb mk mtold mla msp mfm mfk mpm mfpd mfz mfkp → ∀ (H1 : Heap) (locs1 : List Loc) (ls1 : Array Slot), va_P G.1 vwCl (wx2 ++ wm2) H1 → va_D (fun q : Nat => s.heap.size ≤ q) (wx2 ++ wm2) → va_S (fun q : Nat => s.heap.size ≤ q) s.heap H1 locs1 → lv_has ls1 4 [(3, .int (nI (i + 6))), (2, .ref h1), (1, .ref h0), (0, .ref b)] → W p l e room_1 s m #[Value.ref b] below meth c H1 locs1 (25 + cqN xwa xwb xc0 xb0) (94050 + sqN xwa xwb xc0 xb0) (lw_Z below #[Value.ref b] s) (F0 m 18 ls1 [])) : W p l e room_1 s m #[Value.ref b] below meth c H locs (25 + cqN xwa xwb xc0 xb0) (94050 + sqN xwa xwb xc0 xb0) (lw_Z below #[Value.ref b] s) (F0 m 738 ls []) := by
  obtain ⟨hx, hb, hr, hml, hown, hts0, hX, hbl, hlocks, hgv⟩ := id C0
  have hts : ∀ w ∈ wsL_law, w.before #[Value.ref b] s = true := fun w h => hts0 w (wsL_law_in w h)
  have hbA : ¬ (fun q : Nat => s.heap.size ≤ q) b := Nat.not_le.mpr hbl
  have hA : ∀ q : Nat, s.heap.size ≤ q → (fun q : Nat => s.heap.size ≤ q) q := fun _ h => h
  obtain ⟨hk2, hk6, hpm40, hla, hsp, hfm⟩ := mw_inv hM
  have hR0 := hR
  obtain ⟨rfl, rfl, rfl, rfl, rfl, rfl, hcr, -⟩ := hR
  refine lv_aload_n hx hb dL_law_738 rfl (lv_at hl 2 rfl) ?_
  refine lv_aload_n hx hb dL_law_739 rfl (lv_at hl 3 rfl) ?_
  refine lv_iload_n hx hb dL_law_740 rfl (lv_at hl 0 rfl) ?_
  refine lv_iconst (v := 1) hx hb dL_law_741 (by decide) ?_
  refine lv_iadd hx hb dL_law_742 ?_
  refine lv_topi (fun z1_q ez1_q => ?_)
  obtain rfl : z1_q = nI (i + 1) := by rw [ez1_q]; exact nI_add i 1
  refine va_sld hx hb hX hbl hbA hS (i := nI (i + 1)) (vp_in_nI (by omega) (by omega)) dL_law_743 ?_
  refine lv_topi (fun a0_q ea0_q => ?_)
  have hcq_q := cq_le hC
  obtain ⟨fs9_q, hhd_q⟩ := cw_head hC wm
  refine W_facts (fun hg => ?_)
  have hKx_q := K_left (x2_years l G H h0 mk mpm mla mtold msp xfc xfk mfpd xwa xwb xc0 xb0 (maN mfm) wx hC hk2 hk6 hpm40 hla hcr hsp a0_q) wm
  refine ca_LS (ws := wx ++ wm) hg (va_runV (As := [.int a0_q]) (rest := []) ⟨hx, hb, hml, hown, hts⟩ hKx_q (cwV 1 hts gL_law_X9_years rfl rfl rfl (by decide +kernel) ⟨by decide +kernel, by decide +kernel⟩) (pre_L E hP hD hS hA 0 5 rfl hhd_q) rfl rfl hl.1 rfl (lv_room (Nat.le_of_ble_eq_true rfl)) dL_law_744 ⟨show 25 + cqN xwa xwb xc0 xb0 + 0 ≤ 600000 by omega, show 94050 + sqN xwa xwb xc0 xb0 + 0 ≤ 7302250 by omega⟩) hS hD hA (fun r1_q u1_q H locs hw hP hD hS => ?_)
  obtain ⟨w2_q, g1_q, n1_q⟩ := u1_q
  dsimp only at hw hP hD
  obtain ⟨wx2_q, rfl, hC2_q, hg1_q, hn1_q, hpc_q⟩ := hw
  refine lv_pop hx hb dL_law_747 rfl ?_
  refine lv_aload_n hx hb dL_law_748 rfl (lv_at hl 1 rfl) ?_
  refine lv_aload_n hx hb dL_law_749 rfl (lv_at hl 3 rfl) ?_
  refine lv_iload_n hx hb dL_law_750 rfl (lv_at hl 0 rfl) ?_
  refine lv_iconst (v := 1) hx hb dL_law_751 (by decide) ?_
  refine lv_iadd hx hb dL_law_752 ?_
  refine lv_topi (fun z2_q ez2_q => ?_)
  obtain rfl : z2_q = nI (i + 1) := by rw [ez2_q]; exact nI_add i 1
  refine va_sld hx hb hX hbl hbA hS (i := nI (i + 1)) (vp_in_nI (by omega) (by omega)) dL_law_753 ?_
  refine lv_topi (fun d0_q ed0_q => ?_)
  obtain rfl : a0_q = d0_q := by rw [ea0_q, ed0_q]
  have hcq2_q := cq_le hC2_q
  obtain ⟨fs8_q, hhd2_q⟩ := mw_head hM wx2_q
  refine W_facts (fun hg => ?_)
  have hKm_q := K_right (k2_years l G H h1 mk mtold mla msp mfm mfk mpm mfpd mfz mfkp wm hM a0_q) wx2_q
  refine ca_LS (ws := wx2_q ++ wm) hg (va_runV (As := [.int a0_q]) (rest := []) ⟨hx, hb, hml, hown, hts⟩ hKm_q (cwV 1 hts gL_law_X10_years rfl rfl rfl (by decide +kernel) ⟨by decide +kernel, by decide +kernel⟩) (pre_L E hP hD hS hA wx2_q.length 6 rfl hhd2_q) rfl rfl hl.1 rfl (lv_room (Nat.le_of_ble_eq_true rfl)) dL_law_754 ⟨show 25 + cqN xwa xwb xc0 xb0 + g1_q + 0 ≤ 600000 by omega, show 94050 + sqN xwa xwb xc0 xb0 + n1_q + 0 ≤ 7302250 by omega⟩) hS hD hA (fun r2_q u2_q H locs hw hP hD hS => ?_)
  obtain ⟨w3_q, g2_q, n2_q⟩ := u2_q
  dsimp only at hw hP hD
  obtain ⟨wm2_q, rfl, hg2_q, hn2_q, hM2_q, hpm_q⟩ := hw
  have hR2_q := And.intro (hpc_q.trans hpm_q.symm) hR0
  refine lv_pop hx hb dL_law_757 rfl ?_
  refine lv_goto (tgt := 926) hx hb dL_law_758 (by decide) ?_
  obtain ⟨z9_q, ez9_q⟩ : ∃ yy_ : Int32, yy_ = nI i + 6 := ⟨_, rfl⟩
  refine lv_iinc (v := z9_q) (lv' := [(3, .int z9_q), (2, .ref h1), (1, .ref h0), (0, .ref b)]) hx hb dL_law_926 hl (k := 0) rfl (by rw [ez9_q]; rfl) (by decide) rfl (fun ls hl => ?_)
  obtain rfl : z9_q = nI (i + 6) := by rw [ez9_q]; exact nI_add i 6
  refine lv_goto (tgt := 18) hx hb dL_law_929 (by decide) ?_
  refine W_facts (fun hg => ?_)
  refine W_lower (k := 25 + cqN xwa xwb xc0 xb0) (n := 94050 + sqN xwa xwb xc0 xb0) (GF.wide hg (show 25 + cqN xwa xwb xc0 xb0 + g1_q + g2_q ≤ 25 + cqN xwa xwb xc0 xb0 by omega) (show 94050 + sqN xwa xwb xc0 xb0 + n1_q + n2_q ≤ 94050 + sqN xwa xwb xc0 xb0 by omega)) ?_
  exact ih (nI mk) mtold msp (nI (sc mk mla)) xfc xfk (nI mpm) mfpd xwa xwb xc0 xb0 mk mtold mla msp mfm mfk mpm mfpd mfz mfkp wx2_q wm2_q hC2_q hM2_q hR2_q.2 H locs ls hP hD hS hl

set_option maxHeartbeats 1000000 in
set_option maxRecDepth 100000 in
theorem law_follow {p : Program} {l : Launch} {e : Env} {s : State} {m : MethodId} {below : List Frame} {meth : Method} {c : Code} {b L : Nat} {xs : Nat → Int32} {G : Gy} {h0 h1 i : Nat} (hL : L ≤ 3072) (hi : i + 6 ≤ L) (C0 : lw_At p s m meth c b L xs) (E : EV G (fun q : Nat => s.heap.size ≤ q) s s.heap) (xn : Int32) (xtold : Int32) (xsp : Int32) (xgr : Int32) (xfc : Nat → Int32) (xfk : Nat → Int32) (xlen : Int32) (xfsg : Nat → Int32) (xwa : Option PQ) (xwb : Option PQ) (xc0 : Nat) (xb0 : Nat) (mk : Nat) (mtold : Int32) (mla : Nat) (msp : Int32) (mfm : Nat → Int32) (mfk : Nat → Int32) (mpm : Nat) (mfpd : Nat → Int32) (mfz : Nat → Int32) (mfkp : Nat → Int32) (wx wm : va_W) (hC : CWd G h0 (xn, xtold, xsp, xgr, xfc, xfk, xlen, xfsg, xwa, xwb, xc0, xb0) wx) (hM : MWd G h1 (mk, mtold, mla, msp, mfm, mfk, mpm, mfpd, mfz, mfkp) wm) (hR : RELB xn xtold xsp xgr xfc xfk xlen xfsg xwa xwb mk mtold mla msp mfm mfk mpm mfpd mfz mfkp) {H : Heap} {locs : List Loc} {ls : Array Slot} (hP : va_P G.1 vwCl (wx ++ wm) H) (hD : va_D (fun q : Nat => s.heap.size ≤ q) (wx ++ wm)) (hS : va_S (fun q : Nat => s.heap.size ≤ q) s.heap H locs) (hl : lv_has ls 4 [(3, .int (nI i)), (2, .ref h1), (1, .ref h0), (0, .ref b)]) (ih : ∀ (xn : Int32) (xtold : Int32) (xsp : Int32) (xgr : Int32) (xfc : Nat → Int32) (xfk : Nat → Int32) (xlen : Int32) (xfsg : Nat → Int32) (xwa : Option PQ) (xwb : Option PQ) (xc0 : Nat) (xb0 : Nat) (mk : Nat) (mtold : Int32) (mla : Nat) (msp : Int32) (mfm : Nat → Int32) (mfk : Nat → Int32) (mpm : Nat) (mfpd : Nat → Int32) (mfz : Nat → Int32) (mfkp : Nat → Int32) (wx2 wm2 : va_W), CWd G h0 (xn, xtold, xsp, xgr, xfc, xfk, xlen, xfsg, xwa, xwb, xc0, xb0) wx2 → MWd G h1 (mk, mtold, mla, msp, mfm, mfk, mpm, mfpd, mfz, mfkp) wm2 → RELB xn xtold xsp xgr xfc xfk xlen xfsg xwa xwb mk mtold mla msp mfm mfk mpm mfpd mfz mfkp → ∀ (H1 : Heap) (locs1 : List Loc) (ls1 : Array Slot), va_P G.1 vwCl (wx2 ++ wm2) H1 → va_D (fun q : Nat => s.heap.size ≤ q) (wx2 ++ wm2) → va_S (fun q : Nat => s.heap.size ≤ q) s.heap H1 locs1 → lv_has ls1 4 [(3, .int (nI (i + 6))), (2, .ref h1), (1, .ref h0), (0, .ref b)] → W p l e room_1 s m #[Value.ref b] below meth c H1 locs1 (25 + cqN xwa xwb xc0 xb0) (94050 + sqN xwa xwb xc0 xb0) (lw_Z below #[Value.ref b] s) (F0 m 18 ls1 [])) : W p l e room_1 s m #[Value.ref b] below meth c H locs (25 + cqN xwa xwb xc0 xb0) (94050 + sqN xwa xwb xc0 xb0) (lw_Z below #[Value.ref b] s) (F0 m 761 ls []) := by
  obtain ⟨hx, hb, hr, hml, hown, hts0, hX, hbl, hlocks, hgv⟩ := id C0
  have hts : ∀ w ∈ wsL_law, w.before #[Value.ref b] s = true := fun w h => hts0 w (wsL_law_in w h)
  have hbA : ¬ (fun q : Nat => s.heap.size ≤ q) b := Nat.not_le.mpr hbl
  have hA : ∀ q : Nat, s.heap.size ≤ q → (fun q : Nat => s.heap.size ≤ q) q := fun _ h => h
  obtain ⟨hk2, hk6, hpm40, hla, hsp, hfm⟩ := mw_inv hM
  have hR0 := hR
  obtain ⟨rfl, rfl, rfl, rfl, rfl, rfl, hcr, -⟩ := hR
  refine lv_aload_n hx hb dL_law_761 rfl (lv_at hl 2 rfl) ?_
  refine lv_aload_n hx hb dL_law_762 rfl (lv_at hl 3 rfl) ?_
  refine lv_iload_n hx hb dL_law_763 rfl (lv_at hl 0 rfl) ?_
  refine lv_iconst (v := 1) hx hb dL_law_764 (by decide) ?_
  refine lv_iadd hx hb dL_law_765 ?_
  refine lv_topi (fun z1_q ez1_q => ?_)
  obtain rfl : z1_q = nI (i + 1) := by rw [ez1_q]; exact nI_add i 1
  refine va_sld hx hb hX hbl hbA hS (i := nI (i + 1)) (vp_in_nI (by omega) (by omega)) dL_law_766 ?_
  refine lv_topi (fun a0_q ea0_q => ?_)
  refine lv_aload_n hx hb dL_law_767 rfl (lv_at hl 3 rfl) ?_
  refine lv_iload_n hx hb dL_law_768 rfl (lv_at hl 0 rfl) ?_
  refine lv_iconst (v := 2) hx hb dL_law_769 (by decide) ?_
  refine lv_iadd hx hb dL_law_770 ?_
  refine lv_topi (fun z2_q ez2_q => ?_)
  obtain rfl : z2_q = nI (i + 2) := by rw [ez2_q]; exact nI_add i 2
  refine va_sld hx hb hX hbl hbA hS (i := nI (i + 2)) (vp_in_nI (by omega) (by omega)) dL_law_771 ?_
  refine lv_topi (fun a1_q ea1_q => ?_)
  have hcq_q := cq_le hC
  obtain ⟨fs9_q, hhd_q⟩ := cw_head hC wm
  refine W_facts (fun hg => ?_)
  have hKx_q := K_left (x2_follow l G H h0 mk mpm mla mtold msp xfc xfk mfpd xwa xwb xc0 xb0 (maN mfm) wx hC hk2 hk6 hpm40 hla hcr hsp a0_q a1_q) wm
  refine ca_LS (ws := wx ++ wm) hg (va_runV (As := [.int a0_q, .int a1_q]) (rest := []) ⟨hx, hb, hml, hown, hts⟩ hKx_q (cwV 2 hts gL_law_X9_follow rfl rfl rfl (by decide +kernel) ⟨by decide +kernel, by decide +kernel⟩) (pre_L E hP hD hS hA 0 5 rfl hhd_q) rfl rfl hl.1 rfl (lv_room (Nat.le_of_ble_eq_true rfl)) dL_law_772 ⟨show 25 + cqN xwa xwb xc0 xb0 + 0 ≤ 600000 by omega, show 94050 + sqN xwa xwb xc0 xb0 + 0 ≤ 7302250 by omega⟩) hS hD hA (fun r1_q u1_q H locs hw hP hD hS => ?_)
  obtain ⟨w2_q, g1_q, n1_q⟩ := u1_q
  dsimp only at hw hP hD
  obtain ⟨wx2_q, rfl, gr1_q, hC2_q, hg1_q, hn1_q, hpc_q⟩ := hw
  refine lv_pop hx hb dL_law_775 rfl ?_
  refine lv_aload_n hx hb dL_law_776 rfl (lv_at hl 1 rfl) ?_
  refine lv_aload_n hx hb dL_law_777 rfl (lv_at hl 3 rfl) ?_
  refine lv_iload_n hx hb dL_law_778 rfl (lv_at hl 0 rfl) ?_
  refine lv_iconst (v := 1) hx hb dL_law_779 (by decide) ?_
  refine lv_iadd hx hb dL_law_780 ?_
  refine lv_topi (fun z3_q ez3_q => ?_)
  obtain rfl : z3_q = nI (i + 1) := by rw [ez3_q]; exact nI_add i 1
  refine va_sld hx hb hX hbl hbA hS (i := nI (i + 1)) (vp_in_nI (by omega) (by omega)) dL_law_781 ?_
  refine lv_topi (fun d0_q ed0_q => ?_)
  obtain rfl : a0_q = d0_q := by rw [ea0_q, ed0_q]
  refine lv_aload_n hx hb dL_law_782 rfl (lv_at hl 3 rfl) ?_
  refine lv_iload_n hx hb dL_law_783 rfl (lv_at hl 0 rfl) ?_
  refine lv_iconst (v := 2) hx hb dL_law_784 (by decide) ?_
  refine lv_iadd hx hb dL_law_785 ?_
  refine lv_topi (fun z4_q ez4_q => ?_)
  obtain rfl : z4_q = nI (i + 2) := by rw [ez4_q]; exact nI_add i 2
  refine va_sld hx hb hX hbl hbA hS (i := nI (i + 2)) (vp_in_nI (by omega) (by omega)) dL_law_786 ?_
  refine lv_topi (fun d1_q ed1_q => ?_)
  obtain rfl : a1_q = d1_q := by rw [ea1_q, ed1_q]
  have hcq2_q := cq_le hC2_q
  obtain ⟨fs8_q, hhd2_q⟩ := mw_head hM wx2_q
  refine W_facts (fun hg => ?_)
  have hKm_q := K_right (k2_follow l G H h1 mk mtold mla msp mfm mfk mpm mfpd mfz mfkp wm hM a0_q a1_q) wx2_q
  refine ca_LS (ws := wx2_q ++ wm) hg (va_runV (As := [.int a0_q, .int a1_q]) (rest := []) ⟨hx, hb, hml, hown, hts⟩ hKm_q (cwV 2 hts gL_law_X10_follow rfl rfl rfl (by decide +kernel) ⟨by decide +kernel, by decide +kernel⟩) (pre_L E hP hD hS hA wx2_q.length 6 rfl hhd2_q) rfl rfl hl.1 rfl (lv_room (Nat.le_of_ble_eq_true rfl)) dL_law_787 ⟨show 25 + cqN xwa xwb xc0 xb0 + g1_q + 0 ≤ 600000 by omega, show 94050 + sqN xwa xwb xc0 xb0 + n1_q + 0 ≤ 7302250 by omega⟩) hS hD hA (fun r2_q u2_q H locs hw hP hD hS => ?_)
  obtain ⟨w3_q, g2_q, n2_q⟩ := u2_q
  dsimp only at hw hP hD
  obtain ⟨wm2_q, rfl, hg2_q, hn2_q, mla1_q, hM2_q, hpm_q⟩ := hw
  have hR2_q := rb_follow hR0 hpc_q hpm_q.2
  refine lv_pop hx hb dL_law_790 rfl ?_
  refine lv_goto (tgt := 926) hx hb dL_law_791 (by decide) ?_
  obtain ⟨z9_q, ez9_q⟩ : ∃ yy_ : Int32, yy_ = nI i + 6 := ⟨_, rfl⟩
  refine lv_iinc (v := z9_q) (lv' := [(3, .int z9_q), (2, .ref h1), (1, .ref h0), (0, .ref b)]) hx hb dL_law_926 hl (k := 0) rfl (by rw [ez9_q]; rfl) (by decide) rfl (fun ls hl => ?_)
  obtain rfl : z9_q = nI (i + 6) := by rw [ez9_q]; exact nI_add i 6
  refine lv_goto (tgt := 18) hx hb dL_law_929 (by decide) ?_
  refine W_facts (fun hg => ?_)
  refine W_lower (k := 25 + cqN xwa xwb xc0 xb0) (n := 94050 + sqN xwa xwb xc0 xb0) (GF.wide hg (show 25 + cqN xwa xwb xc0 xb0 + g1_q + g2_q ≤ 25 + cqN xwa xwb xc0 xb0 by omega) (show 94050 + sqN xwa xwb xc0 xb0 + n1_q + n2_q ≤ 94050 + sqN xwa xwb xc0 xb0 by omega)) ?_
  exact ih (nI mk) mtold msp gr1_q xfc xfk (nI mpm) mfpd xwa xwb xc0 xb0 mk mtold mla1_q msp mfm mfk mpm mfpd mfz mfkp wx2_q wm2_q hC2_q hM2_q hR2_q.2 H locs ls hP hD hS hl

set_option maxHeartbeats 1000000 in
set_option maxRecDepth 100000 in
theorem law_drawn {p : Program} {l : Launch} {e : Env} {s : State} {m : MethodId} {below : List Frame} {meth : Method} {c : Code} {b L : Nat} {xs : Nat → Int32} {G : Gy} {h0 h1 i : Nat} (hL : L ≤ 3072) (hi : i + 6 ≤ L) (C0 : lw_At p s m meth c b L xs) (E : EV G (fun q : Nat => s.heap.size ≤ q) s s.heap) (xn : Int32) (xtold : Int32) (xsp : Int32) (xgr : Int32) (xfc : Nat → Int32) (xfk : Nat → Int32) (xlen : Int32) (xfsg : Nat → Int32) (xwa : Option PQ) (xwb : Option PQ) (xc0 : Nat) (xb0 : Nat) (mk : Nat) (mtold : Int32) (mla : Nat) (msp : Int32) (mfm : Nat → Int32) (mfk : Nat → Int32) (mpm : Nat) (mfpd : Nat → Int32) (mfz : Nat → Int32) (mfkp : Nat → Int32) (wx wm : va_W) (hC : CWd G h0 (xn, xtold, xsp, xgr, xfc, xfk, xlen, xfsg, xwa, xwb, xc0, xb0) wx) (hM : MWd G h1 (mk, mtold, mla, msp, mfm, mfk, mpm, mfpd, mfz, mfkp) wm) (hR : RELB xn xtold xsp xgr xfc xfk xlen xfsg xwa xwb mk mtold mla msp mfm mfk mpm mfpd mfz mfkp) {H : Heap} {locs : List Loc} {ls : Array Slot} (hP : va_P G.1 vwCl (wx ++ wm) H) (hD : va_D (fun q : Nat => s.heap.size ≤ q) (wx ++ wm)) (hS : va_S (fun q : Nat => s.heap.size ≤ q) s.heap H locs) (hl : lv_has ls 4 [(3, .int (nI i)), (2, .ref h1), (1, .ref h0), (0, .ref b)]) (ih : ∀ (xn : Int32) (xtold : Int32) (xsp : Int32) (xgr : Int32) (xfc : Nat → Int32) (xfk : Nat → Int32) (xlen : Int32) (xfsg : Nat → Int32) (xwa : Option PQ) (xwb : Option PQ) (xc0 : Nat) (xb0 : Nat) (mk : Nat) (mtold : Int32) (mla : Nat) (msp : Int32) (mfm : Nat → Int32) (mfk : Nat → Int32) (mpm : Nat) (mfpd : Nat → Int32) (mfz : Nat → Int32) (mfkp : Nat → Int32) (wx2 wm2 : va_W), CWd G h0 (xn, xtold, xsp, xgr, xfc, xfk, xlen, xfsg, xwa, xwb, xc0, xb0) wx2 → MWd G h1 (mk, mtold, mla, msp, mfm, mfk, mpm, mfpd, mfz, mfkp) wm2 → RELB xn xtold xsp xgr xfc xfk xlen xfsg xwa xwb mk mtold mla msp mfm mfk mpm mfpd mfz mfkp → ∀ (H1 : Heap) (locs1 : List Loc) (ls1 : Array Slot), va_P G.1 vwCl (wx2 ++ wm2) H1 → va_D (fun q : Nat => s.heap.size ≤ q) (wx2 ++ wm2) → va_S (fun q : Nat => s.heap.size ≤ q) s.heap H1 locs1 → lv_has ls1 4 [(3, .int (nI (i + 6))), (2, .ref h1), (1, .ref h0), (0, .ref b)] → W p l e room_1 s m #[Value.ref b] below meth c H1 locs1 (25 + cqN xwa xwb xc0 xb0) (94050 + sqN xwa xwb xc0 xb0) (lw_Z below #[Value.ref b] s) (F0 m 18 ls1 [])) : W p l e room_1 s m #[Value.ref b] below meth c H locs (25 + cqN xwa xwb xc0 xb0) (94050 + sqN xwa xwb xc0 xb0) (lw_Z below #[Value.ref b] s) (F0 m 794 ls []) := by
  obtain ⟨hx, hb, hr, hml, hown, hts0, hX, hbl, hlocks, hgv⟩ := id C0
  have hts : ∀ w ∈ wsL_law, w.before #[Value.ref b] s = true := fun w h => hts0 w (wsL_law_in w h)
  have hbA : ¬ (fun q : Nat => s.heap.size ≤ q) b := Nat.not_le.mpr hbl
  have hA : ∀ q : Nat, s.heap.size ≤ q → (fun q : Nat => s.heap.size ≤ q) q := fun _ h => h
  obtain ⟨hk2, hk6, hpm40, hla, hsp, hfm⟩ := mw_inv hM
  have hR0 := hR
  obtain ⟨rfl, rfl, rfl, rfl, rfl, rfl, hcr, -⟩ := hR
  refine lv_aload_n hx hb dL_law_794 rfl (lv_at hl 2 rfl) ?_
  refine lv_aload_n hx hb dL_law_795 rfl (lv_at hl 3 rfl) ?_
  refine lv_iload_n hx hb dL_law_796 rfl (lv_at hl 0 rfl) ?_
  refine lv_iconst (v := 1) hx hb dL_law_797 (by decide) ?_
  refine lv_iadd hx hb dL_law_798 ?_
  refine lv_topi (fun z1_q ez1_q => ?_)
  obtain rfl : z1_q = nI (i + 1) := by rw [ez1_q]; exact nI_add i 1
  refine va_sld hx hb hX hbl hbA hS (i := nI (i + 1)) (vp_in_nI (by omega) (by omega)) dL_law_799 ?_
  refine lv_topi (fun a0_q ea0_q => ?_)
  refine lv_aload_n hx hb dL_law_800 rfl (lv_at hl 3 rfl) ?_
  refine lv_iload_n hx hb dL_law_801 rfl (lv_at hl 0 rfl) ?_
  refine lv_iconst (v := 2) hx hb dL_law_802 (by decide) ?_
  refine lv_iadd hx hb dL_law_803 ?_
  refine lv_topi (fun z2_q ez2_q => ?_)
  obtain rfl : z2_q = nI (i + 2) := by rw [ez2_q]; exact nI_add i 2
  refine va_sld hx hb hX hbl hbA hS (i := nI (i + 2)) (vp_in_nI (by omega) (by omega)) dL_law_804 ?_
  refine lv_topi (fun a1_q ea1_q => ?_)
  refine lv_aload_n hx hb dL_law_805 rfl (lv_at hl 3 rfl) ?_
  refine lv_iload_n hx hb dL_law_806 rfl (lv_at hl 0 rfl) ?_
  refine lv_iconst (v := 3) hx hb dL_law_807 (by decide) ?_
  refine lv_iadd hx hb dL_law_808 ?_
  refine lv_topi (fun z3_q ez3_q => ?_)
  obtain rfl : z3_q = nI (i + 3) := by rw [ez3_q]; exact nI_add i 3
  refine va_sld hx hb hX hbl hbA hS (i := nI (i + 3)) (vp_in_nI (by omega) (by omega)) dL_law_809 ?_
  refine lv_topi (fun a2_q ea2_q => ?_)
  refine lv_aload_n hx hb dL_law_810 rfl (lv_at hl 3 rfl) ?_
  refine lv_iload_n hx hb dL_law_811 rfl (lv_at hl 0 rfl) ?_
  refine lv_iconst (v := 4) hx hb dL_law_812 (by decide) ?_
  refine lv_iadd hx hb dL_law_813 ?_
  refine lv_topi (fun z4_q ez4_q => ?_)
  obtain rfl : z4_q = nI (i + 4) := by rw [ez4_q]; exact nI_add i 4
  refine va_sld hx hb hX hbl hbA hS (i := nI (i + 4)) (vp_in_nI (by omega) (by omega)) dL_law_814 ?_
  refine lv_topi (fun a3_q ea3_q => ?_)
  refine lv_aload_n hx hb dL_law_815 rfl (lv_at hl 3 rfl) ?_
  refine lv_iload_n hx hb dL_law_816 rfl (lv_at hl 0 rfl) ?_
  refine lv_iconst (v := 5) hx hb dL_law_817 (by decide) ?_
  refine lv_iadd hx hb dL_law_818 ?_
  refine lv_topi (fun z5_q ez5_q => ?_)
  obtain rfl : z5_q = nI (i + 5) := by rw [ez5_q]; exact nI_add i 5
  refine va_sld hx hb hX hbl hbA hS (i := nI (i + 5)) (vp_in_nI (by omega) (by omega)) dL_law_819 ?_
  refine lv_topi (fun a4_q ea4_q => ?_)
  have hcq_q := cq_le hC
  obtain ⟨fs9_q, hhd_q⟩ := cw_head hC wm
  refine W_facts (fun hg => ?_)
  have hKx_q := K_left (x2_drawn l G H h0 mk mpm mla mtold msp xfc xfk mfpd xwa xwb xc0 xb0 (maN mfm) wx hC hk2 hk6 hpm40 hla hcr hsp a0_q a1_q a2_q a3_q a4_q) wm
  refine ca_LS (ws := wx ++ wm) hg (va_runV (As := [.int a0_q, .int a1_q, .int a2_q, .int a3_q, .int a4_q]) (rest := []) ⟨hx, hb, hml, hown, hts⟩ hKx_q (cwV 5 hts gL_law_X9_drawn rfl rfl rfl (by decide +kernel) ⟨by decide +kernel, by decide +kernel⟩) (pre_L E hP hD hS hA 0 5 rfl hhd_q) rfl rfl hl.1 rfl (lv_room (Nat.le_of_ble_eq_true rfl)) dL_law_820 ⟨show 25 + cqN xwa xwb xc0 xb0 + 0 ≤ 600000 by omega, show 94050 + sqN xwa xwb xc0 xb0 + 0 ≤ 7302250 by omega⟩) hS hD hA (fun r1_q u1_q H locs hw hP hD hS => ?_)
  obtain ⟨w2_q, g1_q, n1_q⟩ := u1_q
  dsimp only at hw hP hD
  obtain ⟨wx2_q, rfl, hC2_q, hg1_q, hn1_q, hpc_q⟩ := hw
  refine lv_pop hx hb dL_law_823 rfl ?_
  refine lv_aload_n hx hb dL_law_824 rfl (lv_at hl 1 rfl) ?_
  refine lv_aload_n hx hb dL_law_825 rfl (lv_at hl 3 rfl) ?_
  refine lv_iload_n hx hb dL_law_826 rfl (lv_at hl 0 rfl) ?_
  refine lv_iconst (v := 1) hx hb dL_law_827 (by decide) ?_
  refine lv_iadd hx hb dL_law_828 ?_
  refine lv_topi (fun z6_q ez6_q => ?_)
  obtain rfl : z6_q = nI (i + 1) := by rw [ez6_q]; exact nI_add i 1
  refine va_sld hx hb hX hbl hbA hS (i := nI (i + 1)) (vp_in_nI (by omega) (by omega)) dL_law_829 ?_
  refine lv_topi (fun d0_q ed0_q => ?_)
  obtain rfl : a0_q = d0_q := by rw [ea0_q, ed0_q]
  refine lv_aload_n hx hb dL_law_830 rfl (lv_at hl 3 rfl) ?_
  refine lv_iload_n hx hb dL_law_831 rfl (lv_at hl 0 rfl) ?_
  refine lv_iconst (v := 2) hx hb dL_law_832 (by decide) ?_
  refine lv_iadd hx hb dL_law_833 ?_
  refine lv_topi (fun z7_q ez7_q => ?_)
  obtain rfl : z7_q = nI (i + 2) := by rw [ez7_q]; exact nI_add i 2
  refine va_sld hx hb hX hbl hbA hS (i := nI (i + 2)) (vp_in_nI (by omega) (by omega)) dL_law_834 ?_
  refine lv_topi (fun d1_q ed1_q => ?_)
  obtain rfl : a1_q = d1_q := by rw [ea1_q, ed1_q]
  refine lv_aload_n hx hb dL_law_835 rfl (lv_at hl 3 rfl) ?_
  refine lv_iload_n hx hb dL_law_836 rfl (lv_at hl 0 rfl) ?_
  refine lv_iconst (v := 3) hx hb dL_law_837 (by decide) ?_
  refine lv_iadd hx hb dL_law_838 ?_
  refine lv_topi (fun z8_q ez8_q => ?_)
  obtain rfl : z8_q = nI (i + 3) := by rw [ez8_q]; exact nI_add i 3
  refine va_sld hx hb hX hbl hbA hS (i := nI (i + 3)) (vp_in_nI (by omega) (by omega)) dL_law_839 ?_
  refine lv_topi (fun d2_q ed2_q => ?_)
  obtain rfl : a2_q = d2_q := by rw [ea2_q, ed2_q]
  refine lv_aload_n hx hb dL_law_840 rfl (lv_at hl 3 rfl) ?_
  refine lv_iload_n hx hb dL_law_841 rfl (lv_at hl 0 rfl) ?_
  refine lv_iconst (v := 4) hx hb dL_law_842 (by decide) ?_
  refine lv_iadd hx hb dL_law_843 ?_
  refine lv_topi (fun z9_q ez9_q => ?_)
  obtain rfl : z9_q = nI (i + 4) := by rw [ez9_q]; exact nI_add i 4
  refine va_sld hx hb hX hbl hbA hS (i := nI (i + 4)) (vp_in_nI (by omega) (by omega)) dL_law_844 ?_
  refine lv_topi (fun d3_q ed3_q => ?_)
  obtain rfl : a3_q = d3_q := by rw [ea3_q, ed3_q]
  refine lv_aload_n hx hb dL_law_845 rfl (lv_at hl 3 rfl) ?_
  refine lv_iload_n hx hb dL_law_846 rfl (lv_at hl 0 rfl) ?_
  refine lv_iconst (v := 5) hx hb dL_law_847 (by decide) ?_
  refine lv_iadd hx hb dL_law_848 ?_
  refine lv_topi (fun z10_q ez10_q => ?_)
  obtain rfl : z10_q = nI (i + 5) := by rw [ez10_q]; exact nI_add i 5
  refine va_sld hx hb hX hbl hbA hS (i := nI (i + 5)) (vp_in_nI (by omega) (by omega)) dL_law_849 ?_
  refine lv_topi (fun d4_q ed4_q => ?_)
  obtain rfl : a4_q = d4_q := by rw [ea4_q, ed4_q]
  have hcq2_q := cq_le hC2_q
  obtain ⟨fs8_q, hhd2_q⟩ := mw_head hM wx2_q
  refine W_facts (fun hg => ?_)
  have hKm_q := K_right (k2_drawn l G H h1 mk mtold mla msp mfm mfk mpm mfpd mfz mfkp wm hM a0_q a1_q a2_q a3_q a4_q) wx2_q
  refine ca_LS (ws := wx2_q ++ wm) hg (va_runV (As := [.int a0_q, .int a1_q, .int a2_q, .int a3_q, .int a4_q]) (rest := []) ⟨hx, hb, hml, hown, hts⟩ hKm_q (cwV 5 hts gL_law_X10_drawn rfl rfl rfl (by decide +kernel) ⟨by decide +kernel, by decide +kernel⟩) (pre_L E hP hD hS hA wx2_q.length 6 rfl hhd2_q) rfl rfl hl.1 rfl (lv_room (Nat.le_of_ble_eq_true rfl)) dL_law_850 ⟨show 25 + cqN xwa xwb xc0 xb0 + g1_q + 0 ≤ 600000 by omega, show 94050 + sqN xwa xwb xc0 xb0 + n1_q + 0 ≤ 7302250 by omega⟩) hS hD hA (fun r2_q u2_q H locs hw hP hD hS => ?_)
  obtain ⟨w3_q, g2_q, n2_q⟩ := u2_q
  dsimp only at hw hP hD
  obtain ⟨wm2_q, rfl, hg2_q, hn2_q, q1__q, hM2_q, hpm_q⟩ := hw
  have hR2_q := And.intro (hpc_q.trans ((dwA_congr hR0.2.2.2.2.2.2.2.1).trans hpm_q.symm)) hR0
  refine lv_pop hx hb dL_law_853 rfl ?_
  refine lv_goto (tgt := 926) hx hb dL_law_854 (by decide) ?_
  obtain ⟨z9_q, ez9_q⟩ : ∃ yy_ : Int32, yy_ = nI i + 6 := ⟨_, rfl⟩
  refine lv_iinc (v := z9_q) (lv' := [(3, .int z9_q), (2, .ref h1), (1, .ref h0), (0, .ref b)]) hx hb dL_law_926 hl (k := 0) rfl (by rw [ez9_q]; rfl) (by decide) rfl (fun ls hl => ?_)
  obtain rfl : z9_q = nI (i + 6) := by rw [ez9_q]; exact nI_add i 6
  refine lv_goto (tgt := 18) hx hb dL_law_929 (by decide) ?_
  refine W_facts (fun hg => ?_)
  refine W_lower (k := 25 + cqN xwa xwb xc0 xb0) (n := 94050 + sqN xwa xwb xc0 xb0) (GF.wide hg (show 25 + cqN xwa xwb xc0 xb0 + g1_q + g2_q ≤ 25 + cqN xwa xwb xc0 xb0 by omega) (show 94050 + sqN xwa xwb xc0 xb0 + n1_q + n2_q ≤ 94050 + sqN xwa xwb xc0 xb0 by omega)) ?_
  exact ih (nI mk) mtold msp (nI (sc mk mla)) xfc xfk (nI mpm) mfpd xwa xwb xc0 xb0 mk mtold mla msp mfm mfk mpm mfpd mfz mfkp wx2_q wm2_q hC2_q hM2_q hR2_q.2 H locs ls hP hD hS hl

set_option maxHeartbeats 1000000 in
set_option maxRecDepth 100000 in
theorem law_image {p : Program} {l : Launch} {e : Env} {s : State} {m : MethodId} {below : List Frame} {meth : Method} {c : Code} {b L : Nat} {xs : Nat → Int32} {G : Gy} {h0 h1 i : Nat} (hL : L ≤ 3072) (hi : i + 6 ≤ L) (C0 : lw_At p s m meth c b L xs) (E : EV G (fun q : Nat => s.heap.size ≤ q) s s.heap) (xn : Int32) (xtold : Int32) (xsp : Int32) (xgr : Int32) (xfc : Nat → Int32) (xfk : Nat → Int32) (xlen : Int32) (xfsg : Nat → Int32) (xwa : Option PQ) (xwb : Option PQ) (xc0 : Nat) (xb0 : Nat) (mk : Nat) (mtold : Int32) (mla : Nat) (msp : Int32) (mfm : Nat → Int32) (mfk : Nat → Int32) (mpm : Nat) (mfpd : Nat → Int32) (mfz : Nat → Int32) (mfkp : Nat → Int32) (wx wm : va_W) (hC : CWd G h0 (xn, xtold, xsp, xgr, xfc, xfk, xlen, xfsg, xwa, xwb, xc0, xb0) wx) (hM : MWd G h1 (mk, mtold, mla, msp, mfm, mfk, mpm, mfpd, mfz, mfkp) wm) (hR : RELB xn xtold xsp xgr xfc xfk xlen xfsg xwa xwb mk mtold mla msp mfm mfk mpm mfpd mfz mfkp) {H : Heap} {locs : List Loc} {ls : Array Slot} (hP : va_P G.1 vwCl (wx ++ wm) H) (hD : va_D (fun q : Nat => s.heap.size ≤ q) (wx ++ wm)) (hS : va_S (fun q : Nat => s.heap.size ≤ q) s.heap H locs) (hl : lv_has ls 4 [(3, .int (nI i)), (2, .ref h1), (1, .ref h0), (0, .ref b)]) (ih : ∀ (xn : Int32) (xtold : Int32) (xsp : Int32) (xgr : Int32) (xfc : Nat → Int32) (xfk : Nat → Int32) (xlen : Int32) (xfsg : Nat → Int32) (xwa : Option PQ) (xwb : Option PQ) (xc0 : Nat) (xb0 : Nat) (mk : Nat) (mtold : Int32) (mla : Nat) (msp : Int32) (mfm : Nat → Int32) (mfk : Nat → Int32) (mpm : Nat) (mfpd : Nat → Int32) (mfz : Nat → Int32) (mfkp : Nat → Int32) (wx2 wm2 : va_W), CWd G h0 (xn, xtold, xsp, xgr, xfc, xfk, xlen, xfsg, xwa, xwb, xc0, xb0) wx2 → MWd G h1 (mk, mtold, mla, msp, mfm, mfk, mpm, mfpd, mfz, mfkp) wm2 → RELB xn xtold xsp xgr xfc xfk xlen xfsg xwa xwb mk mtold mla msp mfm mfk mpm mfpd mfz mfkp → ∀ (H1 : Heap) (locs1 : List Loc) (ls1 : Array Slot), va_P G.1 vwCl (wx2 ++ wm2) H1 → va_D (fun q : Nat => s.heap.size ≤ q) (wx2 ++ wm2) → va_S (fun q : Nat => s.heap.size ≤ q) s.heap H1 locs1 → lv_has ls1 4 [(3, .int (nI (i + 6))), (2, .ref h1), (1, .ref h0), (0, .ref b)] → W p l e room_1 s m #[Value.ref b] below meth c H1 locs1 (25 + cqN xwa xwb xc0 xb0) (94050 + sqN xwa xwb xc0 xb0) (lw_Z below #[Value.ref b] s) (F0 m 18 ls1 [])) : W p l e room_1 s m #[Value.ref b] below meth c H locs (25 + cqN xwa xwb xc0 xb0) (94050 + sqN xwa xwb xc0 xb0) (lw_Z below #[Value.ref b] s) (F0 m 857 ls []) := by
  obtain ⟨hx, hb, hr, hml, hown, hts0, hX, hbl, hlocks, hgv⟩ := id C0
  have hts : ∀ w ∈ wsL_law, w.before #[Value.ref b] s = true := fun w h => hts0 w (wsL_law_in w h)
  have hbA : ¬ (fun q : Nat => s.heap.size ≤ q) b := Nat.not_le.mpr hbl
  have hA : ∀ q : Nat, s.heap.size ≤ q → (fun q : Nat => s.heap.size ≤ q) q := fun _ h => h
  obtain ⟨hk2, hk6, hpm40, hla, hsp, hfm⟩ := mw_inv hM
  have hR0 := hR
  obtain ⟨rfl, rfl, rfl, rfl, rfl, rfl, hcr, -⟩ := hR
  refine lv_aload_n hx hb dL_law_857 rfl (lv_at hl 2 rfl) ?_
  refine lv_aload_n hx hb dL_law_858 rfl (lv_at hl 3 rfl) ?_
  refine lv_iload_n hx hb dL_law_859 rfl (lv_at hl 0 rfl) ?_
  refine lv_iconst (v := 1) hx hb dL_law_860 (by decide) ?_
  refine lv_iadd hx hb dL_law_861 ?_
  refine lv_topi (fun z1_q ez1_q => ?_)
  obtain rfl : z1_q = nI (i + 1) := by rw [ez1_q]; exact nI_add i 1
  refine va_sld hx hb hX hbl hbA hS (i := nI (i + 1)) (vp_in_nI (by omega) (by omega)) dL_law_862 ?_
  refine lv_topi (fun a0_q ea0_q => ?_)
  have hcq_q := cq_le hC
  obtain ⟨fs9_q, hhd_q⟩ := cw_head hC wm
  refine W_facts (fun hg => ?_)
  have hKx_q := K_left (x_image l G H h0 (nI mk) mtold msp (nI (sc mk mla)) xfc xfk (nI mpm) mfpd xwa xwb xc0 xb0 wx hC a0_q) wm
  refine ca_LS (ws := wx ++ wm) hg (va_runV (As := [.int a0_q]) (rest := []) ⟨hx, hb, hml, hown, hts⟩ hKx_q (cwV 1 hts gL_law_X9_image rfl rfl rfl (by decide +kernel) ⟨by decide +kernel, by decide +kernel⟩) (pre_L E hP hD hS hA 0 5 rfl hhd_q) rfl rfl hl.1 rfl (lv_room (Nat.le_of_ble_eq_true rfl)) dL_law_863 ⟨show 25 + cqN xwa xwb xc0 xb0 + 3 ≤ 600000 by omega, show 94050 + sqN xwa xwb xc0 xb0 + 16 ≤ 7302250 by omega⟩) hS hD hA (fun r1_q u1_q H locs hw hP hD hS => ?_)
  obtain ⟨w2_q, g1_q, n1_q⟩ := u1_q
  dsimp only at hw hP hD
  obtain ⟨wx2_q, rfl, wa1_q, wb1_q, gg1_q, hC2_q, hg1_q, hn1_q, hpc_q⟩ := hw
  refine lv_pop hx hb dL_law_866 rfl ?_
  refine lv_aload_n hx hb dL_law_867 rfl (lv_at hl 1 rfl) ?_
  refine lv_aload_n hx hb dL_law_868 rfl (lv_at hl 3 rfl) ?_
  refine lv_iload_n hx hb dL_law_869 rfl (lv_at hl 0 rfl) ?_
  refine lv_iconst (v := 1) hx hb dL_law_870 (by decide) ?_
  refine lv_iadd hx hb dL_law_871 ?_
  refine lv_topi (fun z2_q ez2_q => ?_)
  obtain rfl : z2_q = nI (i + 1) := by rw [ez2_q]; exact nI_add i 1
  refine va_sld hx hb hX hbl hbA hS (i := nI (i + 1)) (vp_in_nI (by omega) (by omega)) dL_law_872 ?_
  refine lv_topi (fun d0_q ed0_q => ?_)
  obtain rfl : a0_q = d0_q := by rw [ea0_q, ed0_q]
  have hcq2_q := cq_le hC2_q
  obtain ⟨fs8_q, hhd2_q⟩ := mw_head hM wx2_q
  refine W_facts (fun hg => ?_)
  have hKm_q := K_right (k_image l G H h1 mk mtold mla msp mfm mfk mpm mfpd mfz mfkp wm hM a0_q) wx2_q
  refine ca_LS (ws := wx2_q ++ wm) hg (va_runV (As := [.int a0_q]) (rest := []) ⟨hx, hb, hml, hown, hts⟩ hKm_q (cwV 1 hts gL_law_X10_image rfl rfl rfl (by decide +kernel) ⟨by decide +kernel, by decide +kernel⟩) (pre_L E hP hD hS hA wx2_q.length 6 rfl hhd2_q) rfl rfl hl.1 rfl (lv_room (Nat.le_of_ble_eq_true rfl)) dL_law_873 ⟨show 25 + cqN xwa xwb xc0 xb0 + g1_q + 0 ≤ 600000 by omega, show 94050 + sqN xwa xwb xc0 xb0 + n1_q + 0 ≤ 7302250 by omega⟩) hS hD hA (fun r2_q u2_q H locs hw hP hD hS => ?_)
  obtain ⟨w3_q, g2_q, n2_q⟩ := u2_q
  dsimp only at hw hP hD
  obtain ⟨wm2_q, rfl, hg2_q, hn2_q, q1__q, q2__q, q3__q, mgq_q, mgz_q, hM2_q, hpm_q⟩ := hw
  have hR2_q := rb_image hk6 hla hR0 hpc_q hpm_q.2
  refine lv_pop hx hb dL_law_876 rfl ?_
  refine lv_goto (tgt := 926) hx hb dL_law_877 (by decide) ?_
  obtain ⟨z9_q, ez9_q⟩ : ∃ yy_ : Int32, yy_ = nI i + 6 := ⟨_, rfl⟩
  refine lv_iinc (v := z9_q) (lv' := [(3, .int z9_q), (2, .ref h1), (1, .ref h0), (0, .ref b)]) hx hb dL_law_926 hl (k := 0) rfl (by rw [ez9_q]; rfl) (by decide) rfl (fun ls hl => ?_)
  obtain rfl : z9_q = nI (i + 6) := by rw [ez9_q]; exact nI_add i 6
  refine lv_goto (tgt := 18) hx hb dL_law_929 (by decide) ?_
  refine W_facts (fun hg => ?_)
  refine W_lower (k := 25 + cqN wa1_q wb1_q xc0 xb0) (n := 94050 + sqN wa1_q wb1_q xc0 xb0) (GF.wide hg (show 25 + cqN xwa xwb xc0 xb0 + g1_q + g2_q ≤ 25 + cqN wa1_q wb1_q xc0 xb0 by omega) (show 94050 + sqN xwa xwb xc0 xb0 + n1_q + n2_q ≤ 94050 + sqN wa1_q wb1_q xc0 xb0 by omega)) ?_
  exact ih (nI mk) mtold msp (nI (sc mk mla)) xfc xfk (nI mpm) mfpd wa1_q wb1_q xc0 xb0 mk mtold mla msp mfm mfk mpm mfpd mgz_q mgq_q wx2_q wm2_q hC2_q hM2_q hR2_q.2 H locs ls hP hD hS hl

set_option maxHeartbeats 1000000 in
set_option maxRecDepth 100000 in
theorem law_restore {p : Program} {l : Launch} {e : Env} {s : State} {m : MethodId} {below : List Frame} {meth : Method} {c : Code} {b L : Nat} {xs : Nat → Int32} {G : Gy} {h0 h1 i : Nat} (hL : L ≤ 3072) (hi : i + 6 ≤ L) (C0 : lw_At p s m meth c b L xs) (E : EV G (fun q : Nat => s.heap.size ≤ q) s s.heap) (xn : Int32) (xtold : Int32) (xsp : Int32) (xgr : Int32) (xfc : Nat → Int32) (xfk : Nat → Int32) (xlen : Int32) (xfsg : Nat → Int32) (xwa : Option PQ) (xwb : Option PQ) (xc0 : Nat) (xb0 : Nat) (mk : Nat) (mtold : Int32) (mla : Nat) (msp : Int32) (mfm : Nat → Int32) (mfk : Nat → Int32) (mpm : Nat) (mfpd : Nat → Int32) (mfz : Nat → Int32) (mfkp : Nat → Int32) (wx wm : va_W) (hC : CWd G h0 (xn, xtold, xsp, xgr, xfc, xfk, xlen, xfsg, xwa, xwb, xc0, xb0) wx) (hM : MWd G h1 (mk, mtold, mla, msp, mfm, mfk, mpm, mfpd, mfz, mfkp) wm) (hR : RELB xn xtold xsp xgr xfc xfk xlen xfsg xwa xwb mk mtold mla msp mfm mfk mpm mfpd mfz mfkp) {H : Heap} {locs : List Loc} {ls : Array Slot} (hP : va_P G.1 vwCl (wx ++ wm) H) (hD : va_D (fun q : Nat => s.heap.size ≤ q) (wx ++ wm)) (hS : va_S (fun q : Nat => s.heap.size ≤ q) s.heap H locs) (hl : lv_has ls 4 [(3, .int (nI i)), (2, .ref h1), (1, .ref h0), (0, .ref b)]) (ih : ∀ (xn : Int32) (xtold : Int32) (xsp : Int32) (xgr : Int32) (xfc : Nat → Int32) (xfk : Nat → Int32) (xlen : Int32) (xfsg : Nat → Int32) (xwa : Option PQ) (xwb : Option PQ) (xc0 : Nat) (xb0 : Nat) (mk : Nat) (mtold : Int32) (mla : Nat) (msp : Int32) (mfm : Nat → Int32) (mfk : Nat → Int32) (mpm : Nat) (mfpd : Nat → Int32) (mfz : Nat → Int32) (mfkp : Nat → Int32) (wx2 wm2 : va_W), CWd G h0 (xn, xtold, xsp, xgr, xfc, xfk, xlen, xfsg, xwa, xwb, xc0, xb0) wx2 → MWd G h1 (mk, mtold, mla, msp, mfm, mfk, mpm, mfpd, mfz, mfkp) wm2 → RELB xn xtold xsp xgr xfc xfk xlen xfsg xwa xwb mk mtold mla msp mfm mfk mpm mfpd mfz mfkp → ∀ (H1 : Heap) (locs1 : List Loc) (ls1 : Array Slot), va_P G.1 vwCl (wx2 ++ wm2) H1 → va_D (fun q : Nat => s.heap.size ≤ q) (wx2 ++ wm2) → va_S (fun q : Nat => s.heap.size ≤ q) s.heap H1 locs1 → lv_has ls1 4 [(3, .int (nI (i + 6))), (2, .ref h1), (1, .ref h0), (0, .ref b)] → W p l e room_1 s m #[Value.ref b] below meth c H1 locs1 (25 + cqN xwa xwb xc0 xb0) (94050 + sqN xwa xwb xc0 xb0) (lw_Z below #[Value.ref b] s) (F0 m 18 ls1 [])) : W p l e room_1 s m #[Value.ref b] below meth c H locs (25 + cqN xwa xwb xc0 xb0) (94050 + sqN xwa xwb xc0 xb0) (lw_Z below #[Value.ref b] s) (F0 m 880 ls []) := by
  obtain ⟨hx, hb, hr, hml, hown, hts0, hX, hbl, hlocks, hgv⟩ := id C0
  have hts : ∀ w ∈ wsL_law, w.before #[Value.ref b] s = true := fun w h => hts0 w (wsL_law_in w h)
  have hbA : ¬ (fun q : Nat => s.heap.size ≤ q) b := Nat.not_le.mpr hbl
  have hA : ∀ q : Nat, s.heap.size ≤ q → (fun q : Nat => s.heap.size ≤ q) q := fun _ h => h
  obtain ⟨hk2, hk6, hpm40, hla, hsp, hfm⟩ := mw_inv hM
  have hR0 := hR
  obtain ⟨rfl, rfl, rfl, rfl, rfl, rfl, hcr, -⟩ := hR
  refine lv_aload_n hx hb dL_law_880 rfl (lv_at hl 2 rfl) ?_
  refine lv_aload_n hx hb dL_law_881 rfl (lv_at hl 3 rfl) ?_
  refine lv_iload_n hx hb dL_law_882 rfl (lv_at hl 0 rfl) ?_
  refine lv_iconst (v := 1) hx hb dL_law_883 (by decide) ?_
  refine lv_iadd hx hb dL_law_884 ?_
  refine lv_topi (fun z1_q ez1_q => ?_)
  obtain rfl : z1_q = nI (i + 1) := by rw [ez1_q]; exact nI_add i 1
  refine va_sld hx hb hX hbl hbA hS (i := nI (i + 1)) (vp_in_nI (by omega) (by omega)) dL_law_885 ?_
  refine lv_topi (fun a0_q ea0_q => ?_)
  have hcq_q := cq_le hC
  obtain ⟨fs9_q, hhd_q⟩ := cw_head hC wm
  refine W_facts (fun hg => ?_)
  have hKx_q := K_left (x_restore l G H h0 (nI mk) mtold msp (nI (sc mk mla)) xfc xfk (nI mpm) mfpd xwa xwb xc0 xb0 wx hC a0_q) wm
  refine ca_LS (ws := wx ++ wm) hg (va_runV (As := [.int a0_q]) (rest := []) ⟨hx, hb, hml, hown, hts⟩ hKx_q (cwV 1 hts gL_law_X9_restore rfl rfl rfl (by decide +kernel) ⟨by decide +kernel, by decide +kernel⟩) (pre_L E hP hD hS hA 0 5 rfl hhd_q) rfl rfl hl.1 rfl (lv_room (Nat.le_of_ble_eq_true rfl)) dL_law_886 ⟨show 25 + cqN xwa xwb xc0 xb0 + 0 ≤ 600000 by omega, show 94050 + sqN xwa xwb xc0 xb0 + 0 ≤ 7302250 by omega⟩) hS hD hA (fun r1_q u1_q H locs hw hP hD hS => ?_)
  obtain ⟨w2_q, g1_q, n1_q⟩ := u1_q
  dsimp only at hw hP hD
  obtain ⟨wx2_q, rfl, xn1_q, told1_q, sp1_q, gr1_q, fc1_q, fk1_q, hC2_q, hg1_q, hn1_q, hpc_q⟩ := hw
  refine lv_pop hx hb dL_law_889 rfl ?_
  refine lv_aload_n hx hb dL_law_890 rfl (lv_at hl 1 rfl) ?_
  refine lv_aload_n hx hb dL_law_891 rfl (lv_at hl 3 rfl) ?_
  refine lv_iload_n hx hb dL_law_892 rfl (lv_at hl 0 rfl) ?_
  refine lv_iconst (v := 1) hx hb dL_law_893 (by decide) ?_
  refine lv_iadd hx hb dL_law_894 ?_
  refine lv_topi (fun z2_q ez2_q => ?_)
  obtain rfl : z2_q = nI (i + 1) := by rw [ez2_q]; exact nI_add i 1
  refine va_sld hx hb hX hbl hbA hS (i := nI (i + 1)) (vp_in_nI (by omega) (by omega)) dL_law_895 ?_
  refine lv_topi (fun d0_q ed0_q => ?_)
  obtain rfl : a0_q = d0_q := by rw [ea0_q, ed0_q]
  have hcq2_q := cq_le hC2_q
  obtain ⟨fs8_q, hhd2_q⟩ := mw_head hM wx2_q
  refine W_facts (fun hg => ?_)
  have hKm_q := K_right (k_restore l G H h1 mk mtold mla msp mfm mfk mpm mfpd mfz mfkp wm hM a0_q) wx2_q
  refine ca_LS (ws := wx2_q ++ wm) hg (va_runV (As := [.int a0_q]) (rest := []) ⟨hx, hb, hml, hown, hts⟩ hKm_q (cwV 1 hts gL_law_X10_restore rfl rfl rfl (by decide +kernel) ⟨by decide +kernel, by decide +kernel⟩) (pre_L E hP hD hS hA wx2_q.length 6 rfl hhd2_q) rfl rfl hl.1 rfl (lv_room (Nat.le_of_ble_eq_true rfl)) dL_law_896 ⟨show 25 + cqN xwa xwb xc0 xb0 + g1_q + 0 ≤ 600000 by omega, show 94050 + sqN xwa xwb xc0 xb0 + n1_q + 0 ≤ 7302250 by omega⟩) hS hD hA (fun r2_q u2_q H locs hw hP hD hS => ?_)
  obtain ⟨w3_q, g2_q, n2_q⟩ := u2_q
  dsimp only at hw hP hD
  obtain ⟨wm2_q, rfl, hg2_q, hn2_q, q1__q, q2__q, k1_q, mtold1_q, mla1_q, msp1_q, mgm_q, mgk_q, q3__q, hM2_q, hpm_q⟩ := hw
  have hR2_q := rb_restore hpm_q.2.1 hpm_q.2.2.1 hR0 hpc_q hpm_q.2.2.2.2.2.2
  refine lv_pop hx hb dL_law_899 rfl ?_
  refine lv_goto (tgt := 926) hx hb dL_law_900 (by decide) ?_
  obtain ⟨z9_q, ez9_q⟩ : ∃ yy_ : Int32, yy_ = nI i + 6 := ⟨_, rfl⟩
  refine lv_iinc (v := z9_q) (lv' := [(3, .int z9_q), (2, .ref h1), (1, .ref h0), (0, .ref b)]) hx hb dL_law_926 hl (k := 0) rfl (by rw [ez9_q]; rfl) (by decide) rfl (fun ls hl => ?_)
  obtain rfl : z9_q = nI (i + 6) := by rw [ez9_q]; exact nI_add i 6
  refine lv_goto (tgt := 18) hx hb dL_law_929 (by decide) ?_
  refine W_facts (fun hg => ?_)
  refine W_lower (k := 25 + cqN xwa xwb xc0 xb0) (n := 94050 + sqN xwa xwb xc0 xb0) (GF.wide hg (show 25 + cqN xwa xwb xc0 xb0 + g1_q + g2_q ≤ 25 + cqN xwa xwb xc0 xb0 by omega) (show 94050 + sqN xwa xwb xc0 xb0 + n1_q + n2_q ≤ 94050 + sqN xwa xwb xc0 xb0 by omega)) ?_
  exact ih xn1_q told1_q sp1_q gr1_q fc1_q fk1_q (nI mpm) mfpd xwa xwb xc0 xb0 k1_q mtold1_q mla1_q msp1_q mgm_q mgk_q mpm mfpd mfz mfkp wx2_q wm2_q hC2_q hM2_q hR2_q.2 H locs ls hP hD hS hl

set_option maxHeartbeats 1000000 in
set_option maxRecDepth 100000 in
theorem law_told {p : Program} {l : Launch} {e : Env} {s : State} {m : MethodId} {below : List Frame} {meth : Method} {c : Code} {b L : Nat} {xs : Nat → Int32} {G : Gy} {h0 h1 i : Nat} (hL : L ≤ 3072) (hi : i + 6 ≤ L) (C0 : lw_At p s m meth c b L xs) (E : EV G (fun q : Nat => s.heap.size ≤ q) s s.heap) (xn : Int32) (xtold : Int32) (xsp : Int32) (xgr : Int32) (xfc : Nat → Int32) (xfk : Nat → Int32) (xlen : Int32) (xfsg : Nat → Int32) (xwa : Option PQ) (xwb : Option PQ) (xc0 : Nat) (xb0 : Nat) (mk : Nat) (mtold : Int32) (mla : Nat) (msp : Int32) (mfm : Nat → Int32) (mfk : Nat → Int32) (mpm : Nat) (mfpd : Nat → Int32) (mfz : Nat → Int32) (mfkp : Nat → Int32) (wx wm : va_W) (hC : CWd G h0 (xn, xtold, xsp, xgr, xfc, xfk, xlen, xfsg, xwa, xwb, xc0, xb0) wx) (hM : MWd G h1 (mk, mtold, mla, msp, mfm, mfk, mpm, mfpd, mfz, mfkp) wm) (hR : RELB xn xtold xsp xgr xfc xfk xlen xfsg xwa xwb mk mtold mla msp mfm mfk mpm mfpd mfz mfkp) {H : Heap} {locs : List Loc} {ls : Array Slot} (hP : va_P G.1 vwCl (wx ++ wm) H) (hD : va_D (fun q : Nat => s.heap.size ≤ q) (wx ++ wm)) (hS : va_S (fun q : Nat => s.heap.size ≤ q) s.heap H locs) (hl : lv_has ls 4 [(3, .int (nI i)), (2, .ref h1), (1, .ref h0), (0, .ref b)]) (ih : ∀ (xn : Int32) (xtold : Int32) (xsp : Int32) (xgr : Int32) (xfc : Nat → Int32) (xfk : Nat → Int32) (xlen : Int32) (xfsg : Nat → Int32) (xwa : Option PQ) (xwb : Option PQ) (xc0 : Nat) (xb0 : Nat) (mk : Nat) (mtold : Int32) (mla : Nat) (msp : Int32) (mfm : Nat → Int32) (mfk : Nat → Int32) (mpm : Nat) (mfpd : Nat → Int32) (mfz : Nat → Int32) (mfkp : Nat → Int32) (wx2 wm2 : va_W), CWd G h0 (xn, xtold, xsp, xgr, xfc, xfk, xlen, xfsg, xwa, xwb, xc0, xb0) wx2 → MWd G h1 (mk, mtold, mla, msp, mfm, mfk, mpm, mfpd, mfz, mfkp) wm2 → RELB xn xtold xsp xgr xfc xfk xlen xfsg xwa xwb mk mtold mla msp mfm mfk mpm mfpd mfz mfkp → ∀ (H1 : Heap) (locs1 : List Loc) (ls1 : Array Slot), va_P G.1 vwCl (wx2 ++ wm2) H1 → va_D (fun q : Nat => s.heap.size ≤ q) (wx2 ++ wm2) → va_S (fun q : Nat => s.heap.size ≤ q) s.heap H1 locs1 → lv_has ls1 4 [(3, .int (nI (i + 6))), (2, .ref h1), (1, .ref h0), (0, .ref b)] → W p l e room_1 s m #[Value.ref b] below meth c H1 locs1 (25 + cqN xwa xwb xc0 xb0) (94050 + sqN xwa xwb xc0 xb0) (lw_Z below #[Value.ref b] s) (F0 m 18 ls1 [])) : W p l e room_1 s m #[Value.ref b] below meth c H locs (25 + cqN xwa xwb xc0 xb0) (94050 + sqN xwa xwb xc0 xb0) (lw_Z below #[Value.ref b] s) (F0 m 903 ls []) := by
  obtain ⟨hx, hb, hr, hml, hown, hts0, hX, hbl, hlocks, hgv⟩ := id C0
  have hts : ∀ w ∈ wsL_law, w.before #[Value.ref b] s = true := fun w h => hts0 w (wsL_law_in w h)
  have hbA : ¬ (fun q : Nat => s.heap.size ≤ q) b := Nat.not_le.mpr hbl
  have hA : ∀ q : Nat, s.heap.size ≤ q → (fun q : Nat => s.heap.size ≤ q) q := fun _ h => h
  obtain ⟨hk2, hk6, hpm40, hla, hsp, hfm⟩ := mw_inv hM
  have hR0 := hR
  obtain ⟨rfl, rfl, rfl, rfl, rfl, rfl, hcr, -⟩ := hR
  refine lv_aload_n hx hb dL_law_903 rfl (lv_at hl 2 rfl) ?_
  refine lv_aload_n hx hb dL_law_904 rfl (lv_at hl 3 rfl) ?_
  refine lv_iload_n hx hb dL_law_905 rfl (lv_at hl 0 rfl) ?_
  refine lv_iconst (v := 1) hx hb dL_law_906 (by decide) ?_
  refine lv_iadd hx hb dL_law_907 ?_
  refine lv_topi (fun z1_q ez1_q => ?_)
  obtain rfl : z1_q = nI (i + 1) := by rw [ez1_q]; exact nI_add i 1
  refine va_sld hx hb hX hbl hbA hS (i := nI (i + 1)) (vp_in_nI (by omega) (by omega)) dL_law_908 ?_
  refine lv_topi (fun a0_q ea0_q => ?_)
  have hcq_q := cq_le hC
  obtain ⟨fs9_q, hhd_q⟩ := cw_head hC wm
  refine W_facts (fun hg => ?_)
  have hKx_q := K_left (x2_told l G H h0 mk mpm mla mtold msp xfc xfk mfpd xwa xwb xc0 xb0 (maN mfm) wx hC hk2 hk6 hpm40 hla hcr hsp a0_q) wm
  refine ca_LS (ws := wx ++ wm) hg (va_runV (As := [.int a0_q]) (rest := []) ⟨hx, hb, hml, hown, hts⟩ hKx_q (cwV 1 hts gL_law_X9_told rfl rfl rfl (by decide +kernel) ⟨by decide +kernel, by decide +kernel⟩) (pre_L E hP hD hS hA 0 5 rfl hhd_q) rfl rfl hl.1 rfl (lv_room (Nat.le_of_ble_eq_true rfl)) dL_law_909 ⟨show 25 + cqN xwa xwb xc0 xb0 + 0 ≤ 600000 by omega, show 94050 + sqN xwa xwb xc0 xb0 + 0 ≤ 7302250 by omega⟩) hS hD hA (fun r1_q u1_q H locs hw hP hD hS => ?_)
  obtain ⟨w2_q, g1_q, n1_q⟩ := u1_q
  dsimp only at hw hP hD
  obtain ⟨wx2_q, rfl, hC2_q, hg1_q, hn1_q, hpc_q⟩ := hw
  refine lv_pop hx hb dL_law_912 rfl ?_
  refine lv_aload_n hx hb dL_law_913 rfl (lv_at hl 1 rfl) ?_
  refine lv_aload_n hx hb dL_law_914 rfl (lv_at hl 3 rfl) ?_
  refine lv_iload_n hx hb dL_law_915 rfl (lv_at hl 0 rfl) ?_
  refine lv_iconst (v := 1) hx hb dL_law_916 (by decide) ?_
  refine lv_iadd hx hb dL_law_917 ?_
  refine lv_topi (fun z2_q ez2_q => ?_)
  obtain rfl : z2_q = nI (i + 1) := by rw [ez2_q]; exact nI_add i 1
  refine va_sld hx hb hX hbl hbA hS (i := nI (i + 1)) (vp_in_nI (by omega) (by omega)) dL_law_918 ?_
  refine lv_topi (fun d0_q ed0_q => ?_)
  obtain rfl : a0_q = d0_q := by rw [ea0_q, ed0_q]
  have hcq2_q := cq_le hC2_q
  obtain ⟨fs8_q, hhd2_q⟩ := mw_head hM wx2_q
  refine W_facts (fun hg => ?_)
  have hKm_q := K_right (k_told l G H h1 mk mtold mla msp mfm mfk mpm mfpd mfz mfkp wm hM a0_q) wx2_q
  refine ca_LS (ws := wx2_q ++ wm) hg (va_runV (As := [.int a0_q]) (rest := []) ⟨hx, hb, hml, hown, hts⟩ hKm_q (cwV 1 hts gL_law_X10_told rfl rfl rfl (by decide +kernel) ⟨by decide +kernel, by decide +kernel⟩) (pre_L E hP hD hS hA wx2_q.length 6 rfl hhd2_q) rfl rfl hl.1 rfl (lv_room (Nat.le_of_ble_eq_true rfl)) dL_law_919 ⟨show 25 + cqN xwa xwb xc0 xb0 + g1_q + 0 ≤ 600000 by omega, show 94050 + sqN xwa xwb xc0 xb0 + n1_q + 0 ≤ 7302250 by omega⟩) hS hD hA (fun r2_q u2_q H locs hw hP hD hS => ?_)
  obtain ⟨w3_q, g2_q, n2_q⟩ := u2_q
  dsimp only at hw hP hD
  obtain ⟨wm2_q, rfl, hg2_q, hn2_q, hM2_q, hpm_q⟩ := hw
  have hR2_q := And.intro (hpc_q.trans ((tdA_congr hR0.2.2.2.2.2.2.2.1).trans hpm_q.symm)) hR0
  refine lv_pop hx hb dL_law_922 rfl ?_
  refine lv_goto (tgt := 926) hx hb dL_law_923 (by decide) ?_
  obtain ⟨z9_q, ez9_q⟩ : ∃ yy_ : Int32, yy_ = nI i + 6 := ⟨_, rfl⟩
  refine lv_iinc (v := z9_q) (lv' := [(3, .int z9_q), (2, .ref h1), (1, .ref h0), (0, .ref b)]) hx hb dL_law_926 hl (k := 0) rfl (by rw [ez9_q]; rfl) (by decide) rfl (fun ls hl => ?_)
  obtain rfl : z9_q = nI (i + 6) := by rw [ez9_q]; exact nI_add i 6
  refine lv_goto (tgt := 18) hx hb dL_law_929 (by decide) ?_
  refine W_facts (fun hg => ?_)
  refine W_lower (k := 25 + cqN xwa xwb xc0 xb0) (n := 94050 + sqN xwa xwb xc0 xb0) (GF.wide hg (show 25 + cqN xwa xwb xc0 xb0 + g1_q + g2_q ≤ 25 + cqN xwa xwb xc0 xb0 by omega) (show 94050 + sqN xwa xwb xc0 xb0 + n1_q + n2_q ≤ 94050 + sqN xwa xwb xc0 xb0 by omega)) ?_
  exact ih (nI mk) mtold msp (nI (sc mk mla)) xfc xfk (nI mpm) mfpd xwa xwb xc0 xb0 mk mtold mla msp mfm mfk mpm mfpd mfz mfkp wx2_q wm2_q hC2_q hM2_q hR2_q.2 H locs ls hP hD hS hl
