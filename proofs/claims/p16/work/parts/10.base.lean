/-! the environment that every contract carries: class numbers, array classes, static tables, nest words -/
abbrev Gy : Type := va_G × (ClassId × ClassId × ClassId × ClassId × ClassId)
abbrev gB (G : Gy) : ClassId := G.2.1
abbrev gI (G : Gy) : ClassId := G.2.2.1
abbrev gZ (G : Gy) : ClassId := G.2.2.2.1
abbrev gP (G : Gy) : ClassId := G.2.2.2.2.1
abbrev gT (G : Gy) : ClassId := G.2.2.2.2.2
def gt (G : Gy) : List (ClassId × FieldType) := [(gB G, .byte), (gI G, .int), (gZ G, .boolean), (gP G, .object RX3), (gT G, .object RX7)]
def tW : Nat → Value := fun j => .int (([97, 98, 99, 100, 45, 63] : List Int32).getD j 0)
def tM : Nat → Value := fun j => .int (([3125, 625, 125, 25, 5, 1] : List Int32).getD j 0)
def tO : Nat → Value := fun j => .int (([0, 1, 2, 3, 10, 11, 12, 13, 20, 21, 22, 23, 30, 31, 32, 33, 40, 41, 42, 43, 50, 51, 52, 53, 100, 110, 120, 130, 140, 200, 210, 220, 230, 240, 300, 310, 320, 330, 340, 350] : List Int32).getD j 0)
def EV (G : Gy) (A : Nat → Prop) (U : State) (H : Heap) : Prop :=
  va_K G.1 vwCl (gt G) U ∧ (∃ t : Nat, va_Z RX5 "WRITTEN" "[I" (.ref t) A U H ∧ va_T .int t 6 tW A U H) ∧ (∃ t : Nat, va_Z RX1 "WEIGHTS" "[I" (.ref t) A U H ∧ va_T .int t 6 tM A U H) ∧ (∃ t : Nat, va_Z RX6 "ORDER" "[I" (.ref t) A U H ∧ va_T .int t 40 tO A U H) ∧
  va_AO RX3 U ∧ va_AO RX7 U ∧ va_Nw (.methodLinkNest RX9 9 yX2_init RX9) U ∧ va_Nw (.methodLinkNest RX9 18 yX3_init RX9) U ∧ va_Nw (.methodLinkNest RX9 220 yX4_init RX9) U ∧ va_Nw (.methodLinkNest RX9 131 yX8_init RX9) U ∧ va_Nw (.methodLinkNest RX4 39 yX7_init RX9) U ∧ va_Nw (.methodLinkNest RX8 21 yX9_isMap RX9) U ∧ va_Nw (.methodLinkNest RX8 46 yX9_isOf RX9) U
theorem EV.K {G : Gy} {A : Nat → Prop} {U : State} {H : Heap} (h : EV G A U H) : va_K G.1 vwCl (gt G) U := h.1
theorem EV.W {G : Gy} {A : Nat → Prop} {U : State} {H : Heap} (h : EV G A U H) : ∃ t : Nat, va_Z RX5 "WRITTEN" "[I" (.ref t) A U H ∧ va_T .int t 6 tW A U H := h.2.1
theorem EV.M {G : Gy} {A : Nat → Prop} {U : State} {H : Heap} (h : EV G A U H) : ∃ t : Nat, va_Z RX1 "WEIGHTS" "[I" (.ref t) A U H ∧ va_T .int t 6 tM A U H := h.2.2.1
theorem EV.O {G : Gy} {A : Nat → Prop} {U : State} {H : Heap} (h : EV G A U H) : ∃ t : Nat, va_Z RX6 "ORDER" "[I" (.ref t) A U H ∧ va_T .int t 40 tO A U H := h.2.2.2.1
theorem EV.aP {G : Gy} {A : Nat → Prop} {U : State} {H : Heap} (h : EV G A U H) : va_AO RX3 U := h.2.2.2.2.1
theorem EV.aT {G : Gy} {A : Nat → Prop} {U : State} {H : Heap} (h : EV G A U H) : va_AO RX7 U := h.2.2.2.2.2.1
theorem EV.n9 {G : Gy} {A : Nat → Prop} {U : State} {H : Heap} (h : EV G A U H) : va_Nw (.methodLinkNest RX9 9 yX2_init RX9) U := h.2.2.2.2.2.2.1
theorem EV.n18 {G : Gy} {A : Nat → Prop} {U : State} {H : Heap} (h : EV G A U H) : va_Nw (.methodLinkNest RX9 18 yX3_init RX9) U := h.2.2.2.2.2.2.2.1
theorem EV.n220 {G : Gy} {A : Nat → Prop} {U : State} {H : Heap} (h : EV G A U H) : va_Nw (.methodLinkNest RX9 220 yX4_init RX9) U := h.2.2.2.2.2.2.2.2.1
theorem EV.n131 {G : Gy} {A : Nat → Prop} {U : State} {H : Heap} (h : EV G A U H) : va_Nw (.methodLinkNest RX9 131 yX8_init RX9) U := h.2.2.2.2.2.2.2.2.2.1
theorem EV.n39 {G : Gy} {A : Nat → Prop} {U : State} {H : Heap} (h : EV G A U H) : va_Nw (.methodLinkNest RX4 39 yX7_init RX9) U := h.2.2.2.2.2.2.2.2.2.2.1
theorem EV.n21 {G : Gy} {A : Nat → Prop} {U : State} {H : Heap} (h : EV G A U H) : va_Nw (.methodLinkNest RX8 21 yX9_isMap RX9) U := h.2.2.2.2.2.2.2.2.2.2.2.1
theorem EV.n46 {G : Gy} {A : Nat → Prop} {U : State} {H : Heap} (h : EV G A U H) : va_Nw (.methodLinkNest RX8 46 yX9_isOf RX9) U := h.2.2.2.2.2.2.2.2.2.2.2.2
theorem EV.call {G : Gy} {A B : Nat → Prop} {s U : State} {H : Heap} {locs : List Loc} (h : EV G A s s.heap) (hS : va_S A s.heap H locs) (hB : ∀ q, B q → A q) (hW : s.WarmedH U.vm) (hU : U.heap = H) : EV G B U U.heap := by
  obtain ⟨hK, ⟨t1, z1, T1⟩, ⟨t2, z2, T2⟩, ⟨t3, z3, T3⟩, a1, a2, n1, n2, n3, n4, n5, n6, n7⟩ := h
  have hk : ∀ a : Nat, a < s.heap.size → ¬ A a → U.heap[a]? = s.heap[a]? := fun a x y => by rw [hU]; exact hS.2.1 a x y
  exact ⟨va_K.moved hW.alike hK, ⟨t1, ((z1.kept hk).narrow hB).moved hW.alike, ((T1.kept hk).narrow hB).moved hW.alike⟩, ⟨t2, ((z2.kept hk).narrow hB).moved hW.alike, ((T2.kept hk).narrow hB).moved hW.alike⟩, ⟨t3, ((z3.kept hk).narrow hB).moved hW.alike, ((T3.kept hk).narrow hB).moved hW.alike⟩, va_AO.moved hW.alike a1, va_AO.moved hW.alike a2, va_Nw.warmM hW n1, va_Nw.warmM hW n2, va_Nw.warmM hW n3, va_Nw.warmM hW n4, va_Nw.warmM hW n5, va_Nw.warmM hW n6, va_Nw.warmM hW n7⟩
theorem EV.same {G : Gy} {A : Nat → Prop} {u U : State} {H : Heap} (e : u.vm = U.vm) (h : EV G A u H) : EV G A U H := by
  obtain ⟨hK, ⟨t1, z1, T1⟩, ⟨t2, z2, T2⟩, ⟨t3, z3, T3⟩, a1, a2, n1, n2, n3, n4, n5, n6, n7⟩ := h
  have ha : u.vm.Alike U.vm := by rw [e]; exact Vm.Alike.refl U.vm
  exact ⟨va_K.moved ha hK, ⟨t1, z1.moved ha, T1.moved ha⟩, ⟨t2, z2.moved ha, T2.moved ha⟩, ⟨t3, z3.moved ha, T3.moved ha⟩, va_AO.moved ha a1, va_AO.moved ha a2, va_Nw.same rfl e n1, va_Nw.same rfl e n2, va_Nw.same rfl e n3, va_Nw.same rfl e n4, va_Nw.same rfl e n5, va_Nw.same rfl e n6, va_Nw.same rfl e n7⟩
/-! a contract's start and end -/
def cPre (G : Gy) (ws : va_W) (sz : Nat) (av : List Value) : Array Value → State → Prop := va_Pc av (fun U => U.heap.size = sz ∧ va_P G.1 vwCl ws U.heap ∧ va_D (fun _ => True) ws ∧ EV G (va_A ws sz) U U.heap)
def cPost (G : Gy) {S : Type} (W' : S → va_W) (A : Nat → Prop) : S → State → Prop := fun u t => va_P G.1 vwCl (W' u) t.heap ∧ va_D A (W' u)
abbrev Ci (l : Launch) (G : Gy) (y : MethodName) (wy : List Cond) (rm : Room) (av : List Value) (ws : va_W) (sz : Nat) {S : Type} (post : Int32 → S → Prop) (W' : S → va_W) (mc ms : Nat) : Prop := Met l y wy rm (cPre G ws sz av) (va_Qi post (cPost G W' (va_A ws sz)) (va_A ws sz)) mc ms (va_A ws sz)
abbrev Cv (l : Launch) (G : Gy) (y : MethodName) (wy : List Cond) (rm : Room) (av : List Value) (ws : va_W) (sz : Nat) {S : Type} (post : S → Prop) (W' : S → va_W) (mc ms : Nat) : Prop := Met l y wy rm (cPre G ws sz av) (va_Qv post (cPost G W' (va_A ws sz)) (va_A ws sz)) mc ms (va_A ws sz)
theorem cPre_blind {G : Gy} {ws : va_W} {sz : Nat} {av : List Value} : FrameBlind (cPre G ws sz av) := fun a U g mk q => by
  obtain ⟨q0, q1, qP, qD, qE⟩ := q
  exact ⟨q0, q1, qP, qD, EV.same (u := U) (U := U.calling g mk a) rfl qE⟩
theorem pre_S {G : Gy} {A : Nat → Prop} {s : State} {H : Heap} {locs : List Loc} {ws wc : va_W} {As : List Value} (E : EV G A s s.heap) (hP : va_P G.1 vwCl ws H) (hD : va_D A ws) (hS : va_S A s.heap H locs) (hA : ∀ q, s.heap.size ≤ q → A q) (isC : List Nat) (hn : va_nd isC = true) (hC : isC.map (fun i => ws[i]?) = wc.map some) : PreS s H (cPre G wc H.size As) As := by
  refine ⟨cPre_blind, fun U hU hW => ⟨rfl, by rw [hU], ?_, (hD.sub isC hn hC).weaken (fun _ _ _ _ => trivial), E.call hS (va_free hD hS hA isC hC) hW hU⟩⟩
  rw [hU]
  refine hP.sub isC ?_
  have h2 : (isC.map (fun i => ws[i]?)).filterMap id = (wc.map some).filterMap id := by rw [hC]
  simpa [List.filterMap_map] using h2
theorem pre_V {G : Gy} {A : Nat → Prop} {s : State} {H : Heap} {locs : List Loc} {ws wc : va_W} {b : Nat} {As : List Value} (E : EV G A s s.heap) (hP : va_P G.1 vwCl ws H) (hD : va_D A ws) (hS : va_S A s.heap H locs) (hA : ∀ q, s.heap.size ≤ q → A q) (isC : List Nat) (hn : va_nd isC = true) (hC : isC.map (fun i => ws[i]?) = wc.map some) (q0 ci : Nat) {q : vw_C} {fs : List Value} (hc : vwCl[ci]? = some q) (he : ws[q0]? = some (b, .inr (ci, fs))) : PreV s H q.1 b (cPre G wc H.size (.ref b :: As)) As :=
  ⟨cPre_blind, va_recv E.K hP hc he, (pre_S E hP hD hS hA isC hn hC).2⟩
theorem ro_join {A0 : Nat → Prop} {D : va_G} {cl : List vw_C} {ws wc : va_W} {H H1 : Heap} (hP : va_P D cl ws H) (hD : va_D A0 ws) (isC : List Nat) (hC : isC.map (fun i => ws[i]?) = wc.map some) (hk : ∀ q : Nat, q < H.size → ¬ va_A wc H.size q → H1[q]? = H[q]?) (hP1 : va_P D cl wc H1) : va_P D cl ws H1 := by
  intro k q hq
  by_cases h : va_A wc H.size q.1
  · rcases h with ⟨k2, e, h2⟩ | h2
    · have h1 : (isC.map (fun i => ws[i]?))[k2]? = some (some (q.1, e)) := by rw [hC, List.getElem?_map, h2]; rfl
      rw [List.getElem?_map] at h1
      cases hi : isC[k2]? with
      | none => rw [hi] at h1; cases h1
      | some i =>
        rw [hi] at h1
        have h3 : ws[i]? = some (q.1, e) := Option.some.inj h1
        have hki := hD.1 k i q (q.1, e) hq h3 rfl
        subst hki
        have hqe : q = (q.1, e) := Option.some.inj (hq.symm.trans h3)
        rw [hqe]
        exact hP1 k2 _ h2
    · exact absurd (hP k q hq).lt (Nat.not_lt.mpr h2)
  · exact (hP k q hq).kept (hk _ (hP k q hq).lt h)
section CA
variable {p : Program} {l : Launch} {e : Env} {R : Room} {s : State} {m : MethodId} {args : Array Value} {below : List Frame} {meth : Method} {c : Code} {H : Heap} {locs : List Loc} {cells slots : Nat} {Q : State → Prop}
variable {pc : Nat} {ls : Array Slot} {rest st0 : List Value} {a : Array Value} {A : Nat → Prop} {mc ms : Nat} {G : Gy} {ws wc : va_W}
/-- behind a call that only reads, answer an int -/
theorem ca_iR {S : Type} {post : Int32 → S → Prop} (hr : va_Run p l e R s m args below meth c H locs cells slots mc ms (F0 m pc ls st0) rest (va_Qi post (cPost G (fun _ => wc) (va_A wc H.size)) (va_A wc H.size) a) (va_A wc H.size)) (hS : va_S A s.heap H locs) (hP : va_P G.1 vwCl ws H) (hD : va_D A ws) (hA : ∀ q, s.heap.size ≤ q → A q) (isC : List Nat) (hC : isC.map (fun i => ws[i]?) = wc.map some)
    (kk : ∀ (r : Int32) (u : S) (H1 : Heap) (locs1 : List Loc), post r u → va_P G.1 vwCl ws H1 → va_S A s.heap H1 locs1 → W p l e R s m args below meth c H1 locs1 (cells + mc) (slots + ms) Q (F0 m (pc + 3) ls (.int r :: rest))) : W p l e R s m args below meth c H locs cells slots Q (F0 m pc ls st0) := by
  have hF := va_free hD hS hA isC hC
  refine va_calli hr hS (fun q _ h => hF q h) hF (fun r u t H1 locs1 ht hvm hw hB hz hk hS1 => kk r u H1 locs1 hw ?_ hS1)
  exact ro_join hP hD isC hC hk (by rw [← ht]; exact hB.1)
/-- behind a call that writes, answer an int -/
theorem ca_i {S : Type} {post : Int32 → S → Prop} {W' : S → va_W} {wr : va_W} (hr : va_Run p l e R s m args below meth c H locs cells slots mc ms (F0 m pc ls st0) rest (va_Qi post (cPost G W' (va_A wc H.size)) (va_A wc H.size) a) (va_A wc H.size)) (hS : va_S A s.heap H locs) (hP : va_P G.1 vwCl ws H) (hD : va_D A ws) (hA : ∀ q, s.heap.size ≤ q → A q) (isC isR : List Nat) (hC : isC.map (fun i => ws[i]?) = wc.map some) (hR : isR.map (fun i => ws[i]?) = wr.map some) (hn : va_nd isR = true) (hdis : ∀ i ∈ isR, i ∉ isC)
    (kk : ∀ (r : Int32) (u : S) (H1 : Heap) (locs1 : List Loc), post r u → va_P G.1 vwCl (wr ++ W' u) H1 → va_D A (wr ++ W' u) → va_S A s.heap H1 locs1 → W p l e R s m args below meth c H1 locs1 (cells + mc) (slots + ms) Q (F0 m (pc + 3) ls (.int r :: rest))) : W p l e R s m args below meth c H locs cells slots Q (F0 m pc ls st0) := by
  have hF := va_free hD hS hA isC hC
  refine va_calli hr hS (fun q _ h => hF q h) hF (fun r u t H1 locs1 ht hvm hw hB hz hk hS1 => ?_)
  obtain ⟨h1, h2⟩ := va_join hP hD isC isR hC hR hn hdis hk hF (by rw [← ht]; exact hB.1) hB.2
  exact kk r u H1 locs1 hw h1 h2 hS1
/-- behind a call that writes, no answer -/
theorem ca_v {S : Type} {post : S → Prop} {W' : S → va_W} {wr : va_W} (hr : va_Run p l e R s m args below meth c H locs cells slots mc ms (F0 m pc ls st0) rest (va_Qv post (cPost G W' (va_A wc H.size)) (va_A wc H.size) a) (va_A wc H.size)) (hS : va_S A s.heap H locs) (hP : va_P G.1 vwCl ws H) (hD : va_D A ws) (hA : ∀ q, s.heap.size ≤ q → A q) (isC isR : List Nat) (hC : isC.map (fun i => ws[i]?) = wc.map some) (hR : isR.map (fun i => ws[i]?) = wr.map some) (hn : va_nd isR = true) (hdis : ∀ i ∈ isR, i ∉ isC)
    (kk : ∀ (u : S) (H1 : Heap) (locs1 : List Loc), post u → va_P G.1 vwCl (wr ++ W' u) H1 → va_D A (wr ++ W' u) → va_S A s.heap H1 locs1 → W p l e R s m args below meth c H1 locs1 (cells + mc) (slots + ms) Q (F0 m (pc + 3) ls rest)) : W p l e R s m args below meth c H locs cells slots Q (F0 m pc ls st0) := by
  have hF := va_free hD hS hA isC hC
  refine va_callv hr hS (fun q _ h => hF q h) hF (fun u t H1 locs1 ht hvm hw hB hz hk hS1 => ?_)
  obtain ⟨h1, h2⟩ := va_join hP hD isC isR hC hR hn hdis hk hF (by rw [← ht]; exact hB.1) hB.2
  exact kk u H1 locs1 hw h1 h2 hS1
end CA
section NA
variable {p : Program} {l : Launch} {e : Env} {R : Room} {s : State} {m : MethodId} {args : Array Value} {below : List Frame} {meth : Method} {c : Code} {H : Heap} {locs : List Loc} {cells slots : Nat} {Q : State → Prop}
variable {cc : ByteArray} {pc : Nat} {ls : Array Slot} {rest : List Value} {A : Nat → Prop} {G : Gy} {ws : va_W}
/-- a new row of ints, of bytes, of booleans: its class is the known one -/
theorem nw_row (hexec : p.tables.exec = Jvm.exec) (hb : c.code = cc) {atype : ArrayType} (harr : (Cond.arrayClass (newarray.typeOf atype)).before args s = true) {ty : FieldType} (hty : newarray.typeOf atype = ty) (E : EV G A s s.heap) (k0 : Nat) {cA : ClassId} (hk0 : (gt G)[k0]? = some (cA, ty)) (hprim : ∀ (U : State) (c1 : ClassId), va_RA U c1 ty → U.vm.findClass ("[" ++ ty.toString) = some c1) (hP : va_P G.1 vwCl ws H) (hD : va_D A ws) (hS : va_S A s.heap H locs) (hA : ∀ q, s.heap.size ≤ q → A q)
    {n : Int32} {N' : Nat} {a0 : vp_A} (ha : ∀ cA : ClassId, vp_cell cA a0 = arrV cA N' (fun _ => defaultValue ty)) (hn : ¬ n < 0) (hN : n.toNatClampNeg = N') (hbytes : N' * componentBytes ty ≤ 536870912) (hcells : cells + 1 ≤ R.cells) (hslots : slots + N' ≤ R.slots) (hdg : decode cc pc = .ok (.newarray atype, 2))
    (kk : ∀ (q : Nat) (H1 : Heap), va_P G.1 vwCl (ws ++ [(q, .inl (cA, a0))]) H1 → va_D A (ws ++ [(q, .inl (cA, a0))]) → va_S A s.heap H1 locs → W p l e R s m args below meth c H1 locs (cells + 1) (slots + N') Q (F0 m (pc + 2) ls (.ref q :: rest))) : W p l e R s m args below meth c H locs cells slots Q (F0 m pc ls (.int n :: rest)) := by
  refine va_newa hexec hb harr hty E.K hP hD hS hA ha hn hN hbytes hcells hslots hdg (fun q cB H1 hK1 hP1 hD1 hS1 => ?_)
  have h1 := (hK1.2 (gt G).length (cB, ty) (by simp)).2
  have h2 := (E.K.2 k0 _ hk0).2
  have h3 : cB = cA := Option.some.inj ((hprim s cB h1).symm.trans (hprim s cA h2))
  subst h3
  exact kk q H1 hP1 hD1 hS1
/-- a new row of references -/
theorem nw_rowq (hexec : p.tables.exec = Jvm.exec) (hb : c.code = cc) {own C : String} {index : Nat} (hown : s.vm.findClass own = some m.cls) (hclink : (Cond.classLink own index C).before args s = true) (hover : va_AO C s) (E : EV G A s s.heap) (k0 : Nat) {cA : ClassId} (hk0 : (gt G)[k0]? = some (cA, .object C)) (hP : va_P G.1 vwCl ws H) (hD : va_D A ws) (hS : va_S A s.heap H locs) (hA : ∀ q, s.heap.size ≤ q → A q)
    {n : Int32} {N' : Nat} (hn : ¬ n < 0) (hN : n.toNatClampNeg = N') (hbytes : N' * 4 ≤ 536870912) (hcells : cells + 1 ≤ R.cells) (hslots : slots + N' ≤ R.slots) (hdg : decode cc pc = .ok (.anewarray index, 3))
    (kk : ∀ (q : Nat) (H1 : Heap), va_P G.1 vwCl (ws ++ [(q, .inl (cA, N', .inr (.inr (.inr (.inr (fun _ => none))))))]) H1 → va_D A (ws ++ [(q, .inl (cA, N', .inr (.inr (.inr (.inr (fun _ => none))))))]) → va_S A s.heap H1 locs → W p l e R s m args below meth c H1 locs (cells + 1) (slots + N') Q (F0 m (pc + 3) ls (.ref q :: rest))) : W p l e R s m args below meth c H locs cells slots Q (F0 m pc ls (.int n :: rest)) := by
  refine va_newq hexec hb hown hclink hover E.K hP hD hS hA hn hN hbytes hcells hslots hdg (fun q cB H1 hK1 hP1 hD1 hS1 => ?_)
  have h1 := (hK1.2 (gt G).length (cB, .object C) (by simp)).2
  have h2 := (E.K.2 k0 _ hk0).2
  obtain ⟨-, -, -, -, -, g1⟩ := h1
  obtain ⟨-, -, -, -, -, g2⟩ := h2
  have h3 : cB = cA := Option.some.inj (g1.symm.trans g2)
  subst h3
  exact kk q H1 hP1 hD1 hS1
end NA
/-! numbers -/
def inR (x lo hi : Int32) : Prop := lo ≤ x ∧ x ≤ hi
noncomputable def cIf (P : Prop) (a b : Int32) : Int32 := @ite _ P (Classical.propDecidable P) a b
theorem cIf_t {P : Prop} {a b : Int32} (h : P) : cIf P a b = a := by unfold cIf; exact if_pos h
theorem cIf_f {P : Prop} {a b : Int32} (h : ¬ P) : cIf P a b = b := by unfold cIf; exact if_neg h
theorem i3_lt {x y : Int32} : x < y ↔ x.toInt < y.toInt := Int32.lt_iff_toInt_lt
theorem i3_le {x y : Int32} : x ≤ y ↔ x.toInt ≤ y.toInt := Int32.le_iff_toInt_le
theorem i6_lt {x y : Int64} : x < y ↔ x.toInt < y.toInt := Int64.lt_iff_toInt_lt
theorem i6_le {x y : Int64} : x ≤ y ↔ x.toInt ≤ y.toInt := Int64.le_iff_toInt_le
theorem i3_eq {x y : Int32} : x = y ↔ x.toInt = y.toInt := Int32.toInt_inj.symm
section LP
variable {p : Program} {l : Launch} {e : Env} {R : Room} {s : State} {m : MethodId} {args : Array Value} {below : List Frame} {meth : Method} {c : Code} {H : Heap} {locs : List Loc} {cells slots : Nat} {Q : State → Prop}
variable {pc : Nat} {ls : Array Slot} {st : List Value} {A : Nat → Prop} {G : Gy}
/-- a loop: a state x, its cells WS x, its locals LV x, its invariant I x, a measure that falls -/
theorem lp_run {σ : Type} {x0 : σ} {nL : Nat} (WS : σ → va_W) (LV : σ → List (Nat × Value)) (I : σ → Prop) (μ : σ → Nat) (hP : va_P G.1 vwCl (WS x0) H) (hD : va_D A (WS x0)) (hS : va_S A s.heap H locs) (hl : lv_has ls nL (LV x0)) (h0 : I x0)
    (step : ∀ x : σ, I x → (∀ y : σ, I y → μ y < μ x → ∀ (H1 : Heap) (locs1 : List Loc) (ls1 : Array Slot), va_P G.1 vwCl (WS y) H1 → va_D A (WS y) → va_S A s.heap H1 locs1 → lv_has ls1 nL (LV y) → W p l e R s m args below meth c H1 locs1 cells slots Q (F0 m pc ls1 st)) → ∀ (H1 : Heap) (locs1 : List Loc) (ls1 : Array Slot), va_P G.1 vwCl (WS x) H1 → va_D A (WS x) → va_S A s.heap H1 locs1 → lv_has ls1 nL (LV x) → W p l e R s m args below meth c H1 locs1 cells slots Q (F0 m pc ls1 st)) : W p l e R s m args below meth c H locs cells slots Q (F0 m pc ls st) := by
  have key : ∀ (k : Nat) (x : σ), μ x < k → I x → ∀ (H1 : Heap) (locs1 : List Loc) (ls1 : Array Slot), va_P G.1 vwCl (WS x) H1 → va_D A (WS x) → va_S A s.heap H1 locs1 → lv_has ls1 nL (LV x) → W p l e R s m args below meth c H1 locs1 cells slots Q (F0 m pc ls1 st) := by
    intro k
    induction k with
    | zero => intro x h; exact absurd h (Nat.not_lt_zero _)
    | succ k ih => intro x hx hI; exact step x hI (fun y hy hm => ih y (Nat.lt_of_lt_of_le hm (Nat.le_of_lt_succ hx)) hy)
  exact key (μ x0 + 1) x0 (Nat.lt_succ_self _) h0 H locs ls hP hD hS hl
end LP
def isOfP (set map : Int32) : Prop := inR map 0 5 ∧ ¬ (set >>> (map &&& 31)) &&& 1 = 0
def tqP (set what : Int32) : Prop := what = 0 ∨ what = 1 ∨ (10 ≤ what ∧ isOfP set (what - 10))
def inS (x n : Int32) : Prop := 0 ≤ x ∧ x < n
def tMi (j : Nat) : Int32 := ([3125, 625, 125, 25, 5, 1] : List Int32).getD j 0
def tWi (j : Nat) : Int32 := ([97, 98, 99, 100, 45, 63] : List Int32).getD j 0
noncomputable def wgt (x : Int32) : Int32 := cIf (inR x 0 5) (tMi x.toNatClampNeg) 1
noncomputable def wri (x : Int32) : Int32 := cIf (inR x 0 5) (tWi x.toNatClampNeg) 0
noncomputable def sgn (c w : Int32) : Int32 := cIf (w < 1) 0 (c / w - c / w / 5 * 5)
theorem clampR {x hi : Int32} {n : Nat} (h : inR x 0 hi) (hn : hi.toInt < n) : x.toNatClampNeg < n := by
  have h1 := i3_le.mp h.1
  have h2 := i3_le.mp h.2
  have h3 : (0 : Int32).toInt = 0 := rfl
  show x.toInt.toNat < n
  omega
theorem sub10 {x : Int32} (h : 10 ≤ x) : (x - 10).toInt = x.toInt - 10 := by
  have := Int32.toInt_sub_of_le x 10 (by decide) h
  rw [this]
  rfl
noncomputable def sp_sites (p0 : Int32) : Int32 := cIf (inR p0 2 6) 6 (-2)
noncomputable def sp_say (p0 : Int32) : Int32 := cIf (inR p0 33 126) 1 (-2)
noncomputable def sp_wipe : Int32 := 0
noncomputable def sp_fault (p0 : Int32) : Int32 := cIf (inR p0 0 2) (cIf (p0 = 1) (-6) 0) (-2)
noncomputable def sp_map (p0 : Int32) : Int32 := cIf (inR p0 0 5) (-5) (-1)
noncomputable def sp_at (p0 p1 : Int32) : Int32 := cIf (inR p0 0 5) (cIf (inR p1 0 5) (-3) (-1)) (-1)
noncomputable def sp_hand (p0 p1 : Int32) : Int32 := cIf (inR p0 0 3) (cIf (inR p1 0 15) 15 (-2)) (-1)
noncomputable def sp_judge (p0 : Int32) : Int32 := cIf (inR p0 0 5) (-3) (-1)
noncomputable def sp_copy (p0 p1 : Int32) : Int32 := cIf (inR p0 0 5) (cIf (inR p1 0 5) (-3) (-1)) (-1)
noncomputable def sp_far (p0 p1 p2 p3 : Int32) : Int32 := cIf (inR p0 0 5) (cIf (inR p1 0 5) (cIf (inR p2 0 3) (-3) (-1)) (-1)) (-1)
noncomputable def sp_who (p0 p1 p2 : Int32) : Int32 := cIf (inR p0 0 5) (cIf (inR p1 0 5) (cIf (inR p2 0 30) (-3) (-2)) (-1)) (-1)
noncomputable def sp_between (p0 p1 p2 p3 : Int32) : Int32 := cIf (inR p0 0 5) (cIf (inR p1 0 5) (cIf (inR p2 0 3) (cIf (inR p3 1 9) (-3) (-2)) (-1)) (-1)) (-1)
noncomputable def sp_tree (p0 p1 p2 : Int32) : Int32 := cIf (inR p1 0 3) (cIf (inR p0 1 63) (cIf (tqP p0 p2) (-3) (-2)) (-2)) (-1)
noncomputable def sp_lost (p0 p1 p2 : Int32) : Int32 := cIf (inR p1 0 3) (cIf (inR p0 1 63) (-3) (-2)) (-1)
noncomputable def sp_wished (p0 p1 p2 p3 : Int32) : Int32 := cIf (inR p0 0 5) (cIf (inR p1 0 3) (cIf (inR p2 0 63) (-3) (-2)) (-1)) (-1)
noncomputable def sp_holds (p0 p1 : Int32) : Int32 := cIf (p1 = (-1)) (cIf (inR p0 1 63) (-3) (-2)) (cIf (inR p1 0 5) (cIf (inR p0 1 63) (-3) (-2)) (-1))
noncomputable def sp_spades (p0 : Int32) : Int32 := cIf (inR p0 1 6) 1 (-2)
noncomputable def sp_land (p0 : Int32) : Int32 := cIf (inR p0 0 5) 97 (-1)
noncomputable def sp_years (p0 : Int32) : Int32 := cIf (inR p0 0 5) (-3) (-1)
noncomputable def sp_follow (p0 p1 : Int32) : Int32 := cIf (inR p0 0 5) (cIf (inR p1 0 9) (-3) (-2)) (-1)
noncomputable def sp_drawn (p0 p1 p2 p3 p4 : Int32) : Int32 := cIf (inR p1 0 5) (cIf (inR p2 0 3) (cIf (p4 = (-1)) (cIf (inR p0 0 9999) (cIf (inR p3 0 60) (-3) (-2)) (-2)) (cIf (inR p4 0 5) (cIf (inR p0 0 9999) (cIf (inR p3 0 60) (-3) (-2)) (-2)) (-1))) (-1)) (-1)
noncomputable def sp_image (p0 : Int32) : Int32 := cIf (inR p0 0 1) 1 (-2)
noncomputable def sp_restore (p0 : Int32) : Int32 := cIf (inR p0 0 1) (-3) (-2)
noncomputable def sp_told (p0 : Int32) : Int32 := cIf (inR p0 10 13) 15 (cIf (p0 = 0) 0 (cIf (p0 = 1) 6 (cIf (p0 = 2) 0 (cIf (p0 = 3) 1 (-2)))))
theorem six {x : Int32} (h : inR x 2 6) : ∃ k : Nat, 1 ≤ k ∧ k ≤ 6 ∧ x = nI k := by
  have h1 := i3_le.mp h.1
  have h2 := i3_le.mp h.2
  simp only [Int32.reduceToInt] at h1 h2
  refine ⟨x.toInt.toNat, by omega, by omega, ?_⟩
  rw [i3_eq, nI_toInt (by omega)]
  omega