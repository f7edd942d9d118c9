/-! how much a heap has grown: exact, so that what a call may make and does not is not counted -/
def nsl (n : Nat) (H : Heap) : Nat := ((H.toList.drop n).map (fun c => c.slots.size)).sum
def GF (H0 H : Heap) (k n : Nat) : Prop := H0.size ≤ H.size ∧ H.size ≤ H0.size + k ∧ nsl H0.size H ≤ n ∧ ∀ (a : Nat) (c : Cell), H0[a]? = some c → ∃ c' : Cell, H[a]? = some c' ∧ c'.slots.size = c.slots.size
theorem GF.rf {H : Heap} : GF H H 0 0 := by
  refine ⟨Nat.le_refl _, Nat.le_refl _, ?_, fun a c h => ⟨c, h, rfl⟩⟩
  unfold nsl
  rw [show H.toList.drop H.size = [] from List.drop_eq_nil_of_le (by simp)]
  exact Nat.le_refl _
theorem GF.wide {H0 H : Heap} {k n k' n' : Nat} (h : GF H0 H k n) (hk : k ≤ k') (hn : n ≤ n') : GF H0 H k' n' := ⟨h.1, Nat.le_trans h.2.1 (by omega), Nat.le_trans h.2.2.1 hn, h.2.2.2⟩
theorem GF.trans {H0 H H1 : Heap} {k n k' n' : Nat} (h : GF H0 H k n) (g : GF H H1 k' n') : GF H0 H1 (k + k') (n + n') := by
  obtain ⟨a1, a2, a3, a4⟩ := h
  obtain ⟨b1, b2, b3, b4⟩ := g
  refine ⟨Nat.le_trans a1 b1, by omega, ?_, fun a c hc => ?_⟩
  · have e1 : H1.toList.drop H0.size = (H1.toList.drop H0.size).take (H.size - H0.size) ++ H1.toList.drop H.size := by
      have e := (List.take_append_drop (H.size - H0.size) (H1.toList.drop H0.size)).symm
      rw [List.drop_drop, show H0.size + (H.size - H0.size) = H.size by omega] at e
      exact e
    have e2 : ((H1.toList.drop H0.size).take (H.size - H0.size)).map (fun c => c.slots.size) = (H.toList.drop H0.size).map (fun c => c.slots.size) := by
      apply List.ext_getElem?
      intro i
      rw [List.getElem?_map, List.getElem?_map, List.getElem?_take, List.getElem?_drop, List.getElem?_drop]
      by_cases hi : i < H.size - H0.size
      · rw [if_pos hi]
        have hlt : H0.size + i < H.size := by omega
        have hc : H[H0.size + i]? = some H[H0.size + i] := Array.getElem?_eq_getElem hlt
        obtain ⟨c', hc', hs⟩ := b4 _ _ hc
        rw [Array.getElem?_toList, Array.getElem?_toList, hc', hc]
        simp [hs]
      · rw [if_neg hi]
        rw [Array.getElem?_toList, Array.getElem?_eq_none (by omega)]
    unfold nsl at *
    rw [e1, List.map_append, List.sum_append, e2]
    omega
  · obtain ⟨c', hc', hs⟩ := a4 a c hc
    obtain ⟨c2, hc2, hs2⟩ := b4 a c' hc'
    exact ⟨c2, hc2, hs2.trans hs⟩
section WG
variable {p : Program} {l : Launch} {e : Env} {R : Room} {s : State} {m : MethodId} {args : Array Value} {below : List Frame} {meth : Method} {c : Code} {H : Heap} {locs : List Loc} {cells slots : Nat} {Q : State → Prop} {g : JFrame}
theorem W_facts (h : GF s.heap H cells slots → W p l e R s m args below meth c H locs cells slots Q g) : W p l e R s m args below meth c H locs cells slots Q g := by
  intro T hT X
  refine h ?_ T hT X
  obtain ⟨-, h1, h2, -, h3, h4⟩ := X.same
  subst hT
  refine ⟨h1, h2, h3, fun a c hc => ?_⟩
  obtain ⟨c', q1, -, q3, -⟩ := h4 a c hc
  exact ⟨c', q1, q3⟩
theorem W_lower {k n : Nat} (f : GF s.heap H k n) (h : W p l e R s m args below meth c H locs k n Q g) : W p l e R s m args below meth c H locs cells slots Q g := by
  intro T hT X
  refine h T hT ?_
  obtain ⟨x1, x2, x3, x4, x5, x6, x7, x8, x9, x10, x11, x12, x13, x14⟩ := X
  obtain ⟨y1, y2, y3, y4, y5, y6⟩ := x14
  subst hT
  exact ⟨x1, x2, x3, x4, x5, x6, x7, x8, x9, x10, x11, x12, x13, ⟨y1, y2, f.2.1, y4, f.2.2.1, y6⟩⟩
end WG
/-- a contract's start that knows the heap itself -/
def cPreH (G : Gy) (ws : va_W) (H0 : Heap) (av : List Value) : Array Value → State → Prop := va_Pc av (fun U => U.heap = H0 ∧ va_P G.1 vwCl ws H0 ∧ va_D (fun _ => True) ws ∧ EV G (va_A ws H0.size) U H0)
theorem cPreH_blind {G : Gy} {ws : va_W} {H0 : Heap} {av : List Value} : FrameBlind (cPreH G ws H0 av) := fun a U g mk q => by
  obtain ⟨q0, q1, qP, qD, qE⟩ := q
  exact ⟨q0, q1, qP, qD, EV.same (u := U) (U := U.calling g mk a) rfl qE⟩
def cPostH (G : Gy) {S : Type} (W' : S → va_W) (A : Nat → Prop) (H0 : Heap) (gc gs : S → Nat) : S → State → Prop := fun u t => va_P G.1 vwCl (W' u) t.heap ∧ va_D A (W' u) ∧ GF H0 t.heap (gc u) (gs u)
abbrev ChI (l : Launch) (G : Gy) (y : MethodName) (wy : List Cond) (rm : Room) (av : List Value) (ws : va_W) (H0 : Heap) {S : Type} (post : Int32 → S → Prop) (W' : S → va_W) (gc gs : S → Nat) (mc ms : Nat) : Prop := Met l y wy rm (cPreH G ws H0 av) (va_Qi post (cPostH G W' (va_A ws H0.size) H0 gc gs) (va_A ws H0.size)) mc ms (va_A ws H0.size)
abbrev ChV (l : Launch) (G : Gy) (y : MethodName) (wy : List Cond) (rm : Room) (av : List Value) (ws : va_W) (H0 : Heap) {S : Type} (post : S → Prop) (W' : S → va_W) (gc gs : S → Nat) (mc ms : Nat) : Prop := Met l y wy rm (cPreH G ws H0 av) (va_Qv post (cPostH G W' (va_A ws H0.size) H0 gc gs) (va_A ws H0.size)) mc ms (va_A ws H0.size)
abbrev ChR (l : Launch) (G : Gy) (y : MethodName) (wy : List Cond) (rm : Room) (av : List Value) (ws : va_W) (H0 : Heap) {S : Type} (post : S → Prop) (ad : S → Nat) (W' : S → va_W) (gc gs : S → Nat) (mc ms : Nat) : Prop := Met l y wy rm (cPreH G ws H0 av) (va_Qr post (fun u ra t => ra = ad u ∧ cPostH G W' (va_A ws H0.size) H0 gc gs u t) (va_A ws H0.size)) mc ms (va_A ws H0.size)
section CH
variable {p : Program} {l : Launch} {e : Env} {R : Room} {s : State} {m : MethodId} {args : Array Value} {below : List Frame} {meth : Method} {c : Code} {H : Heap} {locs : List Loc} {cells slots : Nat} {Q : State → Prop}
variable {pc : Nat} {ls : Array Slot} {rest st0 : List Value} {a : Array Value} {A : Nat → Prop} {mc ms : Nat} {G : Gy} {X T cx wr : va_W}
theorem pre_SH {As : List Value} (E : EV G A s s.heap) (hP : va_P G.1 vwCl (X ++ T) H) (hD : va_D A (X ++ T)) (hS : va_S A s.heap H locs) (hA : ∀ q, s.heap.size ≤ q → A q) (isC : List Nat) (hn : va_nd isC = true) (hC : isC.map (fun i => X[i]?) = cx.map some) : PreS s H (cPreH G (cx ++ T) H As) As := by
  refine ⟨cPreH_blind, fun U hU hW => ⟨rfl, hU, P_subT hP isC hC, (D_subT hD isC hn hC).weaken (fun _ _ _ _ => trivial), ?_⟩⟩
  have h := E.call hS (free_P hD hS hA isC hC) hW hU
  rw [hU] at h
  exact h
theorem pre_VH {b : Nat} {As : List Value} (E : EV G A s s.heap) (hP : va_P G.1 vwCl (X ++ T) H) (hD : va_D A (X ++ T)) (hS : va_S A s.heap H locs) (hA : ∀ q, s.heap.size ≤ q → A q) (isC : List Nat) (hn : va_nd isC = true) (hC : isC.map (fun i => X[i]?) = cx.map some) (q0 ci : Nat) {q : vw_C} {fs : List Value} (hc : vwCl[ci]? = some q) (he : (X ++ T)[q0]? = some (b, .inr (ci, fs))) : PreV s H q.1 b (cPreH G (cx ++ T) H (.ref b :: As)) As :=
  ⟨cPreH_blind, va_recv E.K hP hc he, (pre_SH E hP hD hS hA isC hn hC).2⟩
theorem ca_vH {S : Type} {post : S → Prop} {W1 T1 : S → va_W} {gc gs : S → Nat} {k0 n0 : Nat} (g0 : GF s.heap H k0 n0) (hr : va_Run p l e R s m args below meth c H locs cells slots mc ms (F0 m pc ls st0) rest (va_Qv post (cPostH G (fun u => W1 u ++ T1 u) (va_A (cx ++ T) H.size) H gc gs) (va_A (cx ++ T) H.size) a) (va_A (cx ++ T) H.size)) (hS : va_S A s.heap H locs) (hP : va_P G.1 vwCl (X ++ T) H) (hD : va_D A (X ++ T)) (hA : ∀ q, s.heap.size ≤ q → A q) (isC isR : List Nat) (hC : isC.map (fun i => X[i]?) = cx.map some) (hR : isR.map (fun i => X[i]?) = wr.map some) (hn : va_nd isR = true) (hdis : ∀ i ∈ isR, i ∉ isC)
    (kk : ∀ (u : S) (H1 : Heap) (locs1 : List Loc), post u → va_P G.1 vwCl ((wr ++ W1 u) ++ T1 u) H1 → va_D A ((wr ++ W1 u) ++ T1 u) → va_S A s.heap H1 locs1 → GF s.heap H1 (k0 + gc u) (n0 + gs u) → W p l e R s m args below meth c H1 locs1 (k0 + gc u) (n0 + gs u) Q (F0 m (pc + 3) ls rest)) : W p l e R s m args below meth c H locs cells slots Q (F0 m pc ls st0) := by
  have hF := free_P hD hS hA isC hC
  refine va_callv hr hS (fun q _ h => hF q h) hF (fun u t H1 locs1 ht hvm hw hB hz hk hS1 => ?_)
  obtain ⟨h1, h2⟩ := va_joinP hP hD isC isR hC hR hn hdis hk hF (by rw [← ht]; exact hB.1) hB.2.1
  have hg : GF s.heap H1 (k0 + gc u) (n0 + gs u) := by rw [← ht]; exact g0.trans hB.2.2
  exact W_lower hg (kk u H1 locs1 hw h1 h2 hS1 hg)
theorem ca_rH {S : Type} {post : S → Prop} {W1 T1 : S → va_W} {ad gc gs : S → Nat} {k0 n0 : Nat} (g0 : GF s.heap H k0 n0) (hr : va_Run p l e R s m args below meth c H locs cells slots mc ms (F0 m pc ls st0) rest (va_Qr post (fun u ra t => ra = ad u ∧ cPostH G (fun u => W1 u ++ T1 u) (va_A (cx ++ T) H.size) H gc gs u t) (va_A (cx ++ T) H.size) a) (va_A (cx ++ T) H.size)) (hS : va_S A s.heap H locs) (hP : va_P G.1 vwCl (X ++ T) H) (hD : va_D A (X ++ T)) (hA : ∀ q, s.heap.size ≤ q → A q) (isC isR : List Nat) (hC : isC.map (fun i => X[i]?) = cx.map some) (hR : isR.map (fun i => X[i]?) = wr.map some) (hn : va_nd isR = true) (hdis : ∀ i ∈ isR, i ∉ isC)
    (kk : ∀ (u : S) (H1 : Heap) (locs1 : List Loc), post u → va_P G.1 vwCl ((wr ++ W1 u) ++ T1 u) H1 → va_D A ((wr ++ W1 u) ++ T1 u) → va_S A s.heap H1 locs1 → GF s.heap H1 (k0 + gc u) (n0 + gs u) → W p l e R s m args below meth c H1 locs1 (k0 + gc u) (n0 + gs u) Q (F0 m (pc + 3) ls (.ref (ad u) :: rest))) : W p l e R s m args below meth c H locs cells slots Q (F0 m pc ls st0) := by
  have hF := free_P hD hS hA isC hC
  refine va_callr hr hS (fun q _ h => hF q h) hF (fun u ra t H1 locs1 ht hvm hw hB hz hk hS1 => ?_)
  obtain ⟨rfl, hB⟩ := hB
  obtain ⟨h1, h2⟩ := va_joinP hP hD isC isR hC hR hn hdis hk hF (by rw [← ht]; exact hB.1) hB.2.1
  have hg : GF s.heap H1 (k0 + gc u) (n0 + gs u) := by rw [← ht]; exact g0.trans hB.2.2
  exact W_lower hg (kk u H1 locs1 hw h1 h2 hS1 hg)
end CH
