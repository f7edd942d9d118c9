/-! worlds in another order; worlds with a tail that nobody opens -/
theorem P_mem {D : va_G} {cl : List vw_C} {ws : va_W} {H : Heap} : va_P D cl ws H ↔ ∀ q ∈ ws, va_at D cl q H := by
  constructor
  · intro h q hq
    obtain ⟨k, hk⟩ := List.mem_iff_getElem?.mp hq
    exact h k q hk
  · intro h k q hk
    exact h q (List.mem_of_getElem? hk)
theorem D_mem {A : Nat → Prop} {ws : va_W} : va_D A ws ↔ (ws.map Prod.fst).Nodup ∧ ∀ q ∈ ws, A q.1 := by
  constructor
  · intro ⟨h1, h2⟩
    refine ⟨?_, fun q hq => ?_⟩
    · rw [List.nodup_iff_pairwise_ne, List.pairwise_iff_getElem]
      intro i j hi hj hij e
      simp only [List.length_map] at hi hj
      simp only [List.getElem_map] at e
      have := h1 i j ws[i] ws[j] (List.getElem?_eq_getElem hi) (List.getElem?_eq_getElem hj) e
      omega
    · obtain ⟨k, hk⟩ := List.mem_iff_getElem?.mp hq
      exact h2 k q hk
  · intro ⟨h1, h2⟩
    refine ⟨fun i j p q hi hj e => ?_, fun k q hk => h2 q (List.mem_of_getElem? hk)⟩
    rw [List.nodup_iff_pairwise_ne, List.pairwise_iff_getElem] at h1
    obtain ⟨li, ei⟩ := List.getElem?_eq_some_iff.mp hi
    obtain ⟨lj, ej⟩ := List.getElem?_eq_some_iff.mp hj
    rcases Nat.lt_trichotomy i j with h | h | h
    · have hne := h1 i j (by simpa using li) (by simpa using lj) h
      simp only [List.getElem_map] at hne
      rw [ei, ej] at hne
      exact absurd e hne
    · exact h
    · have hne := h1 j i (by simpa using lj) (by simpa using li) h
      simp only [List.getElem_map] at hne
      rw [ei, ej] at hne
      exact absurd e.symm hne
theorem P_perm {D : va_G} {cl : List vw_C} {ws ws' : va_W} {H : Heap} (p : ws.Perm ws') (h : va_P D cl ws H) : va_P D cl ws' H := P_mem.mpr (fun q hq => P_mem.mp h q (p.mem_iff.mpr hq))
theorem D_perm {A : Nat → Prop} {ws ws' : va_W} (p : ws.Perm ws') (h : va_D A ws) : va_D A ws' := D_mem.mpr ⟨(p.map Prod.fst).nodup_iff.mp (D_mem.mp h).1, fun q hq => (D_mem.mp h).2 q (p.mem_iff.mpr hq)⟩
theorem perm_snoc (X T : va_W) (c : Nat × va_E) : ((X ++ T) ++ [c]).Perm ((X ++ [c]) ++ T) := by
  rw [List.append_assoc, List.append_assoc]
  exact List.Perm.append_left X List.perm_append_comm
theorem perm_in (X A C B : va_W) : (X ++ (A ++ (C ++ B))).Perm ((X ++ C) ++ (A ++ B)) := by
  rw [List.append_assoc]
  refine List.Perm.append_left X ?_
  rw [← List.append_assoc, ← List.append_assoc]
  exact List.Perm.append_right B List.perm_append_comm
theorem P_subT {D : va_G} {cl : List vw_C} {X X' T : va_W} {H : Heap} (h : va_P D cl (X ++ T) H) (is : List Nat) (hs : is.map (fun i => X[i]?) = X'.map some) : va_P D cl (X' ++ T) H := by
  refine P_mem.mpr (fun q hq => ?_)
  rcases List.mem_append.mp hq with hq | hq
  · obtain ⟨k, hk⟩ := List.mem_iff_getElem?.mp hq
    have h1 : (is.map (fun i => X[i]?))[k]? = some (some q) := by rw [hs, List.getElem?_map, hk]; rfl
    rw [List.getElem?_map] at h1
    cases hi : is[k]? with
    | none => rw [hi] at h1; cases h1
    | some i =>
      rw [hi] at h1
      exact P_mem.mp h q (List.mem_append_left _ (List.mem_of_getElem? (Option.some.inj h1)))
  · exact P_mem.mp h q (List.mem_append_right _ hq)
theorem D_subT {A : Nat → Prop} {X X' T : va_W} (h : va_D A (X ++ T)) (is : List Nat) (hn : va_nd is = true) (hs : is.map (fun i => X[i]?) = X'.map some) : va_D A (X' ++ T) := by
  have hX : va_D A X := ⟨fun i j p q hi hj e => h.1 i j p q (by rw [List.getElem?_append_left (List.getElem?_eq_some_iff.mp hi).1]; exact hi) (by rw [List.getElem?_append_left (List.getElem?_eq_some_iff.mp hj).1]; exact hj) e, fun k q hk => h.2 k q (by rw [List.getElem?_append_left (List.getElem?_eq_some_iff.mp hk).1]; exact hk)⟩
  have hT : va_D A T := by
    refine D_mem.mpr ⟨?_, fun q hq => (D_mem.mp h).2 q (List.mem_append_right _ hq)⟩
    have := (D_mem.mp h).1
    rw [List.map_append] at this
    exact (List.nodup_append.mp this).2.1
  refine va_D.app (hX.sub is hn hs) hT (fun i j p q hi hj e => ?_)
  have h1 : (is.map (fun i => X[i]?))[i]? = some (some p) := by rw [hs, List.getElem?_map, hi]; rfl
  rw [List.getElem?_map] at h1
  cases hk : is[i]? with
  | none => rw [hk] at h1; cases h1
  | some k =>
    rw [hk] at h1
    have hp : X[k]? = some p := Option.some.inj h1
    have lk := (List.getElem?_eq_some_iff.mp hp).1
    have := h.1 k (X.length + j) p q (by rw [List.getElem?_append_left lk]; exact hp) (by rw [List.getElem?_append_right (by omega)]; rw [show X.length + j - X.length = j by omega]; exact hj) e
    omega
section CQ
variable {p : Program} {l : Launch} {e : Env} {R : Room} {s : State} {m : MethodId} {args : Array Value} {below : List Frame} {meth : Method} {c : Code} {H : Heap} {locs : List Loc} {cells slots : Nat} {Q : State → Prop}
variable {pc : Nat} {ls : Array Slot} {rest st0 : List Value} {a : Array Value} {A : Nat → Prop} {mc ms : Nat} {G : Gy} {X T cx wr : va_W}
theorem up_T {X cx T : va_W} (isC : List Nat) (hC : isC.map (fun i => X[i]?) = cx.map some) : isC.map (fun i => (X ++ T)[i]?) = cx.map some := by
  rw [← hC]
  refine List.map_congr_left (fun i hi => ?_)
  obtain ⟨k, hk⟩ := List.mem_iff_getElem?.mp hi
  have h1 : (isC.map (fun i => X[i]?))[k]? = (cx.map some)[k]? := by rw [hC]
  rw [List.getElem?_map, hk, List.getElem?_map] at h1
  cases hq : cx[k]? with
  | none => rw [hq] at h1; cases h1
  | some q =>
    rw [hq] at h1
    have h2 : X[i]? = some q := Option.some.inj h1
    rw [List.getElem?_append_left (List.getElem?_eq_some_iff.mp h2).1]
/-- behind a call of one that doesn't know the tail -/
theorem ca_iQ {S : Type} {post : Int32 → S → Prop} {W' : S → va_W} (hr : va_Run p l e R s m args below meth c H locs cells slots mc ms (F0 m pc ls st0) rest (va_Qi post (cPost G W' (va_A cx H.size)) (va_A cx H.size) a) (va_A cx H.size)) (hS : va_S A s.heap H locs) (hP : va_P G.1 vwCl (X ++ T) H) (hD : va_D A (X ++ T)) (hA : ∀ q, s.heap.size ≤ q → A q) (isC isR : List Nat) (hC : isC.map (fun i => X[i]?) = cx.map some) (hR : isR.map (fun i => X[i]?) = wr.map some) (hn : va_nd isR = true) (hdis : ∀ i ∈ isR, i ∉ isC)
    (kk : ∀ (r : Int32) (u : S) (H1 : Heap) (locs1 : List Loc), post r u → va_P G.1 vwCl ((wr ++ W' u) ++ T) H1 → va_D A ((wr ++ W' u) ++ T) → va_S A s.heap H1 locs1 → W p l e R s m args below meth c H1 locs1 (cells + mc) (slots + ms) Q (F0 m (pc + 3) ls (.int r :: rest))) : W p l e R s m args below meth c H locs cells slots Q (F0 m pc ls st0) := by
  have hF := va_free hD hS hA isC (up_T isC hC)
  refine va_calli hr hS (fun q _ h => hF q h) hF (fun r u t H1 locs1 ht hvm hw hB hz hk hS1 => ?_)
  obtain ⟨h1, h2⟩ := va_joinQ hP hD isC isR hC hR hn hdis hk hF (by rw [← ht]; exact hB.1) hB.2
  exact kk r u H1 locs1 hw h1 h2 hS1
theorem ca_vQ {S : Type} {post : S → Prop} {W' : S → va_W} (hr : va_Run p l e R s m args below meth c H locs cells slots mc ms (F0 m pc ls st0) rest (va_Qv post (cPost G W' (va_A cx H.size)) (va_A cx H.size) a) (va_A cx H.size)) (hS : va_S A s.heap H locs) (hP : va_P G.1 vwCl (X ++ T) H) (hD : va_D A (X ++ T)) (hA : ∀ q, s.heap.size ≤ q → A q) (isC isR : List Nat) (hC : isC.map (fun i => X[i]?) = cx.map some) (hR : isR.map (fun i => X[i]?) = wr.map some) (hn : va_nd isR = true) (hdis : ∀ i ∈ isR, i ∉ isC)
    (kk : ∀ (u : S) (H1 : Heap) (locs1 : List Loc), post u → va_P G.1 vwCl ((wr ++ W' u) ++ T) H1 → va_D A ((wr ++ W' u) ++ T) → va_S A s.heap H1 locs1 → W p l e R s m args below meth c H1 locs1 (cells + mc) (slots + ms) Q (F0 m (pc + 3) ls rest)) : W p l e R s m args below meth c H locs cells slots Q (F0 m pc ls st0) := by
  have hF := va_free hD hS hA isC (up_T isC hC)
  refine va_callv hr hS (fun q _ h => hF q h) hF (fun u t H1 locs1 ht hvm hw hB hz hk hS1 => ?_)
  obtain ⟨h1, h2⟩ := va_joinQ hP hD isC isR hC hR hn hdis hk hF (by rw [← ht]; exact hB.1) hB.2
  exact kk u H1 locs1 hw h1 h2 hS1
/-- a call of one that takes the tail along -/
theorem free_P (hD : va_D A (X ++ T)) (hS : va_S A s.heap H locs) (hA : ∀ q, s.heap.size ≤ q → A q) (isC : List Nat) (hC : isC.map (fun i => X[i]?) = cx.map some) : ∀ q, va_A (cx ++ T) H.size q → A q := by
  intro q h
  rcases h with ⟨k, e, h⟩ | h
  · rcases List.mem_append.mp (List.mem_of_getElem? h) with h | h
    · obtain ⟨k, hk⟩ := List.mem_iff_getElem?.mp h
      exact va_free (wc := cx) hD hS hA isC (up_T isC hC) q (Or.inl ⟨k, e, hk⟩)
    · exact (D_mem.mp hD).2 (q, e) (List.mem_append_right _ h)
  · exact hA q (Nat.le_trans hS.1 h)
end CQ
abbrev Cr (l : Launch) (G : Gy) (y : MethodName) (wy : List Cond) (rm : Room) (av : List Value) (ws : va_W) (sz : Nat) {S : Type} (post : S → Prop) (ad : S → Nat) (W' : S → va_W) (mc ms : Nat) : Prop := Met l y wy rm (cPre G ws sz av) (va_Qr post (fun u ra t => ra = ad u ∧ cPost G W' (va_A ws sz) u t) (va_A ws sz)) mc ms (va_A ws sz)
/-! the tables of a Search -/
abbrev TD : Type := Nat × Nat × Nat × Int32 × Int32 × Int32 × Int32 × Int32 × (Nat → Int32) × (Nat → Int32)
def tc (G : Gy) (d : TD) : va_W := match d with
  | (t, ta, tq, qd, se, go, ki, nn, fs, fq) => [(t, .inr (3, [.ref ta, .ref tq, .int qd, .int se, .int go, .int ki, .int nn])), (ta, .inl (gB G, 15625, .inl fs)), (tq, .inl (gI G, 15625, .inl fq))]
def tok (d : TD) : Prop := inR d.2.2.2.1 0 15625 ∧ inR d.2.2.2.2.1 0 15625
def oc (G : Gy) : Option TD → va_W
  | none => []
  | some d => tc G d
def fl (G : Gy) (D : Nat → Option TD) : Nat → va_W
  | 0 => []
  | n + 1 => fl G D n ++ oc G (D n)
theorem fl_up {G : Gy} {D : Nat → Option TD} {i : Nat} {o : Option TD} : ∀ n : Nat, n ≤ i → fl G (va_up D i o) n = fl G D n
  | 0, _ => rfl
  | n + 1, h => by
    have h1 : va_up D i o n = D n := by unfold va_up; exact if_neg (by omega)
    show fl G (va_up D i o) n ++ oc G (va_up D i o n) = fl G D n ++ oc G (D n)
    rw [fl_up n (by omega), h1]
theorem fl_at {G : Gy} {D : Nat → Option TD} {i : Nat} : ∀ n : Nat, i < n → ∃ X Y : va_W, fl G D n = X ++ (oc G (D i) ++ Y) ∧ ∀ o : Option TD, fl G (va_up D i o) n = X ++ (oc G o ++ Y)
  | 0, h => absurd h (Nat.not_lt_zero _)
  | n + 1, h => by
    by_cases hi : i = n
    · subst hi
      refine ⟨fl G D i, [], by show fl G D i ++ oc G (D i) = _; rw [List.append_nil], fun o => ?_⟩
      show fl G (va_up D i o) i ++ oc G (va_up D i o i) = _
      rw [fl_up i (Nat.le_refl _), List.append_nil]
      congr 2
      unfold va_up
      exact if_pos rfl
    · obtain ⟨X, Y, h1, h2⟩ := fl_at (G := G) (D := D) (i := i) n (by omega)
      refine ⟨X, Y ++ oc G (D n), ?_, fun o => ?_⟩
      · show fl G D n ++ oc G (D n) = _
        rw [h1]; simp only [List.append_assoc]
      · show fl G (va_up D i o) n ++ oc G (va_up D i o n) = _
        rw [h2 o, show va_up D i o n = D n from if_neg (fun e => hi e.symm)]
        simp only [List.append_assoc]
/-- a whole pool: what the slots ft name, and no more -/
def PL (G : Gy) (ft : Nat → Option Nat) (T : va_W) : Prop := ∃ D : Nat → Option TD, T = fl G D 8 ∧ (∀ j, j < 8 → ft j = (D j).map (fun d => d.1)) ∧ ∀ j, j < 8 → ∀ d, D j = some d → tok d
/-- a pool out of which one table d is taken -/
def TL (G : Gy) (ft : Nat → Option Nat) (d : TD) (T : va_W) : Prop := ∃ (D : Nat → Option TD) (i : Nat) (X Y : va_W), i < 8 ∧ T = X ++ Y ∧ (∀ o : Option TD, fl G (va_up D i o) 8 = X ++ (oc G o ++ Y)) ∧ ft i = some d.1 ∧ (∀ j, j < 8 → j ≠ i → ft j = (D j).map (fun d => d.1)) ∧ ∀ j, j < 8 → j ≠ i → ∀ d, D j = some d → tok d