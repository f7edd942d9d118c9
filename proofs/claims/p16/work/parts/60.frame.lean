/-! a contract over a larger world, in other words -/
theorem met_conseq {l : Launch} {y : MethodName} {ws : List Cond} {rm : Room} {Pc Pc' : Array Value → State → Prop} {Qc Qc' : Array Value → State → Outcome → State → Prop} {mc ms : Nat} {free free' : Addr → Prop} (hM : Met l y ws rm Pc Qc mc ms free) (hP : ∀ a s, Pc' a s → Pc a s) (hQ : ∀ a st o t L, Pc' a st → Qc a st o t → FrameEnd st o t L mc ms → Qc' a st o t) (hf : ∀ q, free q → free' q) : Met l y ws rm Pc' Qc' mc ms free' := by
  intro p e h1 h2 h3 s m args below h4 h5 h6 h7
  obtain ⟨n, o, a1, a2, a3, a4, L, a5, a6⟩ := hM p e h1 h2 h3 s m args below h4 h5 (hP _ _ h6) h7
  exact ⟨n, o, a1, a2, a3, hQ _ _ _ _ L h6 a4 a5, L, a5, fun q hq => hf _ (a6 q hq)⟩
theorem FE_GF {st : State} {o : Outcome} {t : State} {L : List Loc} {k n : Nat} (h : FrameEnd st o t L k n) : GF st.heap t.heap k n := by
  obtain ⟨-, -, -, h1, h2, -, h3, h4⟩ := h
  refine ⟨h1, h2, h3, fun a c hc => ?_⟩
  obtain ⟨c', q1, -, q3, -⟩ := h4 a c hc
  exact ⟨c', q1, q3⟩
theorem A_mem {ws : va_W} {sz q : Nat} : va_A ws sz q ↔ (∃ e, (q, e) ∈ ws) ∨ sz ≤ q := by
  constructor
  · rintro (⟨k, e, h⟩ | h)
    · exact Or.inl ⟨e, List.mem_of_getElem? h⟩
    · exact Or.inr h
  · rintro (⟨e, h⟩ | h)
    · obtain ⟨k, hk⟩ := List.mem_iff_getElem?.mp h
      exact Or.inl ⟨k, e, hk⟩
    · exact Or.inr h
theorem EV.narrow {G : Gy} {A B : Nat → Prop} {U : State} {H : Heap} (h : EV G A U H) (hB : ∀ q, B q → A q) : EV G B U H := by
  obtain ⟨hK, ⟨t1, z1, T1⟩, ⟨t2, z2, T2⟩, ⟨t3, z3, T3⟩, rest⟩ := h
  exact ⟨hK, ⟨t1, z1.narrow hB, T1.narrow hB⟩, ⟨t2, z2.narrow hB, T2.narrow hB⟩, ⟨t3, z3.narrow hB, T3.narrow hB⟩, rest⟩
theorem A_sub {ws wc wr : va_W} {sz q : Nat} (hp : ws.Perm (wc ++ wr)) (h : va_A wc sz q) : va_A ws sz q := by
  rcases A_mem.mp h with ⟨e, h⟩ | h
  · exact A_mem.mpr (Or.inl ⟨e, hp.mem_iff.mpr (List.mem_append_left _ h)⟩)
  · exact Or.inr h
/-- what a call leaves, put beside the rest of the world -/
theorem fr_join {G : Gy} {ws wc wr w1 : va_W} {H H1 : Heap} (hp : ws.Perm (wc ++ wr)) (hP : va_P G.1 vwCl ws H) (hD : va_D (fun _ => True) ws) (hk : ∀ q : Nat, q < H.size → ¬ va_A wc H.size q → H1[q]? = H[q]?) (hP1 : va_P G.1 vwCl w1 H1) (hD1 : va_D (va_A wc H.size) w1) : va_P G.1 vwCl (w1 ++ wr) H1 ∧ va_D (va_A ws H.size) (w1 ++ wr) := by
  have hPp := P_mem.mp (P_perm hp hP)
  have hDp := (D_mem.mp (D_perm hp hD)).1
  rw [List.map_append, List.nodup_append] at hDp
  obtain ⟨n1, n2, n3⟩ := hDp
  have hout : ∀ q ∈ wr, ¬ va_A wc H.size q.1 := by
    intro q hq ha
    rcases A_mem.mp ha with ⟨e, he⟩ | h
    · exact n3 q.1 (List.mem_map.mpr ⟨(q.1, e), he, rfl⟩) q.1 (List.mem_map.mpr ⟨q, hq, rfl⟩) rfl
    · exact absurd (hPp q (List.mem_append_right _ hq)).lt (Nat.not_lt.mpr h)
  constructor
  · refine P_mem.mpr (fun q hq => ?_)
    rcases List.mem_append.mp hq with hq | hq
    · exact P_mem.mp hP1 q hq
    · have h := hPp q (List.mem_append_right _ hq)
      exact h.kept (hk _ h.lt (hout q hq))
  · obtain ⟨d1, d2⟩ := D_mem.mp hD1
    refine D_mem.mpr ⟨?_, fun q hq => ?_⟩
    · rw [List.map_append, List.nodup_append]
      refine ⟨d1, n2, fun a ha b hb e => ?_⟩
      obtain ⟨x, hx, rfl⟩ := List.mem_map.mp ha
      obtain ⟨z, hz, rfl⟩ := List.mem_map.mp hb
      exact hout z hz (by rw [← e]; exact d2 x hx)
    · rcases List.mem_append.mp hq with hq | hq
      · exact A_sub hp (d2 q hq)
      · exact A_mem.mpr (Or.inl ⟨q.2, hp.mem_iff.mpr (List.mem_append_right _ hq)⟩)
abbrev LK (l : Launch) (G : Gy) (y : MethodName) (wy : List Cond) (rm : Room) (av : List Value) (ws : va_W) (H0 : Heap) (post : Int32 → va_W → Nat → Nat → Prop) (mc ms : Nat) : Prop := ChI l G y wy rm av ws H0 (S := va_W × Nat × Nat) (fun r u => post r u.1 u.2.1 u.2.2) (fun u => u.1) (fun u => u.2.1) (fun u => u.2.2) mc ms
theorem K_H {l : Launch} {G : Gy} {y : MethodName} {wy : List Cond} {rm : Room} {av : List Value} {ws wc wr : va_W} {H0 : Heap} {S : Type} {post : Int32 → S → Prop} {W' : S → va_W} {gc gs : S → Nat} {mc ms : Nat} {post2 : Int32 → va_W → Nat → Nat → Prop} (M : ChI l G y wy rm av wc H0 post W' gc gs mc ms) (hp : ws.Perm (wc ++ wr)) (hq : ∀ r u, post r u → ∃ w2, w2.Perm (W' u ++ wr) ∧ post2 r w2 (gc u) (gs u)) : LK l G y wy rm av ws H0 post2 mc ms := by
  refine met_conseq M ?_ ?_ (fun q => A_sub hp)
  · rintro a s ⟨ha, hH, hP, hD, hE⟩
    refine ⟨ha, hH, P_mem.mpr (fun q hq => P_mem.mp (P_perm hp hP) q (List.mem_append_left _ hq)), ?_, hE.narrow (fun q => A_sub hp)⟩
    have h := (D_mem.mp (D_perm hp hD)).1
    rw [List.map_append, List.nodup_append] at h
    exact D_mem.mpr ⟨h.1, fun _ _ => trivial⟩
  · rintro a st o t L ⟨ha, hH, hP, hD, hE⟩ ⟨⟨r, u, ho, hpost, hP1, hD1, hg⟩, hF⟩ -
    subst hH
    obtain ⟨w2, hw, hp2⟩ := hq r u hpost
    obtain ⟨j1, j2⟩ := fr_join hp hP hD hF.2 hP1 hD1
    exact ⟨⟨r, (w2, gc u, gs u), ho, hp2, P_perm hw.symm j1, D_perm hw.symm j2, hg⟩, hF.1, fun q h1 h2 => hF.2 q h1 (fun h3 => h2 (A_sub hp h3))⟩
theorem K_0 {l : Launch} {G : Gy} {y : MethodName} {wy : List Cond} {rm : Room} {av : List Value} {ws wc wr : va_W} {H0 : Heap} {S : Type} {post : Int32 → S → Prop} {W' : S → va_W} {post2 : Int32 → va_W → Nat → Nat → Prop} (M : Ci l G y wy rm av wc H0.size post W' 0 0) (hp : ws.Perm (wc ++ wr)) (hq : ∀ r u, post r u → ∃ w2, w2.Perm (W' u ++ wr) ∧ post2 r w2 0 0) : LK l G y wy rm av ws H0 post2 0 0 := by
  refine met_conseq M ?_ ?_ (fun q => A_sub hp)
  · rintro a s ⟨ha, hH, hP, hD, hE⟩
    subst hH
    refine ⟨ha, rfl, P_mem.mpr (fun q hq => P_mem.mp (P_perm hp hP) q (List.mem_append_left _ hq)), ?_, hE.narrow (fun q => A_sub hp)⟩
    have h := (D_mem.mp (D_perm hp hD)).1
    rw [List.map_append, List.nodup_append] at h
    exact D_mem.mpr ⟨h.1, fun _ _ => trivial⟩
  · rintro a st o t L ⟨ha, hH, hP, hD, hE⟩ ⟨⟨r, u, ho, hpost, hP1, hD1⟩, hF⟩ hL
    subst hH
    obtain ⟨w2, hw, hp2⟩ := hq r u hpost
    obtain ⟨j1, j2⟩ := fr_join hp hP hD hF.2 hP1 hD1
    exact ⟨⟨r, (w2, 0, 0), ho, hp2, P_perm hw.symm j1, D_perm hw.symm j2, FE_GF hL⟩, hF.1, fun q h1 h2 => hF.2 q h1 (fun h3 => h2 (A_sub hp h3))⟩
/-! lists in another order, by places -/
theorem perm_ix {α : Type} {ws l : List α} (is : List Nat) {n : Nat} (hn : ws.length = n) (hp : is.Perm (List.range n)) (h : is.map (fun i => ws[i]?) = l.map some) : ws.Perm l := by
  have h1 : (List.range n).map (fun i => ws[i]?) = ws.map some := by
    apply List.ext_getElem?
    intro i
    rw [List.getElem?_map, List.getElem?_map]
    by_cases hi : i < n
    · rw [List.getElem?_range hi, List.getElem?_eq_getElem (by omega)]
      show some ws[i]? = some (some _)
      rw [List.getElem?_eq_getElem (by omega)]
    · rw [List.getElem?_eq_none (by rw [List.length_range]; omega), List.getElem?_eq_none (by omega)]; rfl
  have h2 := hp.map (fun i => ws[i]?)
  rw [h, h1] at h2
  have h3 := h2.symm.filterMap id
  simpa [List.filterMap_map] using h3
theorem perm_flat {bs bs' : List va_W} (h : bs.Perm bs') : bs.flatten.Perm bs'.flatten := by
  induction h with
  | nil => exact List.Perm.refl _
  | cons x _ ih => rw [List.flatten_cons, List.flatten_cons]; exact List.Perm.append_left _ ih
  | swap x y r =>
    rw [List.flatten_cons, List.flatten_cons, List.flatten_cons, List.flatten_cons, ← List.append_assoc, ← List.append_assoc]
    exact List.Perm.append_right _ List.perm_append_comm
  | trans _ _ h1 h2 => exact h1.trans h2
theorem perm_bl {ws l : va_W} (bs bs' : List va_W) (e1 : ws = bs.flatten) (e2 : l = bs'.flatten) (is : List Nat) {n : Nat} (hn : bs.length = n) (hp : is.Perm (List.range n)) (h : is.map (fun i => bs[i]?) = bs'.map some) : ws.Perm l := by
  rw [e1, e2]
  exact perm_flat (perm_ix is hn hp h)
