/-! class and reference side by side -/
def RI (w : Option PQ) (fz fkp : Nat → Int32) (j : Nat) : Prop := match w with
  | none => fz j = 0
  | some (n, _, s, _, _, fk) => ¬ fz j = 0 ∧ n = fkp (40 * j) ∧ s = fkp (40 * j + 3) ∧ ∀ i : Nat, i < 4 → fk i = fkp (40 * j + 10 + i)
def RELS (n sp : Int32) (fk : Nat → Int32) (wa wb : Option PQ) (k : Nat) (sp' : Int32) (fk' fz fkp : Nat → Int32) : Prop := n = nI k ∧ sp = sp' ∧ (∀ j : Nat, j < 4 → fk j = fk' j) ∧ RI wa fz fkp 0 ∧ RI wb fz fkp 1
theorem bool1 : ¬ vp_nar .boolean 1 = 0 := by decide
theorem nI01 {j : Nat} (h : j < 2) {p : Int32} (e : p = nI j) : (j = 0 ∧ p = 0) ∨ (j = 1 ∧ p = 1) := by
  rcases (show j = 0 ∨ j = 1 by omega) with rfl | rfl
  · exact Or.inl ⟨rfl, e⟩
  · exact Or.inr ⟨rfl, e⟩
/-! calls of the law over one world -/
theorem K_left {l : Launch} {G : Gy} {y : MethodName} {wy : List Cond} {rm : Room} {av : List Value} {wx : va_W} {H0 : Heap} {post : Int32 → va_W → Nat → Nat → Prop} {mc ms : Nat} (M : LK l G y wy rm av wx H0 post mc ms) (wm : va_W) : LK l G y wy rm av (wx ++ wm) H0 (fun r w2 g n => ∃ w, w2 = w ++ wm ∧ post r w g n) mc ms :=
  K_H M (wr := wm) (List.Perm.refl _) (fun r u hu => ⟨u.1 ++ wm, List.Perm.refl _, u.1, rfl, hu⟩)
theorem K_right {l : Launch} {G : Gy} {y : MethodName} {wy : List Cond} {rm : Room} {av : List Value} {wm : va_W} {H0 : Heap} {post : Int32 → va_W → Nat → Nat → Prop} {mc ms : Nat} (M : LK l G y wy rm av wm H0 post mc ms) (wx : va_W) : LK l G y wy rm av (wx ++ wm) H0 (fun r w2 g n => ∃ w, w2 = wx ++ w ∧ post r w g n) mc ms :=
  K_H M (wr := wx) List.perm_append_comm (fun r u hu => ⟨wx ++ u.1, List.perm_append_comm, u.1, rfl, hu⟩)
section LC
variable {p : Program} {l : Launch} {e : Env} {R : Room} {s : State} {m : MethodId} {args : Array Value} {below : List Frame} {meth : Method} {c : Code} {H : Heap} {locs : List Loc} {cells slots : Nat} {Q : State → Prop}
variable {pc : Nat} {ls : Array Slot} {rest st0 : List Value} {a : Array Value} {A : Nat → Prop} {mc ms : Nat} {G : Gy} {ws : va_W}
theorem pre_L {b : Nat} {As : List Value} (E : EV G A s s.heap) (hP : va_P G.1 vwCl ws H) (hD : va_D A ws) (hS : va_S A s.heap H locs) (hA : ∀ q, s.heap.size ≤ q → A q) (q0 ci : Nat) {q : vw_C} {fs : List Value} (hc : vwCl[ci]? = some q) (he : ws[q0]? = some (b, .inr (ci, fs))) : PreV s H q.1 b (cPreH G ws H (.ref b :: As)) As :=
  pre_VH (X := []) (cx := []) (T := ws) E hP hD hS hA [] rfl rfl q0 ci hc he
end LC
theorem cw_head {G : Gy} {h0 : Nat} {q : CQs} {w : va_W} (h : CWd G h0 q w) (wm : va_W) : ∃ fs, (w ++ wm)[0]? = some (h0, .inr (5, fs)) := by
  obtain ⟨n, told, sp, gr, fc, fk, len, fsg, wa, wb, c0, b0⟩ := q
  obtain ⟨pad, pp, im, ac, ak, sg, sl, vse, vtr, fsl, fim, T, Tt, Ta, Tb, rfl, -⟩ := h
  exact ⟨_, rfl⟩
theorem mw_head {G : Gy} {h1 : Nat} {q : MQs} {w : va_W} (h : MWd G h1 q w) (wx : va_W) : ∃ fs, (wx ++ w)[wx.length]? = some (h1, .inr (6, fs)) := by
  obtain ⟨k, told, la, sp, fm, fk, pm, fpd, fz, fkp⟩ := q
  obtain ⟨a1, a2, a3, a4, a5, a6, a7, a8, a9, a10, a11, a12, a13, a14, a15, a16, i1, i2, i3, i4, i5, i6, i7, f1, f2, f3, f4, f5, f6, f7, f8, f9, f10, f11, rfl, -⟩ := h
  rw [List.getElem?_append_right (Nat.le_refl _), Nat.sub_self]
  exact ⟨_, rfl⟩
theorem cq_le {G : Gy} {h0 : Nat} {n told sp gr len : Int32} {fc fk fsg : Nat → Int32} {wa wb : Option PQ} {c0 b0 : Nat} {w : va_W} (h : CWd G h0 (n, told, sp, gr, fc, fk, len, fsg, wa, wb, c0, b0) w) : cqN wa wb c0 b0 ≤ 37 ∧ sqN wa wb c0 b0 ≤ 281398 := by
  obtain ⟨pad, pp, im, ac, ak, sg, sl, vse, vtr, fsl, fim, T, Tt, Ta, Tb, -, h1, h2, -⟩ := h
  have := h1.le
  have := h2.le
  have := ocI_le wa
  have := ocI_le wb
  unfold cqN sqN
  omega
