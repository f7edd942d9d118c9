/-! class and reference side by side -/
def RI (w : Option PQ) (fz fkp : Nat → Int32) (j : Nat) : Prop := match w with
  | none => fz j = 0
  | some (n, _, s, _, _, fk) => ¬ fz j = 0 ∧ n = fkp (40 * j) ∧ s = fkp (40 * j + 3) ∧ ∀ i : Nat, i < 4 → fk i = fkp (40 * j + 10 + i)
def RELS (n sp : Int32) (fk : Nat → Int32) (wa wb : Option PQ) (k : Nat) (sp' : Int32) (fk' fz fkp : Nat → Int32) : Prop := n = nI k ∧ sp = sp' ∧ (∀ j : Nat, j < 4 → fk j = fk' j) ∧ RI wa fz fkp 0 ∧ RI wb fz fkp 1
theorem rel_sites {n n1 sp sp' p0 r r' : Int32} {fk fk' fz fkp : Nat → Int32} {wa wb : Option PQ} {k k1 : Nat} (h : RELS n sp fk wa wb k sp' fk' fz fkp) (hc : (inR p0 2 6 ∧ r = n ∧ n1 = p0) ∨ (¬ inR p0 2 6 ∧ r = (-2) ∧ n1 = n)) (hm : (inR p0 2 6 ∧ r' = nI k ∧ p0 = nI k1) ∨ (¬ inR p0 2 6 ∧ r' = (-2) ∧ k1 = k)) : r = r' ∧ RELS n1 sp fk wa wb k1 sp' fk' fz fkp := by
  obtain ⟨h1, h2⟩ := h
  rcases hc with ⟨c1, c2, c3⟩ | ⟨c1, c2, c3⟩ <;> rcases hm with ⟨m1, m2, m3⟩ | ⟨m1, m2, m3⟩
  · exact ⟨by rw [c2, m2, h1], by rw [c3, m3], h2⟩
  · exact absurd c1 m1
  · exact absurd m1 c1
  · exact ⟨by rw [c2, m2], by rw [c3, m3, h1], h2⟩
theorem rel_spades {n sp sp1 sp' sp2 p0 r r' : Int32} {fk fk' fz fkp : Nat → Int32} {wa wb : Option PQ} {k : Nat} (h : RELS n sp fk wa wb k sp' fk' fz fkp) (hc : (inR p0 1 6 ∧ r = sp ∧ sp1 = p0) ∨ (¬ inR p0 1 6 ∧ r = (-2) ∧ sp1 = sp)) (hm : (inR p0 1 6 ∧ r' = sp' ∧ sp2 = p0) ∨ (¬ inR p0 1 6 ∧ r' = (-2) ∧ sp2 = sp')) : r = r' ∧ RELS n sp1 fk wa wb k sp2 fk' fz fkp := by
  obtain ⟨h1, h2, h3⟩ := h
  rcases hc with ⟨c1, c2, c3⟩ | ⟨c1, c2, c3⟩ <;> rcases hm with ⟨m1, m2, m3⟩ | ⟨m1, m2, m3⟩
  · exact ⟨by rw [c2, m2, h2], h1, by rw [c3, m3], h3⟩
  · exact absurd c1 m1
  · exact absurd m1 c1
  · exact ⟨by rw [c2, m2], h1, by rw [c3, m3, h2], h3⟩
theorem rel_hand {n sp sp' p0 p1 r r' : Int32} {fk fk1 fk' fk2 fz fkp : Nat → Int32} {wa wb : Option PQ} {k : Nat} (h : RELS n sp fk wa wb k sp' fk' fz fkp) (hc : (inR p0 0 3 ∧ inR p1 0 15 ∧ r = fk p0.toNatClampNeg ∧ fk1 = upd fk p0.toNatClampNeg p1) ∨ (¬ (inR p0 0 3 ∧ inR p1 0 15) ∧ fk1 = fk ∧ r = cIf (inR p0 0 3) (-2) (-1))) (hm : (inR p0 0 3 ∧ inR p1 0 15 ∧ r' = fk' p0.toNatClampNeg ∧ fk2 = upd fk' p0.toNatClampNeg p1) ∨ (¬ (inR p0 0 3 ∧ inR p1 0 15) ∧ fk2 = fk' ∧ r' = cIf (inR p0 0 3) (-2) (-1))) : r = r' ∧ RELS n sp fk1 wa wb k sp' fk2 fz fkp := by
  obtain ⟨h1, h2, h3, h4⟩ := h
  rcases hc with ⟨c1, c2, c3, c4⟩ | ⟨c1, c2, c3⟩ <;> rcases hm with ⟨m1, m2, m3, m4⟩ | ⟨m1, m2, m3⟩
  · refine ⟨by rw [c3, m3]; exact h3 _ (clampR (hi := 3) c1 (by decide)), h1, h2, fun j hj => ?_, h4⟩
    rw [c4, m4]
    by_cases e : j = p0.toNatClampNeg
    · subst e; rw [pk_us, pk_us]
    · rw [pk_un e, pk_un e]; exact h3 j hj
  · exact absurd ⟨c1, c2⟩ m1
  · exact absurd ⟨m1, m2⟩ c1
  · exact ⟨by rw [c3, m3], h1, h2, fun j hj => by rw [c2, m2]; exact h3 j hj, h4⟩
theorem bool1 : ¬ vp_nar .boolean 1 = 0 := by decide
theorem RI_out {w : Option PQ} {fz fkp gq v : Nat → Int32} {x : Int32} {j i : Nat} (hij : ¬ i = j) (hi : i < 2) (hj : j < 2) (hw : PW (40 * j) 14 v fkp gq) (h : RI w fz fkp i) : RI w (upd fz j x) gq i := by
  cases w with
  | none => show upd fz j x i = 0; rw [pk_un hij]; exact h
  | some q =>
    obtain ⟨n, t, s, g, fc, fk⟩ := q
    obtain ⟨a1, a2, a3, a4⟩ := h
    refine ⟨by rw [pk_un hij]; exact a1, ?_, ?_, fun c hc => ?_⟩
    · rw [hw (40 * i), if_neg (by omega)]; exact a2
    · rw [hw (40 * i + 3), if_neg (by omega)]; exact a3
    · rw [hw (40 * i + 10 + c), if_neg (by omega)]; exact a4 c hc
theorem RI_in {fz fkp gq fk gk fm gc : Nat → Int32} {n s t g l2 t2 : Int32} {j k : Nat} {sp' : Int32} {fk' : Nat → Int32} (hn : n = nI k) (hs : s = sp') (hk : ∀ i : Nat, i < 4 → fk i = fk' i) (hg : ∀ i : Nat, i < 4 → gk i = fk i) (hw : PW (40 * j) 14 (vseq (nI k) t2 l2 sp' fm fk') fkp gq) : RI (some (n, t, s, g, gc, gk)) (upd fz j (vp_nar .boolean 1)) gq j := by
  refine ⟨by rw [pk_us]; exact bool1, ?_, ?_, fun c hc => ?_⟩
  · rw [hw (40 * j), if_pos (by omega), show 40 * j - 40 * j = 0 by omega]; exact hn
  · rw [hw (40 * j + 3), if_pos (by omega), show 40 * j + 3 - 40 * j = 3 by omega]; exact hs
  · rw [hw (40 * j + 10 + c), if_pos (by omega), show 40 * j + 10 + c - 40 * j = 10 + c by omega, vs_k, hg c hc]; exact hk c hc
theorem nI01 {j : Nat} (h : j < 2) {p : Int32} (e : p = nI j) : (j = 0 ∧ p = 0) ∨ (j = 1 ∧ p = 1) := by
  rcases (show j = 0 ∨ j = 1 by omega) with rfl | rfl
  · exact Or.inl ⟨rfl, e⟩
  · exact Or.inr ⟨rfl, e⟩
theorem rel_image {n told sp gr sp' p0 r r' told' l2 : Int32} {fc fk fk' fm fz gz fkp gq : Nat → Int32} {wa wb wa1 wb1 : Option PQ} {k : Nat} (h : RELS n sp fk wa wb k sp' fk' fz fkp)
    (hc : (inR p0 0 1 ∧ r = 1 ∧ ((p0 = 0 ∧ (∃ gc gk : Nat → Int32, wa1 = some (n, told, sp, gr, gc, gk) ∧ (∀ j : Nat, j < 6 → gc j = fc j) ∧ ∀ j : Nat, j < 4 → gk j = fk j) ∧ wb1 = wb) ∨ (p0 = 1 ∧ (∃ gc gk : Nat → Int32, wb1 = some (n, told, sp, gr, gc, gk) ∧ (∀ j : Nat, j < 6 → gc j = fc j) ∧ ∀ j : Nat, j < 4 → gk j = fk j) ∧ wa1 = wa))) ∨ (¬ inR p0 0 1 ∧ r = (-2) ∧ wa1 = wa ∧ wb1 = wb))
    (hm : (¬ inR p0 0 1 ∧ r' = (-2) ∧ gq = fkp ∧ gz = fz) ∨ ∃ j, j < 2 ∧ p0 = nI j ∧ r' = 1 ∧ gz = upd fz j (vp_nar .boolean 1) ∧ PW (40 * j) 14 (vseq (nI k) told' l2 sp' fm fk') fkp gq) : r = r' ∧ RELS n sp fk wa1 wb1 k sp' fk' gz gq := by
  obtain ⟨h1, h2, h3, ha, hb⟩ := h
  rcases hm with ⟨m1, m2, rfl, rfl⟩ | ⟨j, hj, ej, m2, rfl, hw⟩
  · rcases hc with ⟨c1, -⟩ | ⟨-, c2, rfl, rfl⟩
    · exact absurd c1 m1
    · exact ⟨by rw [c2, m2], h1, h2, h3, ha, hb⟩
  · rcases nI01 hj ej with ⟨rfl, e0⟩ | ⟨rfl, e0⟩
    · rcases hc with ⟨-, c2, ⟨-, ⟨gc, gk, rfl, -, hg⟩, rfl⟩ | ⟨c3, -⟩⟩ | ⟨c1, -⟩
      · exact ⟨by rw [c2, m2], h1, h2, h3, RI_in h1 h2 h3 hg hw, RI_out (by decide) (by decide) (by decide) hw hb⟩
      · exact absurd (e0.symm.trans c3) (by decide)
      · exact absurd (by rw [e0]; unfold inR; decide) c1
    · rcases hc with ⟨-, c2, ⟨c3, -⟩ | ⟨-, ⟨gc, gk, rfl, -, hg⟩, rfl⟩⟩ | ⟨c1, -⟩
      · exact absurd (e0.symm.trans c3) (by decide)
      · exact ⟨by rw [c2, m2], h1, h2, h3, RI_out (by decide) (by decide) (by decide) hw ha, RI_in h1 h2 h3 hg hw⟩
      · exact absurd (by rw [e0]; unfold inR; decide) c1
theorem rel_restore {n told sp gr n1 told1 sp1 gr1 sp' sp2 p0 r r' : Int32} {fc fk fc1 fk1 fk' gk2 fz fkp : Nat → Int32} {wa wb : Option PQ} {k k1 : Nat} (h : RELS n sp fk wa wb k sp' fk' fz fkp)
    (hc : (inR p0 0 1 ∧ r = 1 ∧ ((p0 = 0 ∧ ∃ gc gk : Nat → Int32, wa = some (n1, told1, sp1, gr1, gc, gk) ∧ (∀ j : Nat, j < 6 → fc1 j = gc j) ∧ ∀ j : Nat, j < 4 → fk1 j = gk j) ∨ (p0 = 1 ∧ ∃ gc gk : Nat → Int32, wb = some (n1, told1, sp1, gr1, gc, gk) ∧ (∀ j : Nat, j < 6 → fc1 j = gc j) ∧ ∀ j : Nat, j < 4 → fk1 j = gk j))) ∨ (inR p0 0 1 ∧ r = (-3) ∧ (n1, told1, sp1, gr1, fc1, fk1) = (n, told, sp, gr, fc, fk) ∧ ((p0 = 0 ∧ wa = none) ∨ (p0 = 1 ∧ wb = none))) ∨ (¬ inR p0 0 1 ∧ r = (-2) ∧ (n1, told1, sp1, gr1, fc1, fk1) = (n, told, sp, gr, fc, fk)))
    (hm : (((¬ inR p0 0 1 ∧ r' = (-2)) ∨ ∃ j, j < 2 ∧ p0 = nI j ∧ fz j = 0 ∧ r' = (-3)) ∧ k1 = k ∧ sp2 = sp' ∧ gk2 = fk') ∨ ∃ j, j < 2 ∧ p0 = nI j ∧ ¬ fz j = 0 ∧ r' = 1 ∧ fkp (40 * j) = nI k1 ∧ sp2 = fkp (40 * j + 3) ∧ ∀ i : Nat, i < 4 → gk2 i = fkp (40 * j + 10 + i)) : r = r' ∧ RELS n1 sp1 fk1 wa wb k1 sp2 gk2 fz fkp := by
  obtain ⟨h1, h2, h3, ha, hb⟩ := h
  rcases hm with ⟨hm, rfl, rfl, rfl⟩ | ⟨j, hj, ej, hz, m2, m3, m4, m5⟩
  · rcases hm with ⟨m1, m2⟩ | ⟨j, hj, ej, hz, m2⟩
    · rcases hc with ⟨c1, -⟩ | ⟨c1, -⟩ | ⟨-, c2, c3⟩
      · exact absurd c1 m1
      · exact absurd c1 m1
      · cases c3; exact ⟨by rw [c2, m2], h1, h2, h3, ha, hb⟩
    · rcases nI01 hj ej with ⟨rfl, e0⟩ | ⟨rfl, e0⟩
      · rcases hc with ⟨-, -, ⟨-, gc, gk, e, -⟩ | ⟨c3, -⟩⟩ | ⟨-, c2, c3, -⟩ | ⟨c1, -⟩
        · rw [e] at ha; exact absurd hz ha.1
        · exact absurd (e0.symm.trans c3) (by decide)
        · cases c3; exact ⟨by rw [c2, m2], h1, h2, h3, ha, hb⟩
        · exact absurd (by rw [e0]; unfold inR; decide) c1
      · rcases hc with ⟨-, -, ⟨c3, -⟩ | ⟨-, gc, gk, e, -⟩⟩ | ⟨-, c2, c3, -⟩ | ⟨c1, -⟩
        · exact absurd (e0.symm.trans c3) (by decide)
        · rw [e] at hb; exact absurd hz hb.1
        · cases c3; exact ⟨by rw [c2, m2], h1, h2, h3, ha, hb⟩
        · exact absurd (by rw [e0]; unfold inR; decide) c1
  · rcases nI01 hj ej with ⟨rfl, e0⟩ | ⟨rfl, e0⟩
    · rcases hc with ⟨-, c2, ⟨-, gc, gk, e, -, hg⟩ | ⟨c3, -⟩⟩ | ⟨-, -, -, ⟨-, e⟩ | ⟨c3, -⟩⟩ | ⟨c1, -⟩
      · have hr := ha
        rw [e] at hr
        exact ⟨by rw [c2, m2], by rw [hr.2.1]; exact m3, by rw [hr.2.2.1, m4], fun i hi => by rw [hg i hi, hr.2.2.2 i hi, m5 i hi], ha, hb⟩
      · exact absurd (e0.symm.trans c3) (by decide)
      · rw [e] at ha; exact absurd ha hz
      · exact absurd (e0.symm.trans c3) (by decide)
      · exact absurd (by rw [e0]; unfold inR; decide) c1
    · rcases hc with ⟨-, c2, ⟨c3, -⟩ | ⟨-, gc, gk, e, -, hg⟩⟩ | ⟨-, -, -, ⟨c3, -⟩ | ⟨-, e⟩⟩ | ⟨c1, -⟩
      · exact absurd (e0.symm.trans c3) (by decide)
      · have hr := hb
        rw [e] at hr
        exact ⟨by rw [c2, m2], by rw [hr.2.1]; exact m3, by rw [hr.2.2.1, m4], fun i hi => by rw [hg i hi, hr.2.2.2 i hi, m5 i hi], ha, hb⟩
      · exact absurd (e0.symm.trans c3) (by decide)
      · rw [e] at hb; exact absurd hb hz
      · exact absurd (by rw [e0]; unfold inR; decide) c1
/-! calls of the law over one world -/
theorem K_left {l : Launch} {G : Gy} {y : MethodName} {wy : List Cond} {rm : Room} {av : List Value} {wx : va_W} {H0 : Heap} {post : Int32 → va_W → Nat → Nat → Prop} {mc ms : Nat} (M : LK l G y wy rm av wx H0 post mc ms) (wm : va_W) : LK l G y wy rm av (wx ++ wm) H0 (fun r w2 g n => ∃ w, w2 = w ++ wm ∧ post r w g n) mc ms :=
  K_H M (wr := wm) (List.Perm.refl _) (fun r u hu => ⟨u.1 ++ wm, List.Perm.refl _, u.1, rfl, hu⟩)
theorem K_right {l : Launch} {G : Gy} {y : MethodName} {wy : List Cond} {rm : Room} {av : List Value} {wm : va_W} {H0 : Heap} {post : Int32 → va_W → Nat → Nat → Prop} {mc ms : Nat} (M : LK l G y wy rm av wm H0 post mc ms) (wx : va_W) : LK l G y wy rm av (wx ++ wm) H0 (fun r w2 g n => ∃ w, w2 = wx ++ w ∧ post r w g n) mc ms :=
  K_H M (wr := wx) List.perm_append_comm (fun r u hu => ⟨wx ++ u.1, List.perm_append_comm, u.1, rfl, hu⟩)
section LC
variable {p : Program} {l : Launch} {e : Env} {R : Room} {s : State} {m : MethodId} {args : Array Value} {below : List Frame} {meth : Method} {c : Code} {H : Heap} {locs : List Loc} {cells slots : Nat} {Q : State → Prop}
variable {pc : Nat} {ls : Array Slot} {rest st0 : List Value} {a : Array Value} {A : Nat → Prop} {mc ms : Nat} {G : Gy} {ws : va_W}
theorem ca_L {post : Int32 → va_W → Nat → Nat → Prop} {k0 n0 : Nat} (g0 : GF s.heap H k0 n0) (hr : va_Run p l e R s m args below meth c H locs cells slots mc ms (F0 m pc ls st0) rest (va_Qi (S := va_W × Nat × Nat) (fun r u => post r u.1 u.2.1 u.2.2) (cPostH G (fun u => u.1) (va_A ws H.size) H (fun u => u.2.1) (fun u => u.2.2)) (va_A ws H.size) a) (va_A ws H.size)) (hS : va_S A s.heap H locs) (hD : va_D A ws) (hA : ∀ q, s.heap.size ≤ q → A q)
    (kk : ∀ (r : Int32) (w2 : va_W) (g n : Nat) (H1 : Heap) (locs1 : List Loc), post r w2 g n → va_P G.1 vwCl w2 H1 → va_D A w2 → va_S A s.heap H1 locs1 → W p l e R s m args below meth c H1 locs1 (k0 + g) (n0 + n) Q (F0 m (pc + 3) ls (.int r :: rest))) : W p l e R s m args below meth c H locs cells slots Q (F0 m pc ls st0) := by
  have hF : ∀ q, va_A ws H.size q → A q := by
    intro q h
    rcases A_mem.mp h with ⟨e, he⟩ | h
    · exact (D_mem.mp hD).2 (q, e) he
    · exact hA q (Nat.le_trans hS.1 h)
  refine va_calli hr hS (fun q _ h => hF q h) hF (fun r u t H1 locs1 ht hvm hw hB hz hk hS1 => ?_)
  obtain ⟨b1, b2, b3⟩ := hB
  rw [ht] at b1 b3
  exact W_lower (g0.trans b3) (kk r u.1 u.2.1 u.2.2 H1 locs1 hw b1 (D_mem.mpr ⟨(D_mem.mp b2).1, fun q hq => hF _ ((D_mem.mp b2).2 q hq)⟩) hS1)
theorem pre_L {b : Nat} {As : List Value} (E : EV G A s s.heap) (hP : va_P G.1 vwCl ws H) (hD : va_D A ws) (hS : va_S A s.heap H locs) (hA : ∀ q, s.heap.size ≤ q → A q) (q0 ci : Nat) {q : vw_C} {fs : List Value} (hc : vwCl[ci]? = some q) (he : ws[q0]? = some (b, .inr (ci, fs))) : PreV s H q.1 b (cPreH G ws H (.ref b :: As)) As :=
  pre_VH (X := []) (cx := []) (T := ws) E hP hD hS hA [] rfl rfl q0 ci hc he
end LC
theorem cw_head {G : Gy} {h0 : Nat} {q : CQs} {w : va_W} (h : CWd G h0 q w) (wm : va_W) : ∃ fs, (w ++ wm)[0]? = some (h0, .inr (5, fs)) := by
  obtain ⟨n, told, sp, gr, fc, fk, len, fsg, wa, wb, c0, b0⟩ := q
  obtain ⟨pad, pp, im, ac, ak, sg, sl, vse, vtr, fsl, fim, T, Tt, Ta, Tb, rfl, -⟩ := h
  exact ⟨_, rfl⟩
theorem mw_head {G : Gy} {h1 : Nat} {q : MQs} {w : va_W} (h : MWd G h1 q w) (wx : va_W) : ∃ fs, (wx ++ w)[wx.length]? = some (h1, .inr (6, fs)) := by
  obtain ⟨k, told, la, sp, fm, fk, pm, fpd, fz, fkp⟩ := q
  obtain ⟨a1, a2, a3, a4, a5, a6, a7, a8, a9, a10, a11, a12, a13, a14, a15, a16, i1, i2, i3, i4, i5, i6, i7, f1, f2, f3, f4, f5, f6, f7, f8, f9, f10, f11, rfl, -⟩ := h
  rw [List.getElem?_append_right (Nat.le_refl _), Nat.sub_self]
  exact ⟨_, rfl⟩
theorem cq_le {G : Gy} {h0 : Nat} {n told sp gr len : Int32} {fc fk fsg : Nat → Int32} {wa wb : Option PQ} {c0 b0 : Nat} {w : va_W} (h : CWd G h0 (n, told, sp, gr, fc, fk, len, fsg, wa, wb, c0, b0) w) : cqN wa wb c0 b0 ≤ 37 ∧ sqN wa wb c0 b0 ≤ 281398 := by
  obtain ⟨pad, pp, im, ac, ak, sg, sl, vse, vtr, fsl, fim, T, Tt, Ta, Tb, -, h1, h2, -⟩ := h
  have := h1.le
  have := h2.le
  have := ocI_le wa
  have := ocI_le wb
  unfold cqN sqN
  omega
