/-! class and reference side by side: all that shows, but for tables -/
def RIB (w : Option PQ) (fz fkp : Nat → Int32) (j : Nat) : Prop := match w with
  | none => fz j = 0
  | some (n, t, s, g, fc, fk) => ¬ fz j = 0 ∧ t = fkp (40 * j + 1) ∧ s = fkp (40 * j + 3) ∧ (∃ k la : Nat, k ≤ 6 ∧ n = nI k ∧ fkp (40 * j) = nI k ∧ la < 5 ^ k ∧ fkp (40 * j + 2) = nI la ∧ g = nI (sc k la) ∧ CR k t fc (fun i => maN fkp (40 * j + 4 + i))) ∧ ∀ i : Nat, i < 4 → fk i = fkp (40 * j + 10 + i)
def RELB (n told sp gr : Int32) (fc fk : Nat → Int32) (len : Int32) (fsg : Nat → Int32) (wa wb : Option PQ) (k : Nat) (told' : Int32) (la : Nat) (sp' : Int32) (fm fk' : Nat → Int32) (pm : Nat) (fpd fz fkp : Nat → Int32) : Prop := n = nI k ∧ told' = told ∧ sp' = sp ∧ gr = nI (sc k la) ∧ len = nI pm ∧ fpd = fsg ∧ CR k told fc (maN fm) ∧ (∀ j : Nat, j < 4 → fk j = fk' j) ∧ RIB wa fz fkp 0 ∧ RIB wb fz fkp 1
theorem mw_inv {G : Gy} {h1 k la pm : Nat} {told sp : Int32} {fm fk fpd fz fkp : Nat → Int32} {w : va_W} (h : MWd G h1 (k, told, la, sp, fm, fk, pm, fpd, fz, fkp) w) : 2 ≤ k ∧ k ≤ 6 ∧ pm ≤ 40 ∧ la < 5 ^ k ∧ inR sp 1 6 ∧ mapsOK k fm := by
  obtain ⟨a1, a2, a3, a4, a5, a6, a7, a8, a9, a10, a11, a12, a13, a14, a15, a16, i1, i2, i3, i4, i5, i6, i7, f1, f2, f3, f4, f5, f6, f7, f8, f9, f10, f11, -, h1, h2, -, h4, h5, h6, h7, -⟩ := h
  exact ⟨h1, h2, h6, h5, h7, h4⟩
theorem sc_zero {k : Nat} : nI (sc k 0) = 0 := by unfold sc; rw [Nat.zero_mul]; rfl
section RB
variable {k la pm : Nat} {told sp : Int32} {fc fk fsg fm fk' fz fkp : Nat → Int32} {wa wb : Option PQ}
theorem rb_sites {k1 la1 : Nat} {n1 told1 told2 gr1 p0 r r' : Int32} {gm : Nat → Int32} (h : RELB (nI k) told sp (nI (sc k la)) fc fk (nI pm) fsg wa wb k told la sp fm fk' pm fsg fz fkp) (hc : (inR p0 2 6 ∧ r = nI k ∧ n1 = p0 ∧ told1 = 0 ∧ gr1 = 0) ∨ (¬ inR p0 2 6 ∧ r = (-2) ∧ n1 = nI k ∧ told1 = told ∧ gr1 = nI (sc k la))) (hm : (inR p0 2 6 ∧ r' = nI k ∧ p0 = nI k1 ∧ told2 = 0 ∧ la1 = 0) ∨ (¬ inR p0 2 6 ∧ r' = (-2) ∧ k1 = k ∧ told2 = told ∧ la1 = la ∧ gm = fm)) : r = r' ∧ RELB n1 told1 sp gr1 fc fk (nI pm) fsg wa wb k1 told2 la1 sp gm fk' pm fsg fz fkp := by
  obtain ⟨-, -, -, -, -, -, h7, h8⟩ := h
  rcases hc with ⟨c1, c2, c3, c4, c5⟩ | ⟨c1, c2, c3, c4, c5⟩ <;> rcases hm with ⟨m1, m2, m3, m4, m5⟩ | ⟨m1, m2, m3, m4, m5, m6⟩
  · refine ⟨by rw [c2, m2], by rw [c3, m3], by rw [c4, m4], rfl, by rw [c5, m5, sc_zero], rfl, rfl, fun j hj ht => ?_, h8⟩
    rw [c4] at ht
    exact absurd ht (td_none (by omega))
  · exact absurd c1 m1
  · exact absurd m1 c1
  · rw [m3, m6, c3, c4, c5, m4, m5]
    exact ⟨by rw [c2, m2], rfl, rfl, rfl, rfl, rfl, rfl, h7, h8⟩
theorem rb_say {pm1 : Nat} {len1 p0 r r' : Int32} {fsg1 fd1 : Nat → Int32} (h : RELB (nI k) told sp (nI (sc k la)) fc fk (nI pm) fsg wa wb k told la sp fm fk' pm fsg fz fkp) (hc : (¬ inR p0 33 126 ∧ r = (-2) ∧ len1 = nI pm ∧ fsg1 = fsg) ∨ (inR p0 33 126 ∧ pm = 40 ∧ r = (-4) ∧ len1 = nI pm ∧ fsg1 = fsg) ∨ (inR p0 33 126 ∧ pm < 40 ∧ r = nI (pm + 1) ∧ len1 = nI (pm + 1) ∧ fsg1 = upd fsg pm p0)) (hm : (¬ inR p0 33 126 ∧ r' = (-2) ∧ pm1 = pm ∧ fd1 = fsg) ∨ (inR p0 33 126 ∧ pm = 40 ∧ r' = (-4) ∧ pm1 = pm ∧ fd1 = fsg) ∨ (inR p0 33 126 ∧ pm < 40 ∧ r' = nI (pm + 1) ∧ pm1 = pm + 1 ∧ fd1 = upd fsg pm p0)) : r = r' ∧ RELB (nI k) told sp (nI (sc k la)) fc fk len1 fsg1 wa wb k told la sp fm fk' pm1 fd1 fz fkp := by
  obtain ⟨-, -, -, -, -, -, h7⟩ := h
  rcases hc with ⟨c1, c2, c3, c4⟩ | ⟨c1, c0, c2, c3, c4⟩ | ⟨c1, c0, c2, c3, c4⟩ <;> rcases hm with ⟨m1, m2, m3, m4⟩ | ⟨m1, m0, m2, m3, m4⟩ | ⟨m1, m0, m2, m3, m4⟩
  · exact ⟨by rw [c2, m2], rfl, rfl, rfl, rfl, by rw [c3, m3], by rw [c4, m4], h7⟩
  · exact absurd m1 c1
  · exact absurd m1 c1
  · exact absurd c1 m1
  · exact ⟨by rw [c2, m2], rfl, rfl, rfl, rfl, by rw [c3, m3], by rw [c4, m4], h7⟩
  · omega
  · exact absurd c1 m1
  · omega
  · exact ⟨by rw [c2, m2], rfl, rfl, rfl, rfl, by rw [c3, m3], by rw [c4, m4], h7⟩
theorem rb_wipe {len1 r r' : Int32} (h : RELB (nI k) told sp (nI (sc k la)) fc fk (nI pm) fsg wa wb k told la sp fm fk' pm fsg fz fkp) (hc : r = nI pm ∧ len1 = 0) (hm : r' = nI pm) : r = r' ∧ RELB (nI k) told sp (nI (sc k la)) fc fk len1 fsg wa wb k told la sp fm fk' 0 fsg fz fkp := by
  obtain ⟨-, -, -, -, -, -, h7⟩ := h
  exact ⟨by rw [hc.1, hm], rfl, rfl, rfl, rfl, by rw [hc.2]; rfl, rfl, h7⟩
theorem CR_put {a : Nat} {i : Nat} (hi : i < 6) (ha : a < 5 ^ k) (hk : k ≤ 6) (h : CR k told fc (maN fm)) : CR k (tb told (nI i)) (upd fc i (nI (sc k a))) (maN (upd fm i (nI a))) := by
  intro j hj ht
  rw [td_tb (by omega) (by omega)] at ht
  have h5 := p5le hk
  by_cases e : j = i
  · subst e
    have e2 : maN (upd fm j (nI a)) j = a := by unfold maN; rw [pk_us]; exact nI_clamp (by omega)
    rw [e2, pk_us]
    exact ⟨ha, rfl⟩
  · have e2 : maN (upd fm i (nI a)) j = maN fm j := by unfold maN; rw [pk_un e]
    rw [e2, pk_un e]
    exact h j hj (ht.elim (fun q => absurd q.symm e) id)
theorem rb_out {pm1 : Nat} {o : Int32 × Option Nat} {p0 told1 told2 len1 r r' : Int32} {fc1 fm1 : Nat → Int32} (hk : k ≤ 6) (h : RELB (nI k) told sp (nI (sc k la)) fc fk (nI pm) fsg wa wb k told la sp fm fk' pm fsg fz fkp) (hc : r = o.1 ∧ COut k o.2 p0 told told1 (nI pm) len1 fc fc1) (hm : r' = o.1 ∧ MOut k o.2 p0 told told2 pm pm1 fm fm1) : r = r' ∧ RELB (nI k) told1 sp (nI (sc k la)) fc1 fk len1 fsg wa wb k told2 la sp fm1 fk' pm1 fsg fz fkp := by
  obtain ⟨-, -, -, -, -, -, h7, h8⟩ := h
  obtain ⟨c1, c2⟩ := hc
  obtain ⟨m1, m2⟩ := hm
  refine ⟨by rw [c1, m1], ?_⟩
  cases e : o.2 with
  | none =>
    rw [e] at c2 m2
    obtain ⟨rfl, rfl, rfl⟩ := c2
    obtain ⟨rfl, rfl, rfl⟩ := m2
    exact ⟨rfl, rfl, rfl, rfl, rfl, rfl, h7, h8⟩
  | some a =>
    rw [e] at c2 m2
    obtain ⟨hin, ha, rfl, rfl, rfl⟩ := c2
    obtain ⟨-, rfl, rfl, rfl⟩ := m2
    obtain ⟨j, hj, rfl⟩ := inR6 hin
    rw [nI_clamp (show j < 2 ^ 31 by omega)]
    exact ⟨rfl, rfl, rfl, rfl, rfl, rfl, CR_put hj ha hk h7, h8⟩
theorem rb_follow {la1 : Nat} {o : Int32 × Nat} {gr1 r r' : Int32} (h : RELB (nI k) told sp (nI (sc k la)) fc fk (nI pm) fsg wa wb k told la sp fm fk' pm fsg fz fkp) (hc : r = o.1 ∧ gr1 = nI (sc k o.2)) (hm : r' = o.1 ∧ la1 = o.2) : r = r' ∧ RELB (nI k) told sp gr1 fc fk (nI pm) fsg wa wb k told la1 sp fm fk' pm fsg fz fkp := by
  obtain ⟨-, -, -, -, -, -, h7⟩ := h
  exact ⟨by rw [hc.1, hm.1], rfl, rfl, rfl, by rw [hc.2, hm.2], rfl, rfl, h7⟩
theorem rb_spades {sp1 sp2 p0 r r' : Int32} (h : RELB (nI k) told sp (nI (sc k la)) fc fk (nI pm) fsg wa wb k told la sp fm fk' pm fsg fz fkp) (hc : (inR p0 1 6 ∧ r = sp ∧ sp1 = p0) ∨ (¬ inR p0 1 6 ∧ r = (-2) ∧ sp1 = sp)) (hm : (inR p0 1 6 ∧ r' = sp ∧ sp2 = p0) ∨ (¬ inR p0 1 6 ∧ r' = (-2) ∧ sp2 = sp)) : r = r' ∧ RELB (nI k) told sp1 (nI (sc k la)) fc fk (nI pm) fsg wa wb k told la sp2 fm fk' pm fsg fz fkp := by
  obtain ⟨-, -, -, -, -, -, h7⟩ := h
  rcases hc with ⟨c1, c2, c3⟩ | ⟨c1, c2, c3⟩ <;> rcases hm with ⟨m1, m2, m3⟩ | ⟨m1, m2, m3⟩
  · exact ⟨by rw [c2, m2], rfl, rfl, by rw [c3, m3], rfl, rfl, rfl, h7⟩
  · exact absurd c1 m1
  · exact absurd m1 c1
  · exact ⟨by rw [c2, m2], rfl, rfl, by rw [c3, m3], rfl, rfl, rfl, h7⟩
theorem rb_hand {p0 p1 r r' : Int32} {fk1 fk2 : Nat → Int32} (h : RELB (nI k) told sp (nI (sc k la)) fc fk (nI pm) fsg wa wb k told la sp fm fk' pm fsg fz fkp) (hc : (inR p0 0 3 ∧ inR p1 0 15 ∧ r = fk p0.toNatClampNeg ∧ fk1 = upd fk p0.toNatClampNeg p1) ∨ (¬ (inR p0 0 3 ∧ inR p1 0 15) ∧ fk1 = fk ∧ r = cIf (inR p0 0 3) (-2) (-1))) (hm : (inR p0 0 3 ∧ inR p1 0 15 ∧ r' = fk' p0.toNatClampNeg ∧ fk2 = upd fk' p0.toNatClampNeg p1) ∨ (¬ (inR p0 0 3 ∧ inR p1 0 15) ∧ fk2 = fk' ∧ r' = cIf (inR p0 0 3) (-2) (-1))) : r = r' ∧ RELB (nI k) told sp (nI (sc k la)) fc fk1 (nI pm) fsg wa wb k told la sp fm fk2 pm fsg fz fkp := by
  obtain ⟨-, -, -, -, -, -, h7, h3, h8⟩ := h
  rcases hc with ⟨c1, c2, c3, c4⟩ | ⟨c1, c2, c3⟩ <;> rcases hm with ⟨m1, m2, m3, m4⟩ | ⟨m1, m2, m3⟩
  · refine ⟨by rw [c3, m3]; exact h3 _ (clampR (hi := 3) c1 (by decide)), rfl, rfl, rfl, rfl, rfl, rfl, h7, fun j hj => ?_, h8⟩
    rw [c4, m4]
    by_cases e : j = p0.toNatClampNeg
    · subst e; rw [pk_us, pk_us]
    · rw [pk_un e, pk_un e]; exact h3 j hj
  · exact absurd ⟨c1, c2⟩ m1
  · exact absurd ⟨m1, m2⟩ c1
  · exact ⟨by rw [c3, m3], rfl, rfl, rfl, rfl, rfl, rfl, h7, fun j hj => by rw [c2, m2]; exact h3 j hj, h8⟩
end RB
theorem RIB_out {w : Option PQ} {fz fkp gq v : Nat → Int32} {x : Int32} {j i : Nat} (hij : ¬ i = j) (hi : i < 2) (hj : j < 2) (hw : PW (40 * j) 14 v fkp gq) (h : RIB w fz fkp i) : RIB w (upd fz j x) gq i := by
  cases w with
  | none => show upd fz j x i = 0; rw [pk_un hij]; exact h
  | some q =>
    obtain ⟨n, t, s, g, fc, fk⟩ := q
    obtain ⟨a1, a2, a3, ⟨k, la, b1, b2, b3, b4, b5, b6, b7⟩, a4⟩ := h
    have e : ∀ c : Nat, c < 14 → gq (40 * i + c) = fkp (40 * i + c) := fun c hc => by rw [hw (40 * i + c), if_neg (by omega)]
    refine ⟨by rw [pk_un hij]; exact a1, ?_, ?_, ⟨k, la, b1, b2, ?_, b4, ?_, b6, fun c hc ht => ?_⟩, fun c hc => ?_⟩
    · rw [e 1 (by decide)]; exact a2
    · rw [e 3 (by decide)]; exact a3
    · have e0 := e 0 (by decide); rw [Nat.add_zero] at e0; rw [e0]; exact b3
    · rw [e 2 (by decide)]; exact b5
    · have e2 : maN gq (40 * i + 4 + c) = maN fkp (40 * i + 4 + c) := by unfold maN; rw [show 40 * i + 4 + c = 40 * i + (4 + c) by omega, e (4 + c) (by omega)]
      have h2 := b7 c hc ht
      dsimp only at h2 ⊢
      rw [e2]; exact h2
    · rw [show 40 * i + 10 + c = 40 * i + (10 + c) by omega, e (10 + c) (by omega), show 40 * i + (10 + c) = 40 * i + 10 + c by omega]; exact a4 c hc
theorem RIB_in {fz fkp gq fk gk fm gc fc : Nat → Int32} {told sp : Int32} {j k la : Nat} {fk' : Nat → Int32} (hk6 : k ≤ 6) (hla : la < 5 ^ k) (hcr : CR k told fc (maN fm)) (hc : ∀ i : Nat, i < 6 → gc i = fc i) (hk : ∀ i : Nat, i < 4 → fk i = fk' i) (hg : ∀ i : Nat, i < 4 → gk i = fk i) (hw : PW (40 * j) 14 (vseq (nI k) told (nI la) sp fm fk') fkp gq) : RIB (some (nI k, told, sp, nI (sc k la), gc, gk)) (upd fz j (vp_nar .boolean 1)) gq j := by
  refine ⟨by rw [pk_us]; exact bool1, ?_, ?_, ⟨k, la, hk6, rfl, ?_, hla, ?_, rfl, fun c hc6 ht => ?_⟩, fun c hc4 => ?_⟩
  · rw [hw (40 * j + 1), if_pos (by omega), show 40 * j + 1 - 40 * j = 1 by omega]; rfl
  · rw [hw (40 * j + 3), if_pos (by omega), show 40 * j + 3 - 40 * j = 3 by omega]; rfl
  · rw [hw (40 * j), if_pos (by omega), show 40 * j - 40 * j = 0 by omega]; rfl
  · rw [hw (40 * j + 2), if_pos (by omega), show 40 * j + 2 - 40 * j = 2 by omega]; rfl
  · have e2 : maN gq (40 * j + 4 + c) = maN fm c := by unfold maN; rw [hw (40 * j + 4 + c), if_pos (by omega), show 40 * j + 4 + c - 40 * j = 4 + c by omega, vs_m hc6]
    have h2 := hcr c hc6 ht
    dsimp only
    rw [e2, hc c hc6]; exact h2
  · rw [hw (40 * j + 10 + c), if_pos (by omega), show 40 * j + 10 + c - 40 * j = 10 + c by omega, vs_k, hg c hc4]; exact hk c hc4
section RC
variable {k la pm : Nat} {told sp : Int32} {fc fk fsg fm fk' fz fkp : Nat → Int32} {wa wb : Option PQ}
theorem rb_image {p0 r r' : Int32} {gz gq : Nat → Int32} {wa1 wb1 : Option PQ} {g1 : Nat} (hk6 : k ≤ 6) (hla : la < 5 ^ k) (h : RELB (nI k) told sp (nI (sc k la)) fc fk (nI pm) fsg wa wb k told la sp fm fk' pm fsg fz fkp)
    (hc : (inR p0 0 1 ∧ r = 1 ∧ ((p0 = 0 ∧ (∃ gc gk : Nat → Int32, wa1 = some (nI k, told, sp, nI (sc k la), gc, gk) ∧ (∀ j : Nat, j < 6 → gc j = fc j) ∧ ∀ j : Nat, j < 4 → gk j = fk j) ∧ wb1 = wb ∧ g1 + ocI wa = 1) ∨ (p0 = 1 ∧ (∃ gc gk : Nat → Int32, wb1 = some (nI k, told, sp, nI (sc k la), gc, gk) ∧ (∀ j : Nat, j < 6 → gc j = fc j) ∧ ∀ j : Nat, j < 4 → gk j = fk j) ∧ wa1 = wa ∧ g1 + ocI wb = 1))) ∨ (¬ inR p0 0 1 ∧ r = (-2) ∧ wa1 = wa ∧ wb1 = wb ∧ g1 = 0))
    (hm : (¬ inR p0 0 1 ∧ r' = (-2) ∧ gq = fkp ∧ gz = fz) ∨ ∃ j, j < 2 ∧ p0 = nI j ∧ r' = 1 ∧ gz = upd fz j (vp_nar .boolean 1) ∧ PW (40 * j) 14 (vseq (nI k) told (nI la) sp fm fk') fkp gq) : r = r' ∧ RELB (nI k) told sp (nI (sc k la)) fc fk (nI pm) fsg wa1 wb1 k told la sp fm fk' pm fsg gz gq := by
  obtain ⟨-, -, -, -, -, -, h7, h3, ha, hb⟩ := h
  rcases hm with ⟨m1, m2, rfl, rfl⟩ | ⟨j, hj, ej, m2, rfl, hw⟩
  · rcases hc with ⟨c1, -⟩ | ⟨-, c2, rfl, rfl, -⟩
    · exact absurd c1 m1
    · exact ⟨by rw [c2, m2], rfl, rfl, rfl, rfl, rfl, rfl, h7, h3, ha, hb⟩
  · rcases nI01 hj ej with ⟨rfl, e0⟩ | ⟨rfl, e0⟩
    · rcases hc with ⟨-, c2, ⟨-, ⟨gc, gk, rfl, hq, hg⟩, rfl, -⟩ | ⟨c3, -⟩⟩ | ⟨c1, -⟩
      · exact ⟨by rw [c2, m2], rfl, rfl, rfl, rfl, rfl, rfl, h7, h3, RIB_in hk6 hla h7 hq h3 hg hw, RIB_out (by decide) (by decide) (by decide) hw hb⟩
      · exact absurd (e0.symm.trans c3) (by decide)
      · exact absurd (by rw [e0]; unfold inR; decide) c1
    · rcases hc with ⟨-, c2, ⟨c3, -⟩ | ⟨-, ⟨gc, gk, rfl, hq, hg⟩, rfl, -⟩⟩ | ⟨c1, -⟩
      · exact absurd (e0.symm.trans c3) (by decide)
      · exact ⟨by rw [c2, m2], rfl, rfl, rfl, rfl, rfl, rfl, h7, h3, RIB_out (by decide) (by decide) (by decide) hw ha, RIB_in hk6 hla h7 hq h3 hg hw⟩
      · exact absurd (by rw [e0]; unfold inR; decide) c1
/-- an image that was kept, brought back -/
theorem RIB_back {w : Option PQ} {j k1 la1 : Nat} {n1 told1 sp1 gr1 told2 sp2 : Int32} {gc gk fc1 fk1 gm gk2 : Nat → Int32} (hk1 : k1 ≤ 6) (hla1 : la1 < 5 ^ k1) (h : RIB w fz fkp j) (e : w = some (n1, told1, sp1, gr1, gc, gk)) (hq : ∀ j : Nat, j < 6 → fc1 j = gc j) (hg : ∀ j : Nat, j < 4 → fk1 j = gk j) (m3 : fkp (40 * j) = nI k1) (m4 : told2 = fkp (40 * j + 1)) (m5 : fkp (40 * j + 2) = nI la1) (m6 : sp2 = fkp (40 * j + 3)) (m7 : ∀ i : Nat, i < 6 → gm i = fkp (40 * j + 4 + i)) (m8 : ∀ i : Nat, i < 4 → gk2 i = fkp (40 * j + 10 + i)) : n1 = nI k1 ∧ told2 = told1 ∧ sp2 = sp1 ∧ gr1 = nI (sc k1 la1) ∧ CR k1 told1 fc1 (maN gm) ∧ ∀ j : Nat, j < 4 → fk1 j = gk2 j := by
  rw [e] at h
  obtain ⟨a1, a2, a3, ⟨k, la, b1, b2, b3, b4, b5, b6, b7⟩, a4⟩ := h
  have h5 := p5le hk1
  have h6 := p5le b1
  have ek : k = k1 := (nI_eq (by omega) (by omega)).mp (b3.symm.trans m3)
  subst ek
  have el : la = la1 := (nI_eq (by omega) (by omega)).mp (b5.symm.trans m5)
  subst el
  refine ⟨b2, by rw [m4, a2], by rw [m6, a3], b6, fun c hc ht => ?_, fun c hc => by rw [hg c hc, a4 c hc, m8 c hc]⟩
  have e2 : maN gm c = maN fkp (40 * j + 4 + c) := by unfold maN; rw [m7 c hc]
  rw [e2, hq c hc]
  exact b7 c hc ht
theorem rb_restore {k1 la1 : Nat} {n1 told1 sp1 gr1 told2 sp2 p0 r r' : Int32} {fc1 fk1 gm gk2 : Nat → Int32} (hk1 : k1 ≤ 6) (hla1 : la1 < 5 ^ k1) (h : RELB (nI k) told sp (nI (sc k la)) fc fk (nI pm) fsg wa wb k told la sp fm fk' pm fsg fz fkp)
    (hc : (inR p0 0 1 ∧ r = 1 ∧ ((p0 = 0 ∧ ∃ gc gk : Nat → Int32, wa = some (n1, told1, sp1, gr1, gc, gk) ∧ (∀ j : Nat, j < 6 → fc1 j = gc j) ∧ ∀ j : Nat, j < 4 → fk1 j = gk j) ∨ (p0 = 1 ∧ ∃ gc gk : Nat → Int32, wb = some (n1, told1, sp1, gr1, gc, gk) ∧ (∀ j : Nat, j < 6 → fc1 j = gc j) ∧ ∀ j : Nat, j < 4 → fk1 j = gk j))) ∨ (inR p0 0 1 ∧ r = (-3) ∧ (n1, told1, sp1, gr1, fc1, fk1) = (nI k, told, sp, nI (sc k la), fc, fk) ∧ ((p0 = 0 ∧ wa = none) ∨ (p0 = 1 ∧ wb = none))) ∨ (¬ inR p0 0 1 ∧ r = (-2) ∧ (n1, told1, sp1, gr1, fc1, fk1) = (nI k, told, sp, nI (sc k la), fc, fk)))
    (hm : (((¬ inR p0 0 1 ∧ r' = (-2)) ∨ ∃ j, j < 2 ∧ p0 = nI j ∧ fz j = 0 ∧ r' = (-3)) ∧ k1 = k ∧ told2 = told ∧ la1 = la ∧ sp2 = sp ∧ gm = fm ∧ gk2 = fk') ∨ ∃ j, j < 2 ∧ p0 = nI j ∧ ¬ fz j = 0 ∧ r' = 1 ∧ fkp (40 * j) = nI k1 ∧ told2 = fkp (40 * j + 1) ∧ fkp (40 * j + 2) = nI la1 ∧ sp2 = fkp (40 * j + 3) ∧ (∀ i : Nat, i < 6 → gm i = fkp (40 * j + 4 + i)) ∧ ∀ i : Nat, i < 4 → gk2 i = fkp (40 * j + 10 + i)) : r = r' ∧ RELB n1 told1 sp1 gr1 fc1 fk1 (nI pm) fsg wa wb k1 told2 la1 sp2 gm gk2 pm fsg fz fkp := by
  obtain ⟨-, -, -, -, -, -, h7, h3, ha, hb⟩ := h
  rcases hm with ⟨hm, rfl, rfl, rfl, rfl, rfl, rfl⟩ | ⟨j, hj, ej, hz, m2, m3, m4, m5, m6, m7, m8⟩
  · rcases hm with ⟨m1, m2⟩ | ⟨j, hj, ej, hz, m2⟩
    · rcases hc with ⟨c1, -⟩ | ⟨c1, -⟩ | ⟨-, c2, c3⟩
      · exact absurd c1 m1
      · exact absurd c1 m1
      · cases c3; exact ⟨by rw [c2, m2], rfl, rfl, rfl, rfl, rfl, rfl, h7, h3, ha, hb⟩
    · rcases nI01 hj ej with ⟨rfl, e0⟩ | ⟨rfl, e0⟩
      · rcases hc with ⟨-, -, ⟨-, gc, gk, e, -⟩ | ⟨c3, -⟩⟩ | ⟨-, c2, c3, -⟩ | ⟨c1, -⟩
        · rw [e] at ha; exact absurd hz ha.1
        · exact absurd (e0.symm.trans c3) (by decide)
        · cases c3; exact ⟨by rw [c2, m2], rfl, rfl, rfl, rfl, rfl, rfl, h7, h3, ha, hb⟩
        · exact absurd (by rw [e0]; unfold inR; decide) c1
      · rcases hc with ⟨-, -, ⟨c3, -⟩ | ⟨-, gc, gk, e, -⟩⟩ | ⟨-, c2, c3, -⟩ | ⟨c1, -⟩
        · exact absurd (e0.symm.trans c3) (by decide)
        · rw [e] at hb; exact absurd hz hb.1
        · cases c3; exact ⟨by rw [c2, m2], rfl, rfl, rfl, rfl, rfl, rfl, h7, h3, ha, hb⟩
        · exact absurd (by rw [e0]; unfold inR; decide) c1
  · rcases nI01 hj ej with ⟨rfl, e0⟩ | ⟨rfl, e0⟩
    · rcases hc with ⟨-, c2, ⟨-, gc, gk, e, hq, hg⟩ | ⟨c3, -⟩⟩ | ⟨-, -, -, ⟨-, e⟩ | ⟨c3, -⟩⟩ | ⟨c1, -⟩
      · obtain ⟨x1, x2, x3, x4, x5, x6⟩ := RIB_back hk1 hla1 ha e hq hg m3 m4 m5 m6 m7 m8
        exact ⟨by rw [c2, m2], x1, x2, x3, x4, rfl, rfl, x5, x6, ha, hb⟩
      · exact absurd (e0.symm.trans c3) (by decide)
      · rw [e] at ha; exact absurd ha hz
      · exact absurd (e0.symm.trans c3) (by decide)
      · exact absurd (by rw [e0]; unfold inR; decide) c1
    · rcases hc with ⟨-, c2, ⟨c3, -⟩ | ⟨-, gc, gk, e, hq, hg⟩⟩ | ⟨-, -, -, ⟨c3, -⟩ | ⟨-, e⟩⟩ | ⟨c1, -⟩
      · exact absurd (e0.symm.trans c3) (by decide)
      · obtain ⟨x1, x2, x3, x4, x5, x6⟩ := RIB_back hk1 hla1 hb e hq hg m3 m4 m5 m6 m7 m8
        exact ⟨by rw [c2, m2], x1, x2, x3, x4, rfl, rfl, x5, x6, ha, hb⟩
      · exact absurd (e0.symm.trans c3) (by decide)
      · rw [e] at hb; exact absurd hb hz
      · exact absurd (by rw [e0]; unfold inR; decide) c1
end RC
