/-! copies by draws -/
/-- the map that the slip numbered q makes, of the first n slips those that are some -/
def dnS (k : Nat) (b : Nat → Bool) (a q : Nat) : Nat → Nat
  | 0 => a
  | n + 1 => if (b (mvAt k n).1 = true ∧ ¬ slN k a (mvAt k n) = a) ∧ cSl k b a n = q then slN k a (mvAt k n) else dnS k b a q n
theorem dnS_t {k a q n : Nat} {b : Nat → Bool} (h : (b (mvAt k n).1 = true ∧ ¬ slN k a (mvAt k n) = a) ∧ cSl k b a n = q) : dnS k b a q (n + 1) = slN k a (mvAt k n) := if_pos h
theorem dnS_f {k a q n : Nat} {b : Nat → Bool} (h : ¬ ((b (mvAt k n).1 = true ∧ ¬ slN k a (mvAt k n) = a) ∧ cSl k b a n = q)) : dnS k b a q (n + 1) = dnS k b a q n := if_neg h
theorem dnS_lt {k a q : Nat} {b : Nat → Bool} (ha : a < 5 ^ k) : ∀ n, n ≤ manyS k → dnS k b a q n < 5 ^ k
  | 0, _ => ha
  | n + 1, h => by
    by_cases c : (b (mvAt k n).1 = true ∧ ¬ slN k a (mvAt k n) = a) ∧ cSl k b a n = q
    · rw [dnS_t c]; exact slN_lt ha (mvAt_ok (by omega))
    · rw [dnS_f c]; exact dnS_lt ha n (by omega)
def dwN (k : Nat) (b : Nat → Bool) (a x : Nat) : Nat := if cSl k b a (manyS k) = 0 then a else dnS k b a (x % cSl k b a (manyS k)) (manyS k)
theorem dwN_lt {k a x : Nat} {b : Nat → Bool} (ha : a < 5 ^ k) : dwN k b a x < 5 ^ k := by
  unfold dwN
  by_cases c : cSl k b a (manyS k) = 0
  · rw [if_pos c]; exact ha
  · rw [if_neg c]; exact dnS_lt ha _ (Nat.le_refl _)
theorem dwN_0 {k a x : Nat} {b : Nat → Bool} (h : cSl k b a (manyS k) = 0) : dwN k b a x = a := if_pos h
theorem dwN_s {k a x : Nat} {b : Nat → Bool} (h : ¬ cSl k b a (manyS k) = 0) : dwN k b a x = dnS k b a (x % cSl k b a (manyS k)) (manyS k) := if_neg h
def drN (k : Nat) (b : Nat → Bool) : Nat → Nat → Nat → Nat
  | 0, _, a => a
  | n + 1, x, a => drN k b n ((75 * x + 74) % 65537) (dwN k b a ((75 * x + 74) % 65537))
/-! the class's forty slips -/
def mv40 (i : Nat) : Nat × Nat × Nat := if i < 24 then (0, i / 4, i % 4) else if i < 29 then (1, i - 24, 0) else if i < 34 then (2, i - 29, 0) else (3, i - 34, 0)
def sv40 (i : Nat) : Nat := 100 * (mv40 i).1 + 10 * (mv40 i).2.1 + (mv40 i).2.2
def okB (k i : Nat) : Bool := if i < 24 then decide (i / 4 < k) else if i < 29 then decide (i - 24 + 1 < k) else if i < 34 then decide (i - 29 + 1 < k) else decide (i - 34 < k)
def vN (k i : Nat) : Nat := if i ≤ 24 then min i (4 * k) else if i ≤ 29 then 4 * k + min (i - 24) (k - 1) else if i ≤ 34 then 4 * k + (k - 1) + min (i - 29) (k - 1) else 4 * k + 2 * (k - 1) + min (i - 34) k
theorem vN_t1 : ∀ k, k < 7 → 2 ≤ k → ∀ i, i < 40 → okB k i = true → vN k (i + 1) = vN k i + 1 := by decide +kernel
theorem vN_t2 : ∀ k, k < 7 → 2 ≤ k → ∀ i, i < 40 → okB k i = true → vN k i < manyS k := by decide +kernel
theorem vN_t3 : ∀ k, k < 7 → 2 ≤ k → ∀ i, i < 40 → okB k i = true → (mvAt k (vN k i)).1 = (mv40 i).1 := by decide +kernel
theorem vN_t4 : ∀ k, k < 7 → 2 ≤ k → ∀ i, i < 40 → okB k i = true → (mvAt k (vN k i)).2.1 = (mv40 i).2.1 := by decide +kernel
theorem vN_t5 : ∀ k, k < 7 → 2 ≤ k → ∀ i, i < 40 → okB k i = true → (mvAt k (vN k i)).2.2 = (mv40 i).2.2 := by decide +kernel
theorem vN_t (k : Nat) (hk : k < 7) (hk2 : 2 ≤ k) (i : Nat) (hi : i < 40) (h : okB k i = true) : vN k (i + 1) = vN k i + 1 ∧ mvAt k (vN k i) = mv40 i ∧ vN k i < manyS k := ⟨vN_t1 k hk hk2 i hi h, Prod.ext (vN_t3 k hk hk2 i hi h) (Prod.ext (vN_t4 k hk hk2 i hi h) (vN_t5 k hk hk2 i hi h)), vN_t2 k hk hk2 i hi h⟩
theorem vN_f : ∀ k, k < 7 → 2 ≤ k → ∀ i, i < 40 → okB k i = false → vN k (i + 1) = vN k i := by decide +kernel
theorem vN_40 : ∀ k, k < 7 → 2 ≤ k → vN k 40 = manyS k := by decide +kernel
theorem tOi_40 : ∀ i, i < 40 → tOi i = nI (sv40 i) := by decide +kernel
theorem ord_40 {i : Nat} (h : i < 40) : ord (nI i) = nI (sv40 i) := by
  unfold ord
  rw [cIf_t (by have e := nI_toInt (n := i) (by omega); simp only [inR, i3_le, e, Int32.reduceToInt]; omega), nI_clamp (by omega)]
  exact tOi_40 i h
theorem ok40 {k i : Nat} (hi : i < 40) (h : okB k i = true) : okV k (mv40 i).1 (mv40 i).2.1 (mv40 i).2.2 := by
  unfold okB at h
  unfold mv40 okV
  by_cases c1 : i < 24
  · rw [if_pos c1] at h ⊢
    have := of_decide_eq_true h
    dsimp only
    omega
  · rw [if_neg c1] at h ⊢
    by_cases c2 : i < 29
    · rw [if_pos c2] at h ⊢
      have := of_decide_eq_true h
      dsimp only
      omega
    · rw [if_neg c2] at h ⊢
      by_cases c3 : i < 34
      · rw [if_pos c3] at h ⊢
        have := of_decide_eq_true h
        dsimp only
        omega
      · rw [if_neg c3] at h ⊢
        have := of_decide_eq_true h
        dsimp only
        omega
/-- whether a slip is made, by its digits -/
theorem sv40_d : ∀ i, i < 40 → sv40 i < 400 ∧ sv40 i / 100 = (mv40 i).1 ∧ sv40 i / 10 % 10 = (mv40 i).2.1 ∧ (mv40 i).1 ≤ 3 := by decide +kernel
theorem okB_s : ∀ k, k < 7 → 2 ≤ k → ∀ i, i < 40 → (okB k i = true ↔ (mv40 i).2.1 < sitesK k (nI (mv40 i).1)) := by decide +kernel
theorem bK_n {ki : Int32} {q : Nat} : (¬ (ki >>> (nI q &&& 31)) &&& 1 = 0) ↔ bK ki q = true := by
  unfold bK
  rw [decide_eq_true_iff]
  rcases and1 (ki >>> (nI q &&& 31)) with h | h
  · rw [h]; decide
  · rw [h]; decide
theorem md40 {k i : Nat} {ki : Int32} (hk2 : 2 ≤ k) (hk : k ≤ 6) (hi : i < 40) : mdP (nI (sv40 i)) ki (nI k) ↔ okB k i = true ∧ bK ki (mv40 i).1 = true := by
  obtain ⟨d1, d2, d3, d4⟩ := sv40_d i hi
  have e1 : nI (sv40 i) / 100 = nI (mv40 i).1 := by rw [← d2]; exact pk_div (d := 100) (by omega) (by decide) (by decide)
  have e2 : q10 (nI (sv40 i)) = nI (mv40 i).2.1 := by
    unfold q10
    rw [show nI (sv40 i) / 10 = nI (sv40 i / 10) from pk_div (d := 10) (by omega) (by decide) (by decide), ← d3]
    exact pk_rem (d := 10) (by omega) (by decide) (by decide)
  have hs := sitesK_pos hk2 (nI (mv40 i).1)
  unfold mdP
  rw [e1, e2, stf_nI hk2, bK_n, okB_s k (by omega) hk2 i hi]
  have h0 : (0 : Int32) ≤ nI (sv40 i) := nI_pos' (by omega)
  have hl : nI (mv40 i).2.1 < nI (sitesK k (nI (mv40 i).1)) ↔ (mv40 i).2.1 < sitesK k (nI (mv40 i).1) := nI_ltI (by omega) (by omega)
  rw [hl]
  exact ⟨fun q => ⟨q.2.2, q.2.1⟩, fun q => ⟨h0, q.2, q.1⟩⟩
def some40 (k : Nat) (b : Nat → Bool) (a i : Nat) : Prop := okB k i = true ∧ b (mv40 i).1 = true ∧ ¬ slN k a (mv40 i) = a
theorem aft40 {k a i : Nat} (hk : k ≤ 6) (ha : a < 5 ^ k) (hi : i < 40) (h : okB k i = true) : aft (nI (sc k a)) (nI (sv40 i)) = nI (sc k (slN k a (mv40 i))) := by
  have hok := ok40 hi h
  have h2 := aft_nI (sv := sv40 i) (sc_lt hk ha) (okV_six hk hok) rfl
  rw [h2, slN_sc hk hok]
theorem some_eq {k a i : Nat} {ki : Int32} (hk2 : 2 ≤ k) (hk : k ≤ 6) (ha : a < 5 ^ k) (hi : i < 40) : (mdP (nI (sv40 i)) ki (nI k) ∧ ¬ aft (nI (sc k a)) (nI (sv40 i)) = nI (sc k a)) = some40 k (bK ki) a i := by
  apply propext
  unfold some40
  rw [md40 hk2 hk hi]
  have h15 : (5 : Nat) ^ 6 = 15625 := by decide
  constructor
  · rintro ⟨⟨h1, h2⟩, h3⟩
    refine ⟨h1, h2, fun q => h3 ?_⟩
    rw [aft40 hk ha hi h1, q]
  · rintro ⟨h1, h2, h3⟩
    refine ⟨⟨h1, h2⟩, fun q => h3 ?_⟩
    rw [aft40 hk ha hi h1] at q
    have s1 := sc_lt hk ha
    have s2 : sc k (slN k a (mv40 i)) < 5 ^ 6 := sc_lt hk (slN_lt ha (ok40 hi h1))
    exact sc_inj ((nI_eq (a := sc k (slN k a (mv40 i))) (b := sc k a) (by omega) (by omega)).mp q)
noncomputable def cC (k : Nat) (b : Nat → Bool) (a : Nat) : Nat → Nat
  | 0 => 0
  | i + 1 => cC k b a i + pIf (some40 k b a i) 1 0
theorem cC_t {k a i : Nat} {b : Nat → Bool} (h : some40 k b a i) : cC k b a (i + 1) = cC k b a i + 1 := by
  show cC k b a i + pIf _ _ _ = _
  rw [pIf_t h]
theorem cC_f {k a i : Nat} {b : Nat → Bool} (h : ¬ some40 k b a i) : cC k b a (i + 1) = cC k b a i := by
  show cC k b a i + pIf _ _ _ = _
  rw [pIf_f h]; rfl
theorem cC_v {k a : Nat} {b : Nat → Bool} (hk2 : 2 ≤ k) (hk : k ≤ 6) : ∀ i, i ≤ 40 → cC k b a i = cSl k b a (vN k i)
  | 0, _ => by rw [show vN k 0 = 0 by unfold vN; rw [if_pos (by omega)]; omega]; rfl
  | i + 1, h => by
    have ih := cC_v (a := a) (b := b) hk2 hk i (by omega)
    cases e : okB k i with
    | true =>
      obtain ⟨v1, v2, -⟩ := vN_t k (by omega) hk2 i (by omega) e
      rw [v1]
      by_cases c : b (mv40 i).1 = true ∧ ¬ slN k a (mv40 i) = a
      · rw [cC_t ⟨e, c.1, c.2⟩, cSl_t (by rw [v2]; exact c.1) (by rw [v2]; exact c.2), ih]
      · rw [cC_f (fun q => c ⟨q.2.1, q.2.2⟩), cSl_f (by rw [v2]; exact c), ih]
    | false =>
      rw [vN_f k (by omega) hk2 i (by omega) e, cC_f (fun q => by have q1 := q.1; rw [e] at q1; exact absurd q1 (by decide)), ih]
theorem cC_40 {k a : Nat} {b : Nat → Bool} (hk2 : 2 ≤ k) (hk : k ≤ 6) : cC k b a 40 = cSl k b a (manyS k) := by
  rw [cC_v hk2 hk 40 (Nat.le_refl _), vN_40 k (by omega) hk2]
theorem cSl_mono {k a : Nat} {b : Nat → Bool} : ∀ d n, cSl k b a n ≤ cSl k b a (n + d)
  | 0, _ => Nat.le_refl _
  | d + 1, n => by
    have h := cSl_mono (k := k) (a := a) (b := b) d n
    show cSl k b a n ≤ cSl k b a (n + d) + _
    omega
theorem dnS_hit {k a q n : Nat} {b : Nat → Bool} (h : (b (mvAt k n).1 = true ∧ ¬ slN k a (mvAt k n) = a) ∧ cSl k b a n = q) : ∀ d, dnS k b a q (n + 1 + d) = slN k a (mvAt k n)
  | 0 => dnS_t h
  | d + 1 => by
    have h1 := cSl_mono (k := k) (a := a) (b := b) d (n + 1)
    have h2 := cSl_t (n := n) h.1.1 h.1.2
    show dnS k b a q (n + 1 + d + 1) = _
    rw [dnS_f (fun g => by have := g.2; omega)]
    exact dnS_hit h d
/-- the class's slip at i is the one that is drawn -/
theorem draw_hit {k a q i : Nat} {b : Nat → Bool} (hk2 : 2 ≤ k) (hk : k ≤ 6) (hi : i < 40) (h : some40 k b a i) (hc : cC k b a i = q) : dnS k b a q (manyS k) = slN k a (mv40 i) := by
  obtain ⟨h1, h2, h3⟩ := h
  obtain ⟨v1, v2, v3⟩ := vN_t k (by omega) hk2 i hi h1
  rw [cC_v hk2 hk i (by omega)] at hc
  have hh := dnS_hit (k := k) (a := a) (q := q) (n := vN k i) (b := b) ⟨⟨by rw [v2]; exact h2, by rw [v2]; exact h3⟩, hc⟩ (manyS k - (vN k i + 1))
  rw [show vN k i + 1 + (manyS k - (vN k i + 1)) = manyS k by omega, v2] at hh
  exact hh
noncomputable def dwA (k : Nat) (told : Int32) (ma : Nat → Nat) (fk : Nat → Int32) (p0 p1 p2 p3 p4 : Int32) : Int32 := pIf (inR p1 0 5 ∧ inR p2 0 3 ∧ (p4 = (-1) ∨ ∃ j, j < k ∧ p4 = nI j)) (pIf (inR p0 0 9999 ∧ inR p3 0 60) (pIf (tdP told p1) (pIf (p4 = (-1)) (nI (unl k (drN k (bK (fk p2.toNatClampNeg)) p3.toNatClampNeg p0.toNatClampNeg (ma p1.toNatClampNeg)) (ma p1.toNatClampNeg) k)) (wrN (dg k (drN k (bK (fk p2.toNatClampNeg)) p3.toNatClampNeg p0.toNatClampNeg (ma p1.toNatClampNeg)) p4.toNatClampNeg))) (-3)) (-2)) (-1)
section DW
variable {k : Nat} {told : Int32} {ma : Nat → Nat} {fk : Nat → Int32} {p0 p1 p2 p3 p4 : Int32}
theorem dwA_1 (h : ¬ (inR p1 0 5 ∧ inR p2 0 3 ∧ (p4 = (-1) ∨ ∃ j, j < k ∧ p4 = nI j))) : (-1) = dwA k told ma fk p0 p1 p2 p3 p4 := (pIf_f h).symm
theorem dwA_2 (h : inR p1 0 5 ∧ inR p2 0 3 ∧ (p4 = (-1) ∨ ∃ j, j < k ∧ p4 = nI j)) (h2 : ¬ (inR p0 0 9999 ∧ inR p3 0 60)) : (-2) = dwA k told ma fk p0 p1 p2 p3 p4 := by unfold dwA; rw [pIf_t h, pIf_f h2]
theorem dwA_3 (h : inR p1 0 5 ∧ inR p2 0 3 ∧ (p4 = (-1) ∨ ∃ j, j < k ∧ p4 = nI j)) (h2 : inR p0 0 9999 ∧ inR p3 0 60) (h3 : ¬ tdP told p1) : (-3) = dwA k told ma fk p0 p1 p2 p3 p4 := by unfold dwA; rw [pIf_t h, pIf_t h2, pIf_f h3]
theorem dwA_4 {x j i n : Nat} (hj : j < 6) (e1 : p1 = nI j) (hi : i < 4) (e2 : p2 = nI i) (hx : x ≤ 9999) (e0 : p0 = nI x) (hn : n ≤ 60) (e3 : p3 = nI n) (h4 : p4 = (-1)) (h3 : tdP told p1) : nI (unl k (drN k (bK (fk i)) n x (ma j)) (ma j) k) = dwA k told ma fk p0 p1 p2 p3 p4 := by
  unfold dwA
  rw [pIf_t ⟨by rw [e1]; exact inR05 hj, by rw [e2]; exact inR03 hi, Or.inl h4⟩, pIf_t ⟨by rw [e0]; exact inRm (n := 9999) (by decide) hx rfl, by rw [e3]; exact inRm (n := 60) (by decide) hn rfl⟩, pIf_t h3, pIf_t h4, e0, e1, e2, e3, nI_clamp (by omega), nI_clamp (by omega), nI_clamp (by omega), nI_clamp (by omega)]
theorem dwA_5 {x j i n y : Nat} (hk : k ≤ 6) (hj : j < 6) (e1 : p1 = nI j) (hi : i < 4) (e2 : p2 = nI i) (hx : x ≤ 9999) (e0 : p0 = nI x) (hn : n ≤ 60) (e3 : p3 = nI n) (hy : y < k) (e4 : p4 = nI y) (h3 : tdP told p1) : wrN (dg k (drN k (bK (fk i)) n x (ma j)) y) = dwA k told ma fk p0 p1 p2 p3 p4 := by
  have hn4 : ¬ p4 = (-1) := by
    rw [e4]
    intro q
    have q2 := congrArg Int32.toInt q
    rw [nI_toInt (by omega)] at q2
    simp only [Int32.reduceToInt] at q2
    omega
  unfold dwA
  rw [pIf_t ⟨by rw [e1]; exact inR05 hj, by rw [e2]; exact inR03 hi, Or.inr ⟨y, hy, e4⟩⟩, pIf_t ⟨by rw [e0]; exact inRm (n := 9999) (by decide) hx rfl, by rw [e3]; exact inRm (n := 60) (by decide) hn rfl⟩, pIf_t h3, pIf_f hn4, e0, e1, e2, e3, e4, nI_clamp (by omega), nI_clamp (by omega), nI_clamp (by omega), nI_clamp (by omega), nI_clamp (by omega)]
theorem dwA_congr {fk' : Nat → Int32} (h : ∀ j : Nat, j < 4 → fk j = fk' j) : dwA k told ma fk p0 p1 p2 p3 p4 = dwA k told ma fk' p0 p1 p2 p3 p4 := by
  by_cases c : inR p1 0 5 ∧ inR p2 0 3 ∧ (p4 = (-1) ∨ ∃ j, j < k ∧ p4 = nI j)
  · unfold dwA
    rw [h p2.toNatClampNeg (clampR (hi := 3) c.2.1 (by decide))]
  · rw [← dwA_1 c, ← dwA_1 c]
end DW
