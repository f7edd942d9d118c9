/-! of which maps one comes by a slip at a site -/
def effS (m : Nat × Nat × Nat) : Nat := if m.1 = 1 ∨ m.1 = 2 then m.2.1 + 1 else m.2.1
theorem at_ok {k m0 mj mg : Nat} (h : okV k m0 mj mg) : ∃ t, t < manyS k ∧ mvAt k t = (m0, mj, mg) := by
  rcases h with ⟨rfl, h1, h2⟩ | ⟨rfl, h1, rfl⟩ | ⟨rfl, h1, rfl⟩ | ⟨rfl, h1, rfl⟩
  · refine ⟨4 * mj + mg, by unfold manyS; omega, ?_⟩
    unfold mvAt
    rw [if_pos (by omega)]
    exact Prod.ext rfl (Prod.ext (by dsimp only; omega) (by dsimp only; omega))
  · refine ⟨4 * k + mj, by unfold manyS; omega, ?_⟩
    unfold mvAt
    rw [if_neg (by omega), if_pos (by omega)]
    exact Prod.ext rfl (Prod.ext (by dsimp only; omega) rfl)
  · refine ⟨4 * k + (k - 1) + mj, by unfold manyS; omega, ?_⟩
    unfold mvAt
    rw [if_neg (by omega), if_neg (by omega), if_pos (by omega)]
    exact Prod.ext rfl (Prod.ext (by dsimp only; omega) rfl)
  · refine ⟨4 * k + 2 * (k - 1) + mj, by unfold manyS; omega, ?_⟩
    unfold mvAt
    rw [if_neg (by omega), if_neg (by omega), if_neg (by omega)]
    exact Prod.ext rfl (Prod.ext (by dsimp only; omega) rfl)
theorem wN_wN {k a s o g : Nat} (ha : a < 5 ^ k) (hs : s < k) (ho : o < 5) (hg : g < 5) : wN k (wN k a s o) s g = wN k a s g := by
  refine dg_ext (wN_lt (wN_lt ha hs ho) hs hg) (wN_lt ha hs hg) (fun j hj => ?_)
  rw [dg_wN hs hj hg, dg_wN hs hj hg]
  by_cases e : j = s
  · rw [if_pos e, if_pos e]
  · rw [if_neg e, if_neg e, dg_wN hs hj ho, if_neg e]
theorem wN_self {k a s : Nat} (ha : a < 5 ^ k) (hs : s < k) : wN k a s (dg k a s) = a := by
  refine dg_ext (wN_lt ha hs (dg_lt _ _ _)) ha (fun j hj => ?_)
  rw [dg_wN hs hj (dg_lt _ _ _)]
  by_cases e : j = s
  · rw [if_pos e, e]
  · rw [if_neg e]
theorem swp_swp {k a j : Nat} (ha : a < 5 ^ k) (hj : j + 1 < k) : slN k (slN k a (1, j, 0)) (1, j, 0) = a := by
  have h1 : slN k a (1, j, 0) < 5 ^ k := slN_lt ha (Or.inr (Or.inl ⟨rfl, hj, rfl⟩))
  refine dg_ext (slN_lt h1 (Or.inr (Or.inl ⟨rfl, hj, rfl⟩))) ha (fun i hi => ?_)
  rw [dg_slN (Or.inr (Or.inl ⟨rfl, hj, rfl⟩)) i hi]
  show (if i = j then dg k (slN k a (1, j, 0)) (j + 1) else if i = j + 1 then dg k (slN k a (1, j, 0)) j else dg k (slN k a (1, j, 0)) i) = _
  have hd : ∀ i, i < k → dg k (slN k a (1, j, 0)) i = if i = j then dg k a (j + 1) else if i = j + 1 then dg k a j else dg k a i := fun i hi => dg_slN (Or.inr (Or.inl ⟨rfl, hj, rfl⟩)) i hi
  by_cases e : i = j
  · rw [if_pos e, hd (j + 1) hj, if_neg (by omega), if_pos rfl, e]
  · rw [if_neg e]
    by_cases e2 : i = j + 1
    · rw [if_pos e2, hd j (by omega), if_pos rfl, e2]
    · rw [if_neg e2, hd i hi, if_neg e, if_neg e2]
/-- whether one slip can have put the sign at s, whatever was there -/
def canP (k : Nat) (b : Nat → Bool) (a s : Nat) : Prop := (1 ≤ s ∧ dg k a (s - 1) = dg k a s ∧ b 2 = true) ∨ (dg k a s = 4 ∧ b 3 = true) ∨ (¬ dg k a s = 4 ∧ b 0 = true)
theorem pred_put {k a s o : Nat} {b : Nat → Bool} (ha : a < 5 ^ k) (hs : s < k) (ho : o < 5) (h : canP k b a s) : ∃ t, stp k b t (wN k a s o) a := by
  have hd := dg_lt k a s
  rcases h with ⟨h1, h2, h3⟩ | ⟨h1, h2⟩ | ⟨h1, h2⟩
  · obtain ⟨t, t1, t2⟩ := at_ok (k := k) (m0 := 2) (mj := s - 1) (mg := 0) (Or.inr (Or.inr (Or.inl ⟨rfl, by omega, rfl⟩)))
    refine ⟨t, t1, by rw [t2]; exact h3, ?_⟩
    rw [t2]
    show wN k (wN k a s o) (s - 1 + 1) (dg k (wN k a s o) (s - 1)) = a
    rw [dg_wN hs (by omega) ho, if_neg (by omega), h2, show s - 1 + 1 = s by omega, wN_wN ha hs ho hd, wN_self ha hs]
  · obtain ⟨t, t1, t2⟩ := at_ok (k := k) (m0 := 3) (mj := s) (mg := 0) (Or.inr (Or.inr (Or.inr ⟨rfl, hs, rfl⟩)))
    refine ⟨t, t1, by rw [t2]; exact h2, ?_⟩
    rw [t2]
    show wN k (wN k a s o) s 4 = a
    rw [wN_wN ha hs ho (by decide), ← h1, wN_self ha hs]
  · obtain ⟨t, t1, t2⟩ := at_ok (k := k) (m0 := 0) (mj := s) (mg := dg k a s) (Or.inl ⟨rfl, hs, by omega⟩)
    refine ⟨t, t1, by rw [t2]; exact h2, ?_⟩
    rw [t2]
    show wN k (wN k a s o) s (dg k a s) = a
    rw [wN_wN ha hs ho hd, wN_self ha hs]
theorem pred_swp {k a s : Nat} {b : Nat → Bool} (ha : a < 5 ^ k) (hs : s < k) (h1 : 1 ≤ s) (h : b 1 = true) : ∃ t, stp k b t (slN k a (1, s - 1, 0)) a := by
  obtain ⟨t, t1, t2⟩ := at_ok (k := k) (m0 := 1) (mj := s - 1) (mg := 0) (Or.inr (Or.inl ⟨rfl, by omega, rfl⟩))
  exact ⟨t, t1, by rw [t2]; exact h, by rw [t2]; exact swp_swp ha (by omega)⟩
theorem wN_back {k x s g : Nat} (hx : x < 5 ^ k) (hs : s < k) (hg : g < 5) : x = wN k (wN k x s g) s (dg k x s) := by
  rw [wN_wN hx hs hg (dg_lt _ _ _), wN_self hx hs]
/-- the other way: a slip's site, and what was there -/
theorem pred_site {k a x t : Nat} {b : Nat → Bool} (hx : x < 5 ^ k) (h : stp k b t x a) : effS (mvAt k t) < k ∧ ((x = wN k a (effS (mvAt k t)) (dg k x (effS (mvAt k t))) ∧ canP k b a (effS (mvAt k t))) ∨ (1 ≤ effS (mvAt k t) ∧ b 1 = true ∧ x = slN k a (1, effS (mvAt k t) - 1, 0))) := by
  obtain ⟨h1, h2, h3⟩ := h
  have hok := mvAt_ok h1
  generalize mvAt k t = m at hok h2 h3
  obtain ⟨m0, mj, mg⟩ := m
  dsimp only at hok h2 h3
  rcases hok with ⟨rfl, g1, g2⟩ | ⟨rfl, g1, rfl⟩ | ⟨rfl, g1, rfl⟩ | ⟨rfl, g1, rfl⟩
  · have e : effS (0, mj, mg) = mj := if_neg (show ¬ ((0 : Nat) = 1 ∨ (0 : Nat) = 2) by decide)
    have ea : wN k x mj mg = a := h3
    have ed : dg k a mj = mg := by rw [← ea, dg_wN g1 g1 (by omega), if_pos rfl]
    rw [e]
    refine ⟨g1, Or.inl ⟨by rw [← ea]; exact wN_back hx g1 (by omega), Or.inr (Or.inr ⟨by omega, h2⟩)⟩⟩
  · have e : effS (1, mj, 0) = mj + 1 := if_pos (Or.inl rfl)
    rw [e]
    refine ⟨g1, Or.inr ⟨by omega, h2, ?_⟩⟩
    rw [show mj + 1 - 1 = mj by omega, ← h3, swp_swp hx g1]
  · have e : effS (2, mj, 0) = mj + 1 := if_pos (Or.inr rfl)
    have ea : wN k x (mj + 1) (dg k x mj) = a := h3
    have hd := dg_lt k x mj
    rw [e]
    refine ⟨g1, Or.inl ⟨by rw [← ea]; exact wN_back hx g1 hd, Or.inl ⟨by omega, ?_, h2⟩⟩⟩
    rw [show mj + 1 - 1 = mj by omega, ← ea, dg_wN g1 (by omega) hd, if_neg (by omega), dg_wN g1 g1 hd, if_pos rfl]
  · have e : effS (3, mj, 0) = mj := if_neg (show ¬ ((3 : Nat) = 1 ∨ (3 : Nat) = 2) by decide)
    have ea : wN k x mj 4 = a := h3
    rw [e]
    refine ⟨g1, Or.inl ⟨by rw [← ea]; exact wN_back hx g1 (by decide), Or.inr (Or.inl ⟨by rw [← ea, dg_wN g1 g1 (by decide), if_pos rfl], h2⟩)⟩⟩
/-- all maps of which a comes by slips at sites below s were met -/
def cloS (k : Nat) (b : Nat → Bool) (fs : Nat → Int32) (a s : Nat) : Prop := ∀ t x, x < 5 ^ k → stp k b t x a → effS (mvAt k t) < s → ¬ fS k fs x < 0
theorem cloS_0 {k a : Nat} {b : Nat → Bool} {fs : Nat → Int32} : cloS k b fs a 0 := fun _ _ _ _ h => absurd h (Nat.not_lt_zero _)
theorem cloS_step {k a s : Nat} {b : Nat → Bool} {fs : Nat → Int32} (ha : a < 5 ^ k) (h : cloS k b fs a s) (hput : canP k b a s → ∀ o, o < 5 → ¬ fS k fs (wN k a s o) < 0) (hswp : 1 ≤ s → b 1 = true → ¬ fS k fs (slN k a (1, s - 1, 0)) < 0) : cloS k b fs a (s + 1) := by
  intro t x hx hst he
  by_cases e : effS (mvAt k t) = s
  · obtain ⟨g1, g2⟩ := pred_site hx hst
    rw [e] at g2
    rcases g2 with ⟨g2, g3⟩ | ⟨g2, g3, g4⟩
    · rw [g2]; exact hput g3 _ (dg_lt _ _ _)
    · rw [g4]; exact hswp g2 g3
  · exact h t x hx hst (by omega)
theorem cloS_all {k a : Nat} {b : Nat → Bool} {fs : Nat → Int32} (h : cloS k b fs a k) : ∀ t x, x < 5 ^ k → stp k b t x a → ¬ fS k fs x < 0 := fun t x hx hst => h t x hx hst (pred_site hx hst).1
theorem cloS_more {k a s : Nat} {b : Nat → Bool} {fs gs : Nat → Int32} (hm : ∀ x, x < 5 ^ k → ¬ fS k fs x < 0 → ¬ fS k gs x < 0) (h : cloS k b fs a s) : cloS k b gs a s := fun t x hx hst he => hm x hx (h t x hx hst he)
