/-! rows, for the class's walk -/
theorem none_40 {k : Nat} {b : Nat → Bool} {u : Nat} {R : Nat → Prop} (hk2 : 2 ≤ k) (hk : k ≤ 6) (hno : ∀ j, j < 40 → ¬ (okB k j = true ∧ b (mv40 j).1 = true ∧ R (slN k u (mv40 j)))) : ∀ t v, stp k b t u v → ¬ R v := by
  intro t2 v2 hs hR
  obtain ⟨j, hj, hj2⟩ := List.any_eq_true.mp (vN_onto k (by omega) hk2 t2 hs.1)
  have hj40 := List.mem_range.mp hj
  rw [Bool.and_eq_true] at hj2
  have ej : vN k j = t2 := eq_of_beq hj2.2
  have ev := (vN_t k (by omega) hk2 j hj40 hj2.1).2.1
  rw [ej] at ev
  exact hno j hj40 ⟨hj2.1, by rw [← ev]; exact hs.2.1, by rw [← ev, hs.2.2]; exact hR⟩
theorem stp_40 {k i u : Nat} {b : Nat → Bool} (hk2 : 2 ≤ k) (hk : k ≤ 6) (hi : i < 40) (h : okB k i = true) (hb : b (mv40 i).1 = true) : stp k b (vN k i) u (slN k u (mv40 i)) := by
  obtain ⟨-, v2, v3⟩ := vN_t k (by omega) hk2 i hi h
  exact ⟨v3, by rw [v2]; exact hb, by rw [v2]⟩
theorem pS_min {k a : Nat} {b : Nat → Bool} {S : Nat → Prop} : ∀ (n d : Nat), d ≤ n → pS k b S d a → ∃ D, pS k b S D a ∧ ∀ d2, d2 < D → ¬ pS k b S d2 a
  | 0, d, hd, h => ⟨d, h, fun d2 h2 => by omega⟩
  | n + 1, d, hd, h => by
    by_cases q : ∃ d2, d2 < d ∧ pS k b S d2 a
    · obtain ⟨d2, q1, q2⟩ := q
      exact pS_min n d2 (by omega) q2
    · exact ⟨d, h, fun d2 h1 h2 => q ⟨d2, h1, h2⟩⟩
theorem rw_m1 {k a : Nat} {b : Nat → Bool} {S : Nat → Prop} {fs : Nat → Int32} {p3 r : Int32} (h : askd k b S fs a ∧ r = fS k fs a) (hp : p3 = (-1)) : rwA k b S a p3 r := by
  rcases h.1 with ⟨e, hn⟩ | ⟨D, e, h1, h2, h3, -⟩
  · exact Or.inl ⟨hn, by rw [h.2, e]⟩
  · exact Or.inr ⟨D, h1, h2, h3, Or.inl ⟨hp, by rw [h.2, e]⟩⟩
theorem rw_neg {k a : Nat} {b : Nat → Bool} {S : Nat → Prop} {p3 : Int32} (hk : k ≤ 6) (ha : a < 5 ^ k) (h1 : ¬ p3 = (-1)) (h2 : p3 < 0) : rwA k b S a p3 (-6) := by
  by_cases q : ∃ d, pS k b S d a
  · obtain ⟨d, hd⟩ := q
    obtain ⟨D, d1, d2⟩ := pS_min d d (Nat.le_refl _) hd
    have h72 := pS_72 hk ha d1 d2
    exact Or.inr ⟨D, h72, d1, d2, Or.inr (Or.inl ⟨h1, fun ⟨i, i1, i2⟩ => by rw [i2] at h2; exact absurd h2 (nI_pos (by omega)), rfl⟩)⟩
  · exact Or.inl ⟨fun d hd => q ⟨d, hd⟩, rfl⟩
theorem rw_big {k a : Nat} {b : Nat → Bool} {S : Nat → Prop} {fs : Nat → Int32} {p3 r : Int32} (h : askd k b S fs a ∧ r = fS k fs a) (h1 : ¬ p3 = (-1)) (h2 : ¬ p3 < r) : rwA k b S a p3 (-6) := by
  rcases h.1 with ⟨e, hn⟩ | ⟨D, e, e1, e2, e3, -⟩
  · exact Or.inl ⟨hn, rfl⟩
  · exact Or.inr ⟨D, e1, e2, e3, Or.inr (Or.inl ⟨h1, fun ⟨i, i1, i2⟩ => h2 (by rw [i2, h.2, e]; exact nI_lt i1 (by omega)), rfl⟩)⟩
/-- p3 is the number of a slip of the row -/
theorem rw_in {k a : Nat} {b : Nat → Bool} {S : Nat → Prop} {fs : Nat → Int32} {p3 r : Int32} (h : askd k b S fs a ∧ r = fS k fs a) (h0 : ¬ p3 < 0) (h2 : p3 < r) : ∃ i D, i < D ∧ p3 = nI i ∧ fS k fs a = nI D ∧ D ≤ 72 ∧ pS k b S D a ∧ (∀ d2, d2 < D → ¬ pS k b S d2 a) ∧ ∀ v d2, v < 5 ^ k → d2 < D → pS k b S d2 v → ¬ fS k fs v < 0 := by
  rcases h.1 with ⟨e, -⟩ | ⟨D, e, e1, e2, e3, e4⟩
  · rw [h.2, e] at h2
    simp only [i3_lt, Int32.reduceToInt] at h0 h2
    omega
  · rw [h.2, e] at h2
    refine ⟨p3.toInt.toNat, D, ?_, ?_, e, e1, e2, e3, e4⟩
    · rw [i3_lt, nI_toInt (by omega)] at h2
      simp only [i3_lt, Int32.reduceToInt] at h0
      omega
    · rw [i3_lt, nI_toInt (by omega)] at h2
      simp only [i3_lt, Int32.reduceToInt] at h0
      rw [i3_eq, nI_toInt (by omega)]
      omega
theorem row_0 {k a D C : Nat} {b : Nat → Bool} {S : Nat → Prop} (hk : k ≤ 6) (h : lstC k b S a D C) : pcd k b a 0 (C / 64 ^ (D - 0)) a := by
  obtain ⟨⟨x, -, -, x3⟩, -⟩ := h
  have := pcd_lt hk D C x x3
  exact ⟨by rw [Nat.sub_zero]; exact Nat.div_eq_of_lt this, rfl⟩
