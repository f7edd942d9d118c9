theorem w1_bound {f : Nat → Int32} {pm k i j : Nat} (hp : pm ≤ 40) (hi : i < pm) (h : w1 f pm k i = some j) : j ≤ 40 := by
  unfold w1 at h
  by_cases a1 : kdO (f i) < 0
  · rw [pIf_t a1] at h; cases h; omega
  rw [pIf_f a1] at h
  by_cases a2 : pm ≤ i + 1
  · rw [pIf_t a2] at h; cases h; omega
  rw [pIf_f a2] at h
  by_cases a3 : dgt f k i
  · rw [pIf_t a3] at h
    by_cases a4 : f i = 99
    · rw [pIf_t a4] at h
      by_cases a5 : pm ≤ i + 2
      · rw [pIf_t a5] at h; cases h; omega
      · rw [pIf_f a5] at h
        by_cases a6 : inR (f (i + 2)) 97 100
        · rw [pIf_t a6] at h; cases h
        · rw [pIf_f a6] at h; cases h; omega
    · rw [pIf_f a4] at h; cases h
  · rw [pIf_f a3] at h; cases h; omega
/-- where nothing is wrong: how many slips, and where they begin -/
theorem psl_ok {f : Nat → Int32} {pm k : Nat} (hp : pm ≤ 40) (h2 : 2 ≤ k) (h6 : k ≤ 6) : ∀ (r t : Nat), pl f t ≤ pm → psl f pm k r (pl f t) = (-6) → ∃ n, t ≤ n ∧ n ≤ t + r ∧ pl f n = pm ∧ ∀ i, t ≤ i → i < n → w1 f pm k (pl f i) = none
  | 0, t, hl, h => by
    by_cases hlt : pl f t < pm
    · rw [psl_full hlt] at h
      exact absurd h (fun q => by
        have q2 := congrArg Int32.toInt q
        rw [nI_toInt (by omega)] at q2
        simp only [Int32.reduceToInt] at q2
        omega)
    · exact ⟨t, Nat.le_refl _, Nat.le_refl _, by omega, fun i h1 h2 => by omega⟩
  | r + 1, t, hl, h => by
    by_cases hlt : pl f t < pm
    · cases e : w1 f pm k (pl f t) with
      | some j =>
        rw [psl_bad hlt e] at h
        exact absurd h (fun q => by
          have q2 := congrArg Int32.toInt q
          have hj : j < 2 ^ 31 ∨ 2 ^ 31 ≤ j := by omega
          rcases hj with hj | hj
          · rw [nI_toInt hj] at q2
            simp only [Int32.reduceToInt] at q2
            omega
          · have := w1_bound hp hlt e
            omega)
      | none =>
        rw [psl_go hlt e] at h
        have hn := (w1_ok h2 h6 e).2.1
        obtain ⟨n, a1, a2, a3, a4⟩ := psl_ok hp h2 h6 r (t + 1) hn h
        refine ⟨n, by omega, by omega, a3, fun i b1 b2 => ?_⟩
        by_cases c : i = t
        · rw [c]; exact e
        · exact a4 i (by omega) b2
    · exact ⟨t, Nat.le_refl _, by omega, by omega, fun i h1 h2 => by omega⟩
/-! digits put one behind another -/
theorem dg_cons {x q g j : Nat} (hg : g < 5) (hj : j < x) : dg (x + 1) (5 * q + g) j = dg x q j := by
  unfold dg
  rw [show x + 1 - 1 - j = (x - 1 - j) + 1 by omega, Nat.pow_succ, Nat.mul_comm (5 ^ (x - 1 - j)) 5, ← Nat.div_div_eq_div_mul]
  congr 2
  omega
theorem dg_last {x q g : Nat} (hg : g < 5) : dg (x + 1) (5 * q + g) x = g := by
  unfold dg
  rw [show x + 1 - 1 - x = 0 by omega, Nat.pow_zero, Nat.div_one]
  omega
theorem sc_ext {k a c : Nat} (hk : k ≤ 6) (ha : a < 5 ^ k) (hc : c < 5 ^ 6) (h : ∀ j, j < k → dg 6 c j = dg k a j) (h0 : ∀ j, k ≤ j → j < 6 → dg 6 c j = 0) : c = sc k a := by
  refine dg_ext hc (sc_lt hk ha) (fun j hj => ?_)
  rcases Nat.lt_or_ge j k with q | q
  · rw [h j q, dg_sc hk q]
  · rw [h0 j q hj, dg_sc_out q hj]
