/-! marks of a goal, three bits a site -/
theorem m3 {j : Nat} (h : j < 6) : 3 * nI j = nI (3 * j) := by
  show nI 3 * nI j = _
  rw [pk_mul]
theorem bt_7 : ∀ i, i < 32 → bt 7 i = decide (i < 3) := by decide +kernel
theorem bt_8 : ∀ d, d < 8 → ∀ i, i < 32 → 3 ≤ i → bt (nI d) i = false := by decide +kernel
theorem gmk_bt {g : Int32} {j i : Nat} (hj : j < 6) (hi : i < 32) : bt (gmk g j) i = (decide (i < 3) && bt g (3 * j + i)) := by
  unfold gmk
  rw [m3 hj, b_and, b_sshr (3 * j) (by omega) g hi, bt_7 i hi]
  by_cases c : i < 3
  · rw [if_pos (by omega)]; simp [c]
  · simp [c]
theorem put_bt {g : Int32} {x d i : Nat} (hx : x < 6) (hi : i < 32) : bt (g ||| (nI d <<< ((3 * nI x) &&& 31))) i = (bt g i || (decide (3 * x ≤ i) && bt (nI d) (i - 3 * x))) := by
  rw [m3 hx, b_or, b_shl (3 * x) (by omega) (nI d) hi]
/-- what with of Goals does -/
theorem gmk_or {g : Int32} {x d : Nat} (hx : x < 6) (hd : d < 8) (hz : ∀ i, 3 * x ≤ i → i < 32 → bt g i = false) : (∀ j, j < x → gmk (g ||| (nI d <<< ((3 * nI x) &&& 31))) j = gmk g j) ∧ gmk (g ||| (nI d <<< ((3 * nI x) &&& 31))) x = nI d ∧ ∀ i, 3 * (x + 1) ≤ i → i < 32 → bt (g ||| (nI d <<< ((3 * nI x) &&& 31))) i = false := by
  refine ⟨fun j hj => b_ext (fun i hi => ?_), b_ext (fun i hi => ?_), fun i h1 h2 => ?_⟩
  · rw [gmk_bt (by omega) hi, gmk_bt (by omega) hi]
    by_cases c : i < 3
    · rw [put_bt hx (by omega), show decide (3 * x ≤ 3 * j + i) = false from decide_eq_false (by omega), Bool.false_and, Bool.or_false]
    · simp [c]
  · rw [gmk_bt hx hi]
    by_cases c : i < 3
    · rw [put_bt hx (by omega), hz (3 * x + i) (by omega) (by omega), show 3 * x + i - 3 * x = i by omega]
      simp [c]
    · rw [bt_8 d hd i hi (by omega)]; simp [c]
  · rw [put_bt hx h2, hz i (by omega) h2, bt_8 d hd (i - 3 * x) (by omega) (by omega)]
    simp
/-- a goal of one map alone -/
theorem gS_one {k a : Nat} {g : Int32} (ha : a < 5 ^ k) (h : ∀ j, j < k → gmk g j = nI (dg k a j)) {x : Nat} (hx : x < 5 ^ k) : gS k g x ↔ x = a := by
  have h5 : ∀ j, ¬ nI (dg k a j) = 5 := fun j e => by
    have := dg_lt k a j
    have := (nI_eq (a := dg k a j) (b := 5) (by omega) (by decide)).mp e
    omega
  constructor
  · intro hS
    refine dg_ext hx ha (fun j hj => ?_)
    rcases hS j hj with e | e
    · rw [h j hj] at e; exact absurd e (h5 j)
    · rw [h j hj] at e
      have := dg_lt k a j
      have := dg_lt k x j
      exact ((nI_eq (by omega) (by omega)).mp e).symm
  · intro e j hj
    rw [e]; exact Or.inr (h j hj)
