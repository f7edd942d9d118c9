/-! words of swaps: the site j + d is brought to j, those between go one to the right -/
def bub (j : Nat) : Nat → List (Nat × Nat × Nat)
  | 0 => []
  | d + 1 => (1, j + d, 0) :: bub j d
theorem bub_len (j : Nat) : ∀ d : Nat, (bub j d).length = d
  | 0 => rfl
  | d + 1 => by unfold bub; rw [List.length_cons, bub_len j d]
theorem bub_ok {n : Nat} {b : Nat → Bool} {j : Nat} (hb : b 1 = true) : ∀ d : Nat, j + d < n → ∀ m ∈ bub j d, okK n b m ∧ isST m
  | 0, _ => fun m h => absurd h List.not_mem_nil
  | d + 1, h => by
    intro m hm
    unfold bub at hm
    rcases List.mem_cons.mp hm with hm | hm
    · rw [hm]; exact ⟨⟨hb, by omega⟩, Or.inl rfl⟩
    · exact bub_ok hb d (by omega) m hm
theorem bub_run (j : Nat) : ∀ (d : Nat) (z : Nat → Nat) (i : Nat), runK (bub j d) z i = if i = j then z (j + d) else if j < i ∧ i ≤ j + d then z (i - 1) else z i
  | 0, z, i => by
    by_cases e : i = j
    · subst e; simp [bub, runK]
    · simp [bub, runK, e, show ¬ (j < i ∧ i ≤ j) by omega]
  | d + 1, z, i => by
    have h : runK (bub j (d + 1)) z = runK (bub j d) (mvK (1, j + d, 0) z) := rfl
    rw [h, bub_run j d]
    by_cases e : i = j
    · subst e; simp [mvK]; rfl
    · rw [if_neg e, if_neg e]
      by_cases h1 : j < i ∧ i ≤ j + d
      · rw [if_pos h1, if_pos ⟨h1.1, by omega⟩]
        have a1 : ¬ i - 1 = j + d := by omega
        have a2 : ¬ i - 1 = j + d + 1 := by omega
        simp [mvK, a1, a2]
      · rw [if_neg h1]
        by_cases h2 : i = j + d + 1
        · rw [if_pos ⟨by omega, by omega⟩, h2]
          simp [mvK]
        · rw [if_neg (by omega)]
          have a1 : ¬ i = j + d := by omega
          simp [mvK, a1, h2]
/-- no swaps, no doublings: the word is empty -/
theorem word_none {n : Nat} {b : Nat → Bool} (h1 : b 1 = false) (h2 : b 2 = false) (w : List (Nat × Nat × Nat)) (hw : ∀ m ∈ w, okK n b m ∧ isST m) : w = [] := by
  cases w with
  | nil => rfl
  | cons m w =>
    obtain ⟨ho, hs⟩ := hw m List.mem_cons_self
    obtain ⟨k, j, g⟩ := m
    rcases hs with hs | hs
    · cases hs; exact absurd ho.1 (by rw [h1]; decide)
    · cases hs; exact absurd ho.1 (by rw [h2]; decide)
