/-- swaps alone: the sites' map is one to one -/
theorem swaps_inj {n : Nat} (w : List (Nat × Nat × Nat)) : (∀ m ∈ w, m.1 = 1 ∧ m.2.1 + 1 < n) → (∀ i, i < n → runK w id i < n) ∧ ∀ i k, i < n → k < n → runK w id i = runK w id k → i = k := by
  refine snoc_ind (P := fun w => (∀ m ∈ w, m.1 = 1 ∧ m.2.1 + 1 < n) → (∀ i, i < n → runK w id i < n) ∧ ∀ i k, i < n → k < n → runK w id i = runK w id k → i = k) ?_ ?_ w
  · intro _; exact ⟨fun i h => h, fun i k _ _ h => h⟩
  · intro w m ih hw
    obtain ⟨h1, h2⟩ := ih (fun q hq => hw q (List.mem_append_left _ hq))
    obtain ⟨hm, hj⟩ := hw m (List.mem_append_right _ (List.mem_singleton.mpr rfl))
    obtain ⟨k0, j, g⟩ := m
    cases hm
    dsimp only at hj
    rw [runK_snoc]
    have ev : ∀ i, mvK (1, j, g) (runK w id) i = runK w id (if i = j then j + 1 else if i = j + 1 then j else i) := by
      intro i
      by_cases e : i = j
      · simp [mvK, e]
      · by_cases e2 : i = j + 1
        · simp [mvK, e2]
        · simp [mvK, e, e2]
    have lt : ∀ i, i < n → (if i = j then j + 1 else if i = j + 1 then j else i) < n := by
      intro i hi
      by_cases e : i = j
      · rw [if_pos e]; exact hj
      · rw [if_neg e]
        by_cases e2 : i = j + 1
        · rw [if_pos e2]; omega
        · rw [if_neg e2]; exact hi
    refine ⟨fun i hi => by rw [ev]; exact h1 _ (lt i hi), fun i k hi hk h => ?_⟩
    rw [ev, ev] at h
    have q := h2 _ _ (lt i hi) (lt k hk) h
    by_cases a : i = j <;> by_cases a2 : i = j + 1 <;> by_cases c : k = j <;> by_cases c2 : k = j + 1 <;> simp [a, a2, c, c2] at q <;> omega
/-- any one-to-one map is laid by at most 5 n swaps, from the left -/
theorem lay_swaps {n : Nat} {b : Nat → Bool} (hb : b 1 = true) (hn : n ≤ 6) {f : Nat → Nat} (hf : ∀ i, i < n → f i < n) (hi : ∀ i k, i < n → k < n → f i = f k → i = k) : ∀ j, j ≤ n → ∃ w : List (Nat × Nat × Nat), (∀ m ∈ w, okK n b m ∧ isST m) ∧ w.length ≤ 5 * j ∧ (∀ i, i < j → runK w id i = f i) ∧ ∀ v, v < n → ∃ i, i < n ∧ runK w id i = v := by
  intro j
  induction j with
  | zero => intro _; exact ⟨[], fun m h => absurd h List.not_mem_nil, Nat.le_refl _, fun i h => absurd h (Nat.not_lt_zero _), fun v hv => ⟨v, hv, rfl⟩⟩
  | succ j ih =>
    intro hj
    obtain ⟨w, h1, h2, h3, h4⟩ := ih (by omega)
    obtain ⟨l, hl, he⟩ := h4 (f j) (hf j (by omega))
    have hlj : j ≤ l := by
      rcases Nat.lt_or_ge l j with q | q
      · have := hi l j (by omega) (by omega) ((h3 l q).symm.trans he)
        omega
      · exact q
    obtain ⟨d, hd⟩ : ∃ d, l = j + d := ⟨l - j, by omega⟩
    refine ⟨w ++ bub j d, fun m hm => ?_, ?_, fun i hi' => ?_, fun v hv => ?_⟩
    · rcases List.mem_append.mp hm with hm | hm
      · exact h1 m hm
      · exact bub_ok hb d (by omega) m hm
    · rw [List.length_append, bub_len]; omega
    · rw [runK_app, bub_run]
      by_cases e : i = j
      · rw [if_pos e, ← hd, e]; exact he
      · rw [if_neg e, if_neg (by omega)]; exact h3 i (by omega)
    · obtain ⟨i, hi1, hi2⟩ := h4 v hv
      by_cases a : i = j + d
      · exact ⟨j, by omega, by rw [runK_app, bub_run, if_pos rfl, ← a]; exact hi2⟩
      · by_cases c : j ≤ i ∧ i < j + d
        · refine ⟨i + 1, by omega, ?_⟩
          rw [runK_app, bub_run, if_neg (by omega), if_pos (by omega)]
          exact hi2
        · refine ⟨i, hi1, ?_⟩
          rw [runK_app, bub_run, if_neg (by omega), if_neg (by omega)]
          exact hi2
