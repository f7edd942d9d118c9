def dub (j : Nat) : Nat → List (Nat × Nat × Nat)
  | 0 => []
  | d + 1 => dub j d ++ [(2, j + d, 0)]
theorem dub_len (j : Nat) : ∀ d : Nat, (dub j d).length = d
  | 0 => rfl
  | d + 1 => by unfold dub; rw [List.length_append, dub_len j d]; rfl
theorem dub_ok {n : Nat} {b : Nat → Bool} {j : Nat} (hb : b 2 = true) : ∀ d : Nat, j + d < n → ∀ m ∈ dub j d, okK n b m ∧ isST m
  | 0, _ => fun m h => absurd h List.not_mem_nil
  | d + 1, h => by
    intro m hm
    unfold dub at hm
    rcases List.mem_append.mp hm with hm | hm
    · exact dub_ok hb d (by omega) m hm
    · rw [List.mem_singleton.mp hm]; exact ⟨⟨hb, by omega⟩, Or.inr rfl⟩
theorem dub_run (j : Nat) (z : Nat → Nat) : ∀ (d : Nat) (i : Nat), runK (dub j d) z i = if j < i ∧ i ≤ j + d then z j else z i
  | 0, i => by simp [dub, runK, show ¬ (j < i ∧ i ≤ j) by omega]
  | d + 1, i => by
    have ih := dub_run j z d
    unfold dub
    rw [runK_snoc]
    show va_up (runK (dub j d) z) (j + d + 1) (runK (dub j d) z (j + d)) i = _
    by_cases e : i = j + d + 1
    · rw [show va_up (runK (dub j d) z) (j + d + 1) (runK (dub j d) z (j + d)) i = runK (dub j d) z (j + d) from if_pos e, ih, if_pos (show j < i ∧ i ≤ j + (d + 1) by omega)]
      by_cases h : d = 0
      · subst h; rw [if_neg (by omega)]; rfl
      · rw [if_pos (by omega)]
    · rw [show va_up (runK (dub j d) z) (j + d + 1) (runK (dub j d) z (j + d)) i = runK (dub j d) z i from if_neg e, ih]
      by_cases h : j < i ∧ i ≤ j + d
      · rw [if_pos h, if_pos (by omega)]
      · rw [if_neg h, if_neg (by omega)]
theorem doubles_mono {n : Nat} (w : List (Nat × Nat × Nat)) : (∀ m ∈ w, m.1 = 2 ∧ m.2.1 + 1 < n) → (∀ i, runK w id i ≤ i) ∧ ∀ i, runK w id i ≤ runK w id (i + 1) := by
  refine snoc_ind (P := fun w => (∀ m ∈ w, m.1 = 2 ∧ m.2.1 + 1 < n) → (∀ i, runK w id i ≤ i) ∧ ∀ i, runK w id i ≤ runK w id (i + 1)) ?_ ?_ w
  · intro _; exact ⟨fun i => Nat.le_refl i, fun i => Nat.le_succ i⟩
  · intro w m ih hw
    obtain ⟨h1, h2⟩ := ih (fun q hq => hw q (List.mem_append_left _ hq))
    obtain ⟨hm, -⟩ := hw m (List.mem_append_right _ (List.mem_singleton.mpr rfl))
    obtain ⟨k0, j, g⟩ := m
    cases hm
    rw [runK_snoc]
    have ev : ∀ i, mvK (2, j, g) (runK w id) i = if i = j + 1 then runK w id j else runK w id i := fun i => rfl
    refine ⟨fun i => ?_, fun i => ?_⟩
    · rw [ev]
      by_cases e : i = j + 1
      · rw [if_pos e]; have := h1 j; omega
      · rw [if_neg e]; exact h1 i
    · rw [ev, ev]
      by_cases e : i = j + 1
      · rw [if_pos e, if_neg (by omega)]
        have a := h2 j
        have c := h2 (j + 1)
        rw [e]; omega
      · rw [if_neg e]
        by_cases e2 : i + 1 = j + 1
        · rw [if_pos e2, show i = j by omega]; exact Nat.le_refl _
        · rw [if_neg e2]; exact h2 i
theorem lay_doubles {n : Nat} {b : Nat → Bool} (hb : b 2 = true) (hn : n ≤ 6) {f : Nat → Nat} (hf : ∀ i, f i ≤ i) (hm : ∀ i, f i ≤ f (i + 1)) : ∀ s, s ≤ n → ∃ w : List (Nat × Nat × Nat), (∀ m ∈ w, okK n b m ∧ isST m) ∧ w.length ≤ 5 * s ∧ (∀ i, n - s ≤ i → i < n → runK w id i = f i) ∧ ∀ i, (s = 0 ∨ i ≤ f (n - s)) → runK w id i = i := by
  intro s
  induction s with
  | zero => intro _; exact ⟨[], fun m h => absurd h List.not_mem_nil, Nat.le_refl _, fun i h1 h2 => absurd h1 (by omega), fun i _ => rfl⟩
  | succ s ih =>
    intro hs
    obtain ⟨w, h1, h2, h3, h4⟩ := ih (by omega)
    obtain ⟨t, ht⟩ : ∃ t, t = n - (s + 1) := ⟨_, rfl⟩
    rw [← ht]
    have hft := hf t
    have hmt := hm t
    have keep : ∀ i, i ≤ f t → runK w id i = i := by
      intro i hi
      refine h4 i ?_
      by_cases e : s = 0
      · exact Or.inl e
      · refine Or.inr ?_
        rw [show n - s = t + 1 by omega]
        omega
    refine ⟨w ++ dub (f t) (t - f t), fun m hq => ?_, ?_, fun i hi1 hi2 => ?_, fun i hi => ?_⟩
    · rcases List.mem_append.mp hq with hq | hq
      · exact h1 m hq
      · exact dub_ok hb _ (by omega) m hq
    · rw [List.length_append, dub_len]; omega
    · rw [runK_app, dub_run]
      by_cases e : i = t
      · by_cases e2 : f t < t
        · rw [if_pos (by omega), e]; exact keep _ (Nat.le_refl _)
        · rw [if_neg (by omega), e]
          have : f t = t := by omega
          rw [keep t (by omega), this]
      · rw [if_neg (by omega)]
        exact h3 i (by omega) hi2
    · rw [runK_app, dub_run]
      have hi' : i ≤ f t := by rcases hi with hi | hi <;> omega
      rw [if_neg (by omega)]
      exact keep i hi'
