/-! swaps and doublings together: any map of sites is laid by at most 11 n of them -/
theorem pigL : ∀ (l w : List Nat), w.length < l.length → (∀ x ∈ w, x ∈ l) → ∃ (a : List Nat) (y : Nat) (c : List Nat), l = a ++ y :: c ∧ ∀ x ∈ w, x ∈ a ++ c
  | [], w, h, _ => absurd h (Nat.not_lt_zero _)
  | y :: l, w, h, hs => by
    by_cases hq : ∀ x ∈ w, x ∈ l
    · exact ⟨[], y, l, rfl, hq⟩
    · have hyw : y ∈ w := by
        refine Classical.byContradiction (fun hn => hq (fun x hx => ?_))
        rcases List.mem_cons.mp (hs x hx) with e | e
        · rw [e] at hx; exact absurd hx hn
        · exact e
      have h1 : (w.filter (fun x => decide (x ≠ y))).length < w.length := by
        rw [List.length_filter_lt_length_iff_exists]
        exact ⟨y, hyw, by simp⟩
      have h2 : ∀ x ∈ w.filter (fun x => decide (x ≠ y)), x ∈ l := by
        intro x hx
        obtain ⟨a1, a2⟩ := List.mem_filter.mp hx
        have a3 : x ≠ y := of_decide_eq_true a2
        rcases List.mem_cons.mp (hs x a1) with e | e
        · exact absurd e a3
        · exact e
      rw [List.length_cons] at h
      obtain ⟨a, z, c, e1, e2⟩ := pigL l (w.filter (fun x => decide (x ≠ y))) (by omega) h2
      refine ⟨y :: a, z, c, by rw [e1]; rfl, fun x hx => ?_⟩
      by_cases e : x = y
      · rw [e]; exact List.mem_cons_self
      · exact List.mem_cons_of_mem _ (e2 x (List.mem_filter.mpr ⟨hx, decide_eq_true e⟩))
theorem pigF {N : Nat} {cur f : Nat → Nat} {v : Nat} (h : ∀ i, i < N → ¬ f i = v → ∃ q, q < N ∧ cur q = f i) (i0 : Nat) (hi0 : i0 < N) (hv : f i0 = v) : ∃ p, p < N ∧ ∀ i, i < N → ¬ f i = v → ∃ q, q < N ∧ ¬ q = p ∧ cur q = f i := by
  obtain ⟨a, y, c, e1, e2⟩ := pigL ((List.range N).map cur) (((List.range N).filter (fun i => decide (¬ f i = v))).map f) (by
    rw [List.length_map, List.length_map, List.length_filter_lt_length_iff_exists]
    exact ⟨i0, List.mem_range.mpr hi0, by simp [hv]⟩) (by
    intro x hx
    obtain ⟨i, h1, h2⟩ := List.mem_map.mp hx
    obtain ⟨h3, h4⟩ := List.mem_filter.mp h1
    obtain ⟨q, q1, q2⟩ := h i (List.mem_range.mp h3) (of_decide_eq_true h4)
    exact List.mem_map.mpr ⟨q, List.mem_range.mpr q1, by rw [q2, h2]⟩)
  have hlen : N = a.length + (c.length + 1) := by
    have := congrArg List.length e1
    rw [List.length_map, List.length_range, List.length_append, List.length_cons] at this
    exact this
  have hget : ∀ q, q < N → (a ++ y :: c)[q]? = some (cur q) := by
    intro q hq
    rw [← e1, List.getElem?_map, List.getElem?_range hq]
    rfl
  refine ⟨a.length, by omega, fun i hi hne => ?_⟩
  have hm := e2 (f i) (List.mem_map.mpr ⟨i, List.mem_filter.mpr ⟨List.mem_range.mpr hi, decide_eq_true hne⟩, rfl⟩)
  rcases List.mem_append.mp hm with hm | hm
  · obtain ⟨q, hq⟩ := List.getElem?_of_mem hm
    have hql : q < a.length := by
      rcases Nat.lt_or_ge q a.length with x | x
      · exact x
      · rw [List.getElem?_eq_none x] at hq; cases hq
    refine ⟨q, by omega, by omega, ?_⟩
    have := hget q (by omega)
    rw [List.getElem?_append_left hql, hq] at this
    exact (Option.some.inj this).symm
  · obtain ⟨q, hq⟩ := List.getElem?_of_mem hm
    have hql : q < c.length := by
      rcases Nat.lt_or_ge q c.length with x | x
      · exact x
      · rw [List.getElem?_eq_none x] at hq; cases hq
    refine ⟨a.length + 1 + q, by omega, by omega, ?_⟩
    have := hget (a.length + 1 + q) (by omega)
    rw [List.getElem?_append_right (by omega), show a.length + 1 + q - a.length = q + 1 by omega, List.getElem?_cons_succ, hq] at this
    exact (Option.some.inj this).symm
theorem word_lt {n : Nat} {b : Nat → Bool} (w : List (Nat × Nat × Nat)) : (∀ m ∈ w, okK n b m ∧ isST m) → ∀ i, i < n → runK w id i < n := by
  refine snoc_ind (P := fun w => (∀ m ∈ w, okK n b m ∧ isST m) → ∀ i, i < n → runK w id i < n) ?_ ?_ w
  · intro _ i h; exact h
  · intro w m ih hw i hi
    have h1 := ih (fun q hq => hw q (List.mem_append_left _ hq))
    obtain ⟨ho, hs⟩ := hw m (List.mem_append_right _ (List.mem_singleton.mpr rfl))
    obtain ⟨k0, j, g⟩ := m
    rw [runK_snoc]
    rcases hs with hs | hs
    · cases hs
      have hj : j + 1 < n := ho.2
      by_cases e : i = j
      · rw [show mvK (1, j, g) (runK w id) i = runK w id (j + 1) by simp [mvK, e]]; exact h1 _ hj
      · by_cases e2 : i = j + 1
        · rw [show mvK (1, j, g) (runK w id) i = runK w id j by simp [mvK, e2]]; exact h1 _ (by omega)
        · rw [show mvK (1, j, g) (runK w id) i = runK w id i by simp [mvK, e, e2]]; exact h1 _ hi
    · cases hs
      have hj : j + 1 < n := ho.2
      by_cases e : i = j + 1
      · rw [show mvK (2, j, g) (runK w id) i = runK w id j by simp [mvK, va_up, e]]; exact h1 _ (by omega)
      · rw [show mvK (2, j, g) (runK w id) i = runK w id i by simp [mvK, va_up, e]]; exact h1 _ hi
theorem lay_both {n : Nat} {b : Nat → Bool} (hb : b 1 = true) (hb2 : b 2 = true) (hn : n ≤ 6) {f : Nat → Nat} (hf : ∀ i, i < n → f i < n) : ∀ j, j ≤ n → ∃ w : List (Nat × Nat × Nat), (∀ m ∈ w, okK n b m ∧ isST m) ∧ w.length ≤ 11 * j ∧ (∀ i, i < j → runK w id i = f i) ∧ ∀ i, j ≤ i → i < n → ∃ q, j ≤ q ∧ q < n ∧ runK w id q = f i := by
  intro j
  induction j with
  | zero => intro _; exact ⟨[], fun m h => absurd h List.not_mem_nil, Nat.le_refl _, fun i h => absurd h (Nat.not_lt_zero _), fun i _ hi => ⟨f i, Nat.zero_le _, hf i hi, rfl⟩⟩
  | succ j ih =>
    intro hj
    obtain ⟨w, h1, h2, h3, h4⟩ := ih (by omega)
    obtain ⟨l, hl0, hl, he⟩ := h4 j (Nat.le_refl _) (by omega)
    obtain ⟨d, hd⟩ : ∃ d, l = j + d := ⟨l - j, by omega⟩
    obtain ⟨w1, hw1⟩ : ∃ w1, w1 = w ++ bub j d := ⟨_, rfl⟩
    have k1 : ∀ m ∈ w1, okK n b m ∧ isST m := by
      intro m hm
      rw [hw1] at hm
      rcases List.mem_append.mp hm with hm | hm
      · exact h1 m hm
      · exact bub_ok hb d (by omega) m hm
    have k2 : w1.length ≤ 11 * j + 5 := by rw [hw1, List.length_append, bub_len]; omega
    have kr : ∀ i, runK w1 id i = if i = j then runK w id (j + d) else if j < i ∧ i ≤ j + d then runK w id (i - 1) else runK w id i := by
      intro i; rw [hw1, runK_app, bub_run]
    have k3 : ∀ i, i < j + 1 → runK w1 id i = f i := by
      intro i hi
      rw [kr]
      by_cases e : i = j
      · rw [if_pos e, ← hd, e]; exact he
      · rw [if_neg e, if_neg (by omega)]; exact h3 i (by omega)
    have k4 : ∀ i, j < i → i < n → ¬ f i = f j → ∃ q, j < q ∧ q < n ∧ runK w1 id q = f i := by
      intro i hi1 hi2 hne
      obtain ⟨q, q1, q2, q3⟩ := h4 i (by omega) hi2
      have hql : ¬ q = j + d := by intro e; rw [e, ← hd, he] at q3; exact hne q3.symm
      by_cases c : q < j + d
      · refine ⟨q + 1, by omega, by omega, ?_⟩
        rw [kr, if_neg (by omega), if_pos (by omega)]; exact q3
      · refine ⟨q, by omega, q2, ?_⟩
        rw [kr, if_neg (by omega), if_neg (by omega)]; exact q3
    by_cases hA : ∀ i, j < i → i < n → ∃ q, j < q ∧ q < n ∧ runK w1 id q = f i
    · exact ⟨w1, k1, by omega, k3, fun i hi1 hi2 => hA i hi1 hi2⟩
    · obtain ⟨i0, hi1, hi2, hi3⟩ : ∃ i0, j < i0 ∧ i0 < n ∧ f i0 = f j := by
        refine Classical.byContradiction (fun hno => hA (fun i a1 a2 => k4 i a1 a2 (fun e => hno ⟨i, a1, a2, e⟩)))
      obtain ⟨p, hp1, hp2⟩ := pigF (N := n - (j + 1)) (cur := fun t => runK w1 id (j + 1 + t)) (f := fun t => f (j + 1 + t)) (v := f j) (fun i hi hne => by
        obtain ⟨q, q1, q2, q3⟩ := k4 (j + 1 + i) (by omega) (by omega) hne
        exact ⟨q - (j + 1), by omega, by rw [show j + 1 + (q - (j + 1)) = q by omega]; exact q3⟩) (i0 - (j + 1)) (by omega) (by rw [show j + 1 + (i0 - (j + 1)) = i0 by omega]; exact hi3)
      obtain ⟨w2, hw2⟩ : ∃ w2, w2 = w1 ++ bub (j + 1) p ++ [(2, j, 0)] := ⟨_, rfl⟩
      have r2 : ∀ i, runK w2 id i = if i = j + 1 then f j else if j + 1 < i ∧ i ≤ j + 1 + p then runK w1 id (i - 1) else runK w1 id i := by
        intro i
        rw [hw2, runK_snoc, runK_app]
        show va_up (runK (bub (j + 1) p) (runK w1 id)) (j + 1) (runK (bub (j + 1) p) (runK w1 id) j) i = _
        by_cases e : i = j + 1
        · rw [show va_up (runK (bub (j + 1) p) (runK w1 id)) (j + 1) (runK (bub (j + 1) p) (runK w1 id) j) i = runK (bub (j + 1) p) (runK w1 id) j from if_pos e, bub_run, if_neg (by omega), if_neg (by omega), if_pos e]
          exact k3 j (by omega)
        · rw [show va_up (runK (bub (j + 1) p) (runK w1 id)) (j + 1) (runK (bub (j + 1) p) (runK w1 id) j) i = runK (bub (j + 1) p) (runK w1 id) i from if_neg e, bub_run, if_neg e, if_neg e]
      refine ⟨w2, fun m hm => ?_, ?_, fun i hi => ?_, fun i hi1' hi2' => ?_⟩
      · rw [hw2] at hm
        rcases List.mem_append.mp hm with hm | hm
        · rcases List.mem_append.mp hm with hm | hm
          · exact k1 m hm
          · exact bub_ok hb p (by omega) m hm
        · rw [List.mem_singleton.mp hm]; exact ⟨⟨hb2, by omega⟩, Or.inr rfl⟩
      · rw [hw2, List.length_append, List.length_append, bub_len]
        simp only [List.length_singleton]
        omega
      · rw [r2, if_neg (by omega), if_neg (by omega)]; exact k3 i hi
      · by_cases hne : f i = f j
        · exact ⟨j + 1, Nat.le_refl _, by omega, by rw [r2, if_pos rfl, hne]⟩
        · obtain ⟨q, q1, q2, q3⟩ := hp2 (i - (j + 1)) (by omega) (by rw [show j + 1 + (i - (j + 1)) = i by omega]; exact hne)
          skip
          rw [show j + 1 + (i - (j + 1)) = i by omega] at q3
          by_cases c : q < p
          · refine ⟨j + 1 + q + 1, by omega, by omega, ?_⟩
            rw [r2, if_neg (by omega), if_pos (by omega), show j + 1 + q + 1 - 1 = j + 1 + q by omega]; exact q3
          · refine ⟨j + 1 + q, by omega, by omega, ?_⟩
            rw [r2, if_neg (by omega), if_neg (by omega)]; exact q3
/-- every word of swaps and doublings may be made one of at most 66 -/
theorem word66 {n : Nat} {b : Nat → Bool} (hn : n ≤ 6) (w : List (Nat × Nat × Nat)) (hw : ∀ m ∈ w, okK n b m ∧ isST m) : ∃ w' : List (Nat × Nat × Nat), (∀ m ∈ w', okK n b m ∧ isST m) ∧ w'.length ≤ 66 ∧ ∀ i, i < n → runK w' id i = runK w id i := by
  by_cases h1 : b 1 = true
  · by_cases h2 : b 2 = true
    · obtain ⟨w', a1, a2, a3, -⟩ := lay_both h1 h2 hn (word_lt w hw) n (Nat.le_refl _)
      exact ⟨w', a1, by omega, a3⟩
    · have hs : ∀ m ∈ w, m.1 = 1 ∧ m.2.1 + 1 < n := by
        intro m hm
        obtain ⟨ho, hs⟩ := hw m hm
        obtain ⟨k0, j, g⟩ := m
        rcases hs with hs | hs
        · cases hs; exact ⟨rfl, ho.2⟩
        · cases hs; exact absurd ho.1 h2
      obtain ⟨a1, a2⟩ := swaps_inj w hs
      obtain ⟨w', b1, b2, b3, -⟩ := lay_swaps h1 hn a1 a2 n (Nat.le_refl _)
      exact ⟨w', b1, by omega, b3⟩
  · by_cases h2 : b 2 = true
    · have hs : ∀ m ∈ w, m.1 = 2 ∧ m.2.1 + 1 < n := by
        intro m hm
        obtain ⟨ho, hs⟩ := hw m hm
        obtain ⟨k0, j, g⟩ := m
        rcases hs with hs | hs
        · cases hs; exact absurd ho.1 h1
        · cases hs; exact ⟨rfl, ho.2⟩
      obtain ⟨a1, a2⟩ := doubles_mono w hs
      obtain ⟨w', b1, b2, b3, -⟩ := lay_doubles h2 hn a1 a2 n (Nat.le_refl _)
      exact ⟨w', b1, by omega, fun i hi => b3 i (by omega) hi⟩
    · have := word_none (Bool.eq_false_iff.mpr h1) (Bool.eq_false_iff.mpr h2) w hw
      subst this
      exact ⟨[], hw, by simp, fun i _ => rfl⟩
theorem path72 {n : Nat} {b : Nat → Bool} (hn : n ≤ 6) (x : Nat → Nat) {ms : List (Nat × Nat × Nat)} (hok : ∀ m ∈ ms, okK n b m) : ∃ ms' : List (Nat × Nat × Nat), (∀ m ∈ ms', okK n b m) ∧ ms'.length ≤ 72 ∧ ∀ i, i < n → runK ms' x i = runK ms x i := by
  obtain ⟨ms', a1, a2, a3⟩ := lastK (B := 66) x hok (fun w hw => word66 hn w hw)
  exact ⟨ms', a1, by omega, a3⟩
