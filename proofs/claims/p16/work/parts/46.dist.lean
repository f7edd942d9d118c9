/-! slips by their numbers, maps as numbers; how far a map is from another -/
theorem p5le {k : Nat} (h : k ≤ 6) : 5 ^ k ≤ 15625 := Nat.le_trans (Nat.pow_le_pow_right (by decide) h) (by decide)
theorem p5pos (k : Nat) : 1 ≤ 5 ^ k := Nat.pow_pos (by decide)
def manyS (k : Nat) : Nat := 4 * k + 2 * (k - 1) + k
def mvAt (k t : Nat) : Nat × Nat × Nat := if t < 4 * k then (0, t / 4, t % 4) else if t - 4 * k < k - 1 then (1, t - 4 * k, 0) else if t - 4 * k < 2 * (k - 1) then (2, t - 4 * k - (k - 1), 0) else (3, t - 4 * k - 2 * (k - 1), 0)
/-- a slip that there is on k sites -/
def okV (k m0 mj mg : Nat) : Prop := (m0 = 0 ∧ mj < k ∧ mg < 4) ∨ (m0 = 1 ∧ mj + 1 < k ∧ mg = 0) ∨ (m0 = 2 ∧ mj + 1 < k ∧ mg = 0) ∨ (m0 = 3 ∧ mj < k ∧ mg = 0)
def slv (k t : Nat) : Nat := 100 * (mvAt k t).1 + 10 * (mvAt k t).2.1 + (mvAt k t).2.2
theorem mvAt_ok {k t : Nat} (h : t < manyS k) : okV k (mvAt k t).1 (mvAt k t).2.1 (mvAt k t).2.2 := by
  unfold manyS at h
  unfold mvAt okV
  by_cases h1 : t < 4 * k
  · rw [if_pos h1]; left; dsimp only; omega
  · rw [if_neg h1]
    by_cases h2 : t - 4 * k < k - 1
    · rw [if_pos h2]; right; left; dsimp only; omega
    · rw [if_neg h2]
      by_cases h3 : t - 4 * k < 2 * (k - 1)
      · rw [if_pos h3]; right; right; left; dsimp only; omega
      · rw [if_neg h3]; right; right; right; dsimp only; omega
def slN (k a : Nat) (m : Nat × Nat × Nat) : Nat := match m with
  | (0, j, g) => wN k a j g
  | (1, j, _) => wN k (wN k a j (dg k a (j + 1))) (j + 1) (dg k a j)
  | (2, j, _) => wN k a (j + 1) (dg k a j)
  | (_, j, _) => wN k a j 4
theorem slN_lt {k a m0 mj mg : Nat} (ha : a < 5 ^ k) (h : okV k m0 mj mg) : slN k a (m0, mj, mg) < 5 ^ k := by
  rcases h with ⟨rfl, h1, h2⟩ | ⟨rfl, h1, h2⟩ | ⟨rfl, h1, h2⟩ | ⟨rfl, h1, h2⟩
  · exact wN_lt ha h1 (by omega)
  · exact wN_lt (wN_lt ha (by omega) (dg_lt _ _ _)) h1 (dg_lt _ _ _)
  · exact wN_lt ha h1 (dg_lt _ _ _)
  · exact wN_lt ha h1 (by decide)
theorem dg_wN {k a i j g : Nat} (hj : j < k) (hi : i < k) (hg : g < 5) : dg k (wN k a j g) i = if i = j then g else dg k a i := by
  by_cases e : i = j
  · rw [if_pos e, e]; exact dg_wN_same hg
  · rw [if_neg e]
    rcases Nat.lt_or_ge i j with q | q
    · exact dg_wN_hi hj q hg
    · exact dg_wN_lo hj hi (by omega)
/-- a slip on the number is the move of the digits -/
theorem dg_slN {k a m0 mj mg : Nat} (h : okV k m0 mj mg) (i : Nat) (hi : i < k) : dg k (slN k a (m0, mj, mg)) i = mvK (m0, mj, mg) (dg k a) i := by
  rcases h with ⟨rfl, h1, h2⟩ | ⟨rfl, h1, h2⟩ | ⟨rfl, h1, h2⟩ | ⟨rfl, h1, h2⟩
  · show dg k (wN k a mj mg) i = if i = mj then mg else dg k a i
    exact dg_wN h1 hi (by omega)
  · show dg k (wN k (wN k a mj (dg k a (mj + 1))) (mj + 1) (dg k a mj)) i = if i = mj then dg k a (mj + 1) else if i = mj + 1 then dg k a mj else dg k a i
    rw [dg_wN h1 hi (dg_lt _ _ _), dg_wN (by omega) hi (dg_lt _ _ _)]
    by_cases e : i = mj + 1
    · rw [if_pos e, if_neg (by omega), if_pos e]
    · rw [if_neg e]
      by_cases e2 : i = mj
      · rw [if_pos e2, if_pos e2]
      · rw [if_neg e2, if_neg e2, if_neg e]
  · show dg k (wN k a (mj + 1) (dg k a mj)) i = if i = mj + 1 then dg k a mj else dg k a i
    exact dg_wN h1 hi (dg_lt _ _ _)
  · show dg k (wN k a mj 4) i = if i = mj then 4 else dg k a i
    exact dg_wN h1 hi (by decide)
theorem okV_K {n : Nat} {b : Nat → Bool} {m0 mj mg : Nat} (h : okV n m0 mj mg) (hb : b m0 = true) : okK n b (m0, mj, mg) := by
  rcases h with ⟨rfl, h1, h2⟩ | ⟨rfl, h1, h2⟩ | ⟨rfl, h1, h2⟩ | ⟨rfl, h1, h2⟩
  · exact ⟨hb, h1, h2⟩
  · exact ⟨hb, h1⟩
  · exact ⟨hb, h1⟩
  · exact ⟨hb, h1⟩
theorem runK_congr {n : Nat} {b : Nat → Bool} : ∀ (ms : List (Nat × Nat × Nat)) (x y : Nat → Nat), (∀ m ∈ ms, okK n b m) → (∀ i, i < n → x i = y i) → ∀ i, i < n → runK ms x i = runK ms y i
  | [], x, y, _, h, i, hi => h i hi
  | m :: ms, x, y, hok, h, i, hi => by
    have hm := hok m List.mem_cons_self
    refine runK_congr (b := b) ms (mvK m x) (mvK m y) (fun q hq => hok q (List.mem_cons_of_mem _ hq)) (fun i hi => ?_) i hi
    obtain ⟨k0, j, g⟩ := m
    match k0, hm with
    | 0, hm =>
      show (if i = j then g else x i) = if i = j then g else y i
      rw [h i hi]
    | 1, hm =>
      have h1 : j + 1 < n := hm.2
      show (if i = j then x (j + 1) else if i = j + 1 then x j else x i) = if i = j then y (j + 1) else if i = j + 1 then y j else y i
      rw [h i hi, h j (by omega), h (j + 1) h1]
    | 2, hm =>
      have h1 : j + 1 < n := hm.2
      show (if i = j + 1 then x j else x i) = if i = j + 1 then y j else y i
      rw [h i hi, h j (by omega)]
    | 3, hm =>
      show (if i = j then 4 else x i) = if i = j then 4 else y i
      rw [h i hi]
    | k0 + 4, hm => exact False.elim hm
/-- a move has a number -/
theorem okK_at {n : Nat} {b : Nat → Bool} {m : Nat × Nat × Nat} (h : okK n b m) : ∃ t, t < manyS n ∧ b (mvAt n t).1 = true ∧ ∀ x : Nat → Nat, mvK (mvAt n t) x = mvK m x := by
  unfold manyS
  obtain ⟨k0, j, g⟩ := m
  match k0, h with
  | 0, h =>
    obtain ⟨h1, h2, h3⟩ := h
    refine ⟨4 * j + g, by omega, ?_⟩
    have e : mvAt n (4 * j + g) = (0, j, g) := by
      unfold mvAt
      rw [if_pos (by omega), show (4 * j + g) / 4 = j by omega, show (4 * j + g) % 4 = g by omega]
    rw [e]; exact ⟨h1, fun x => rfl⟩
  | 1, h =>
    obtain ⟨h1, h2⟩ := h
    refine ⟨4 * n + j, by omega, ?_⟩
    have e : mvAt n (4 * n + j) = (1, j, 0) := by
      unfold mvAt
      rw [if_neg (by omega), if_pos (by omega), show 4 * n + j - 4 * n = j by omega]
    rw [e]; exact ⟨h1, fun x => rfl⟩
  | 2, h =>
    obtain ⟨h1, h2⟩ := h
    refine ⟨4 * n + (n - 1) + j, by omega, ?_⟩
    have e : mvAt n (4 * n + (n - 1) + j) = (2, j, 0) := by
      unfold mvAt
      rw [if_neg (by omega), if_neg (by omega), if_pos (by omega), show 4 * n + (n - 1) + j - 4 * n - (n - 1) = j by omega]
    rw [e]; exact ⟨h1, fun x => rfl⟩
  | 3, h =>
    obtain ⟨h1, h2⟩ := h
    refine ⟨4 * n + 2 * (n - 1) + j, by omega, ?_⟩
    have e : mvAt n (4 * n + 2 * (n - 1) + j) = (3, j, 0) := by
      unfold mvAt
      rw [if_neg (by omega), if_neg (by omega), if_neg (by omega), show 4 * n + 2 * (n - 1) + j - 4 * n - 2 * (n - 1) = j by omega]
    rw [e]; exact ⟨h1, fun x => rfl⟩
  | k0 + 4, h => exact False.elim h
/-- d slips lead from a to g -/
def pth (n : Nat) (b : Nat → Bool) (g : Nat) : Nat → Nat → Prop
  | 0, a => a = g
  | d + 1, a => ∃ t, t < manyS n ∧ b (mvAt n t).1 = true ∧ pth n b g d (slN n a (mvAt n t))
theorem pth_ms {n : Nat} {b : Nat → Bool} {g : Nat} : ∀ (d a : Nat), a < 5 ^ n → pth n b g d a → ∃ ms : List (Nat × Nat × Nat), (∀ m ∈ ms, okK n b m) ∧ ms.length = d ∧ ∀ i, i < n → runK ms (dg n a) i = dg n g i
  | 0, a, _, h => ⟨[], fun m h => absurd h List.not_mem_nil, rfl, fun i _ => by rw [show a = g from h]; rfl⟩
  | d + 1, a, ha, h => by
    obtain ⟨t, ht, hb, h2⟩ := h
    have hv := mvAt_ok ht
    obtain ⟨ms, h3, h4, h5⟩ := pth_ms d _ (slN_lt ha hv) h2
    refine ⟨mvAt n t :: ms, fun m hm => ?_, by rw [List.length_cons, h4], fun i hi => ?_⟩
    · rcases List.mem_cons.mp hm with e | e
      · rw [e]; exact okV_K hv hb
      · exact h3 m e
    · rw [← h5 i hi]
      exact runK_congr (b := b) ms (mvK (mvAt n t) (dg n a)) (dg n (slN n a (mvAt n t))) h3 (fun i hi => (dg_slN hv i hi).symm) i hi
theorem ms_pth {n : Nat} {b : Nat → Bool} {g : Nat} (hg : g < 5 ^ n) : ∀ (ms : List (Nat × Nat × Nat)) (a : Nat), a < 5 ^ n → (∀ m ∈ ms, okK n b m) → (∀ i, i < n → runK ms (dg n a) i = dg n g i) → pth n b g ms.length a
  | [], a, ha, _, h => dg_ext ha hg (fun j hj => h j hj)
  | m :: ms, a, ha, hok, h => by
    obtain ⟨t, ht, hb, he⟩ := okK_at (hok m List.mem_cons_self)
    have hv := mvAt_ok ht
    have hms : ∀ q ∈ ms, okK n b q := fun q hq => hok q (List.mem_cons_of_mem _ hq)
    refine ⟨t, ht, hb, ms_pth hg ms _ (slN_lt ha hv) hms (fun i hi => ?_)⟩
    rw [← h i hi]
    refine (runK_congr (b := b) ms (dg n (slN n a (mvAt n t))) (mvK m (dg n a)) hms (fun i hi => ?_) i hi)
    rw [← he]
    exact dg_slN hv i hi
/-- what can be reached at all can be reached by 72 slips -/
theorem pth72 {n : Nat} {b : Nat → Bool} {g d a : Nat} (hn : n ≤ 6) (hg : g < 5 ^ n) (ha : a < 5 ^ n) (h : pth n b g d a) : ∃ d', d' ≤ 72 ∧ pth n b g d' a := by
  obtain ⟨ms, h1, -, h3⟩ := pth_ms d a ha h
  obtain ⟨ms', a1, a2, a3⟩ := path72 hn (dg n a) h1
  exact ⟨ms'.length, a2, ms_pth hg ms' a ha a1 (fun i hi => by rw [a3 i hi, h3 i hi])⟩
