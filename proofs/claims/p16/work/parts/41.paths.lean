/-! slips as moves of rows of digits; a path may be made one of swaps and doublings with constants put last -/
def mvK (m : Nat × Nat × Nat) (x : Nat → Nat) : Nat → Nat := match m with
  | (0, j, g) => va_up x j g
  | (1, j, _) => fun i => if i = j then x (j + 1) else if i = j + 1 then x j else x i
  | (2, j, _) => va_up x (j + 1) (x j)
  | (_, j, _) => va_up x j 4
def runK (ms : List (Nat × Nat × Nat)) (x : Nat → Nat) : Nat → Nat := ms.foldl (fun x m => mvK m x) x
/-- a move that a hand with kinds b may make on n sites -/
def okK (n : Nat) (b : Nat → Bool) (m : Nat × Nat × Nat) : Prop := match m with
  | (0, j, g) => b 0 = true ∧ j < n ∧ g < 4
  | (1, j, _) => b 1 = true ∧ j + 1 < n
  | (2, j, _) => b 2 = true ∧ j + 1 < n
  | (3, j, _) => b 3 = true ∧ j < n
  | _ => False
def isST (m : Nat × Nat × Nat) : Prop := m.1 = 1 ∨ m.1 = 2
theorem runK_snoc (ms : List (Nat × Nat × Nat)) (m : Nat × Nat × Nat) (x : Nat → Nat) : runK (ms ++ [m]) x = mvK m (runK ms x) := by
  unfold runK
  rw [List.foldl_append]
  rfl
theorem runK_app (ms ns : List (Nat × Nat × Nat)) (x : Nat → Nat) : runK (ms ++ ns) x = runK ns (runK ms x) := by
  unfold runK
  rw [List.foldl_append]
theorem snoc_ind {α : Type} {P : List α → Prop} (h0 : P []) (hs : ∀ (l : List α) (a : α), P l → P (l ++ [a])) (l : List α) : P l := by
  have h : ∀ r : List α, P r.reverse := by
    intro r
    induction r with
    | nil => exact h0
    | cons a r ih => rw [List.reverse_cons]; exact hs _ _ ih
  have h1 := h l.reverse
  rw [List.reverse_reverse] at h1
  exact h1
/-- a value that may be put anywhere -/
def canC (b : Nat → Bool) (v : Nat) : Prop := (b 0 = true ∧ v < 4) ∨ (b 3 = true ∧ v = 4)
def mix (c : Nat → Option Nat) (x f : Nat → Nat) (i : Nat) : Nat := match c i with
  | some v => v
  | none => x (f i)
theorem sepK {n : Nat} {b : Nat → Bool} (x : Nat → Nat) (ms : List (Nat × Nat × Nat)) : (∀ m ∈ ms, okK n b m) → ∃ (w : List (Nat × Nat × Nat)) (c : Nat → Option Nat), (∀ m ∈ w, okK n b m ∧ isST m) ∧ (∀ i v, c i = some v → canC b v ∧ i < n) ∧ runK ms x = mix c x (runK w id) := by
  refine snoc_ind (P := fun ms => (∀ m ∈ ms, okK n b m) → ∃ (w : List (Nat × Nat × Nat)) (c : Nat → Option Nat), (∀ m ∈ w, okK n b m ∧ isST m) ∧ (∀ i v, c i = some v → canC b v ∧ i < n) ∧ runK ms x = mix c x (runK w id)) ?_ ?_ ms
  · intro _; exact ⟨[], fun _ => none, fun m h => absurd h List.not_mem_nil, fun i v h => (by cases h), rfl⟩
  · intro ms m ih hok
    obtain ⟨w, c, hw, hc, he⟩ := ih (fun q hq => hok q (List.mem_append_left _ hq))
    have hm := hok m (List.mem_append_right _ (List.mem_singleton.mpr rfl))
    rw [runK_snoc, he]
    obtain ⟨k, j, g⟩ := m
    match k, hm with
    | 0, hm =>
      refine ⟨w, va_up c j (some g), hw, fun i v h => ?_, ?_⟩
      · by_cases e : i = j
        · rw [show va_up c j (some g) i = some g from if_pos e] at h
          cases h
          exact ⟨Or.inl ⟨hm.1, hm.2.2⟩, by rw [e]; exact hm.2.1⟩
        · rw [show va_up c j (some g) i = c i from if_neg e] at h
          exact hc i v h
      · funext i
        by_cases e : i = j
        · simp [mvK, mix, va_up, e]
        · simp [mvK, mix, va_up, e]
    | 3, hm =>
      refine ⟨w, va_up c j (some 4), hw, fun i v h => ?_, ?_⟩
      · by_cases e : i = j
        · rw [show va_up c j (some 4) i = some 4 from if_pos e] at h
          cases h
          exact ⟨Or.inr ⟨hm.1, rfl⟩, by rw [e]; exact hm.2⟩
        · rw [show va_up c j (some 4) i = c i from if_neg e] at h
          exact hc i v h
      · funext i
        by_cases e : i = j
        · simp [mvK, mix, va_up, e]
        · simp [mvK, mix, va_up, e]
    | 1, hm =>
      refine ⟨w ++ [(1, j, g)], fun i => if i = j then c (j + 1) else if i = j + 1 then c j else c i, fun q hq => ?_, fun i v h => ?_, ?_⟩
      · rcases List.mem_append.mp hq with hq | hq
        · exact hw q hq
        · rw [List.mem_singleton.mp hq]; exact ⟨hm, Or.inl rfl⟩
      · have h2 := hm.2
        dsimp only at h
        by_cases e : i = j
        · rw [if_pos e] at h; exact ⟨(hc _ _ h).1, by omega⟩
        · rw [if_neg e] at h
          by_cases e2 : i = j + 1
          · rw [if_pos e2] at h; exact ⟨(hc _ _ h).1, by omega⟩
          · rw [if_neg e2] at h; exact hc i v h
      · rw [runK_snoc]
        funext i
        by_cases e : i = j
        · simp [mvK, mix, e]
        · by_cases e2 : i = j + 1
          · simp [mvK, mix, e2]
          · simp [mvK, mix, e, e2]
    | 2, hm =>
      refine ⟨w ++ [(2, j, g)], va_up c (j + 1) (c j), fun q hq => ?_, fun i v h => ?_, ?_⟩
      · rcases List.mem_append.mp hq with hq | hq
        · exact hw q hq
        · rw [List.mem_singleton.mp hq]; exact ⟨hm, Or.inr rfl⟩
      · by_cases e : i = j + 1
        · rw [show va_up c (j + 1) (c j) i = c j from if_pos e] at h
          exact ⟨(hc _ _ h).1, by rw [e]; exact hm.2⟩
        · rw [show va_up c (j + 1) (c j) i = c i from if_neg e] at h
          exact hc i v h
      · rw [runK_snoc]
        funext i
        by_cases e : i = j + 1
        · simp [mvK, mix, va_up, e]
        · simp [mvK, mix, va_up, e]
    | k + 4, hm => exact False.elim hm
theorem natK {x : Nat → Nat} (w : List (Nat × Nat × Nat)) (h : Nat → Nat) : (∀ m ∈ w, isST m) → runK w (fun i => x (h i)) = fun i => x (runK w h i) := by
  refine snoc_ind (P := fun w => (∀ m ∈ w, isST m) → runK w (fun i => x (h i)) = fun i => x (runK w h i)) ?_ ?_ w
  · intro _; rfl
  · intro w m ih hw
    rw [runK_snoc, runK_snoc, ih (fun q hq => hw q (List.mem_append_left _ hq))]
    have hm := hw m (List.mem_append_right _ (List.mem_singleton.mpr rfl))
    obtain ⟨k, j, g⟩ := m
    rcases hm with hm | hm
    · cases hm
      funext i
      by_cases e : i = j
      · simp [mvK, e]
      · by_cases e2 : i = j + 1
        · simp [mvK, e2]
        · simp [mvK, e, e2]
    · cases hm
      funext i
      by_cases e : i = j + 1
      · simp [mvK, va_up, e]
      · simp [mvK, va_up, e]
/-- the constants, put one by one -/
def csK (c : Nat → Option Nat) : Nat → List (Nat × Nat × Nat)
  | 0 => []
  | n + 1 => csK c n ++ (match c n with
    | none => []
    | some v => if v < 4 then [(0, n, v)] else [(3, n, 0)])
theorem csK_len (c : Nat → Option Nat) : ∀ n : Nat, (csK c n).length ≤ n
  | 0 => Nat.le_refl _
  | n + 1 => by
    have h := csK_len c n
    unfold csK
    cases hc : c n with
    | none => simp; omega
    | some v =>
      by_cases hv : v < 4
      · simp [hv]; omega
      · simp [hv]; omega
theorem csK_ok {n : Nat} {b : Nat → Bool} {c : Nat → Option Nat} (hc : ∀ i v, c i = some v → canC b v ∧ i < n) : ∀ k : Nat, k ≤ n → ∀ m ∈ csK c k, okK n b m
  | 0, _ => fun m h => absurd h List.not_mem_nil
  | k + 1, hk => by
    intro m hm
    unfold csK at hm
    rcases List.mem_append.mp hm with hm | hm
    · exact csK_ok hc k (by omega) m hm
    · cases hq : c k with
      | none => rw [hq] at hm; cases hm
      | some v =>
        rw [hq] at hm
        obtain ⟨h1, h2⟩ := hc k v hq
        by_cases hv : v < 4
        · simp only [hv, if_true] at hm
          rw [List.mem_singleton.mp hm]
          rcases h1 with h1 | h1
          · exact ⟨h1.1, h2, h1.2⟩
          · omega
        · simp only [hv, if_false] at hm
          rw [List.mem_singleton.mp hm]
          rcases h1 with h1 | h1
          · omega
          · exact ⟨h1.1, h2⟩
theorem csK_run {n : Nat} {b : Nat → Bool} {c : Nat → Option Nat} (hc : ∀ i v, c i = some v → canC b v ∧ i < n) (z : Nat → Nat) : ∀ (k : Nat) (i : Nat), runK (csK c k) z i = if i < k then (match c i with | some v => v | none => z i) else z i
  | 0, i => by simp [csK, runK]
  | k + 1, i => by
    have ih := csK_run hc z k
    unfold csK
    rw [runK_app]
    cases hq : c k with
    | none =>
      show runK (csK c k) z i = _
      rw [ih i]
      by_cases e : i = k
      · subst e; simp [hq]
      · by_cases h : i < k
        · simp [h, show i < k + 1 by omega]
        · simp [h, show ¬ i < k + 1 by omega]
    | some v =>
      obtain ⟨h1, h2⟩ := hc k v hq
      have key : runK (if v < 4 then [(0, k, v)] else [(3, k, 0)]) (runK (csK c k) z) i = if i = k then v else runK (csK c k) z i := by
        by_cases hv : v < 4
        · simp [hv, runK, mvK, va_up]
        · have h4 : v = 4 := by rcases h1 with h1 | h1 <;> omega
          simp [h4, runK, mvK, va_up]
      rw [key, ih i]
      by_cases e : i = k
      · subst e; simp [hq]
      · by_cases h : i < k
        · simp [e, h, show i < k + 1 by omega]
        · simp [e, h, show ¬ i < k + 1 by omega]
/-- a path with its swaps and doublings made otherwise, and its constants put last -/
theorem lastK {n : Nat} {b : Nat → Bool} (x : Nat → Nat) {ms : List (Nat × Nat × Nat)} (hok : ∀ m ∈ ms, okK n b m) {B : Nat} (hB : ∀ w : List (Nat × Nat × Nat), (∀ m ∈ w, okK n b m ∧ isST m) → ∃ w' : List (Nat × Nat × Nat), (∀ m ∈ w', okK n b m ∧ isST m) ∧ w'.length ≤ B ∧ ∀ i, i < n → runK w' id i = runK w id i) : ∃ ms' : List (Nat × Nat × Nat), (∀ m ∈ ms', okK n b m) ∧ ms'.length ≤ B + n ∧ ∀ i, i < n → runK ms' x i = runK ms x i := by
  obtain ⟨w, c, hw, hc, he⟩ := sepK x ms hok
  obtain ⟨w', hw', hl, hr⟩ := hB w hw
  refine ⟨w' ++ csK c n, fun m hm => ?_, ?_, fun i hi => ?_⟩
  · rcases List.mem_append.mp hm with hm | hm
    · exact (hw' m hm).1
    · exact csK_ok hc n (Nat.le_refl _) m hm
  · rw [List.length_append]
    have := csK_len c n
    omega
  · rw [runK_app, csK_run hc, if_pos hi, he]
    have h1 : runK w' x i = x (runK w' id i) := congrFun (natK (x := x) w' id (fun m hm => (hw' m hm).2)) i
    unfold mix
    cases hq : c i with
    | some v => rfl
    | none =>
      show runK w' x i = x (runK w id i)
      rw [h1, hr i hi]
