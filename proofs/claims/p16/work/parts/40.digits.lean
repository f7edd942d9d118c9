/-! a map as a number of k digits to the base 5, site 0 the weightiest -/
def dg (k a j : Nat) : Nat := a / 5 ^ (k - 1 - j) % 5
def wN (k a j g : Nat) : Nat := a - dg k a j * 5 ^ (k - 1 - j) + g * 5 ^ (k - 1 - j)
theorem dg_lt (k a j : Nat) : dg k a j < 5 := Nat.mod_lt _ (by decide)
theorem p5_pos (n : Nat) : 0 < 5 ^ n := Nat.pow_pos (by decide)
theorem dg_le (k a j : Nat) : dg k a j * 5 ^ (k - 1 - j) ≤ a := by
  unfold dg
  exact Nat.le_trans (Nat.mul_le_mul_right _ (Nat.mod_le _ _)) (Nat.div_mul_le_self a _)
/-- a number by its high part, a digit and its low part -/
theorem split5 (a e : Nat) : a = (a / 5 ^ (e + 1)) * 5 ^ (e + 1) + (a / 5 ^ e % 5) * 5 ^ e + a % 5 ^ e := by
  have h1 := Nat.div_add_mod a (5 ^ e)
  have h2 := Nat.div_add_mod (a / 5 ^ e) 5
  have h3 : a / 5 ^ (e + 1) = a / 5 ^ e / 5 := by rw [Nat.pow_succ, Nat.div_div_eq_div_mul]
  have h4 : (5 : Nat) ^ (e + 1) = 5 * 5 ^ e := by rw [Nat.pow_succ, Nat.mul_comm]
  rw [h3, h4]
  have h5 : a / 5 ^ e / 5 * (5 * 5 ^ e) = (5 * (a / 5 ^ e / 5)) * 5 ^ e := by rw [← Nat.mul_assoc, Nat.mul_comm (a / 5 ^ e / 5) 5]
  rw [h5, ← Nat.add_mul, h2, Nat.mul_comm (a / 5 ^ e) (5 ^ e), h1]
theorem wN_eq (k a j g : Nat) : wN k a j g = (a / 5 ^ (k - 1 - j + 1)) * 5 ^ (k - 1 - j + 1) + g * 5 ^ (k - 1 - j) + a % 5 ^ (k - 1 - j) := by
  have h := split5 a (k - 1 - j)
  unfold wN dg
  omega
theorem wN_lt {k a j g : Nat} (ha : a < 5 ^ k) (hj : j < k) (hg : g < 5) : wN k a j g < 5 ^ k := by
  rw [wN_eq]
  obtain ⟨e, he⟩ : ∃ e, e = k - 1 - j := ⟨_, rfl⟩
  rw [← he]
  have h1 : a % 5 ^ e < 5 ^ e := Nat.mod_lt _ (p5_pos e)
  have h2 : g * 5 ^ e + a % 5 ^ e < 5 ^ (e + 1) := by
    have : (g + 1) * 5 ^ e ≤ 5 * 5 ^ e := Nat.mul_le_mul_right _ (by omega)
    rw [Nat.add_mul, Nat.one_mul] at this
    rw [Nat.pow_succ, Nat.mul_comm (5 ^ e) 5]
    omega
  have h3 : a / 5 ^ (e + 1) < 5 ^ (k - (e + 1)) := by
    rw [Nat.div_lt_iff_lt_mul (p5_pos _), ← Nat.pow_add, show k - (e + 1) + (e + 1) = k by omega]
    exact ha
  have h4 : (a / 5 ^ (e + 1) + 1) * 5 ^ (e + 1) ≤ 5 ^ (k - (e + 1)) * 5 ^ (e + 1) := Nat.mul_le_mul_right _ h3
  rw [← Nat.pow_add, show k - (e + 1) + (e + 1) = k by omega, Nat.add_mul, Nat.one_mul] at h4
  omega
theorem dg_high (a e c r : Nat) (hr : r < 5 ^ e) : (c * 5 ^ e + r) / 5 ^ e = c := by
  rw [Nat.mul_comm, Nat.mul_add_div (p5_pos e), Nat.div_eq_of_lt hr, Nat.add_zero]
theorem dg_wN_same {k a j g : Nat} (hg : g < 5) : dg k (wN k a j g) j = g := by
  rw [wN_eq]
  unfold dg
  have h1 : a % 5 ^ (k - 1 - j) < 5 ^ (k - 1 - j) := Nat.mod_lt _ (p5_pos _)
  have h2 : (a / 5 ^ (k - 1 - j + 1)) * 5 ^ (k - 1 - j + 1) + g * 5 ^ (k - 1 - j) + a % 5 ^ (k - 1 - j) = (a / 5 ^ (k - 1 - j + 1) * 5 + g) * 5 ^ (k - 1 - j) + a % 5 ^ (k - 1 - j) := by
    rw [Nat.add_mul, Nat.pow_succ, Nat.mul_comm (5 ^ (k - 1 - j)) 5, ← Nat.mul_assoc]
  rw [h2, dg_high a _ _ _ h1]
  omega
theorem nI_with {a d g P : Nat} (h : d * P ≤ a) : nI a + (nI g - nI d) * nI P = nI (a - d * P + g * P) := by
  have e1 : nI a = nI (a - d * P) + nI (d * P) := by rw [nI_add, Nat.sub_add_cancel h]
  rw [e1, Int32.sub_mul, pk_mul, pk_mul, ← nI_add]
  rw [Int32.add_assoc, Int32.add_comm (nI (d * P)), Int32.sub_add_cancel]
theorem dg_wN_lo {k a i j g : Nat} (hj : j < k) (hi : i < k) (h : j < i) : dg k (wN k a j g) i = dg k a i := by
  have e2 : (5 : Nat) ^ (k - 1 - j) = 5 ^ (i - j) * 5 ^ (k - 1 - i) := by rw [← Nat.pow_add]; congr 1; omega
  have e3 : (5 : Nat) ^ (i - j) = 5 ^ (i - j - 1) * 5 := by rw [← Nat.pow_succ]; congr 1; omega
  have hs := split5 a (k - 1 - j)
  rw [wN_eq]
  unfold dg
  obtain ⟨P, hP⟩ : ∃ P, P = 5 ^ (k - 1 - i) := ⟨_, rfl⟩
  obtain ⟨M, hM⟩ : ∃ M, M = 5 ^ (i - j - 1) := ⟨_, rfl⟩
  have h5 : (5 : Nat) ^ (k - 1 - j) = (M * 5) * P := by rw [e2, e3, hM, hP]
  have h6 : (5 : Nat) ^ (k - 1 - j + 1) = (M * 5 * 5) * P := by rw [Nat.pow_succ, h5, Nat.mul_right_comm]
  have hPp : 0 < P := by rw [hP]; exact p5_pos _
  rw [← hP]
  have key : ∀ x y r : Nat, (x * (M * 5 * 5 * P) + y * (M * 5 * P) + r) / P % 5 = r / P % 5 := by
    intro x y r
    have : x * (M * 5 * 5 * P) + y * (M * 5 * P) + r = P * (5 * (x * (M * 5) + y * M)) + r := by
      have a1 : x * (M * 5 * 5 * P) = P * (5 * (x * (M * 5))) := by
        rw [Nat.mul_comm P, Nat.mul_comm 5 (x * (M * 5)), Nat.mul_assoc x, ← Nat.mul_assoc x, ← Nat.mul_assoc x]
      have a2 : y * (M * 5 * P) = P * (5 * (y * M)) := by
        rw [Nat.mul_comm P, Nat.mul_comm 5 (y * M), Nat.mul_assoc y, ← Nat.mul_assoc y, ← Nat.mul_assoc y]
      rw [a1, a2, ← Nat.mul_add, ← Nat.mul_add]
    rw [this, Nat.mul_add_div hPp, Nat.add_comm, Nat.add_mul_mod_self_left]
  rw [h5, h6, key]
  rw [h5, h6] at hs
  conv => rhs; rw [hs]
  rw [key]
theorem dg_ext {a b : Nat} : ∀ {k : Nat}, a < 5 ^ k → b < 5 ^ k → (∀ j, j < k → dg k a j = dg k b j) → a = b := by
  have main : ∀ (k : Nat) (a b : Nat), a < 5 ^ k → b < 5 ^ k → (∀ e, e < k → a / 5 ^ e % 5 = b / 5 ^ e % 5) → a = b := by
    intro k
    induction k with
    | zero => intro a b ha hb _; simp at ha hb; omega
    | succ k ih =>
      intro a b ha hb h
      have h0 := h 0 (by omega)
      simp only [Nat.pow_zero, Nat.div_one] at h0
      have h1 : a / 5 = b / 5 := by
        apply ih
        · rw [Nat.div_lt_iff_lt_mul (by decide)]; rw [Nat.pow_succ] at ha; exact ha
        · rw [Nat.div_lt_iff_lt_mul (by decide)]; rw [Nat.pow_succ] at hb; exact hb
        · intro e he
          have := h (e + 1) (by omega)
          rw [Nat.pow_succ, Nat.mul_comm, ← Nat.div_div_eq_div_mul, ← Nat.div_div_eq_div_mul] at this
          exact this
      omega
  intro k ha hb h
  refine main k a b ha hb (fun e he => ?_)
  have := h (k - 1 - e) (by omega)
  unfold dg at this
  rw [show k - 1 - (k - 1 - e) = e by omega] at this
  exact this
theorem dg_wN_hi {k a i j g : Nat} (hj : j < k) (hi : i < j) (hg : g < 5) : dg k (wN k a j g) i = dg k a i := by
  rw [wN_eq]
  unfold dg
  obtain ⟨e, he⟩ : ∃ e, e = k - 1 - j := ⟨_, rfl⟩
  rw [← he]
  have h1 : a % 5 ^ e < 5 ^ e := Nat.mod_lt _ (p5_pos e)
  have h2 : g * 5 ^ e + a % 5 ^ e < 5 ^ (e + 1) := by
    have : (g + 1) * 5 ^ e ≤ 5 * 5 ^ e := Nat.mul_le_mul_right _ (by omega)
    rw [Nat.add_mul, Nat.one_mul] at this
    rw [Nat.pow_succ, Nat.mul_comm (5 ^ e) 5]
    omega
  have e1 : (5 : Nat) ^ (k - 1 - i) = 5 ^ (e + 1) * 5 ^ (k - 1 - i - (e + 1)) := by rw [← Nat.pow_add]; congr 1; omega
  rw [e1, ← Nat.div_div_eq_div_mul, ← Nat.div_div_eq_div_mul, Nat.add_assoc, dg_high a _ _ _ h2]
/-- how many of the first n are below 0 -/
def cneg (f : Nat → Int32) : Nat → Nat
  | 0 => 0
  | n + 1 => cneg f n + (if f n < 0 then 1 else 0)
theorem cneg_out {f : Nat → Int32} {j : Nat} {v : Int32} : ∀ n : Nat, n ≤ j → cneg (upd f j v) n = cneg f n
  | 0, _ => rfl
  | n + 1, h => by
    show cneg (upd f j v) n + _ = cneg f n + _
    rw [cneg_out n (by omega), pk_un (by omega)]
theorem cneg_up {f : Nat → Int32} {j : Nat} {v : Int32} (h : f j < 0) (hv : ¬ v < 0) : ∀ n : Nat, j < n → cneg (upd f j v) n + 1 = cneg f n
  | 0, hj => absurd hj (Nat.not_lt_zero _)
  | n + 1, hj => by
    show cneg (upd f j v) n + _ + 1 = cneg f n + _
    by_cases e : j = n
    · subst e
      rw [cneg_out j (Nat.le_refl _), pk_us, if_neg hv, if_pos h]
    · rw [pk_un (fun q => e q.symm)]
      have := cneg_up h hv n (by omega)
      omega
theorem cneg_all {f : Nat → Int32} : ∀ n : Nat, (∀ j, j < n → f j < 0) → cneg f n = n
  | 0, _ => rfl
  | n + 1, h => by
    show cneg f n + _ = n + 1
    rw [cneg_all n (fun j hj => h j (by omega)), if_pos (h n (by omega))]
theorem cneg_pos {f : Nat → Int32} {j : Nat} (h : f j < 0) : ∀ n : Nat, j < n → 0 < cneg f n
  | 0, hj => absurd hj (Nat.not_lt_zero _)
  | n + 1, hj => by
    show 0 < cneg f n + _
    by_cases e : j = n
    · subst e; rw [if_pos h]; omega
    · have := cneg_pos h n (by omega)
      omega
