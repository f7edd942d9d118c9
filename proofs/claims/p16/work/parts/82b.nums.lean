/-! numbers of the class's table -/
theorem byte_id : ∀ d, d < 128 → vp_nar .byte ((nI d).toInt8.toInt32) = nI d := by decide +kernel
theorem byte_m6 : vp_nar .byte (-6) = (-6) := by decide
theorem wgt_5 {j : Nat} (h : j < 6) : wgt (nI j) = nI (5 ^ (6 - 1 - j)) := wgt_nI h
theorem p5_5 (j : Nat) : 5 ^ (6 - 1 - j) ≤ 3125 := p55 (j := j)
theorem sgn_5 {a j : Nat} (ha : a < 5 ^ 6) (hj : j < 6) : sgn (nI a) (nI (5 ^ (6 - 1 - j))) = nI (dg 6 a j) := by
  have h := sgn_nI ha hj
  rw [wgt_5 hj] at h
  exact h
/-- two digits beside each other -/
theorem dg_two {c j : Nat} (hj : j + 1 < 6) : dg 6 c j * 5 ^ (6 - 1 - j) + dg 6 c (j + 1) * 5 ^ (6 - 1 - (j + 1)) ≤ c := by
  have e : 6 - 1 - j = (6 - 1 - (j + 1)) + 1 := by omega
  have h1 := split5 c (6 - 1 - (j + 1))
  have h2 := split5 c ((6 - 1 - (j + 1)) + 1)
  unfold dg
  rw [e]
  generalize 6 - 1 - (j + 1) = n at *
  have h3 : c / 5 ^ (n + 1) * 5 ^ (n + 1) = c / 5 ^ (n + 1 + 1) * 5 ^ (n + 1 + 1) + c / 5 ^ (n + 1) % 5 * 5 ^ (n + 1) := by
    have h4 := Nat.div_add_mod (c / 5 ^ (n + 1)) 5
    have h5 : c / 5 ^ (n + 1 + 1) = c / 5 ^ (n + 1) / 5 := by rw [Nat.pow_succ 5 (n + 1), Nat.div_div_eq_div_mul]
    rw [h5, Nat.pow_succ 5 (n + 1), Nat.mul_comm (5 ^ (n + 1)) 5, ← Nat.mul_assoc, ← Nat.add_mul]
    congr 1
    omega
  omega
theorem swp_val {c j : Nat} (hc : c < 5 ^ 6) (hj : j + 1 < 6) : slN 6 c (1, j, 0) = c - dg 6 c j * (5 * 5 ^ (6 - 1 - (j + 1))) + dg 6 c (j + 1) * (5 * 5 ^ (6 - 1 - (j + 1))) - dg 6 c (j + 1) * 5 ^ (6 - 1 - (j + 1)) + dg 6 c j * 5 ^ (6 - 1 - (j + 1)) := by
  have e : 5 ^ (6 - 1 - j) = 5 * 5 ^ (6 - 1 - (j + 1)) := by rw [show 6 - 1 - j = (6 - 1 - (j + 1)) + 1 by omega, Nat.pow_succ, Nat.mul_comm]
  show wN 6 (wN 6 c j (dg 6 c (j + 1))) (j + 1) (dg 6 c j) = _
  have hd : dg 6 (wN 6 c j (dg 6 c (j + 1))) (j + 1) = dg 6 c (j + 1) := by rw [dg_wN (by omega) hj (dg_lt _ _ _), if_neg (by omega)]
  unfold wN at hd ⊢
  rw [hd, e]
theorem swp_num {c l g w : Nat} (h : l * (5 * w) + g * w ≤ c) : nI c + (nI g - nI l) * (nI (5 * w) - nI w) = nI (c - l * (5 * w) + g * (5 * w) - g * w + l * w) := by
  have e4 : nI (5 * w) - nI w = nI (4 * w) := by rw [pk_sub (show w ≤ 5 * w by omega)]; congr 1; omega
  rw [e4]
  have n1 : l * (5 * w) = 5 * (l * w) := by rw [← Nat.mul_assoc, Nat.mul_comm l 5, Nat.mul_assoc]
  have n2 : g * (5 * w) = 5 * (g * w) := by rw [← Nat.mul_assoc, Nat.mul_comm g 5, Nat.mul_assoc]
  rcases Nat.lt_or_ge g l with q | q
  · have e5 : nI g - nI l = -nI (l - g) := by rw [← pk_sub (show g ≤ l by omega), Int32.neg_sub]
    have n3 : (l - g) * (4 * w) = 4 * (l * w) - 4 * (g * w) := by rw [← Nat.mul_assoc, Nat.mul_comm (l - g) 4, Nat.mul_assoc, Nat.sub_mul, Nat.mul_sub]
    have n4 : g * w ≤ l * w := Nat.mul_le_mul_right _ (by omega)
    rw [e5, Int32.neg_mul, pk_mul, ← Int32.sub_eq_add_neg, pk_sub (by omega)]
    congr 1
    omega
  · have n3 : (g - l) * (4 * w) = 4 * (g * w) - 4 * (l * w) := by rw [← Nat.mul_assoc, Nat.mul_comm (g - l) 4, Nat.mul_assoc, Nat.sub_mul, Nat.mul_sub]
    have n4 : l * w ≤ g * w := Nat.mul_le_mul_right _ q
    rw [pk_sub q, pk_mul, nI_add]
    congr 1
    omega
/-- marks of a goal -/
def gmk (go : Int32) (j : Nat) : Int32 := (go >>> ((3 * nI j) &&& 31)) &&& 7
def gS (k : Nat) (go : Int32) (x : Nat) : Prop := ∀ j, j < k → gmk go j = 5 ∨ gmk go j = nI (dg k x j)
/-- the digits before site j -/
def lowD (k j x a : Nat) : Prop := ∀ i, i < j → i < k → dg k x i = dg k a i
theorem put_0 {k a j o : Nat} (hk : k ≤ 6) (hj : j < k) (hz : dg k a j = 0) : sc k a + o * 5 ^ (6 - 1 - j) = sc k (wN k a j o) := by
  rw [← wN_sc hk hj]
  unfold wN
  rw [dg_sc hk hj, hz, Nat.zero_mul, Nat.sub_zero]
theorem clr_put {k a j o : Nat} (hk : k ≤ 6) (hj : j < k) : sc k a - dg k a j * 5 ^ (6 - 1 - j) + o * 5 ^ (6 - 1 - j) = sc k (wN k a j o) := by
  rw [← wN_sc hk hj]
  unfold wN
  rw [dg_sc hk hj]
theorem dg_fit {k a j : Nat} (hk : k ≤ 6) (hj : j < k) : dg k a j * 5 ^ (6 - 1 - j) ≤ sc k a := by
  have h := dg_le 6 (sc k a) j
  rw [dg_sc hk hj] at h
  exact h
theorem swp_code {k a j : Nat} (hk : k ≤ 6) (ha : a < 5 ^ k) (hj : j < k) (h1 : 1 ≤ j) : nI (sc k a) + (nI (dg k a j) - nI (dg k a (j - 1))) * (nI (5 * 5 ^ (6 - 1 - j)) - nI (5 ^ (6 - 1 - j))) = nI (sc k (slN k a (1, j - 1, 0))) := by
  obtain ⟨i, rfl⟩ : ∃ i, j = i + 1 := ⟨j - 1, by omega⟩
  rw [show i + 1 - 1 = i by omega]
  have hc := sc_lt hk ha
  have ht := dg_two (c := sc k a) (j := i) (by omega)
  rw [dg_sc hk hj, dg_sc hk (by omega)] at ht
  have e : 5 ^ (6 - 1 - i) = 5 * 5 ^ (6 - 1 - (i + 1)) := by rw [show 6 - 1 - i = (6 - 1 - (i + 1)) + 1 by omega, Nat.pow_succ, Nat.mul_comm]
  rw [e] at ht
  rw [swp_num ht, ← slN_sc hk (Or.inr (Or.inl ⟨rfl, hj, rfl⟩)), swp_val hc (by omega), dg_sc hk hj, dg_sc hk (by omega)]
theorem swp_same {k a j : Nat} (ha : a < 5 ^ k) (hj : j < k) (h1 : 1 ≤ j) (e : dg k a (j - 1) = dg k a j) : slN k a (1, j - 1, 0) = a := by
  have hok : okV k 1 (j - 1) 0 := Or.inr (Or.inl ⟨rfl, by omega, rfl⟩)
  refine dg_ext (slN_lt ha hok) ha (fun i hi => ?_)
  rw [dg_slN hok i hi]
  show (if i = j - 1 then dg k a (j - 1 + 1) else if i = j - 1 + 1 then dg k a (j - 1) else dg k a i) = _
  rw [show j - 1 + 1 = j by omega]
  by_cases e1 : i = j - 1
  · rw [if_pos e1, ← e, e1]
  · rw [if_neg e1]
    by_cases e2 : i = j
    · rw [if_pos e2, e, e2]
    · rw [if_neg e2]
theorem cnt5_k {k : Nat} (h2 : 2 ≤ k) (h6 : k ≤ 6) : cnt5 (nI k) = nI (5 ^ k) := by
  have e : nI k - 1 = nI (k - 1) := by rw [show k = (k - 1) + 1 by omega, nI_pred, show k - 1 + 1 - 1 = k - 1 by omega]
  unfold cnt5
  rw [e, wgt_5 (by omega)]
  rcases (show k = 2 ∨ k = 3 ∨ k = 4 ∨ k = 5 ∨ k = 6 by omega) with rfl | rfl | rfl | rfl | rfl
  · rw [cIf_f (by decide)]; decide
  · rw [cIf_f (by decide)]; decide
  · rw [cIf_f (by decide)]; decide
  · rw [cIf_f (by decide)]; decide
  · rw [cIf_f (by decide)]; decide
theorem lowD_k {k x a : Nat} (hx : x < 5 ^ k) (ha : a < 5 ^ k) (h : lowD k k x a) : x = a := dg_ext hx ha (fun j hj => h j hj hj)
theorem lowD_s {k j x a : Nat} (hj : j < k) (h : lowD k j x a) : lowD k (j + 1) x (wN k a j (dg k x j)) := by
  intro i hi hik
  rw [dg_wN hj hik (dg_lt _ _ _)]
  by_cases e : i = j
  · rw [if_pos e, e]
  · rw [if_neg e]; exact h i (by omega) hik
theorem known_sc {k x : Nat} {fs : Nat → Int32} (hk : k ≤ 6) (hx : x < 5 ^ k) : cIf (inR (nI (sc k x)) 0 15624) (fs (nI (sc k x)).toNatClampNeg) (-6) = fS k fs x := by
  have h := sc_lt hk hx
  have h15 : (5 : Nat) ^ 6 = 15625 := by decide
  rw [cIf_t (show inR (nI (sc k x)) 0 15624 from inRm (n := 15624) (by decide) (show sc k x ≤ 15624 by omega) rfl), nI_clamp (by omega)]
  rfl
theorem dg_zero {k i : Nat} : dg k 0 i = 0 := by unfold dg; rw [Nat.zero_div]
theorem sc_zero2 {k : Nat} : nI (sc k 0) = 0 := by unfold sc; rw [Nat.zero_mul]; rfl
