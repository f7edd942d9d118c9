/-! maps of the class: six digits, those behind the sites 0 -/
def sc (k a : Nat) : Nat := a * 5 ^ (6 - k)
theorem sc_lt {k a : Nat} (hk : k ≤ 6) (ha : a < 5 ^ k) : sc k a < 5 ^ 6 := by
  unfold sc
  have h : a * 5 ^ (6 - k) < 5 ^ k * 5 ^ (6 - k) := Nat.mul_lt_mul_of_pos_right ha (p5_pos _)
  rw [← Nat.pow_add, show k + (6 - k) = 6 by omega] at h
  exact h
theorem sc_inj {k a b : Nat} (h : sc k a = sc k b) : a = b := Nat.eq_of_mul_eq_mul_right (p5_pos (6 - k)) h
theorem dg_sc {k a j : Nat} (hk : k ≤ 6) (hj : j < k) : dg 6 (sc k a) j = dg k a j := by
  unfold dg sc
  rw [show 6 - 1 - j = (k - 1 - j) + (6 - k) by omega, Nat.pow_add, Nat.mul_div_mul_right _ _ (p5_pos _)]
theorem dg_sc_out {k a j : Nat} (hj : k ≤ j) (h6 : j < 6) : dg 6 (sc k a) j = 0 := by
  unfold dg sc
  have e : (5 : Nat) ^ (6 - k) = 5 ^ (j - k) * 5 * 5 ^ (6 - 1 - j) := by rw [← Nat.pow_succ, ← Nat.pow_add]; congr 1; omega
  rw [e, ← Nat.mul_assoc, Nat.mul_div_cancel _ (p5_pos _), ← Nat.mul_assoc, Nat.mul_mod_left]
theorem wN_sc {k a j g : Nat} (hk : k ≤ 6) (hj : j < k) : wN 6 (sc k a) j g = sc k (wN k a j g) := by
  have e : (5 : Nat) ^ (6 - 1 - j) = 5 ^ (k - 1 - j) * 5 ^ (6 - k) := by rw [← Nat.pow_add]; congr 1; omega
  unfold wN
  rw [dg_sc hk hj, e]
  unfold sc
  rw [Nat.add_mul, Nat.sub_mul, Nat.mul_assoc, Nat.mul_assoc]
theorem slN_sc {k a m0 mj mg : Nat} (hk : k ≤ 6) (h : okV k m0 mj mg) : slN 6 (sc k a) (m0, mj, mg) = sc k (slN k a (m0, mj, mg)) := by
  rcases h with ⟨rfl, h1, h2⟩ | ⟨rfl, h1, h2⟩ | ⟨rfl, h1, h2⟩ | ⟨rfl, h1, h2⟩
  · exact wN_sc hk h1
  · show wN 6 (wN 6 (sc k a) mj (dg 6 (sc k a) (mj + 1))) (mj + 1) (dg 6 (sc k a) mj) = sc k (wN k (wN k a mj (dg k a (mj + 1))) (mj + 1) (dg k a mj))
    rw [dg_sc hk h1, dg_sc hk (by omega), wN_sc hk (by omega), wN_sc hk h1]
  · show wN 6 (sc k a) (mj + 1) (dg 6 (sc k a) mj) = sc k (wN k a (mj + 1) (dg k a mj))
    rw [dg_sc hk (by omega), wN_sc hk h1]
  · exact wN_sc hk h1
theorem okV_six {k m0 mj mg : Nat} (hk : k ≤ 6) (h : okV k m0 mj mg) : okV 6 m0 mj mg := by
  unfold okV at *
  omega
/-! what the class's leaves answer, in naturals -/
theorem wgt_nI {j : Nat} (h : j < 6) : wgt (nI j) = nI (5 ^ (5 - j)) := by
  unfold wgt
  rw [cIf_t (by have e := nI_toInt (n := j) (by omega); simp only [inR, i3_le, e, Int32.reduceToInt]; omega), nI_clamp (by omega)]
  rcases (show j = 0 ∨ j = 1 ∨ j = 2 ∨ j = 3 ∨ j = 4 ∨ j = 5 by omega) with rfl | rfl | rfl | rfl | rfl | rfl <;> rfl
theorem p55 {j : Nat} : 5 ^ (5 - j) ≤ 3125 := Nat.le_trans (Nat.pow_le_pow_right (by decide) (show 5 - j ≤ 5 by omega)) (by decide)
theorem sgn_nI {a j : Nat} (ha : a < 5 ^ 6) (hj : j < 6) : sgn (nI a) (wgt (nI j)) = nI (dg 6 a j) := by
  have h15 : (5 : Nat) ^ 6 = 15625 := by decide
  have h := p55 (j := j)
  rw [wgt_nI hj]
  unfold sgn
  rw [cIf_f (by intro q; have e := nI_toInt (n := 5 ^ (5 - j)) (by omega); simp only [i3_lt, e, Int32.reduceToInt] at q; have := p5_pos (5 - j); omega), pk_div (by omega) (p5_pos _) (by omega)]
  have h6 : a / 5 ^ (5 - j) ≤ a := Nat.div_le_self _ _
  exact pk_rem (d := 5) (by omega) (by decide) (by decide)
theorem wth_nI {a j g : Nat} (ha : a < 5 ^ 6) (hj : j < 6) : wth (nI a) (nI j) (nI g) = nI (wN 6 a j g) := by
  unfold wth
  rw [sgn_nI ha hj, wgt_nI hj]
  exact nI_with (dg_le 6 a j)
theorem aft_nI {a sv m0 mj mg : Nat} (ha : a < 5 ^ 6) (hok : okV 6 m0 mj mg) (hsv : sv = 100 * m0 + 10 * mj + mg) : aft (nI a) (nI sv) = nI (slN 6 a (m0, mj, mg)) := by
  have h4 : sv < 400 ∧ sv / 100 = m0 ∧ sv / 10 % 10 = mj ∧ sv % 10 = mg := by unfold okV at hok; omega
  have e1 : nI sv / 100 = nI m0 := by rw [← h4.2.1]; exact pk_div (d := 100) (by omega) (by decide) (by decide)
  have e2 : q10 (nI sv) = nI mj := by
    unfold q10
    rw [show nI sv / 10 = nI (sv / 10) from pk_div (d := 10) (by omega) (by decide) (by decide), ← h4.2.2.1]
    exact pk_rem (d := 10) (by omega) (by decide) (by decide)
  have e3 : nI sv - nI sv / 10 * 10 = nI mg := by rw [← h4.2.2.2]; exact pk_rem (d := 10) (by omega) (by decide) (by decide)
  have h0 : (0 : Int32) ≤ nI sv := nI_pos' (by omega)
  have hne : ∀ {x y : Nat}, x < 10 → y < 10 → ¬ x = y → ¬ nI x = nI y := fun hx hy h e => h ((nI_eq (by omega) (by omega)).mp e)
  unfold aft
  rw [cIf_t h0, e1, e2, e3]
  rcases hok with ⟨rfl, h1, h2⟩ | ⟨rfl, h1, h2⟩ | ⟨rfl, h1, h2⟩ | ⟨rfl, h1, h2⟩
  · rw [cIf_t (show nI 0 = 0 from rfl), wth_nI ha h1]; rfl
  · rw [cIf_f (by decide), cIf_t (show nI 1 = 1 from rfl), nI_1, sgn_nI ha h1, sgn_nI ha (by omega), wth_nI ha (by omega), wth_nI (wN_lt ha (by omega) (dg_lt _ _ _)) h1]; rfl
  · rw [cIf_f (by decide), cIf_f (by decide), cIf_t (show nI 2 = 2 from rfl), nI_1, sgn_nI ha (by omega), wth_nI ha h1]; rfl
  · rw [cIf_f (by decide), cIf_f (by decide), cIf_f (by decide), cIf_t (show nI 3 = 3 from rfl)]
    exact wth_nI (g := 4) ha h1
/-! how many sites of two maps are unlike -/
def unl (k a b : Nat) : Nat → Nat
  | 0 => 0
  | n + 1 => unl k a b n + (if dg k a n = dg k b n then 0 else 1)
theorem unl_t {k a b n : Nat} (h : dg k a n = dg k b n) : unl k a b (n + 1) = unl k a b n := by
  show unl k a b n + _ = _
  rw [if_pos h]; rfl
theorem unl_f {k a b n : Nat} (h : ¬ dg k a n = dg k b n) : unl k a b (n + 1) = unl k a b n + 1 := by
  show unl k a b n + _ = _
  rw [if_neg h]
theorem unl_sc {k a b : Nat} (hk : k ≤ 6) : ∀ n, n ≤ k → unl 6 (sc k a) (sc k b) n = unl k a b n
  | 0, _ => rfl
  | n + 1, h => by
    show unl 6 (sc k a) (sc k b) n + _ = unl k a b n + _
    rw [unl_sc hk n (by omega), dg_sc hk (by omega), dg_sc hk (by omega)]
theorem unl_out {k a b : Nat} (hk : k ≤ 6) : ∀ d, k + d ≤ 6 → unl 6 (sc k a) (sc k b) (k + d) = unl k a b k
  | 0, _ => unl_sc hk k (Nat.le_refl _)
  | d + 1, h => by
    show unl 6 (sc k a) (sc k b) (k + d) + (if dg 6 (sc k a) (k + d) = dg 6 (sc k b) (k + d) then 0 else 1) = _
    rw [dg_sc_out (k := k) (j := k + d) (by omega) (by omega), dg_sc_out (k := k) (j := k + d) (by omega) (by omega), if_pos rfl]
    exact unl_out hk d (by omega)
theorem unl_six {k a b : Nat} (hk : k ≤ 6) : unl 6 (sc k a) (sc k b) 6 = unl k a b k := by
  have h := unl_out (k := k) (a := a) (b := b) hk (6 - k) (by omega)
  rw [show k + (6 - k) = 6 by omega] at h
  exact h
/-! bits -/
theorem and1 (x : Int32) : x &&& 1 = 0 ∨ x &&& 1 = 1 := by
  obtain ⟨j, hj, e⟩ := pk_andE x (m := 1) 1 (by decide)
  rcases (show j = 0 ∨ j = 1 by omega) with rfl | rfl
  · exact Or.inl e
  · exact Or.inr e
theorem td_of {told p : Int32} (hp : inR p 0 5) : isOfP told p ↔ tdP told p := by
  unfold isOfP tdP
  rcases and1 (told >>> (p &&& 31)) with h | h
  · rw [h]; exact ⟨fun q => absurd rfl q.2, fun q => absurd q (by decide)⟩
  · rw [h]; exact ⟨fun _ => rfl, fun _ => ⟨hp, by decide⟩⟩
theorem are_of {told set : Int32} : told &&& set = set ↔ set &&& (told ^^^ (-1)) = 0 := by
  constructor
  · intro h
    rw [← h]
    apply Int32.toBitVec_inj.mp
    simp only [Int32.toBitVec_and, Int32.toBitVec_xor, Int32.toBitVec_zero]
    rw [show (-1 : Int32).toBitVec = BitVec.allOnes 32 by decide, BitVec.xor_allOnes]
    apply BitVec.eq_of_getLsbD_eq
    intro i hi
    simp [hi]
    intro q1 q2
    exact q1
  · intro h
    have h2 := congrArg Int32.toBitVec h
    simp only [Int32.toBitVec_and, Int32.toBitVec_xor, Int32.toBitVec_zero] at h2
    rw [show (-1 : Int32).toBitVec = BitVec.allOnes 32 by decide, BitVec.xor_allOnes] at h2
    apply Int32.toBitVec_inj.mp
    simp only [Int32.toBitVec_and]
    apply BitVec.eq_of_getLsbD_eq
    intro i hi
    have h3 := congrArg (fun v => v.getLsbD i) h2
    simp [hi] at h3 ⊢
    cases q4 : told.toBitVec[i] <;> cases q5 : set.toBitVec[i] <;> simp_all
/-! signs as they are written -/
theorem wri_nI {d : Nat} (h : d < 5) : wri (nI d) = cIf (nI d = 4) 45 (97 + nI d) := by
  unfold wri
  rw [cIf_t (by have e := nI_toInt (n := d) (by omega); simp only [inR, i3_le, e, Int32.reduceToInt]; omega), nI_clamp (by omega)]
  rcases (show d = 0 ∨ d = 1 ∨ d = 2 ∨ d = 3 ∨ d = 4 by omega) with rfl | rfl | rfl | rfl | rfl
  · rw [cIf_f (by decide)]; rfl
  · rw [cIf_f (by decide)]; rfl
  · rw [cIf_f (by decide)]; rfl
  · rw [cIf_f (by decide)]; rfl
  · rw [cIf_t (show nI 4 = 4 from rfl)]; rfl
/-- a mark that may stand on a map (or in a wish): the class's number and the reference's sign -/
theorem mark_sgO {c : Int32} : (0 ≤ sgO c ↔ ¬ (num c < 0 ∨ 4 < num c)) ∧ (0 ≤ sgO c → num c = sgO c) ∧ (c = 63 ↔ num c = 5) := by
  by_cases h1 : c = 97
  · subst h1; unfold sgO num; rw [cIf_f (by decide), cIf_t (by unfold inR; decide), cIf_t rfl]; decide
  by_cases h2 : c = 98
  · subst h2; unfold sgO num; rw [cIf_f (by decide), cIf_t (by unfold inR; decide), cIf_f (by decide), cIf_t rfl]; decide
  by_cases h3 : c = 99
  · subst h3; unfold sgO num; rw [cIf_f (by decide), cIf_t (by unfold inR; decide), cIf_f (by decide), cIf_f (by decide), cIf_t rfl]; decide
  by_cases h4 : c = 100
  · subst h4; unfold sgO num; rw [cIf_f (by decide), cIf_t (by unfold inR; decide), cIf_f (by decide), cIf_f (by decide), cIf_f (by decide), cIf_t rfl]; decide
  by_cases h5 : c = 45
  · subst h5; unfold sgO num; rw [cIf_t rfl, cIf_f (by decide), cIf_f (by decide), cIf_f (by decide), cIf_f (by decide), cIf_t rfl]; decide
  have hn : ¬ inR c 97 100 := by
    intro h
    obtain ⟨g, hg, e⟩ := sub97 h
    have hc : c = 97 + nI g := by rw [← e, Int32.add_comm, Int32.sub_add_cancel]
    rcases (show g = 0 ∨ g = 1 ∨ g = 2 ∨ g = 3 by omega) with rfl | rfl | rfl | rfl
    · exact h1 (hc.trans (by decide))
    · exact h2 (hc.trans (by decide))
    · exact h3 (hc.trans (by decide))
    · exact h4 (hc.trans (by decide))
  unfold sgO num
  rw [cIf_f h5, cIf_f hn, cIf_f (fun e => h1 e.symm), cIf_f (fun e => h2 e.symm), cIf_f (fun e => h3 e.symm), cIf_f (fun e => h4 e.symm), cIf_f (fun e => h5 e.symm)]
  by_cases h6 : c = 63
  · rw [cIf_t h6.symm]; exact ⟨by decide, by decide, by rw [h6]; decide⟩
  · rw [cIf_f (fun e => h6 e.symm)]; exact ⟨by decide, by decide, fun e => absurd e h6, fun e => absurd e (by decide)⟩
theorem kdO_knd {c : Int32} : (kdO c < 0 ↔ knd c < 0) ∧ (¬ kdO c < 0 → kdO c = knd c) := by
  unfold kdO knd
  by_cases h1 : c = 99
  · rw [cIf_t h1, cIf_t h1]; decide
  · rw [cIf_f h1, cIf_f h1]
    by_cases h2 : c = 115
    · rw [cIf_t h2, cIf_f (by rw [h2]; decide), cIf_t h2]; decide
    · rw [cIf_f h2]
      by_cases h3 : c = 116
      · rw [cIf_t h3, cIf_f (by rw [h3]; decide), cIf_f h2, cIf_t h3]; decide
      · rw [cIf_f h3]
        by_cases h4 : c = 111
        · rw [cIf_t h4, cIf_t h4]; decide
        · rw [cIf_f h4, cIf_f h4, cIf_f h2, cIf_f h3]; decide
