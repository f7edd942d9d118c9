/-! sums of how far it is to each map of a set -/
def isD (k : Nat) (b : Nat → Bool) (g x d : Nat) : Prop := pth k b g d x ∧ ∀ d2, d2 < d → ¬ pth k b g d2 x
theorem isD_fun {k : Nat} {b : Nat → Bool} {g x d d2 : Nat} (h : isD k b g x d) (h2 : isD k b g x d2) : d = d2 := by
  rcases Nat.lt_trichotomy d d2 with q | q | q
  · exact absurd h.1 (h2.2 d q)
  · exact q
  · exact absurd h2.1 (h.2 d2 q)
noncomputable def twN (k : Nat) (b : Nat → Bool) (g x : Nat) : Nat := pIf (∃ d, isD k b g x d) (Classical.epsilon (isD k b g x)) 1000
theorem twN_some {k : Nat} {b : Nat → Bool} {g x d : Nat} (h : isD k b g x d) : twN k b g x = d := by
  unfold twN
  rw [pIf_t ⟨d, h⟩]
  exact isD_fun (Classical.epsilon_spec (p := isD k b g x) ⟨d, h⟩) h
theorem twN_none {k : Nat} {b : Nat → Bool} {g x : Nat} (h : ∀ d, ¬ pth k b g d x) : twN k b g x = 1000 := pIf_f (fun ⟨d, q⟩ => h d q.1)
theorem pS_eq {k : Nat} {b : Nat → Bool} {g x d : Nat} (hg : g < 5 ^ k) : pS k b (fun z => z = g) d x ↔ pth k b g d x := by
  constructor
  · rintro ⟨z, z1, z2, z3⟩
    have z2 : z = g := z2
    rw [z2] at z3
    exact z3
  · intro q
    exact ⟨g, hg, rfl, q⟩
theorem twN_or {k : Nat} {b : Nat → Bool} {g x : Nat} (hk : k ≤ 6) (hg : g < 5 ^ k) (hx : x < 5 ^ k) : twN k b g x ≤ 72 ∨ twN k b g x = 1000 := by
  by_cases q : ∃ d, pth k b g d x
  · obtain ⟨d, hd⟩ := q
    obtain ⟨D, d1, d2⟩ := pS_min d d (Nat.le_refl _) ((pS_eq hg).mpr hd)
    have h72 := pS_72 hk hx d1 d2
    have e := twN_some (d := D) ⟨(pS_eq hg).mp d1, fun d3 h3 q3 => d2 d3 h3 ((pS_eq hg).mpr q3)⟩
    exact Or.inl (by omega)
  · exact Or.inr (twN_none (fun d hd => q ⟨d, hd⟩))
noncomputable def sumN (k : Nat) (b : Nat → Bool) (p0 : Int32) (ma : Nat → Nat) : Nat → Nat → Nat
  | 0, _ => 0
  | m + 1, x => sumN k b p0 ma m x + pIf (tdP p0 (nI m)) (twN k b (ma m) x) 0
theorem sumN_t {k : Nat} {b : Nat → Bool} {p0 : Int32} {ma : Nat → Nat} {m x : Nat} (h : tdP p0 (nI m)) : sumN k b p0 ma (m + 1) x = sumN k b p0 ma m x + twN k b (ma m) x := by
  show sumN k b p0 ma m x + pIf _ _ _ = _
  rw [pIf_t h]
theorem sumN_f {k : Nat} {b : Nat → Bool} {p0 : Int32} {ma : Nat → Nat} {m x : Nat} (h : ¬ tdP p0 (nI m)) : sumN k b p0 ma (m + 1) x = sumN k b p0 ma m x := by
  show sumN k b p0 ma m x + pIf _ _ _ = _
  rw [pIf_f h, Nat.add_zero]
theorem sumN_or {k : Nat} {b : Nat → Bool} {p0 : Int32} {ma : Nat → Nat} {x : Nat} (hk : k ≤ 6) (hx : x < 5 ^ k) (hm : ∀ i, i < 6 → tdP p0 (nI i) → ma i < 5 ^ k) : ∀ m, m ≤ 6 → (sumN k b p0 ma m x ≤ 72 * m ∨ (1000 ≤ sumN k b p0 ma m x ∧ sumN k b p0 ma m x ≤ 1000 * m))
  | 0, _ => Or.inl (Nat.le_refl _)
  | m + 1, h => by
    have ih := sumN_or (b := b) hk hx hm m (by omega)
    by_cases q : tdP p0 (nI m)
    · rw [sumN_t q]
      have t := twN_or (b := b) hk (hm m (by omega) q) hx
      omega
    · rw [sumN_f q]
      omega
theorem sumN_le {k : Nat} {b : Nat → Bool} {p0 : Int32} {ma : Nat → Nat} {x m : Nat} (hk : k ≤ 6) (hx : x < 5 ^ k) (hm : ∀ i, i < 6 → tdP p0 (nI i) → ma i < 5 ^ k) (h : m ≤ 6) : sumN k b p0 ma m x ≤ 6000 := by
  have := sumN_or (b := b) hk hx hm m h
  omega
/-- the first of the least -/
def amN (f : Nat → Nat) : Nat → Nat
  | 0 => 0
  | n + 1 => if f n < f (amN f n) then n else amN f n
theorem amN_t {f : Nat → Nat} {n : Nat} (h : f n < f (amN f n)) : amN f (n + 1) = n := if_pos h
theorem amN_f {f : Nat → Nat} {n : Nat} (h : ¬ f n < f (amN f n)) : amN f (n + 1) = amN f n := if_neg h
theorem amN_lt {f : Nat → Nat} : ∀ n, 0 < n → amN f n < n
  | 0, h => absurd h (Nat.lt_irrefl 0)
  | n + 1, _ => by
    by_cases q : f n < f (amN f n)
    · rw [amN_t q]; omega
    · rw [amN_f q]
      rcases Nat.eq_zero_or_pos n with e | e
      · rw [e]; exact Nat.zero_lt_one
      · have := amN_lt (f := f) n e; omega
noncomputable def lsF (k : Nat) (f : Nat → Nat) (p2 : Int32) : Int32 := pIf (f (amN f (5 ^ k)) < 1000) (pIf (p2 = (-1)) (nI (f (amN f (5 ^ k)))) (pIf (∃ j, j < k ∧ p2 = nI j) (wrN (dg k (amN f (5 ^ k)) p2.toNatClampNeg)) (-6))) (-6)
theorem lsF_1 {k : Nat} {f : Nat → Nat} {p2 : Int32} (h : ¬ f (amN f (5 ^ k)) < 1000) : (-6) = lsF k f p2 := (pIf_f h).symm
theorem lsF_2 {k : Nat} {f : Nat → Nat} {p2 : Int32} (h : f (amN f (5 ^ k)) < 1000) (h2 : p2 = (-1)) : nI (f (amN f (5 ^ k))) = lsF k f p2 := by unfold lsF; rw [pIf_t h, pIf_t h2]
theorem lsF_3 {k j : Nat} {f : Nat → Nat} {p2 : Int32} (hk : k ≤ 6) (h : f (amN f (5 ^ k)) < 1000) (h2 : ¬ p2 = (-1)) (hj : j < k) (e : p2 = nI j) : wrN (dg k (amN f (5 ^ k)) j) = lsF k f p2 := by
  unfold lsF
  rw [pIf_t h, pIf_f h2, pIf_t ⟨j, hj, e⟩, e, nI_clamp (by omega)]
theorem lsF_4 {k : Nat} {f : Nat → Nat} {p2 : Int32} (h : f (amN f (5 ^ k)) < 1000) (h2 : ¬ p2 = (-1)) (h3 : ¬ ∃ j, j < k ∧ p2 = nI j) : (-6) = lsF k f p2 := by unfold lsF; rw [pIf_t h, pIf_f h2, pIf_f h3]
noncomputable def lsA (k : Nat) (told : Int32) (ma : Nat → Nat) (fk : Nat → Int32) (p0 p1 p2 : Int32) : Int32 := pIf (inR p1 0 3) (pIf (inR p0 1 63) (pIf (told &&& p0 = p0) (lsF k (sumN k (bK (fk p1.toNatClampNeg)) p0 ma 6) p2) (-3)) (-2)) (-1)
theorem lsA_1 {k : Nat} {told : Int32} {ma : Nat → Nat} {fk : Nat → Int32} {p0 p1 p2 : Int32} (h : ¬ inR p1 0 3) : (-1) = lsA k told ma fk p0 p1 p2 := (pIf_f h).symm
theorem lsA_2 {k : Nat} {told : Int32} {ma : Nat → Nat} {fk : Nat → Int32} {p0 p1 p2 : Int32} (h : inR p1 0 3) (h2 : ¬ inR p0 1 63) : (-2) = lsA k told ma fk p0 p1 p2 := by unfold lsA; rw [pIf_t h, pIf_f h2]
theorem lsA_3 {k : Nat} {told : Int32} {ma : Nat → Nat} {fk : Nat → Int32} {p0 p1 p2 : Int32} (h : inR p1 0 3) (h2 : inR p0 1 63) (h3 : ¬ told &&& p0 = p0) : (-3) = lsA k told ma fk p0 p1 p2 := by unfold lsA; rw [pIf_t h, pIf_t h2, pIf_f h3]
theorem lsA_4 {k j : Nat} {told : Int32} {ma : Nat → Nat} {fk : Nat → Int32} {p0 p1 p2 : Int32} (hj : j < 4) (e : p1 = nI j) (h2 : inR p0 1 63) (h3 : told &&& p0 = p0) : lsF k (sumN k (bK (fk j)) p0 ma 6) p2 = lsA k told ma fk p0 p1 p2 := by
  unfold lsA
  rw [pIf_t (show inR p1 0 3 by rw [e]; exact inR03 hj), pIf_t h2, pIf_t h3, e, nI_clamp (by omega)]
theorem lsA_congr {k : Nat} {told : Int32} {ma : Nat → Nat} {fk fk2 : Nat → Int32} (hf : ∀ j : Nat, j < 4 → fk j = fk2 j) {p0 p1 p2 : Int32} : lsA k told ma fk p0 p1 p2 = lsA k told ma fk2 p0 p1 p2 := by
  by_cases h : inR p1 0 3
  · unfold lsA
    rw [hf _ (clampR (hi := 3) h (by decide))]
  · exact (lsA_1 h).symm.trans (lsA_1 h)
/-! the reference's rounds -/
theorem tw_all {k g r : Nat} {b : Nat → Bool} {f : Nat → Int32} (ht : tOK k b g r f) (hc : cOK k b g r f) (hno : ∀ y, y < 5 ^ k → ¬ f y = nI r) : ∀ (d y : Nat), y < 5 ^ k → pth k b g d y → ¬ f y = 1000
  | 0, y, hy, h => hc y hy 0 (Nat.zero_le _) h
  | d + 1, y, hy, h => by
    obtain ⟨t, t1, t2, t3⟩ := h
    have hz := slN_lt hy (mvAt_ok t1)
    have q := tw_all ht hc hno d _ hz t3
    rcases ht _ hz with e | ⟨d2, e1, e2, e3, e4⟩
    · exact absurd e q
    · have hne : ¬ d2 = r := fun e => hno _ hz (by rw [← e]; exact e2)
      exact hc y hy (d2 + 1) (by omega) ⟨t, t1, t2, e3⟩
theorem tw_end {k g r : Nat} {b : Nat → Bool} {f : Nat → Int32} (ht : tOK k b g r f) (hc : cOK k b g r f) (hno : ∀ y, y < 5 ^ k → ¬ f y = nI r) : ∀ y, y < 5 ^ k → f y = nI (twN k b g y) := by
  intro y hy
  rcases ht y hy with e | ⟨d, d1, d2, d3, d4⟩
  · rw [twN_none (fun d hd => tw_all ht hc hno d y hy hd e), e]
    rfl
  · rw [twN_some ⟨d3, d4⟩]
    exact d2
theorem tw_new {k g r : Nat} {b : Nat → Bool} {f : Nat → Int32} (hr : r ≤ 100) (ht : tOK k b g r f) : ∀ y, y < 5 ^ k → ¬ f y = nI (r + 1) := by
  intro y hy e
  rcases ht y hy with q | ⟨d, d1, d2, -⟩
  · rw [q] at e
    have := (nI_eq (a := 1000) (b := r + 1) (by decide) (by omega)).mp e
    omega
  · rw [d2] at e
    have := (nI_eq (a := d) (b := r + 1) (by omega) (by omega)).mp e
    omega
/-! the class's sums -/
def clS (n : Nat) : Int32 := if n < 1000 then nI n else (-6)
theorem clS_t {n : Nat} (h : n < 1000) : clS n = nI n := if_pos h
theorem clS_f {n : Nat} (h : ¬ n < 1000) : clS n = (-6) := if_neg h
noncomputable def adS (s g : Int32) : Int32 := cIf (s < 0 ∨ g < 0) (-6) (g + s)
theorem ls_step {k g x n j : Nat} {b : Nat → Bool} {S : Nat → Prop} {fs : Nat → Int32} (hg : g < 5 ^ k) (hs : askd k b S fs x) (hss : ∀ z, z < 5 ^ k → (S z ↔ z = g)) (hb : n ≤ 72 * j ∨ 1000 ≤ n) (hj : j < 6) : adS (fS k fs x) (clS n) = clS (n + twN k b g x) := by
  have hp : ∀ d, pS k b S d x ↔ pth k b g d x := fun d => (pS_congr hss).trans (pS_eq hg)
  unfold adS
  rcases hs with ⟨e, hno⟩ | ⟨d, e, d72, dp, dm, -⟩
  · rw [twN_none (fun d q => hno d ((hp d).mpr q)), e, cIf_t (Or.inl (by decide)), clS_f (by omega)]
  · rw [twN_some (d := d) ⟨(hp d).mp dp, fun d2 h2 q => dm d2 h2 ((hp d2).mpr q)⟩, e]
    by_cases q : n < 1000
    · rw [clS_t q, cIf_f (fun q2 => q2.elim (nI_pos (by omega)) (nI_pos (by omega))), clS_t (by omega)]
      exact nI_add n d
    · rw [clS_f q, cIf_t (Or.inr (by decide)), clS_f (by omega)]
/-- the first of the least, as far as x -/
def fsL (k : Nat) (f : Nat → Nat) (x : Nat) (y : Int32) : Prop := (y = (-6) ∧ ∀ z, z < x → 1000 ≤ f z) ∨ ∃ F, F < x ∧ y = nI (sc k F) ∧ f F < 1000 ∧ F = amN f x
theorem fsL_new {k x : Nat} {f : Nat → Nat} {y : Int32} (hk : k ≤ 6) (hx : x < 5 ^ k) (h : fsL k f x y) (h1 : f x < 1000) (h2 : y < 0 ∨ ∃ F, F < x ∧ F = amN f x ∧ f x < f F) : fsL k f (x + 1) (nI (sc k x)) := by
  refine Or.inr ⟨x, by omega, rfl, h1, ?_⟩
  rcases h2 with h2 | ⟨F, -, q4, q5⟩
  · rcases h with ⟨-, q2⟩ | ⟨F, q1, q2, q3, q4⟩
    · rcases Nat.eq_zero_or_pos x with e | e
      · rw [e]
        exact (amN_f (show ¬ f 0 < f (amN f 0) from Nat.lt_irrefl _)).symm
      · have := q2 _ (amN_lt (f := f) x e)
        rw [amN_t (by omega)]
    · have hs := sc_lt hk (show F < 5 ^ k by omega)
      have h15 : (5 : Nat) ^ 6 = 15625 := by decide
      rw [q2] at h2
      exact absurd h2 (nI_pos (by omega))
  · rw [amN_t (by rw [← q4]; exact q5)]
theorem fsL_old {k x : Nat} {f : Nat → Nat} {y : Int32} (h : fsL k f x y) (h1 : 1000 ≤ f x ∨ ∃ F, F < x ∧ y = nI (sc k F) ∧ f F < 1000 ∧ F = amN f x ∧ ¬ f x < f F) : fsL k f (x + 1) y := by
  rcases h1 with h1 | ⟨F, q1, q2, q3, q4, q5⟩
  · rcases h with ⟨q1, q2⟩ | ⟨F, q1, q2, q3, q4⟩
    · refine Or.inl ⟨q1, fun z hz => ?_⟩
      rcases Nat.lt_or_ge z x with e | e
      · exact q2 z e
      · rw [show z = x by omega]; exact h1
    · exact Or.inr ⟨F, by omega, q2, q3, by rw [amN_f (by rw [← q4]; omega)]; exact q4⟩
  · exact Or.inr ⟨F, by omega, q2, q3, by rw [amN_f (by rw [← q4]; exact q5)]; exact q4⟩
theorem fsL_pos {k x : Nat} {f : Nat → Nat} {y : Int32} (h : fsL k f x y) (h0 : ¬ y < 0) : ∃ F, F < x ∧ y = nI (sc k F) ∧ f F < 1000 ∧ F = amN f x := by
  rcases h with ⟨q1, -⟩ | q
  · rw [q1] at h0
    exact absurd (by decide) h0
  · exact q
theorem fsL_neg {k x : Nat} {f : Nat → Nat} {y : Int32} (hk : k ≤ 6) (hx : x ≤ 5 ^ k) (hp : 0 < x) (h : fsL k f x y) (h0 : y < 0) : ¬ f (amN f x) < 1000 := by
  rcases h with ⟨-, q2⟩ | ⟨F, q1, q2, q3, q4⟩
  · have := q2 _ (amN_lt (f := f) x hp)
    omega
  · have hs := sc_lt hk (show F < 5 ^ k by omega)
    have h15 : (5 : Nat) ^ 6 = 15625 := by decide
    rw [q2] at h0
    exact absurd h0 (nI_pos (by omega))
theorem clS_pos {n : Nat} (h : ¬ clS n < 0) : n < 1000 := by
  rcases Nat.lt_or_ge n 1000 with q | q
  · exact q
  · rw [clS_f (by omega)] at h
    exact absurd (by decide) h
theorem clS_neg {n : Nat} (h : clS n < 0) : 1000 ≤ n := by
  rcases Nat.lt_or_ge n 1000 with q | q
  · rw [clS_t q] at h
    exact absurd h (nI_pos (by omega))
  · exact q
theorem clS_le {a b : Nat} (ha : a < 1000) (hb : b < 1000) : clS a ≤ clS b ↔ a ≤ b := by
  rw [clS_t ha, clS_t hb]
  exact nI_leI (by omega) (by omega)
theorem sc_all {k : Nat} (hk : k ≤ 6) : sc k (5 ^ k) = 15625 := by
  unfold sc
  have h : 5 ^ k * 5 ^ (6 - k) = 5 ^ 6 := by rw [← Nat.pow_add, show k + (6 - k) = 6 by omega]
  exact h.trans (by decide)
theorem sc_le5 {k x : Nat} (hk : k ≤ 6) (hx : x ≤ 5 ^ k) : sc k x ≤ 15625 := by
  rw [← sc_all hk]
  unfold sc
  exact Nat.mul_le_mul_right _ hx
theorem sc_lt5 {k x : Nat} (hk : k ≤ 6) (hx : x < 5 ^ k) : sc k x < 15625 := by
  have h := sc_lt hk hx
  have h15 : (5 : Nat) ^ 6 = 15625 := by decide
  omega
theorem sc_in {k x : Nat} (hk : k ≤ 6) (hx : x ≤ 5 ^ k) (h : sc k x < 15625) : x < 5 ^ k := by
  rcases Nat.lt_or_ge x (5 ^ k) with q | q
  · exact q
  · rw [show x = 5 ^ k by omega, sc_all hk] at h
    exact absurd h (Nat.lt_irrefl _)
theorem sc_out {k x : Nat} (hk : k ≤ 6) (hx : x ≤ 5 ^ k) (h : ¬ sc k x < 15625) : x = 5 ^ k := by
  rcases Nat.lt_or_ge x (5 ^ k) with q | q
  · exact absurd (sc_lt5 hk q) h
  · omega
theorem sc_succ {k x : Nat} : sc k (x + 1) = sc k x + 5 ^ (6 - k) := by
  unfold sc
  rw [Nat.add_mul, Nat.one_mul]
theorem mx_5 : ∀ j, j < 7 → (if (1 : Int32) < nI (5 ^ j) then nI (5 ^ j) else 1) = nI (5 ^ j) := by decide +kernel
theorem kn_nat {x : Nat} {fs : Nat → Int32} (h : x < 15625) : cIf (inR (nI x) 0 15624) (fs (nI x).toNatClampNeg) (-6) = fs x := by
  rw [cIf_t (show inR (nI x) 0 15624 from inRm (n := 15624) (by decide) (show x ≤ 15624 by omega) rfl), nI_clamp (by omega)]
