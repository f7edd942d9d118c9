/-! rows, for the reference's walk -/
theorem GO_back {k a c x : Nat} {b : Nat → Bool} {fd fr fb fq : Nat → Int32} {gc : Nat → Nat} (hk : k ≤ 6) (h : GO k b a c 0 c fd fr fb fq gc) (hx : x < 5 ^ k) (hn : ¬ fd x < 0) (hp : 0 < tN fd x) : ∃ u t, u < 5 ^ k ∧ fr x = nI u ∧ ¬ fd u < 0 ∧ fb x = nI (slv k t) ∧ tN fd u + 1 = tN fd x ∧ gc x = 64 * gc u + t ∧ t < 64 := by
  obtain ⟨m1, m2, m3, m4, m5, m6⟩ := h.2.2.1 x hx hn
  rcases m6 with q | ⟨i, t, -, q2, q3, q4, q5, q6, q7⟩
  · omega
  · have g := h.1 i q2
    exact ⟨tN fq i, t, g.2.1, q3, g.2.2, q4, q5, q7, by have q := q6.1; unfold manyS at q; omega⟩
/-- what slipTo answers -/
def slA (k D C : Nat) (p1 r : Int32) : Prop := ((¬ ∃ i, i < D ∧ p1 = nI i) ∧ r = (-6)) ∨ ∃ i, i < D ∧ p1 = nI i ∧ r = nI (slv k (dgC D C i))
theorem inR_pre {x y : Int32} {n : Nat} (hn : n < 2 ^ 31) (e : y = nI n - 1) : inR x 0 y ↔ ∃ i, i < n ∧ x = nI i := by
  have e1 : y.toInt = (n : Int) - 1 := by
    rw [e, Int32.toInt_sub, nI_toInt hn, show (1 : Int32).toInt = 1 from rfl]
    apply Int.bmod_eq_of_le <;> omega
  have h0 : (0 : Int32).toInt = 0 := rfl
  constructor
  · rintro ⟨h1, h2⟩
    rw [i3_le] at h1 h2
    rw [h0] at h1
    rw [e1] at h2
    refine ⟨x.toInt.toNat, by omega, ?_⟩
    rw [i3_eq, nI_toInt (by omega)]
    omega
  · rintro ⟨i, h1, h2⟩
    have h3 : x.toInt = i := by rw [h2]; exact nI_toInt (by omega)
    refine ⟨?_, ?_⟩
    · rw [i3_le, h0, h3]; omega
    · rw [i3_le, e1, h3]; omega
theorem dg_back {D C i d g u t : Nat} (h : g = C / 64 ^ (D - d)) (hd : d = i + 1) (hg : g = 64 * u + t) (ht : t < 64) : dgC D C i = t := by
  unfold dgC
  rw [show D - 1 - i = D - d by omega, ← h, hg]
  omega
theorem gc_back {D C d g u t : Nat} (h : g = C / 64 ^ (D - d)) (hd : d + 1 ≤ D + 1) (hp : 0 < d) (hg : g = 64 * u + t) (ht : t < 64) : u = C / 64 ^ (D - (d - 1)) := by
  rw [show D - (d - 1) = (D - d) + 1 by omega, Nat.pow_succ, ← Nat.div_div_eq_div_mul, ← h, hg]
  omega
/-- the goal x, of all goals the first in the queue -/
theorem go_S {k a c x : Nat} {b : Nat → Bool} {S : Nat → Prop} {fd fr fb fq : Nat → Int32} {gc : Nat → Nat} (hk : k ≤ 6) (ha : a < 5 ^ k) (h : GO k b a c 0 c fd fr fb fq gc) (hx : x < 5 ^ k) (hn : ¬ fd x < 0) (hx2 : S x) (hmin : ∀ d, d < tN fd x → ¬ pS k b S d a) (hrow : ∀ z c2, z < 5 ^ k → S z → pcd k b a (tN fd x) c2 z → gc x ≤ c2) {p3 r : Int32} (hr : (p3 = (-1) ∧ r = fd x) ∨ (¬ p3 = (-1) ∧ slA k (tN fd x) (gc x) p3 r)) : rwA k b S a p3 r := by
  obtain ⟨m1, m2, m3, m4, m5, m6⟩ := h.2.2.1 x hx hn
  have p0 : pS k b S (tN fd x) a := ⟨x, hx, hx2, pcd_pth _ _ _ m3⟩
  have h72 := pS_72 hk ha p0 hmin
  refine Or.inr ⟨tN fd x, h72, p0, hmin, ?_⟩
  rcases hr with ⟨e1, e2⟩ | ⟨e1, ⟨f1, f2⟩ | ⟨i, f1, f2, f3⟩⟩
  · exact Or.inl ⟨e1, e2.trans m1⟩
  · exact Or.inr (Or.inl ⟨e1, f1, f2⟩)
  · exact Or.inr (Or.inr ⟨i, gc x, f1, f2, ⟨⟨x, hx, hx2, m3⟩, hrow⟩, f3⟩)
theorem go_min {k a c x : Nat} {b : Nat → Bool} {fd fr fb fq : Nat → Int32} {gc : Nat → Nat} (h : GO k b a c 0 c fd fr fb fq gc) (hx : x < 5 ^ k) (hn : ¬ fd x < 0) : ∀ d, d < tN fd x → ¬ pS k b (fun z => z = x) d a := by
  rintro d hd ⟨g, g1, g2, g3⟩
  have g2 : g = x := g2
  rw [g2] at g3
  exact (h.2.2.1 x hx hn).2.2.2.2.1 d hd g3
theorem go_one {k a c x : Nat} {b : Nat → Bool} {fd fr fb fq : Nat → Int32} {gc : Nat → Nat} (hk : k ≤ 6) (ha : a < 5 ^ k) (h : GO k b a c 0 c fd fr fb fq gc) (hx : x < 5 ^ k) (hn : ¬ fd x < 0) {p3 r : Int32} (hr : (p3 = (-1) ∧ r = fd x) ∨ (¬ p3 = (-1) ∧ slA k (tN fd x) (gc x) p3 r)) : rwA k b (fun z => z = x) a p3 r :=
  go_S (S := fun z => z = x) hk ha h hx hn rfl (go_min h hx hn) (fun z c2 _ z2 z3 => by
    have z2 : z = x := z2
    rw [z2] at z3
    exact (h.2.2.1 x hx hn).2.2.2.1 c2 z3) hr
theorem go_no {k a c x : Nat} {b : Nat → Bool} {fd fr fb fq : Nat → Int32} {gc : Nat → Nat} (ha : a < 5 ^ k) (h : GO k b a c 0 c fd fr fb fq gc) (hx : x < 5 ^ k) (hn : fd x < 0) : ∀ d, ¬ pS k b (fun z => z = x) d a := by
  rintro d ⟨g, g1, g2, g3⟩
  have g2 : g = x := g2
  rw [g2] at g3
  exact GO_end ha h d x hx g3 hn
theorem go_m6 {al c x : Nat} {fd fr fq : Nat → Int32} (hal : al ≤ 15625) (hd : dOK al c fd fr fq) (hx : x < al) (hn : fd x < 0) : fd x = (-6) := by
  have hl := dOK_le hd
  rcases hd.2.2.2 x hx with q | ⟨d, d1, d2, -⟩
  · exact q
  · rw [d2] at hn
    exact absurd hn (nI_pos (by omega))
theorem go_none {k a c x : Nat} {b : Nat → Bool} {fd fr fb fq : Nat → Int32} {gc : Nat → Nat} (hk : k ≤ 6) (ha : a < 5 ^ k) (hd : dOK (5 ^ k) c fd fr fq) (h : GO k b a c 0 c fd fr fb fq gc) (hx : x < 5 ^ k) (hn : fd x < 0) {p3 : Int32} : rwA k b (fun z => z = x) a p3 (fd x) := Or.inl ⟨go_no ha h hx hn, go_m6 (p5le hk) hd hx hn⟩
theorem go_ds {k a c x : Nat} {b : Nat → Bool} {fd fr fb fq : Nat → Int32} {gc : Nat → Nat} (hk : k ≤ 6) (ha : a < 5 ^ k) (hd : dOK (5 ^ k) c fd fr fq) (h : GO k b a c 0 c fd fr fb fq gc) (hx : x < 5 ^ k) : dsA k b (fun z => z = x) a (fd x) := by
  by_cases hn : fd x < 0
  · exact Or.inl ⟨go_no ha h hx hn, go_m6 (p5le hk) hd hx hn⟩
  · obtain ⟨m1, m2, m3, m4, m5, m6⟩ := h.2.2.1 x hx hn
    have p0 : pS k b (fun z => z = x) (tN fd x) a := ⟨x, hx, rfl, pcd_pth _ _ _ m3⟩
    exact Or.inr ⟨tN fd x, pS_72 hk ha p0 (go_min h hx hn), p0, go_min h hx hn, m1⟩
/-- the first of the queue that is a goal -/
theorem go_first {k a c i : Nat} {b : Nat → Bool} {S : Nat → Prop} {fd fr fb fq : Nat → Int32} {gc : Nat → Nat} (hk : k ≤ 6) (ha : a < 5 ^ k) (h : GO k b a c 0 c fd fr fb fq gc) (hi : i < c) (hx2 : S (tN fq i)) (hno : ∀ j, j < i → ¬ S (tN fq j)) {p3 r : Int32} (hr : (p3 = (-1) ∧ r = fd (tN fq i)) ∨ (¬ p3 = (-1) ∧ slA k (tN fd (tN fq i)) (gc (tN fq i)) p3 r)) : rwA k b S a p3 r := by
  obtain ⟨-, hx, hn⟩ := h.1 i hi
  have hmet : ∀ z d, z < 5 ^ k → S z → pth k b z d a → ∃ j, j < c ∧ tN fq j = z ∧ i ≤ j ∧ tN fd z ≤ d := by
    intro z d z1 z2 z3
    have zn := GO_end ha h d z z1 z3
    obtain ⟨j, j1, j2⟩ := h.2.1 z z1 zn
    refine ⟨j, j1, j2, ?_, ?_⟩
    · rcases Nat.lt_or_ge j i with q | q
      · exact absurd (by rw [j2]; exact z2) (hno j q)
      · exact q
    · rcases Nat.lt_or_ge d (tN fd z) with q | q
      · exact absurd z3 ((h.2.2.1 z z1 zn).2.2.2.2.1 d q)
      · exact q
  have hle : ∀ j, j < c → i ≤ j → tN fd (tN fq i) ≤ tN fd (tN fq j) := by
    intro j j1 j2
    rcases Nat.lt_or_ge i j with q | q
    · exact (h.2.2.2.1 i j q j1).1
    · have : i = j := by omega
      rw [this]
      exact Nat.le_refl _
  refine go_S hk ha h hx hn hx2 ?_ ?_ hr
  · rintro d hd ⟨g, g1, g2, g3⟩
    obtain ⟨j, j1, j2, j3, j4⟩ := hmet g d g1 g2 g3
    have := hle j j1 j3
    rw [j2] at this
    omega
  · intro z c2 z1 z2 z3
    obtain ⟨j, j1, j2, j3, j4⟩ := hmet z _ z1 z2 (pcd_pth _ _ _ z3)
    have h5 := hle j j1 j3
    rw [j2] at h5
    have h6 : tN fd (tN fq i) = tN fd z := by omega
    have zn : ¬ fd z < 0 := by rw [← j2]; exact (h.1 j j1).2.2
    have h7 : gc z ≤ c2 := (h.2.2.1 z z1 zn).2.2.2.1 c2 (by rw [← h6]; exact z3)
    rcases Nat.lt_or_ge i j with q | q
    · have h8 := (h.2.2.2.1 i j q j1).2 (by rw [j2]; exact h6)
      rw [j2] at h8
      omega
    · have : i = j := by omega
      rw [this, j2]
      exact h7
/-- no goal in the queue -/
theorem go_nil {k a c : Nat} {b : Nat → Bool} {S : Nat → Prop} {fd fr fb fq : Nat → Int32} {gc : Nat → Nat} (ha : a < 5 ^ k) (h : GO k b a c 0 c fd fr fb fq gc) (hno : ∀ j, j < c → ¬ S (tN fq j)) {p3 : Int32} : rwA k b S a p3 (-6) := by
  refine Or.inl ⟨?_, rfl⟩
  rintro d ⟨g, g1, g2, g3⟩
  obtain ⟨j, j1, j2⟩ := h.2.1 g g1 (GO_end ha h d g g1 g3)
  exact hno j j1 (by rw [j2]; exact g2)
