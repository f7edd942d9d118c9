/-! the least row of slips, digit by digit -/
theorem pcd_fun {k : Nat} {b : Nat → Bool} {a : Nat} : ∀ (d c x y : Nat), pcd k b a d c x → pcd k b a d c y → k ≤ 6 → x = y
  | 0, c, x, y, h1, h2, _ => h1.2.trans h2.2.symm
  | d + 1, c, x, y, h1, h2, hk => by
    obtain ⟨u, c1, t, p1, p2, p3⟩ := h1
    obtain ⟨v, c2, s, q1, q2, q3⟩ := h2
    have ht := p2.1
    have hs := q2.1
    unfold manyS at ht hs
    have e1 : c1 = c2 := by omega
    have e2 : t = s := by omega
    subst e1
    subst e2
    have e3 := pcd_fun d c1 u v p1 q1 hk
    subst e3
    rw [← p2.2.2, ← q2.2.2]
theorem pcd_split {k : Nat} {b : Nat → Bool} (hk : k ≤ 6) {a i : Nat} : ∀ (n c x : Nat), pcd k b a (i + n) c x → ∃ u, pcd k b a i (c / 64 ^ n) u ∧ pcd k b u n (c % 64 ^ n) x
  | 0, c, x, h => by
    refine ⟨x, ?_, ?_, rfl⟩
    · rw [Nat.pow_zero, Nat.div_one]; exact h
    · rw [Nat.pow_zero, Nat.mod_one]
  | n + 1, c, x, h => by
    obtain ⟨v, c1, t, p1, p2, p3⟩ := h
    have ht : t < 64 := by have q := p2.1; unfold manyS at q; omega
    obtain ⟨u, q1, q2⟩ := pcd_split hk n c1 v p1
    have hpos : 0 < 64 ^ n := Nat.pow_pos (by decide)
    have e1 : c / 64 ^ (n + 1) = c1 / 64 ^ n := by
      rw [Nat.pow_succ, Nat.mul_comm, ← Nat.div_div_eq_div_mul, p3]
      congr 1
      omega
    have e2 : c % 64 ^ (n + 1) = 64 * (c1 % 64 ^ n) + t := by
      rw [p3, Nat.pow_succ, Nat.mul_comm (64 ^ n) 64, Nat.mod_mul, show (64 * c1 + t) % 64 = t by omega, show (64 * c1 + t) / 64 = c1 by omega]
      omega
    exact ⟨u, by rw [e1]; exact q1, v, c1 % 64 ^ n, t, q2, p2, e2⟩
/-- the least number of a row of D slips that lead from a to a goal -/
def lstC (k : Nat) (b : Nat → Bool) (S : Nat → Prop) (a D C : Nat) : Prop := (∃ x, x < 5 ^ k ∧ S x ∧ pcd k b a D C x) ∧ ∀ x c, x < 5 ^ k → S x → pcd k b a D c x → C ≤ c
theorem lstC_fun {k : Nat} {b : Nat → Bool} {S : Nat → Prop} {a D C C2 : Nat} (h : lstC k b S a D C) (h2 : lstC k b S a D C2) : C = C2 := by
  obtain ⟨⟨x, x1, x2, x3⟩, x4⟩ := h
  obtain ⟨⟨y, y1, y2, y3⟩, y4⟩ := h2
  have g1 := x4 y C2 y1 y2 y3
  have g2 := y4 x C x1 x2 x3
  omega
/-- the slip numbered i of the row C -/
def dgC (D C i : Nat) : Nat := C / 64 ^ (D - 1 - i) % 64
/-- a goal that is D slips away has a least row -/
theorem lstC_ex {k : Nat} {b : Nat → Bool} {S : Nat → Prop} {a D : Nat} (h : pS k b S D a) : ∃ C, lstC k b S a D C := by
  obtain ⟨g, g1, g2, g3⟩ := h
  obtain ⟨c, hc⟩ := pth_pcd D a g3
  have key : ∀ n c, c ≤ n → (∃ x, x < 5 ^ k ∧ S x ∧ pcd k b a D c x) → ∃ C, lstC k b S a D C := by
    intro n
    induction n with
    | zero => intro c hn hx; exact ⟨c, hx, fun x c2 _ _ _ => by omega⟩
    | succ n ih =>
      intro c hn hx
      by_cases q : ∃ x c2, x < 5 ^ k ∧ S x ∧ pcd k b a D c2 x ∧ c2 < c
      · obtain ⟨x, c2, q1, q2, q3, q4⟩ := q
        exact ih c2 (by omega) ⟨x, q1, q2, q3⟩
      · refine ⟨c, hx, fun x c2 q1 q2 q3 => ?_⟩
        rcases Nat.lt_or_ge c2 c with g | g
        · exact absurd ⟨x, c2, q1, q2, q3, g⟩ q
        · exact g
  exact key c c (Nat.le_refl _) ⟨g, g1, g2, hc⟩
/-- the first slip that leads nearer is the row's next one -/
theorem near_first {k : Nat} {b : Nat → Bool} {S : Nat → Prop} {a D C i u t v : Nat} (hk : k ≤ 6) (ha : a < 5 ^ k) (hC : lstC k b S a D C) (hi : i < D) (hu : pcd k b a i (C / 64 ^ (D - i)) u) (hs : stp k b t u v) (hp : pS k b S (D - 1 - i) v) (hno : ∀ t2 v2, t2 < t → stp k b t2 u v2 → ¬ pS k b S (D - 1 - i) v2) : t = dgC D C i ∧ pcd k b a (i + 1) (C / 64 ^ (D - (i + 1))) v := by
  obtain ⟨⟨x, x1, x2, x3⟩, x4⟩ := hC
  have hD : i + 1 + (D - 1 - i) = D := by omega
  have x5 : pcd k b a (i + 1 + (D - 1 - i)) C x := by rw [hD]; exact x3
  obtain ⟨w, q1, q2⟩ := pcd_split hk (D - 1 - i) C x x5
  obtain ⟨u2, c2, t2, r1, r2, r3⟩ := q1
  have ht2 : t2 < 64 := by have q := r2.1; unfold manyS at q; omega
  have ht : t < 64 := by have q := hs.1; unfold manyS at q; omega
  have e1 : C / 64 ^ (D - i) = c2 := by
    rw [show D - i = (D - 1 - i) + 1 by omega, Nat.pow_succ, ← Nat.div_div_eq_div_mul, r3]
    omega
  rw [e1] at hu
  have eu := pcd_fun i c2 u u2 hu r1 hk
  subst eu
  have hle : t ≤ t2 := by
    rcases Nat.lt_or_ge t2 t with g | g
    · exact absurd ⟨x, x1, x2, pcd_pth _ _ _ q2⟩ (hno t2 w g r2)
    · exact g
  obtain ⟨g, g1, g2, g3⟩ := hp
  obtain ⟨r, hr⟩ := pth_pcd _ _ g3
  have hrl := pcd_lt hk _ _ _ hr
  have h50 : pcd k b a (i + 1) (64 * c2 + t) v := ⟨u, c2, t, hu, hs, rfl⟩
  have h5 := pcd_app h50 (D - 1 - i) r g hr
  rw [hD] at h5
  have h6 := x4 g _ g1 g2 h5
  have h7 : t2 ≤ t := by
    rcases Nat.lt_or_ge t t2 with q | q
    · have h8 : (64 * c2 + t + 1) * 64 ^ (D - 1 - i) ≤ (64 * c2 + t2) * 64 ^ (D - 1 - i) := Nat.mul_le_mul_right _ (by omega)
      have h9 := Nat.div_add_mod C (64 ^ (D - 1 - i))
      rw [r3, Nat.mul_comm] at h9
      rw [Nat.add_mul, Nat.one_mul] at h8
      omega
    · exact q
  have et : t = t2 := by omega
  subst et
  refine ⟨?_, ?_⟩
  · unfold dgC; rw [r3]; omega
  · rw [show D - (i + 1) = D - 1 - i by omega, r3]
    exact ⟨u, c2, t, hu, hs, rfl⟩
/-- of the order of the class's slips -/
theorem vN_le {k : Nat} (hk2 : 2 ≤ k) (hk : k ≤ 6) : ∀ (d i : Nat), i + d ≤ 40 → vN k i ≤ vN k (i + d)
  | 0, _, _ => Nat.le_refl _
  | d + 1, i, h => by
    have ih := vN_le hk2 hk d i (by omega)
    show vN k i ≤ vN k (i + d + 1)
    cases e : okB k (i + d) with
    | true => rw [vN_t1 k (by omega) hk2 (i + d) (by omega) e]; omega
    | false => rw [vN_f k (by omega) hk2 (i + d) (by omega) e]; exact ih
theorem vN_mono {k i j : Nat} (hk2 : 2 ≤ k) (hk : k ≤ 6) (hj : j < 40) (h : vN k j < vN k i) : j < i := by
  rcases Nat.lt_or_ge j i with q | q
  · exact q
  · have g := vN_le hk2 hk (j - i) i (by omega)
    rw [show i + (j - i) = j by omega] at g
    omega
theorem vN_onto : ∀ k, k < 7 → 2 ≤ k → ∀ t, t < manyS k → (List.range 40).any (fun i => okB k i && (vN k i == t)) = true := by decide +kernel
theorem slv_40 {k i : Nat} (hk2 : 2 ≤ k) (hk : k ≤ 6) (hi : i < 40) (h : okB k i = true) : slv k (vN k i) = sv40 i := by
  unfold slv sv40
  rw [(vN_t k (by omega) hk2 i hi h).2.1]
/-- the first of the class's slips of a kind is the first by numbers -/
theorem first_40 {k i : Nat} {b : Nat → Bool} {u : Nat} {R : Nat → Prop} (hk2 : 2 ≤ k) (hk : k ≤ 6) (hi : i < 40) (h : okB k i = true) (hno : ∀ j, j < i → ¬ (okB k j = true ∧ b (mv40 j).1 = true ∧ R (slN k u (mv40 j)))) : ∀ t2 v2, t2 < vN k i → stp k b t2 u v2 → ¬ R v2 := by
  intro t2 v2 ht hs hR
  obtain ⟨j, hj, hj2⟩ := List.any_eq_true.mp (vN_onto k (by omega) hk2 t2 hs.1)
  have hj40 := List.mem_range.mp hj
  rw [Bool.and_eq_true] at hj2
  have ej : vN k j = t2 := eq_of_beq hj2.2
  have hji := vN_mono hk2 hk hj40 (show vN k j < vN k i by rw [ej]; exact ht)
  have ev := (vN_t k (by omega) hk2 j hj40 hj2.1).2.1
  rw [ej] at ev
  exact hno j hji ⟨hj2.1, by rw [← ev]; exact hs.2.1, by rw [← ev, hs.2.2]; exact hR⟩
theorem pth_app {k : Nat} {b : Nat → Bool} {u g m : Nat} (h2 : pth k b g m u) : ∀ (d a : Nat), pth k b u d a → pth k b g (d + m) a
  | 0, a, h => by
    have e : a = u := h
    rw [e, Nat.zero_add]; exact h2
  | d + 1, a, h => by
    obtain ⟨t, t1, t2, t3⟩ := h
    rw [show d + 1 + m = d + m + 1 by omega]
    exact ⟨t, t1, t2, pth_app h2 d _ t3⟩
theorem pS_app {k : Nat} {b : Nat → Bool} {S : Nat → Prop} {u d m a : Nat} (h : pth k b u d a) (h2 : pS k b S m u) : pS k b S (d + m) a := by
  obtain ⟨g, g1, g2, g3⟩ := h2
  exact ⟨g, g1, g2, pth_app g3 d a h⟩
theorem pS_congr {k : Nat} {b : Nat → Bool} {S S2 : Nat → Prop} (h : ∀ x, x < 5 ^ k → (S x ↔ S2 x)) {d a : Nat} : pS k b S d a ↔ pS k b S2 d a := ⟨fun ⟨g, g1, g2, g3⟩ => ⟨g, g1, (h g g1).mp g2, g3⟩, fun ⟨g, g1, g2, g3⟩ => ⟨g, g1, (h g g1).mpr g2, g3⟩⟩
theorem lstC_congr {k : Nat} {b : Nat → Bool} {S S2 : Nat → Prop} (h : ∀ x, x < 5 ^ k → (S x ↔ S2 x)) {a D C : Nat} (hC : lstC k b S a D C) : lstC k b S2 a D C := by
  obtain ⟨⟨x, x1, x2, x3⟩, x4⟩ := hC
  exact ⟨⟨x, x1, (h x x1).mp x2, x3⟩, fun z c z1 z2 z3 => x4 z c z1 ((h z z1).mpr z2) z3⟩
/-- where all that is nearer is known: a map beside is nearer if the table says so -/
theorem near_iff {k y c u v t Dm : Nat} {b : Nat → Bool} {S : Nat → Prop} {fs fq : Nat → Int32} (h : BK k b S y c fs fq) (hu : u < 5 ^ k) (hmin : ∀ d, d < Dm + 1 → ¬ pS k b S d u) (hne : ∀ z d, z < 5 ^ k → d < Dm + 1 → pS k b S d z → ¬ fS k fs z < 0) (hs : stp k b t u v) (hD : Dm < 2 ^ 31) : fS k fs v = nI Dm ↔ pS k b S Dm v := by
  have hv := stp_lt hu hs
  constructor
  · intro e
    have hn : ¬ fS k fs v < 0 := by rw [e]; exact nI_pos hD
    have hm := h.2.2.1 v hv hn
    rw [tN_of e hD] at hm
    exact hm.2.1
  · intro hp
    have hn := hne v Dm hv (by omega) hp
    have hm := h.2.2.1 v hv hn
    have e : tN (fS k fs) v = Dm := by
      rcases Nat.lt_trichotomy (tN (fS k fs) v) Dm with q | q | q
      · exact absurd (pS_step hs hm.2.1) (hmin _ (by omega))
      · exact q
      · exact absurd hp (hm.2.2 Dm q)
    rw [← e]; exact hm.1
/-- what far and wished answer: how far the goal is, a slip of the first row -/
def rwA (k : Nat) (b : Nat → Bool) (S : Nat → Prop) (a : Nat) (p3 r : Int32) : Prop := ((∀ d, ¬ pS k b S d a) ∧ r = (-6)) ∨ ∃ D, D ≤ 72 ∧ pS k b S D a ∧ (∀ d, d < D → ¬ pS k b S d a) ∧ ((p3 = (-1) ∧ r = nI D) ∨ (¬ p3 = (-1) ∧ (¬ ∃ i, i < D ∧ p3 = nI i) ∧ r = (-6)) ∨ ∃ i C, i < D ∧ p3 = nI i ∧ lstC k b S a D C ∧ r = nI (slv k (dgC D C i)))
theorem rwA_fun {k a : Nat} {b : Nat → Bool} {S S2 : Nat → Prop} (h : ∀ x, x < 5 ^ k → (S x ↔ S2 x)) {p3 r r2 : Int32} (h1 : rwA k b S a p3 r) (h2 : rwA k b S2 a p3 r2) : r = r2 := by
  rcases h1 with ⟨a1, a2⟩ | ⟨D, d0, d1, d2, d3⟩
  · rcases h2 with ⟨b1, b2⟩ | ⟨D2, -, e1, -⟩
    · rw [a2, b2]
    · exact absurd ((pS_congr h).mpr e1) (a1 D2)
  · rcases h2 with ⟨b1, -⟩ | ⟨D2, e0, e1, e2, e3⟩
    · exact absurd ((pS_congr h).mp d1) (b1 D)
    · have eD : D = D2 := by
        rcases Nat.lt_trichotomy D D2 with q | q | q
        · exact absurd ((pS_congr h).mp d1) (e2 D q)
        · exact q
        · exact absurd ((pS_congr h).mpr e1) (d2 D2 q)
      subst eD
      have n1 : ∀ i, i < D → ¬ nI i = (-1) := fun i hi e => by
        have q2 := congrArg Int32.toInt e
        rw [nI_toInt (by omega)] at q2
        simp only [Int32.reduceToInt] at q2
        omega
      rcases d3 with ⟨c1, c2⟩ | ⟨c1, c2, c3⟩ | ⟨i, C, c1, c2, c3, c4⟩ <;> rcases e3 with ⟨f1, f2⟩ | ⟨f1, f2, f3⟩ | ⟨j, C2, f1, f2, f3, f4⟩
      · rw [c2, f2]
      · exact absurd c1 f1
      · exact absurd (f2.symm.trans c1) (n1 j f1)
      · exact absurd f1 c1
      · rw [c3, f3]
      · exact absurd ⟨j, f1, f2⟩ c2
      · exact absurd (c2.symm.trans f1) (n1 i c1)
      · exact absurd ⟨i, c1, c2⟩ f2
      · have ei : i = j := (nI_eq (by omega) (by omega)).mp (c2.symm.trans f2)
        subst ei
        have eC := lstC_fun (lstC_congr h c3) f3
        subst eC
        rw [c4, f4]
