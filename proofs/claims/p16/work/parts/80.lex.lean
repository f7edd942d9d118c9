/-! rows of slips as numbers: the first row by the order of slips is the least number -/
/-- the slip t, which a hand makes, leads from x to y -/
def stp (k : Nat) (b : Nat → Bool) (t x y : Nat) : Prop := t < manyS k ∧ b (mvAt k t).1 = true ∧ slN k x (mvAt k t) = y
/-- d slips lead from a to x; c is their row as a number -/
def pcd (k : Nat) (b : Nat → Bool) (a : Nat) : Nat → Nat → Nat → Prop
  | 0, c, x => c = 0 ∧ x = a
  | d + 1, c, x => ∃ u c1 t, pcd k b a d c1 u ∧ stp k b t u x ∧ c = 64 * c1 + t
theorem stp_lt {k t x y : Nat} {b : Nat → Bool} (hx : x < 5 ^ k) (h : stp k b t x y) : y < 5 ^ k := by
  rw [← h.2.2]; exact slN_lt hx (mvAt_ok h.1)
theorem pth_snoc {k : Nat} {b : Nat → Bool} {t u x : Nat} (hs : stp k b t u x) : ∀ (d a : Nat), pth k b u d a → pth k b x (d + 1) a
  | 0, a, h => by
    have e : a = u := h
    rw [e]
    exact ⟨t, hs.1, hs.2.1, hs.2.2⟩
  | d + 1, a, h => by
    obtain ⟨t1, h1, h2, h3⟩ := h
    exact ⟨t1, h1, h2, pth_snoc hs d _ h3⟩
theorem pcd_pth {k : Nat} {b : Nat → Bool} {a : Nat} : ∀ (d c x : Nat), pcd k b a d c x → pth k b x d a
  | 0, c, x, h => h.2.symm
  | d + 1, c, x, h => by
    obtain ⟨u, c1, t, h1, h2, -⟩ := h
    exact pth_snoc h2 d a (pcd_pth d c1 u h1)
theorem pcd_cons {k : Nat} {b : Nat → Bool} {t a v : Nat} (hs : stp k b t a v) : ∀ (d c x : Nat), pcd k b v d c x → pcd k b a (d + 1) (t * 64 ^ d + c) x
  | 0, c, x, h => by
    obtain ⟨h1, h2⟩ := h
    exact ⟨a, 0, t, ⟨rfl, rfl⟩, by rw [h2]; exact hs, by rw [h1, Nat.pow_zero]; omega⟩
  | d + 1, c, x, h => by
    obtain ⟨u, c1, t1, h1, h2, h3⟩ := h
    refine ⟨u, t * 64 ^ d + c1, t1, pcd_cons hs d c1 u h1, h2, ?_⟩
    rw [h3, Nat.pow_succ, ← Nat.mul_assoc, Nat.mul_add]
    omega
theorem pth_pcd {k : Nat} {b : Nat → Bool} {x : Nat} : ∀ (d a : Nat), pth k b x d a → ∃ c, pcd k b a d c x
  | 0, a, h => ⟨0, rfl, h.symm⟩
  | d + 1, a, h => by
    obtain ⟨t, h1, h2, h3⟩ := h
    obtain ⟨c, hc⟩ := pth_pcd d _ h3
    exact ⟨_, pcd_cons ⟨h1, h2, rfl⟩ d c x hc⟩
theorem pcd_app {k : Nat} {b : Nat → Bool} {a u i c : Nat} (h : pcd k b a i c u) : ∀ (d r x : Nat), pcd k b u d r x → pcd k b a (i + d) (c * 64 ^ d + r) x
  | 0, r, x, h2 => by
    obtain ⟨h3, h4⟩ := h2
    rw [h3, h4, Nat.pow_zero, Nat.mul_one]
    exact h
  | d + 1, r, x, h2 => by
    obtain ⟨v, c1, t, h3, h4, h5⟩ := h2
    refine ⟨v, c * 64 ^ d + c1, t, pcd_app h d c1 v h3, h4, ?_⟩
    rw [h5, Nat.pow_succ, ← Nat.mul_assoc, Nat.mul_add]
    omega
theorem pcd_lt {k : Nat} {b : Nat → Bool} (hk : k ≤ 6) {a : Nat} : ∀ (d c x : Nat), pcd k b a d c x → c < 64 ^ d
  | 0, c, x, h => by rw [h.1]; exact Nat.one_pos
  | d + 1, c, x, h => by
    obtain ⟨u, c1, t, h1, h2, h3⟩ := h
    have h4 := pcd_lt hk d c1 u h1
    have h5 := h2.1
    unfold manyS at h5
    rw [h3, Nat.pow_succ]
    omega
theorem pcd_ix {k : Nat} {b : Nat → Bool} {a : Nat} (ha : a < 5 ^ k) : ∀ (d c x : Nat), pcd k b a d c x → x < 5 ^ k
  | 0, c, x, h => by rw [h.2]; exact ha
  | d + 1, c, x, h => by
    obtain ⟨u, c1, t, h1, h2, -⟩ := h
    exact stp_lt (pcd_ix ha d c1 u h1) h2
theorem pth_last {k : Nat} {b : Nat → Bool} {a x d : Nat} (ha : a < 5 ^ k) (h : pth k b x (d + 1) a) : ∃ u t, u < 5 ^ k ∧ pth k b u d a ∧ stp k b t u x := by
  obtain ⟨c, u, c1, t, h1, h2, -⟩ := pth_pcd (d + 1) a h
  exact ⟨u, t, pcd_ix ha d c1 u h1, pcd_pth d c1 u h1, h2⟩
/-! numbers in rows -/
def tN (f : Nat → Int32) (i : Nat) : Nat := (f i).toNatClampNeg
theorem tN_of {f : Nat → Int32} {i a : Nat} (h : f i = nI a) (ha : a < 2 ^ 31) : tN f i = a := by unfold tN; rw [h]; exact nI_clamp ha
theorem tN_us {f : Nat → Int32} {i a : Nat} (ha : a < 2 ^ 31) : tN (upd f i (nI a)) i = a := tN_of pk_us ha
theorem tN_un {f : Nat → Int32} {i j : Nat} {x : Int32} (h : ¬ j = i) : tN (upd f i x) j = tN f j := by unfold tN; rw [pk_un h]
def updN (f : Nat → Nat) (i v : Nat) : Nat → Nat := fun j => if j = i then v else f j
theorem updN_s {f : Nat → Nat} {i v : Nat} : updN f i v i = v := if_pos rfl
theorem updN_n {f : Nat → Nat} {i j v : Nat} (h : ¬ j = i) : updN f i v j = f j := if_neg h
/-! the search forward: from node y of the queue on, z slips of it are done -/
/-- what is known of a map that was met: how far it is, its row, whence it was met -/
def metF (k : Nat) (b : Nat → Bool) (a y z c : Nat) (fd fr fb fq : Nat → Int32) (gc : Nat → Nat) (x : Nat) : Prop :=
  fd x = nI (tN fd x) ∧ tN fd x < c ∧ pcd k b a (tN fd x) (gc x) x ∧ (∀ c2, pcd k b a (tN fd x) c2 x → gc x ≤ c2) ∧ (∀ d2, d2 < tN fd x → ¬ pth k b x d2 a) ∧ (tN fd x = 0 ∨ ∃ i t, (i < y ∨ (i = y ∧ t < z)) ∧ i < c ∧ fr x = nI (tN fq i) ∧ fb x = nI (slv k t) ∧ tN fd (tN fq i) + 1 = tN fd x ∧ stp k b t (tN fq i) x ∧ gc x = 64 * gc (tN fq i) + t)
def GO (k : Nat) (b : Nat → Bool) (a y z c : Nat) (fd fr fb fq : Nat → Int32) (gc : Nat → Nat) : Prop :=
  (∀ i, i < c → fq i = nI (tN fq i) ∧ tN fq i < 5 ^ k ∧ ¬ fd (tN fq i) < 0) ∧
  (∀ x, x < 5 ^ k → ¬ fd x < 0 → ∃ i, i < c ∧ tN fq i = x) ∧
  (∀ x, x < 5 ^ k → ¬ fd x < 0 → metF k b a y z c fd fr fb fq gc x) ∧
  (∀ i j, i < j → j < c → tN fd (tN fq i) ≤ tN fd (tN fq j) ∧ (tN fd (tN fq i) = tN fd (tN fq j) → gc (tN fq i) < gc (tN fq j))) ∧
  (y < c → ∀ j, j < c → tN fd (tN fq j) ≤ tN fd (tN fq y) + 1) ∧
  (∀ i, i < y → i < c → ∀ t v, stp k b t (tN fq i) v → ¬ fd v < 0) ∧
  (y < c → ∀ t v, t < z → stp k b t (tN fq y) v → ¬ fd v < 0) ∧
  (y < c → ∀ x, x < 5 ^ k → ∀ d, d ≤ tN fd (tN fq y) → pth k b x d a → ¬ fd x < 0) ∧
  ¬ fd a < 0
theorem GO_start {k a : Nat} {b : Nat → Bool} {f0 fr fb fq : Nat → Int32} (hk : k ≤ 6) (ha : a < 5 ^ k) (h : ∀ j, j < 5 ^ k → f0 j = (-6)) : GO k b a 0 0 1 (upd f0 a 0) fr fb (upd fq 0 (nI a)) (fun _ => 0) := by
  have h5 := p5le hk
  have e0 : tN (upd f0 a 0) a = 0 := tN_us (a := 0) (by decide)
  have eq : tN (upd fq 0 (nI a)) 0 = a := tN_us (by omega)
  have hr : ∀ x, x < 5 ^ k → ¬ upd f0 a 0 x < 0 → x = a := by
    intro x hx hn
    rcases Nat.decEq x a with q | q
    · rw [pk_un q, h x hx] at hn; exact absurd (by decide) hn
    · exact q
  have hz : ∀ i, i < 1 → i = 0 := fun i hi => by omega
  have h0 : ¬ upd f0 a 0 a < 0 := by rw [pk_us]; decide
  refine ⟨fun i hi => ?_, fun x hx hn => ⟨0, by decide, by rw [eq, hr x hx hn]⟩, fun x hx hn => ?_, fun i j hij hj => by omega, fun _ j hj => ?_, fun i hi => by omega, fun _ t v ht => by omega, fun _ x hx d hd hp => ?_, h0⟩
  · rw [hz i hi, eq]; exact ⟨pk_us, ha, h0⟩
  · rw [hr x hx hn]
    refine ⟨by rw [e0, pk_us]; rfl, by rw [e0]; decide, by rw [e0]; exact ⟨rfl, rfl⟩, fun c2 _ => Nat.zero_le _, fun d2 hd2 => by rw [e0] at hd2; omega, Or.inl e0⟩
  · rw [hz j hj]; omega
  · rw [eq, e0] at hd
    have : d = 0 := by omega
    subst this
    rw [show x = a from (show a = x from hp).symm]; exact h0
/-- a map is met: from node y by slip z -/
theorem GO_add {k a y z c to : Nat} {b : Nat → Bool} {fd fr fb fq : Nat → Int32} {gc : Nat → Nat} (hk : k ≤ 6) (ha : a < 5 ^ k) (hc : c < 5 ^ k) (h : GO k b a y z c fd fr fb fq gc) (hy : y < c) (hs : stp k b z (tN fq y) to) (hto : fd to < 0) :
    GO k b a y (z + 1) (c + 1) (upd fd to (nI (tN fd (tN fq y) + 1))) (upd fr to (nI (tN fq y))) (upd fb to (nI (slv k z))) (upd fq c (nI to)) (updN gc to (64 * gc (tN fq y) + z)) := by
  obtain ⟨h1, h2, h3, h4, h5, h6, h7, h8, h9⟩ := h
  have h55 := p5le hk
  have hz64 : z < 64 := by have q := hs.1; unfold manyS at q; omega
  have hny := h1 y hy
  have htl : to < 5 ^ k := stp_lt hny.2.1 hs
  have hdy := h3 _ hny.2.1 hny.2.2
  have hdc : tN fd (tN fq y) < c := hdy.2.1
  -- a map that was met isn't the new one
  have hne : ∀ x, ¬ fd x < 0 → ¬ x = to := fun x hx e => hx (by rw [e]; exact hto)
  have hq : ∀ i, i < c → tN (upd fq c (nI to)) i = tN fq i := fun i hi => tN_un (by omega)
  have hqc : tN (upd fq c (nI to)) c = to := tN_us (by omega)
  have hd : ∀ x, ¬ x = to → tN (upd fd to (nI (tN fd (tN fq y) + 1))) x = tN fd x := fun x hx => tN_un hx
  have hdt : tN (upd fd to (nI (tN fd (tN fq y) + 1))) to = tN fd (tN fq y) + 1 := tN_us (by omega)
  have hnn : ∀ x, ¬ fd x < 0 → ¬ upd fd to (nI (tN fd (tN fq y) + 1)) x < 0 := fun x hx => by rw [pk_un (hne x hx)]; exact hx
  have hnt : ¬ upd fd to (nI (tN fd (tN fq y) + 1)) to < 0 := by rw [pk_us]; exact nI_pos (by omega)
  have hqn : ∀ i, i < c → ¬ tN fq i = to := fun i hi => hne _ (h1 i hi).2.2
  have hgc : ∀ x, ¬ x = to → updN gc to (64 * gc (tN fq y) + z) x = gc x := fun x hx => updN_n hx
  have hor : ∀ x, ¬ x = to → ¬ upd fd to (nI (tN fd (tN fq y) + 1)) x < 0 → ¬ fd x < 0 := fun x hx q => by rw [pk_un hx] at q; exact q
  -- the row of the new one is the least
  have hmin : ∀ c2, pcd k b a (tN fd (tN fq y) + 1) c2 to → 64 * gc (tN fq y) + z ≤ c2 := by
    rintro c2 ⟨u, c1, t, p1, p2, p3⟩
    have hu5 := pcd_ix ha _ _ _ p1
    have hur := h8 hy u hu5 _ (Nat.le_refl _) (pcd_pth _ _ _ p1)
    have hum := h3 u hu5 hur
    have hud : tN fd u = tN fd (tN fq y) := by
      rcases Nat.lt_trichotomy (tN fd u) (tN fd (tN fq y)) with q | q | q
      · exact absurd hto (h8 hy to htl (tN fd u + 1) q (pth_snoc p2 _ _ (pcd_pth _ _ _ hum.2.2.1)))
      · exact q
      · exact absurd (pcd_pth _ _ _ p1) (hum.2.2.2.2.1 _ q)
    have hgu : gc u ≤ c1 := hum.2.2.2.1 c1 (by rw [hud]; exact p1)
    obtain ⟨i, hi, ei⟩ := h2 u hu5 hur
    rcases Nat.lt_trichotomy i y with q | q | q
    · exact absurd hto (h6 i q hi t to (by rw [ei]; exact p2))
    · rw [q] at ei
      rw [← ei] at hgu p2
      rcases Nat.lt_or_ge t z with g | g
      · exact absurd hto (h7 hy t to g p2)
      · omega
    · have g := (h4 y i q hi).2 (by rw [ei]; exact hud.symm)
      rw [ei] at g
      omega
  have hmt : metF k b a y (z + 1) (c + 1) (upd fd to (nI (tN fd (tN fq y) + 1))) (upd fr to (nI (tN fq y))) (upd fb to (nI (slv k z))) (upd fq c (nI to)) (updN gc to (64 * gc (tN fq y) + z)) to := by
    unfold metF
    rw [hdt, updN_s]
    refine ⟨pk_us, by omega, ⟨tN fq y, gc (tN fq y), z, hdy.2.2.1, hs, rfl⟩, hmin, fun d2 hd2 hp => absurd hto (h8 hy to htl d2 (by omega) hp), Or.inr ⟨y, z, Or.inr ⟨rfl, by omega⟩, by omega, ?_⟩⟩
    rw [hq y hy, pk_us, pk_us, hd _ (hqn y hy), hgc _ (hqn y hy)]
    exact ⟨rfl, rfl, rfl, hs, rfl⟩
  refine ⟨fun i hi => ?_, fun x hx hn => ?_, fun x hx hn => ?_, fun i j hij hj => ?_, fun _ j hj => ?_, fun i hi hic t v hst => ?_, fun _ t v ht hst => ?_, fun _ x hx d hdd hp => ?_, hnn a h9⟩
  · by_cases e : i = c
    · rw [e, hqc]; exact ⟨pk_us, htl, hnt⟩
    · have hi2 : i < c := by omega
      rw [hq i hi2]
      exact ⟨by rw [pk_un e]; exact (h1 i hi2).1, (h1 i hi2).2.1, hnn _ (h1 i hi2).2.2⟩
  · by_cases e : x = to
    · exact ⟨c, by omega, by rw [hqc, e]⟩
    · obtain ⟨i, hi, ei⟩ := h2 x hx (hor x e hn)
      exact ⟨i, by omega, by rw [hq i hi]; exact ei⟩
  · by_cases e : x = to
    · rw [e]; exact hmt
    · obtain ⟨m1, m2, m3, m4, m5, m6⟩ := h3 x hx (hor x e hn)
      unfold metF
      rw [hd x e, hgc x e]
      refine ⟨by rw [pk_un e]; exact m1, by omega, m3, m4, m5, ?_⟩
      rcases m6 with m6 | ⟨i, t, n1, n2, n3, n4, n5, n6, n7⟩
      · exact Or.inl m6
      · refine Or.inr ⟨i, t, by omega, by omega, ?_⟩
        rw [hq i n2, pk_un e, pk_un e, hd _ (hqn i n2), hgc _ (hqn i n2)]
        exact ⟨n3, n4, n5, n6, n7⟩
  · by_cases e : j = c
    · rw [e, hqc, hq i (by omega), hdt, updN_s, hd _ (hqn i (by omega)), hgc _ (hqn i (by omega))]
      have hic : i < c := by omega
      refine ⟨h5 hy i hic, fun ed => ?_⟩
      obtain ⟨-, -, -, -, -, m6⟩ := h3 _ (h1 i hic).2.1 (h1 i hic).2.2
      rcases m6 with m6 | ⟨i2, t2, n1, n2, -, -, n5, n6, n7⟩
      · omega
      · have ht2 : t2 < 64 := by have q := n6.1; unfold manyS at q; omega
        rw [n7]
        rcases n1 with n1 | ⟨n1, n8⟩
        · have g := (h4 i2 y n1 hy).2 (by omega)
          omega
        · rw [n1]; omega
    · have hjc : j < c := by omega
      rw [hq i (by omega), hq j hjc, hd _ (hqn i (by omega)), hd _ (hqn j hjc), hgc _ (hqn i (by omega)), hgc _ (hqn j hjc)]
      exact h4 i j hij hjc
  · rw [hq y hy, hd _ (hqn y hy)]
    by_cases e : j = c
    · rw [e, hqc, hdt]; omega
    · rw [hq j (by omega), hd _ (hqn j (by omega))]; exact h5 hy j (by omega)
  · rw [hq i (by omega)] at hst
    exact hnn v (h6 i hi (by omega) t v hst)
  · rw [hq y hy] at hst
    by_cases e : t = z
    · have ev : v = to := by rw [← hst.2.2, e]; exact hs.2.2
      rw [ev]; exact hnt
    · exact hnn v (h7 hy t v (by omega) hst)
  · rw [hq y hy, hd _ (hqn y hy)] at hdd
    exact hnn x (h8 hy x hx d hdd hp)
/-- a slip that leads nowhere new -/
theorem GO_skip {k a y z c : Nat} {b : Nat → Bool} {fd fr fb fq : Nat → Int32} {gc : Nat → Nat} (h : GO k b a y z c fd fr fb fq gc) (hs : ∀ v, stp k b z (tN fq y) v → ¬ fd v < 0) : GO k b a y (z + 1) c fd fr fb fq gc := by
  obtain ⟨h1, h2, h3, h4, h5, h6, h7, h8, h9⟩ := h
  refine ⟨h1, h2, fun x hx hn => ?_, h4, h5, h6, fun hy t v ht hst => ?_, h8, h9⟩
  · obtain ⟨m1, m2, m3, m4, m5, m6⟩ := h3 x hx hn
    refine ⟨m1, m2, m3, m4, m5, ?_⟩
    rcases m6 with m6 | ⟨i, t, n1, n2⟩
    · exact Or.inl m6
    · exact Or.inr ⟨i, t, by omega, n2⟩
  · by_cases e : t = z
    · rw [e] at hst; exact hs v hst
    · exact h7 hy t v (by omega) hst
/-- all slips of node y are done -/
theorem GO_next {k a y c : Nat} {b : Nat → Bool} {fd fr fb fq : Nat → Int32} {gc : Nat → Nat} (ha : a < 5 ^ k) (hy : y < c) (h : GO k b a y (manyS k) c fd fr fb fq gc) : GO k b a (y + 1) 0 c fd fr fb fq gc := by
  obtain ⟨h1, h2, h3, h4, h5, h6, h7, h8, h9⟩ := h
  have hcl : ∀ i, i < y + 1 → i < c → ∀ t v, stp k b t (tN fq i) v → ¬ fd v < 0 := by
    intro i hi hic t v hst
    by_cases e : i = y
    · rw [e] at hst; exact h7 hy t v hst.1 hst
    · exact h6 i (by omega) hic t v hst
  refine ⟨h1, h2, fun x hx hn => ?_, h4, fun hy1 j hj => ?_, hcl, fun _ t v ht => absurd ht (Nat.not_lt_zero _), fun hy1 x hx d hd hp => ?_, h9⟩
  · obtain ⟨m1, m2, m3, m4, m5, m6⟩ := h3 x hx hn
    refine ⟨m1, m2, m3, m4, m5, ?_⟩
    rcases m6 with m6 | ⟨i, t, n1, n2⟩
    · exact Or.inl m6
    · exact Or.inr ⟨i, t, by omega, n2⟩
  · have g := h5 hy j hj
    have g2 := (h4 y (y + 1) (by omega) hy1).1
    omega
  · rcases Nat.lt_or_ge (tN fd (tN fq y)) d with q | q
    · have g3 := h5 hy (y + 1) hy1
      have ed : d = tN fd (tN fq y) + 1 := by omega
      subst ed
      obtain ⟨u, t, hu, hpu, hst⟩ := pth_last ha hp
      have hur := h8 hy u hu _ (Nat.le_refl _) hpu
      obtain ⟨i, hi, ei⟩ := h2 u hu hur
      have hud : tN fd u ≤ tN fd (tN fq y) := by
        rcases Nat.lt_or_ge (tN fd (tN fq y)) (tN fd u) with g | g
        · exact absurd hpu ((h3 u hu hur).2.2.2.2.1 _ g)
        · exact g
      rcases Nat.lt_or_ge i (y + 1) with g | g
      · exact hcl i g hi t x (by rw [ei]; exact hst)
      · rcases Nat.eq_or_lt_of_le g with e | e
        · rw [← e] at ei; rw [ei] at hd; omega
        · have g4 := (h4 (y + 1) i e hi).1
          rw [ei] at g4
          omega
    · exact h8 hy x hx d q hp
/-- the end: every map that can be reached was met -/
theorem GO_end {k a c : Nat} {b : Nat → Bool} {fd fr fb fq : Nat → Int32} {gc : Nat → Nat} (ha : a < 5 ^ k) (h : GO k b a c 0 c fd fr fb fq gc) : ∀ (d x : Nat), x < 5 ^ k → pth k b x d a → ¬ fd x < 0
  | 0, x, _, hp => by rw [← show a = x from hp]; exact h.2.2.2.2.2.2.2.2
  | d + 1, x, hx, hp => by
    obtain ⟨u, t, hu, hpu, hst⟩ := pth_last ha hp
    obtain ⟨i, hi, ei⟩ := h.2.1 u hu (GO_end ha h d u hu hpu)
    exact h.2.2.2.2.2.1 i hi hi t x (by rw [ei]; exact hst)
