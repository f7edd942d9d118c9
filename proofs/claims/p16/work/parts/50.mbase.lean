/-! numbers of the reference: sites, maps, slips -/
def pOK (k : Nat) (fp : Nat → Int32) : Prop := ∀ j, j < k → fp j = nI (5 ^ (k - 1 - j))
def mapsOK (k : Nat) (fm : Nat → Int32) : Prop := ∀ j, j < 6 → ∃ a, a < 5 ^ k ∧ fm j = nI a
def slipOK (k : Nat) (x : Int32) : Prop := ∃ m0 mj mg, okV k m0 mj mg ∧ x = nI (100 * m0 + 10 * mj + mg)
def tdP (told p : Int32) : Prop := (told >>> (p &&& 31)) &&& 1 = 1
def bK (ki : Int32) (i : Nat) : Bool := decide ((ki >>> (nI i &&& 31)) &&& 1 = 1)
noncomputable def sgO (c : Int32) : Int32 := cIf (c = 45) 4 (cIf (inR c 97 100) (c - 97) (-6))
noncomputable def kdO (c : Int32) : Int32 := cIf (c = 99) 0 (cIf (c = 115) 1 (cIf (c = 116) 2 (cIf (c = 111) 3 (-6))))
theorem p5sub {k j : Nat} (hk : k ≤ 6) (hj : j < k) : 5 ^ (k - 1 - j) ≤ 3125 := Nat.le_trans (Nat.pow_le_pow_right (by decide) (show k - 1 - j ≤ 5 by omega)) (by decide)
theorem pz {k j : Nat} {fp : Nat → Int32} (hk : k ≤ 6) (hj : j < k) (hp : pOK k fp) : ¬ fp j = 0 := by
  rw [hp j hj]
  have h := p5sub hk hj
  exact nI_ne0 (Nat.pow_pos (by decide)) (by omega)
theorem sgE {k a j : Nat} {fp : Nat → Int32} (hk : k ≤ 6) (ha : a < 5 ^ k) (hj : j < k) (hp : pOK k fp) : nI a / fp j - nI a / fp j / 5 * 5 = nI (dg k a j) := by
  rw [hp j hj]
  have h := p5sub hk hj
  have h5 := p5le hk
  rw [pk_div (by omega) (Nat.pow_pos (by decide)) (by omega)]
  have h6 : a / 5 ^ (k - 1 - j) ≤ a := Nat.div_le_self _ _
  exact pk_rem (d := 5) (by omega) (by decide) (by decide)
theorem wiE {k a j g : Nat} {fp : Nat → Int32} (hj : j < k) (hp : pOK k fp) : nI a + (nI g - nI (dg k a j)) * fp j = nI (wN k a j g) := by
  rw [hp j hj]
  exact nI_with (dg_le k a j)
theorem allE {k : Nat} {fp : Nat → Int32} (hk : 1 ≤ k) (hp : pOK k fp) : 5 * fp (0 : Int32).toNatClampNeg = nI (5 ^ k) := by
  rw [show (0 : Int32).toNatClampNeg = 0 by decide, hp 0 (by omega)]
  have : 5 ^ k = 5 * 5 ^ (k - 1 - 0) := by rw [Nat.mul_comm, ← Nat.pow_succ]; congr 1; omega
  rw [this]
  exact pk_mul 5 _
theorem inRn {x : Int32} {n : Nat} (hn : n < 2 ^ 31) (h : inR x 0 (nI n)) : ∃ j, j ≤ n ∧ x = nI j :=
  nI_of2 (nI_toInt hn) (fun q => absurd h.1 (by simp only [i3_le, i3_lt, Int32.reduceToInt] at *; omega)) h.2
theorem inRm {x : Int32} {n j : Nat} (hn : n < 2 ^ 31) (hj : j ≤ n) (e : x = nI j) : inR x 0 (nI n) := by
  rw [e]; exact ⟨nI_pos' (by omega), nI_le hj hn⟩
theorem siteE {x : Int32} {k : Nat} (h1 : 2 ≤ k) (h6 : k ≤ 6) : inR x 0 (nI (k - 1)) ↔ ∃ j, j < k ∧ x = nI j := by
  constructor
  · intro h
    obtain ⟨j, a, b⟩ := inRn (by omega) h
    exact ⟨j, by omega, b⟩
  · rintro ⟨j, a, b⟩
    exact inRm (by omega) (by omega) b
theorem inR6 {x : Int32} (h : inR x 0 5) : ∃ j, j < 6 ∧ x = nI j := by
  obtain ⟨j, a, b⟩ := inRn (n := 5) (by decide) h
  exact ⟨j, by omega, b⟩
theorem inR4 {x : Int32} (h : inR x 0 3) : ∃ j, j < 4 ∧ x = nI j := by
  obtain ⟨j, a, b⟩ := inRn (n := 3) (by decide) h
  exact ⟨j, by omega, b⟩
theorem inR2 {x : Int32} (h : inR x 0 1) : ∃ j, j < 2 ∧ x = nI j := by
  obtain ⟨j, a, b⟩ := inRn (n := 1) (by decide) h
  exact ⟨j, by omega, b⟩
theorem subadd {a b : Nat} (h : b ≤ a + 1) : nI a - nI b + 1 = nI (a + 1 - b) := by
  rw [Int32.sub_eq_add_neg, Int32.add_assoc, Int32.add_comm (-nI b) 1, ← Int32.add_assoc, nI_1, ← Int32.sub_eq_add_neg, pk_sub h]
theorem slv_a {k t : Nat} (h : t < 4 * k) : slv k t = 10 * (t / 4) + t % 4 := by
  unfold slv mvAt; rw [if_pos h]; dsimp only; omega
theorem slv_b {k t : Nat} (h : 4 * k ≤ t) (h2 : t - 4 * k < k - 1) : slv k t = 100 + 10 * (t - 4 * k) := by
  unfold slv mvAt; rw [if_neg (by omega), if_pos h2]; dsimp only; omega
theorem slv_c {k t : Nat} (h : 4 * k ≤ t) (h2 : k - 1 ≤ t - 4 * k) (h3 : t - 4 * k < 2 * (k - 1)) : slv k t = 200 + 10 * (t - 4 * k + 1 - k) := by
  unfold slv mvAt; rw [if_neg (by omega), if_neg (by omega), if_pos h3]; dsimp only; omega
theorem slv_d {k t : Nat} (h : 4 * k ≤ t) (h2 : 2 * (k - 1) ≤ t - 4 * k) : slv k t = 300 + 10 * (t - 4 * k - 2 * (k - 1)) := by
  unfold slv mvAt; rw [if_neg (by omega), if_neg (by omega), if_neg (by omega)]; dsimp only; omega
theorem kdO_nat {c : Int32} (h : ¬ kdO c < 0) : ∃ j, j ≤ 3 ∧ kdO c = nI j := by
  unfold kdO at *
  by_cases h1 : c = 99
  · rw [cIf_t h1]; exact ⟨0, by decide, rfl⟩
  · rw [cIf_f h1] at *
    by_cases h2 : c = 115
    · rw [cIf_t h2]; exact ⟨1, by decide, rfl⟩
    · rw [cIf_f h2] at *
      by_cases h3 : c = 116
      · rw [cIf_t h3]; exact ⟨2, by decide, rfl⟩
      · rw [cIf_f h3] at *
        by_cases h4 : c = 111
        · rw [cIf_t h4]; exact ⟨3, by decide, rfl⟩
        · rw [cIf_f h4] at h; exact absurd (by decide) h
theorem sub97 {c : Int32} (h : inR c 97 100) : ∃ g, g < 4 ∧ c - 97 = nI g := by
  have h1 := i3_le.mp h.1
  have h2 := i3_le.mp h.2
  simp only [Int32.reduceToInt] at h1 h2
  obtain ⟨j, e⟩ : ∃ j : Nat, (j : Int) = c.toInt := ⟨c.toInt.toNat, by omega⟩
  have hc : c = nI j := by rw [i3_eq, nI_toInt (by omega)]; omega
  refine ⟨j - 97, by omega, ?_⟩
  rw [hc]
  exact pk_sub (b := 97) (by omega)
theorem sgO_nat {c : Int32} (h : 0 ≤ sgO c) : ∃ g, g < 5 ∧ sgO c = nI g := by
  unfold sgO at *
  by_cases h1 : c = 45
  · rw [cIf_t h1]; exact ⟨4, by decide, rfl⟩
  · rw [cIf_f h1] at *
    by_cases h2 : inR c 97 100
    · rw [cIf_t h2]
      obtain ⟨g, a, b⟩ := sub97 h2
      exact ⟨g, by omega, b⟩
    · rw [cIf_f h2] at h; exact absurd h (by decide)
theorem mapsOK_upd {k a i : Nat} {fm : Nat → Int32} (h : mapsOK k fm) (ha : a < 5 ^ k) : mapsOK k (upd fm i (nI a)) := by
  intro j hj
  by_cases e : j = i
  · subst e; exact ⟨a, ha, pk_us⟩
  · rw [pk_un e]; exact h j hj
/-- what a search forward leaves: maps that were met stand in the queue, each but the first has one before it that is nearer by one -/
def dOK (al c : Nat) (fd fr fq : Nat → Int32) : Prop := 1 ≤ c ∧ c + cneg fd al = al ∧ (∀ i, i < c → ∃ q, q < al ∧ fq i = nI q ∧ ¬ fd q < 0) ∧ (∀ x, x < al → fd x = (-6) ∨ ∃ d, d < c ∧ fd x = nI d ∧ (d = 0 ∨ ∃ y, y < al ∧ fr x = nI y ∧ fd y = nI (d - 1)))
theorem dOK_le {al c : Nat} {fd fr fq : Nat → Int32} (h : dOK al c fd fr fq) : c ≤ al := by have := h.2.1; omega
theorem dOK_at {al c x : Nat} {fd fr fq : Nat → Int32} (h : dOK al c fd fr fq) (hx : x < al) (hn : ¬ fd x < 0) : ∃ d, d < c ∧ fd x = nI d ∧ (d = 0 ∨ ∃ y, y < al ∧ fr x = nI y ∧ fd y = nI (d - 1)) := by
  rcases h.2.2.2 x hx with e | e
  · rw [e] at hn; exact absurd (by decide) hn
  · exact e
theorem dOK_start {al a : Nat} {fd f0 fr fq : Nat → Int32} (ha : a < al) (h : ∀ j, j < al → f0 j = (-6)) (e : fd = upd f0 a 0) : dOK al 1 fd fr (upd fq 0 (nI a)) := by
  have h6 : ((-6) : Int32) < 0 := by decide
  refine ⟨Nat.le_refl _, ?_, fun i hi => ?_, fun x hx => ?_⟩
  · have h1 := cneg_up (f := f0) (j := a) (v := 0) (by rw [h a ha]; exact h6) (by decide) al ha
    have h2 := cneg_all (f := f0) al (fun j hj => by rw [h j hj]; exact h6)
    rw [e]; omega
  · refine ⟨a, ha, ?_, ?_⟩
    · rw [show i = 0 by omega, pk_us]
    · rw [e, pk_us]; decide
  · by_cases c : x = a
    · exact Or.inr ⟨0, by decide, by rw [e, c, pk_us]; rfl, Or.inl rfl⟩
    · rw [e, pk_un c, h x hx]; exact Or.inl rfl
theorem dOK_step {al c now to d : Nat} {fd fr fq : Nat → Int32} (h : dOK al c fd fr fq) (hal : al ≤ 15625) (hto : to < al) (hneg : fd to < 0) (hnow : now < al) (hd : fd now = nI d) (hdc : d < c) : dOK al (c + 1) (upd fd to (nI (d + 1))) (upd fr to (nI now)) (upd fq c (nI to)) ∧ c < al := by
  obtain ⟨h1, h2, h3, h4⟩ := h
  have hp := cneg_pos hneg al hto
  have hu := cneg_up (f := fd) (j := to) (v := nI (d + 1)) hneg (nI_pos (by omega)) al hto
  have hne : ∀ x, ¬ fd x < 0 → x ≠ to := fun x hx e => hx (by rw [e]; exact hneg)
  refine ⟨⟨by omega, by omega, fun i hi => ?_, fun x hx => ?_⟩, by omega⟩
  · by_cases e : i = c
    · refine ⟨to, hto, by rw [e, pk_us], by rw [pk_us]; exact nI_pos (by omega)⟩
    · obtain ⟨q, q1, q2, q3⟩ := h3 i (by omega)
      exact ⟨q, q1, by rw [pk_un e]; exact q2, by rw [pk_un (hne q q3)]; exact q3⟩
  · by_cases e : x = to
    · refine Or.inr ⟨d + 1, by omega, by rw [e, pk_us], Or.inr ⟨now, hnow, by rw [e, pk_us], ?_⟩⟩
      rw [pk_un (hne now (by rw [hd]; exact nI_pos (by omega))), hd]; rfl
    · rw [pk_un e]
      rcases h4 x hx with a0 | ⟨d2, a1, a2, a3⟩
      · exact Or.inl a0
      refine Or.inr ⟨d2, by omega, a2, ?_⟩
      rcases a3 with a3 | ⟨y, b1, b2, b3⟩
      · exact Or.inl a3
      · refine Or.inr ⟨y, b1, by rw [pk_un e]; exact b2, ?_⟩
        rw [pk_un (hne y (by rw [b3]; exact nI_pos (by omega)))]; exact b3
/-- rounds of the search backward: an entry is FAR, or how far it is -/
def tOK (k : Nat) (b : Nat → Bool) (g r : Nat) (f : Nat → Int32) : Prop := ∀ x, x < 5 ^ k → f x = 1000 ∨ ∃ d, d ≤ r ∧ f x = nI d ∧ pth k b g d x ∧ ∀ d', d' < d → ¬ pth k b g d' x
theorem tOK_bound {k g r x : Nat} {b : Nat → Bool} {f : Nat → Int32} (hk : k ≤ 6) (hg : g < 5 ^ k) (h : tOK k b g r f) (hx : x < 5 ^ k) {d : Nat} (hd : f x = nI d) (hd2 : d < 1000) : d ≤ 72 := by
  rcases h x hx with e | ⟨d2, a1, a2, a3, a4⟩
  · rw [hd] at e
    have := (nI_eq (a := d) (b := 1000) (by omega) (by decide)).mp e
    omega
  · obtain ⟨d', b1, b2⟩ := pth72 hk hg hx a3
    have h1 : d2 ≤ 72 := by
      rcases Nat.lt_or_ge 72 d2 with q | q
      · exact absurd b2 (a4 d' (by omega))
      · exact q
    rw [hd] at a2
    have := (nI_eq (a := d) (b := d2) (by omega) (by omega)).mp a2
    omega
/-- how many slips of the first n a hand may make that change a map -/
def cSl (k : Nat) (b : Nat → Bool) (a : Nat) : Nat → Nat
  | 0 => 0
  | n + 1 => cSl k b a n + (if b (mvAt k n).1 = true ∧ ¬ slN k a (mvAt k n) = a then 1 else 0)
theorem cSl_le (k : Nat) (b : Nat → Bool) (a : Nat) : ∀ n, cSl k b a n ≤ n
  | 0 => Nat.le_refl _
  | n + 1 => by
    have := cSl_le k b a n
    unfold cSl
    by_cases h : b (mvAt k n).1 = true ∧ ¬ slN k a (mvAt k n) = a
    · rw [if_pos h]; omega
    · rw [if_neg h]; omega
theorem cSl_t {k : Nat} {b : Nat → Bool} {a n : Nat} (h1 : b (mvAt k n).1 = true) (h2 : ¬ slN k a (mvAt k n) = a) : cSl k b a (n + 1) = cSl k b a n + 1 := by
  show cSl k b a n + _ = _
  rw [if_pos ⟨h1, h2⟩]
theorem cSl_f {k : Nat} {b : Nat → Bool} {a n : Nat} (h : ¬ (b (mvAt k n).1 = true ∧ ¬ slN k a (mvAt k n) = a)) : cSl k b a (n + 1) = cSl k b a n := by
  show cSl k b a n + _ = _
  rw [if_neg h]; rfl
