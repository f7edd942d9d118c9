/-! what holds in maps of a set -/
/-- of the first n maps, how many are of the set and have this sign at this site -/
noncomputable def hmN (k : Nat) (set : Int32) (ma : Nat → Nat) (j g : Nat) : Nat → Nat
  | 0 => 0
  | x + 1 => hmN k set ma j g x + pIf (tdP set (nI x) ∧ dg k (ma x) j = g) 1 0
theorem hmN_t {k j g x : Nat} {set : Int32} {ma : Nat → Nat} (h : tdP set (nI x)) (h2 : dg k (ma x) j = g) : hmN k set ma j g (x + 1) = hmN k set ma j g x + 1 := by
  show hmN k set ma j g x + pIf _ _ _ = _
  rw [pIf_t ⟨h, h2⟩]
theorem hmN_f {k j g x : Nat} {set : Int32} {ma : Nat → Nat} (h : ¬ (tdP set (nI x) ∧ dg k (ma x) j = g)) : hmN k set ma j g (x + 1) = hmN k set ma j g x := by
  show hmN k set ma j g x + pIf _ _ _ = _
  rw [pIf_f h]; rfl
theorem hmN_le {k j g : Nat} {set : Int32} {ma : Nat → Nat} : ∀ x, hmN k set ma j g x ≤ x
  | 0 => Nat.le_refl _
  | x + 1 => by
    have h := hmN_le (k := k) (j := j) (g := g) (set := set) (ma := ma) x
    by_cases c : tdP set (nI x) ∧ dg k (ma x) j = g
    · rw [hmN_t c.1 c.2]; omega
    · rw [hmN_f c]; omega
/-- the first of 0 .. n that has most -/
def mstN (f : Nat → Nat) : Nat → Nat
  | 0 => 0
  | x + 1 => if f (mstN f x) < f (x + 1) then x + 1 else mstN f x
theorem mstN_t {f : Nat → Nat} {x : Nat} (h : f (mstN f x) < f (x + 1)) : mstN f (x + 1) = x + 1 := if_pos h
theorem mstN_f {f : Nat → Nat} {x : Nat} (h : ¬ f (mstN f x) < f (x + 1)) : mstN f (x + 1) = mstN f x := if_neg h
theorem mstN_le {f : Nat → Nat} : ∀ x, mstN f x ≤ x
  | 0 => Nat.le_refl _
  | x + 1 => by
    have h := mstN_le (f := f) x
    by_cases c : f (mstN f x) < f (x + 1)
    · rw [mstN_t c]; omega
    · rw [mstN_f c]; omega
noncomputable def mstA (k : Nat) (set : Int32) (ma : Nat → Nat) (j : Nat) : Nat := mstN (fun g => hmN k set ma j g 6) 4
theorem mstA_lt {k j : Nat} {set : Int32} {ma : Nat → Nat} : mstA k set ma j < 5 := by
  have h := mstN_le (f := fun g => hmN k set ma j g 6) 4
  unfold mstA
  omega
/-- how many maps a set has -/
def bcN (set : Int32) : Nat → Nat
  | 0 => 0
  | x + 1 => bcN set x + (if (set >>> (nI x &&& 31)) &&& 1 = 1 then 1 else 0)
theorem bcN_t {set : Int32} {x : Nat} (h : tdP set (nI x)) : bcN set (x + 1) = bcN set x + 1 := by
  show bcN set x + _ = _
  rw [if_pos (show (set >>> (nI x &&& 31)) &&& 1 = 1 from h)]
theorem bcN_f {set : Int32} {x : Nat} (h : ¬ tdP set (nI x)) : bcN set (x + 1) = bcN set x := by
  show bcN set x + _ = _
  rw [if_neg (show ¬ (set >>> (nI x &&& 31)) &&& 1 = 1 from h)]; rfl
theorem hm_le_bc {k j g : Nat} {set : Int32} {ma : Nat → Nat} : ∀ x, hmN k set ma j g x ≤ bcN set x
  | 0 => Nat.le_refl _
  | x + 1 => by
    have h := hm_le_bc (k := k) (j := j) (g := g) (set := set) (ma := ma) x
    by_cases c : tdP set (nI x)
    · rw [bcN_t c]
      by_cases d : dg k (ma x) j = g
      · rw [hmN_t c d]; omega
      · rw [hmN_f (fun q => d q.2)]; omega
    · rw [bcN_f c, hmN_f (fun q => c q.1)]; exact h
theorem hm_bc {k j g : Nat} {set : Int32} {ma : Nat → Nat} : ∀ x, (hmN k set ma j g x = bcN set x ↔ ∀ i, i < x → tdP set (nI i) → dg k (ma i) j = g)
  | 0 => ⟨fun _ i hi => absurd hi (Nat.not_lt_zero _), fun _ => rfl⟩
  | x + 1 => by
    have ih := hm_bc (k := k) (j := j) (g := g) (set := set) (ma := ma) x
    have hl := hm_le_bc (k := k) (j := j) (g := g) (set := set) (ma := ma) x
    by_cases c : tdP set (nI x)
    · rw [bcN_t c]
      by_cases d : dg k (ma x) j = g
      · rw [hmN_t c d]
        constructor
        · intro h i hi ht
          by_cases e : i = x
          · rw [e]; exact d
          · exact ih.mp (by omega) i (by omega) ht
        · intro h
          have := ih.mpr (fun i hi ht => h i (by omega) ht)
          omega
      · rw [hmN_f (fun q => d q.2)]
        constructor
        · intro h; omega
        · intro h; exact absurd (h x (by omega) c) d
    · rw [bcN_f c, hmN_f (fun q => c q.1)]
      constructor
      · intro h i hi ht
        by_cases e : i = x
        · rw [e] at ht; exact absurd ht c
        · exact ih.mp h i (by omega) ht
      · intro h
        exact ih.mpr (fun i hi ht => h i (by omega) ht)
/-- bits of sites at which something holds -/
noncomputable def hbA (R : Nat → Prop) : Nat → Int32
  | 0 => 0
  | x + 1 => pIf (R x) (hbA R x ||| (1 <<< (nI x &&& 31))) (hbA R x)
theorem hbA_t {R : Nat → Prop} {x : Nat} (h : R x) : hbA R (x + 1) = hbA R x ||| (1 <<< (nI x &&& 31)) := pIf_t h
theorem hbA_f {R : Nat → Prop} {x : Nat} (h : ¬ R x) : hbA R (x + 1) = hbA R x := pIf_f h
def allH (k : Nat) (set : Int32) (ma : Nat → Nat) (j g : Nat) : Prop := ∀ i, i < 6 → tdP set (nI i) → dg k (ma i) j = g
noncomputable def hoA (k : Nat) (told : Int32) (ma : Nat → Nat) (p0 p1 : Int32) : Int32 := pIf (¬ p1 = (-1) ∧ ¬ ∃ j, j < k ∧ p1 = nI j) (-1) (pIf (inR p0 1 63) (pIf (told &&& p0 = p0) (pIf (p1 = (-1)) (hbA (fun j => allH k p0 ma j (mstA k p0 ma j)) k) (wrN (mstA k p0 ma p1.toNatClampNeg))) (-3)) (-2))
theorem hoA_1 {k : Nat} {told : Int32} {ma : Nat → Nat} {p0 p1 : Int32} (h : ¬ p1 = (-1)) (h2 : ¬ ∃ j, j < k ∧ p1 = nI j) : (-1) = hoA k told ma p0 p1 := (pIf_t ⟨h, h2⟩).symm
theorem hoA_2 {k : Nat} {told : Int32} {ma : Nat → Nat} {p0 p1 : Int32} (h : ¬ (¬ p1 = (-1) ∧ ¬ ∃ j, j < k ∧ p1 = nI j)) (h2 : ¬ inR p0 1 63) : (-2) = hoA k told ma p0 p1 := by unfold hoA; rw [pIf_f h, pIf_f h2]
theorem hoA_3 {k : Nat} {told : Int32} {ma : Nat → Nat} {p0 p1 : Int32} (h : ¬ (¬ p1 = (-1) ∧ ¬ ∃ j, j < k ∧ p1 = nI j)) (h2 : inR p0 1 63) (h3 : ¬ told &&& p0 = p0) : (-3) = hoA k told ma p0 p1 := by unfold hoA; rw [pIf_f h, pIf_t h2, pIf_f h3]
theorem hoA_4 {k : Nat} {told : Int32} {ma : Nat → Nat} {p0 p1 : Int32} (h : p1 = (-1)) (h2 : inR p0 1 63) (h3 : told &&& p0 = p0) : hbA (fun j => allH k p0 ma j (mstA k p0 ma j)) k = hoA k told ma p0 p1 := by unfold hoA; rw [pIf_f (fun q => q.1 h), pIf_t h2, pIf_t h3, pIf_t h]
theorem hoA_5 {k j : Nat} {told : Int32} {ma : Nat → Nat} {p0 p1 : Int32} (hk : k ≤ 6) (hj : j < k) (e1 : p1 = nI j) (h2 : inR p0 1 63) (h3 : told &&& p0 = p0) : wrN (mstA k p0 ma j) = hoA k told ma p0 p1 := by
  have hn : ¬ p1 = (-1) := by
    rw [e1]
    intro q
    have q2 := congrArg Int32.toInt q
    rw [nI_toInt (by omega)] at q2
    simp only [Int32.reduceToInt] at q2
    omega
  unfold hoA
  rw [pIf_f (fun q => q.2 ⟨j, hj, e1⟩), pIf_t h2, pIf_t h3, pIf_f hn, e1, nI_clamp (by omega)]
/-- maps of a set that is told are told -/
theorem set_told {told set : Int32} (h : told &&& set = set) {i : Nat} (hi : i < 32) (ht : tdP set (nI i)) : tdP told (nI i) := by
  rw [td_bit hi] at *
  rw [← h, b_and] at ht
  simp at ht
  exact ht.1
theorem set_nat {x : Int32} (h : inR x 1 63) : ∃ q, q < 64 ∧ x = nI q := by
  have h1 := i3_le.mp h.1
  have h2 := i3_le.mp h.2
  simp only [Int32.reduceToInt] at h1 h2
  refine ⟨x.toInt.toNat, by omega, ?_⟩
  rw [i3_eq, nI_toInt (by omega)]
  omega
/-- how the JDK counts bits -/
def us (x y : Int32) : Int32 := (x.toUInt32 >>> (y.toUInt32 &&& Int32.toUInt32 31)).toInt32
def bcE (x : Int32) : Int32 :=
  let a := x - (us x 1 &&& 1431655765)
  let b := (a &&& 858993459) + (us a 2 &&& 858993459)
  let d := (b + us b 4) &&& 252645135
  let g := d + us d 8
  let h := g + us g 16
  h &&& 63
theorem bcE_ok : ∀ q, q < 64 → bcE (nI q) = nI (bcN (nI q) 6) := by decide +kernel
theorem or_0 (x : Int32) : x ||| 0 = x := b_ext (fun i hi => by rw [b_or, bt_zero, Bool.or_false])
