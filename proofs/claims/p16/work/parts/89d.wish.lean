/-! a wish, and sites that are read -/
def wishS (k : Nat) (f : Nat → Int32) (p2 : Int32) (a x : Nat) : Prop := ∀ j, j < k → (f j = 63 ∨ sgO (f j) = nI (dg k x j)) ∧ (tdP p2 (nI j) → dg k x j = dg k a j)
theorem wishS_congr {k : Nat} {f g : Nat → Int32} {p2 : Int32} {a : Nat} (h : ∀ j, j < k → f j = g j) {x : Nat} : wishS k f p2 a x ↔ wishS k g p2 a x := by
  constructor
  · intro q j hj
    rw [← h j hj]; exact q j hj
  · intro q j hj
    rw [h j hj]; exact q j hj
theorem wm_sg {c : Int32} {d : Nat} (hd : d < 5) : (c = 63 ∨ sgO c = nI d) ↔ (num c = 5 ∨ num c = nI d) := by
  obtain ⟨m1, m2, m3⟩ := mark_sgO (c := c)
  constructor
  · rintro (q | q)
    · exact Or.inl (m3.mp q)
    · have h0 : 0 ≤ sgO c := by
        rw [q, i3_le, nI_toInt (by omega)]
        simp only [Int32.reduceToInt]
        omega
      exact Or.inr ((m2 h0).trans q)
  · rintro (q | q)
    · exact Or.inl (m3.mpr q)
    · have h0 : 0 ≤ sgO c := m1.mpr (by
        rw [q]
        simp only [i3_lt, nI_toInt (show d < 2 ^ 31 by omega), Int32.reduceToInt]
        omega)
      exact Or.inr ((m2 h0).symm.trans q)
theorem num_6 {w : Prop} {c : Int32} (h : canM w c) : ∃ g, g < 6 ∧ num c = nI g := by
  rcases h with q | ⟨-, q⟩
  · obtain ⟨g, g1, g2⟩ := sgO_nat q
    exact ⟨g, by omega, (mark_sgO.2.1 q).trans g2⟩
  · exact ⟨5, by decide, (mark_sgO.2.2.mp q).trans (by decide)⟩
theorem gp_ok {k a : Nat} {go p0 : Int32} {f : Nat → Int32} (h : ∀ j, j < k → (tdP p0 (nI j) ∧ gmk go j = nI (dg k a j) ∧ (num (f j) = 5 ∨ num (f j) = nI (dg k a j))) ∨ (¬ tdP p0 (nI j) ∧ gmk go j = num (f j))) (x : Nat) : gS k go x ↔ wishS k f p0 a x := by
  have h5 : ∀ j, ¬ nI (dg k a j) = 5 := fun j e => by
    have := dg_lt k a j
    have := (nI_eq (a := dg k a j) (b := 5) (by omega) (by decide)).mp e
    omega
  constructor
  · intro q j hj
    have dl := dg_lt k x j
    have dla := dg_lt k a j
    rcases h j hj with ⟨a1, a2, a3⟩ | ⟨a1, a2⟩
    · have e : nI (dg k a j) = nI (dg k x j) := by
        rcases q j hj with e | e
        · rw [a2] at e; exact absurd e (h5 j)
        · rw [a2] at e; exact e
      have e2 : dg k x j = dg k a j := ((nI_eq (by omega) (by omega)).mp e).symm
      refine ⟨(wm_sg dl).mpr ?_, fun _ => e2⟩
      rw [e2]; exact a3
    · refine ⟨(wm_sg dl).mpr ?_, fun t => absurd t a1⟩
      rw [← a2]; exact q j hj
  · intro q j hj
    have dl := dg_lt k x j
    obtain ⟨q1, q2⟩ := q j hj
    rcases h j hj with ⟨a1, a2, a3⟩ | ⟨a1, a2⟩
    · exact Or.inr (by rw [a2, q2 a1])
    · rw [a2]; exact (wm_sg dl).mp q1
theorem gp_no {k x a g : Nat} {p0 : Int32} {f : Nat → Int32} (hx : x < k) (htd : tdP p0 (nI x)) (e : num (f x) = nI g) (hg : g < 6) (h5 : ¬ g = 5) (hd : ¬ g = dg k a x) (z : Nat) : ¬ wishS k f p0 a z := by
  intro q
  obtain ⟨q1, q2⟩ := q x hx
  have dl := dg_lt k z x
  have dla := dg_lt k a x
  rcases (wm_sg dl).mp q1 with r | r
  · rw [e] at r
    exact h5 ((nI_eq (a := g) (b := 5) (by omega) (by decide)).mp r)
  · rw [e, q2 htd] at r
    exact hd ((nI_eq (by omega) (by omega)).mp r)
theorem bt_m6 : bt (-6) 31 = true := by decide +kernel
theorem gp_ne {g : Int32} {x : Nat} (hx : x ≤ 6) (hz : ∀ i, 3 * x ≤ i → i < 32 → bt g i = false) : ¬ g = (-6) := by
  intro q
  have q8 := hz 31 (by omega) (by decide)
  rw [q, bt_m6] at q8
  exact Bool.noConfusion q8
theorem shl_k : ∀ k, k < 7 → (1 : Int32) <<< (nI k &&& 31) = nI (2 ^ k) := by decide +kernel
theorem p2_64 {k : Nat} (hk : k ≤ 6) : 2 ^ k ≤ 64 := by
  have h : 2 ^ k ≤ 2 ^ 6 := Nat.pow_le_pow_right (by decide) hk
  omega
theorem rd_c {k : Nat} {x : Int32} (hk : k ≤ 6) (h0 : ¬ x < 0) (h : x < nI (2 ^ k)) : ∃ i, i < 2 ^ k ∧ x = nI i := by
  have h6 := p2_64 hk
  rw [i3_lt, nI_toInt (by omega)] at h
  simp only [i3_lt, Int32.reduceToInt] at h0
  refine ⟨x.toInt.toNat, by omega, ?_⟩
  rw [i3_eq, nI_toInt (by omega)]
  omega
theorem rd_n {k : Nat} {x : Int32} (hk : k ≤ 6) (h0 : x < 0) : ¬ ∃ i, i < 2 ^ k ∧ x = nI i := by
  have h6 := p2_64 hk
  rintro ⟨i, i1, i2⟩
  rw [i2] at h0
  exact absurd h0 (nI_pos (by omega))
theorem rd_b {k : Nat} {x : Int32} (hk : k ≤ 6) (h0 : ¬ x < nI (2 ^ k)) : ¬ ∃ i, i < 2 ^ k ∧ x = nI i := by
  have h6 := p2_64 hk
  rintro ⟨i, i1, i2⟩
  rw [i2] at h0
  exact h0 (nI_lt i1 (by omega))
/-- what wished answers -/
def wsP (k pm : Nat) (told : Int32) (ma : Nat → Nat) (f fk : Nat → Int32) (p0 p1 p2 p3 r : Int32) : Prop := (¬ (inR p0 0 5 ∧ inR p1 0 3) ∧ r = (-1)) ∨ ((inR p0 0 5 ∧ inR p1 0 3) ∧ ((¬ (∃ i, i < 2 ^ k ∧ p2 = nI i) ∧ r = (-2)) ∨ ((∃ i, i < 2 ^ k ∧ p2 = nI i) ∧ ((¬ tdP told p0 ∧ r = (-3)) ∨ (tdP told p0 ∧ ((¬ fmF f pm k True pm 0 = (-6) ∧ r = (-5)) ∨ (fmF f pm k True pm 0 = (-6) ∧ rwA k (bK (fk p1.toNatClampNeg)) (wishS k f p2 (ma p0.toNatClampNeg)) (ma p0.toNatClampNeg) p3 r)))))))
theorem wsP_fun {k pm : Nat} {told : Int32} {ma : Nat → Nat} {f g fk fk2 : Nat → Int32} (hpm : pm ≤ 40) (hf : ∀ j : Nat, j < 4 → fk j = fk2 j) (hg : ∀ j : Nat, j < pm → f j = g j) {p0 p1 p2 p3 r r2 : Int32} (h1 : wsP k pm told ma f fk p0 p1 p2 p3 r) (h2 : wsP k pm told ma g fk2 p0 p1 p2 p3 r2) : r = r2 := by
  have ef : fmF f pm k True pm 0 = fmF g pm k True pm 0 := fmF_congr pm 0 (by omega) hg
  unfold wsP at h1
  rw [ef] at h1
  rcases h1 with ⟨a1, a2⟩ | ⟨a1, ⟨b1, b2⟩ | ⟨b1, ⟨c1, c2⟩ | ⟨c1, ⟨d1, d2⟩ | ⟨d1, d2⟩⟩⟩⟩ <;> rcases h2 with ⟨t1, t2⟩ | ⟨t1, ⟨u1, u2⟩ | ⟨u1, ⟨v1, v2⟩ | ⟨v1, ⟨w1, w2⟩ | ⟨w1, w2⟩⟩⟩⟩
  · rw [a2, t2]
  · exact absurd t1 a1
  · exact absurd t1 a1
  · exact absurd t1 a1
  · exact absurd t1 a1
  · exact absurd a1 t1
  · rw [b2, u2]
  · exact absurd u1 b1
  · exact absurd u1 b1
  · exact absurd u1 b1
  · exact absurd a1 t1
  · exact absurd b1 u1
  · rw [c2, v2]
  · exact absurd v1 c1
  · exact absurd v1 c1
  · exact absurd a1 t1
  · exact absurd b1 u1
  · exact absurd c1 v1
  · rw [d2, w2]
  · exact absurd w1 d1
  · exact absurd a1 t1
  · exact absurd b1 u1
  · exact absurd c1 v1
  · exact absurd d1 w1
  · rw [hf _ (clampR (hi := 3) a1.2 (by decide))] at d2
    obtain ⟨ok, -⟩ := fmF_ok hpm pm 0 (by omega) (by omega) d1
    exact rwA_fun (fun x _ => wishS_congr (fun j hj => hg j (by omega))) d2 w2
theorem wsP_5 {k pm i h : Nat} {told : Int32} {ma : Nat → Nat} {f fk : Nat → Int32} {p0 p1 p2 p3 r : Int32} {S : Nat → Prop} (hi : i < 6) (e0 : p0 = nI i) (hh : h < 4) (e1 : p1 = nI h) (h2 : ∃ i, i < 2 ^ k ∧ p2 = nI i) (h3 : tdP told p0) (h4 : fmF f pm k True pm 0 = (-6)) (hss : ∀ x, x < 5 ^ k → (S x ↔ wishS k f p2 (ma i) x)) (hr : rwA k (bK (fk h)) S (ma i) p3 r) : wsP k pm told ma f fk p0 p1 p2 p3 r := by
  refine Or.inr ⟨⟨by rw [e0]; exact inR05 hi, by rw [e1]; exact inR03 hh⟩, Or.inr ⟨h2, Or.inr ⟨h3, Or.inr ⟨h4, ?_⟩⟩⟩⟩
  rw [e0, e1, nI_clamp (by omega), nI_clamp (by omega)]
  exact rwA_S hss hr
theorem rwA_no {k a : Nat} {b : Nat → Bool} {S : Nat → Prop} (h : ∀ x, x < 5 ^ k → ¬ S x) {p3 : Int32} : rwA k b S a p3 (-6) := Or.inl ⟨fun _ ⟨g, g1, g2, _⟩ => h g g1 g2, rfl⟩
