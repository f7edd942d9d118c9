/-! what the searching calls answer -/
theorem tok_get {t ta tq k : Nat} {qd se go ki nn : Int32} {fs fq : Nat → Int32} (h : tokS (t, ta, tq, qd, se, go, ki, nn, fs, fq)) (hn : nn = nI k) (hk2 : 2 ≤ k) (hk6 : k ≤ 6) : ∃ y c, qd = nI c ∧ se = nI y ∧ BK k (bK ki) (gS k go) y c fs fq := by
  rcases h with e | ⟨k2, y, c, g1, g2, g3, g4, g5, g6⟩
  · rw [hn] at e
    have := (nI_eq (a := k) (b := 0) (by omega) (by decide)).mp e
    omega
  · have ek : k2 = k := (nI_eq (by omega) (by omega)).mp (g3.symm.trans hn)
    subst ek
    exact ⟨y, c, g4, g5, g6⟩
theorem rwA_S {k a : Nat} {b : Nat → Bool} {S S2 : Nat → Prop} (h : ∀ x, x < 5 ^ k → (S x ↔ S2 x)) {p3 r : Int32} (h1 : rwA k b S a p3 r) : rwA k b S2 a p3 r := by
  rcases h1 with ⟨a1, a2⟩ | ⟨D, d0, d1, d2, d3⟩
  · exact Or.inl ⟨fun d q => a1 d ((pS_congr h).mpr q), a2⟩
  · refine Or.inr ⟨D, d0, (pS_congr h).mp d1, fun d hd q => d2 d hd ((pS_congr h).mpr q), ?_⟩
    rcases d3 with c | c | ⟨i, C, c1, c2, c3, c4⟩
    · exact Or.inl c
    · exact Or.inr (Or.inl c)
    · exact Or.inr (Or.inr ⟨i, C, c1, c2, lstC_congr h c3, c4⟩)
def farP (k : Nat) (told : Int32) (ma : Nat → Nat) (fk : Nat → Int32) (p0 p1 p2 p3 r : Int32) : Prop := (¬ (inR p0 0 5 ∧ inR p1 0 5 ∧ inR p2 0 3) ∧ r = (-1)) ∨ ((inR p0 0 5 ∧ inR p1 0 5 ∧ inR p2 0 3) ∧ ((¬ (tdP told p0 ∧ tdP told p1) ∧ r = (-3)) ∨ ((tdP told p0 ∧ tdP told p1) ∧ rwA k (bK (fk p2.toNatClampNeg)) (fun x => x = ma p1.toNatClampNeg) (ma p0.toNatClampNeg) p3 r)))
theorem farP_fun {k : Nat} {told : Int32} {ma : Nat → Nat} {fk fk2 : Nat → Int32} (hf : ∀ j : Nat, j < 4 → fk j = fk2 j) {p0 p1 p2 p3 r r2 : Int32} (h1 : farP k told ma fk p0 p1 p2 p3 r) (h2 : farP k told ma fk2 p0 p1 p2 p3 r2) : r = r2 := by
  rcases h1 with ⟨a1, a2⟩ | ⟨a1, ⟨b1, b2⟩ | ⟨b1, b2⟩⟩ <;> rcases h2 with ⟨c1, c2⟩ | ⟨c1, ⟨d1, d2⟩ | ⟨d1, d2⟩⟩
  · rw [a2, c2]
  · exact absurd c1 a1
  · exact absurd c1 a1
  · exact absurd a1 c1
  · rw [b2, d2]
  · exact absurd d1 b1
  · exact absurd a1 c1
  · exact absurd b1 d1
  · rw [hf _ (clampR (hi := 3) a1.2.2 (by decide))] at b2
    exact rwA_fun (fun x _ => Iff.rfl) b2 d2
/-- how far, as between and who ask -/
def dsA (k : Nat) (b : Nat → Bool) (S : Nat → Prop) (a : Nat) (x : Int32) : Prop := ((∀ d, ¬ pS k b S d a) ∧ x = (-6)) ∨ ∃ D, D ≤ 72 ∧ pS k b S D a ∧ (∀ d, d < D → ¬ pS k b S d a) ∧ x = nI D
theorem dsA_S {k a : Nat} {b : Nat → Bool} {S S2 : Nat → Prop} (h : ∀ x, x < 5 ^ k → (S x ↔ S2 x)) {x : Int32} (h1 : dsA k b S a x) : dsA k b S2 a x := by
  rcases h1 with ⟨a1, a2⟩ | ⟨D, d0, d1, d2, d3⟩
  · exact Or.inl ⟨fun d q => a1 d ((pS_congr h).mpr q), a2⟩
  · exact Or.inr ⟨D, d0, (pS_congr h).mp d1, fun d hd q => d2 d hd ((pS_congr h).mpr q), d3⟩
theorem dsA_fun {k a : Nat} {b : Nat → Bool} {S : Nat → Prop} {x y : Int32} (h1 : dsA k b S a x) (h2 : dsA k b S a y) : x = y := by
  rcases h1 with ⟨a1, a2⟩ | ⟨D, -, d1, d2, d3⟩ <;> rcases h2 with ⟨c1, c2⟩ | ⟨E2, -, e1, e2, e3⟩
  · rw [a2, c2]
  · exact absurd e1 (a1 _)
  · exact absurd d1 (c1 _)
  · have : D = E2 := by
      rcases Nat.lt_trichotomy D E2 with q | q | q
      · exact absurd d1 (e2 D q)
      · exact q
      · exact absurd e1 (d2 E2 q)
    rw [d3, e3, this]
theorem ask_ds {k a : Nat} {b : Nat → Bool} {S : Nat → Prop} {fs : Nat → Int32} {r : Int32} (h : askd k b S fs a ∧ r = fS k fs a) : dsA k b S a r := by
  rcases h.1 with ⟨e, hn⟩ | ⟨D, e, h1, h2, h3, -⟩
  · exact Or.inl ⟨hn, by rw [h.2, e]⟩
  · exact Or.inr ⟨D, h1, h2, h3, by rw [h.2, e]⟩
def btP (k : Nat) (told : Int32) (ma : Nat → Nat) (fk : Nat → Int32) (p0 p1 p2 p3 r : Int32) : Prop := (¬ (inR p0 0 5 ∧ inR p1 0 5 ∧ inR p2 0 3) ∧ r = (-1)) ∨ ((inR p0 0 5 ∧ inR p1 0 5 ∧ inR p2 0 3) ∧ ((¬ inR p3 1 9 ∧ r = (-2)) ∨ (inR p3 1 9 ∧ ((¬ (tdP told p0 ∧ tdP told p1) ∧ r = (-3)) ∨ ((tdP told p0 ∧ tdP told p1) ∧ ∃ x, dsA k (bK (fk p2.toNatClampNeg)) (fun z => z = ma p1.toNatClampNeg) (ma p0.toNatClampNeg) x ∧ r = cIf (x < 0) (-6) ((x + p3 - 1) / p3))))))
theorem btP_fun {k : Nat} {told : Int32} {ma : Nat → Nat} {fk fk2 : Nat → Int32} (hf : ∀ j : Nat, j < 4 → fk j = fk2 j) {p0 p1 p2 p3 r r2 : Int32} (h1 : btP k told ma fk p0 p1 p2 p3 r) (h2 : btP k told ma fk2 p0 p1 p2 p3 r2) : r = r2 := by
  rcases h1 with ⟨a1, a2⟩ | ⟨a1, ⟨b1, b2⟩ | ⟨b1, ⟨c1, c2⟩ | ⟨c1, x, c2, c3⟩⟩⟩ <;> rcases h2 with ⟨d1, d2⟩ | ⟨d1, ⟨e1, e2⟩ | ⟨e1, ⟨f1, f2⟩ | ⟨f1, y, f2, f3⟩⟩⟩
  · rw [a2, d2]
  · exact absurd d1 a1
  · exact absurd d1 a1
  · exact absurd d1 a1
  · exact absurd a1 d1
  · rw [b2, e2]
  · exact absurd e1 b1
  · exact absurd e1 b1
  · exact absurd a1 d1
  · exact absurd b1 e1
  · rw [c2, f2]
  · exact absurd f1 c1
  · exact absurd a1 d1
  · exact absurd b1 e1
  · exact absurd c1 f1
  · rw [hf _ (clampR (hi := 3) a1.2.2 (by decide))] at c2
    rw [c3, f3, dsA_fun c2 f2]
/-- hands by whom it is no more than n -/
def whR (k : Nat) (fk : Nat → Int32) (a g n h : Nat) : Prop := ∃ d, d ≤ n ∧ pS k (bK (fk h)) (fun z => z = g) d a
theorem wh_ds {k a g n h : Nat} {fk : Nat → Int32} {x : Int32} {p2 : Int32} (e2 : p2 = nI n) (hn : n ≤ 30) (hd : dsA k (bK (fk h)) (fun z => z = g) a x) : (¬ x < 0 ∧ x ≤ p2) ↔ whR k fk a g n h := by
  rcases hd with ⟨a1, a2⟩ | ⟨D, d0, d1, d2, d3⟩
  · rw [a2]
    exact ⟨fun q => absurd (by decide) q.1, fun ⟨d, _, q⟩ => absurd q (a1 d)⟩
  · rw [d3, e2]
    constructor
    · rintro ⟨-, q⟩
      exact ⟨D, (nI_leI (by omega) (by omega)).mp q, d1⟩
    · rintro ⟨d, q1, q2⟩
      refine ⟨nI_pos (by omega), nI_le ?_ (by omega)⟩
      rcases Nat.lt_or_ge d D with q | q
      · exact absurd q2 (d2 d q)
      · omega
noncomputable def whA (k : Nat) (told : Int32) (ma : Nat → Nat) (fk : Nat → Int32) (p0 p1 p2 : Int32) : Int32 := pIf (inR p0 0 5 ∧ inR p1 0 5) (pIf (inR p2 0 30) (pIf (tdP told p0 ∧ tdP told p1) (hbA (whR k fk (ma p0.toNatClampNeg) (ma p1.toNatClampNeg) p2.toNatClampNeg) 4) (-3)) (-2)) (-1)
theorem hbA_congr {R R2 : Nat → Prop} : ∀ n, (∀ j, j < n → (R j ↔ R2 j)) → hbA R n = hbA R2 n
  | 0, _ => rfl
  | n + 1, h => by
    have ih := hbA_congr n (fun j hj => h j (by omega))
    by_cases c : R n
    · rw [hbA_t c, hbA_t ((h n (by omega)).mp c), ih]
    · rw [hbA_f c, hbA_f (fun q => c ((h n (by omega)).mpr q)), ih]
theorem whA_congr {k : Nat} {told : Int32} {ma : Nat → Nat} {fk fk2 : Nat → Int32} (hf : ∀ j : Nat, j < 4 → fk j = fk2 j) {p0 p1 p2 : Int32} : whA k told ma fk p0 p1 p2 = whA k told ma fk2 p0 p1 p2 := by
  unfold whA
  rw [hbA_congr (R := whR k fk (ma p0.toNatClampNeg) (ma p1.toNatClampNeg) p2.toNatClampNeg) (R2 := whR k fk2 (ma p0.toNatClampNeg) (ma p1.toNatClampNeg) p2.toNatClampNeg) 4 (fun j hj => by unfold whR; rw [hf j hj])]
theorem whA_1 {k : Nat} {told : Int32} {ma : Nat → Nat} {fk : Nat → Int32} {p0 p1 p2 : Int32} (h : ¬ (inR p0 0 5 ∧ inR p1 0 5)) : (-1) = whA k told ma fk p0 p1 p2 := (pIf_f h).symm
theorem whA_2 {k : Nat} {told : Int32} {ma : Nat → Nat} {fk : Nat → Int32} {p0 p1 p2 : Int32} (h : inR p0 0 5 ∧ inR p1 0 5) (h2 : ¬ inR p2 0 30) : (-2) = whA k told ma fk p0 p1 p2 := by unfold whA; rw [pIf_t h, pIf_f h2]
theorem whA_3 {k : Nat} {told : Int32} {ma : Nat → Nat} {fk : Nat → Int32} {p0 p1 p2 : Int32} (h : inR p0 0 5 ∧ inR p1 0 5) (h2 : inR p2 0 30) (h3 : ¬ (tdP told p0 ∧ tdP told p1)) : (-3) = whA k told ma fk p0 p1 p2 := by unfold whA; rw [pIf_t h, pIf_t h2, pIf_f h3]
theorem whA_4 {k i j n : Nat} {told : Int32} {ma : Nat → Nat} {fk : Nat → Int32} {p0 p1 p2 : Int32} (hi : i < 6) (e0 : p0 = nI i) (hj : j < 6) (e1 : p1 = nI j) (hn : n ≤ 30) (e2 : p2 = nI n) (h3 : tdP told p0 ∧ tdP told p1) : hbA (whR k fk (ma i) (ma j) n) 4 = whA k told ma fk p0 p1 p2 := by
  unfold whA
  rw [pIf_t ⟨by rw [e0]; exact inR05 hi, by rw [e1]; exact inR05 hj⟩, pIf_t (show inR p2 0 30 by rw [e2]; exact inRm (n := 30) (by decide) hn rfl), pIf_t h3, e0, e1, e2, nI_clamp (by omega), nI_clamp (by omega), nI_clamp (by omega)]
theorem farP_4 {k i j h : Nat} {told : Int32} {ma : Nat → Nat} {fk : Nat → Int32} {p0 p1 p2 p3 r : Int32} {S : Nat → Prop} (hi : i < 6) (e0 : p0 = nI i) (hj : j < 6) (e1 : p1 = nI j) (hh : h < 4) (e2 : p2 = nI h) (h3 : tdP told p0 ∧ tdP told p1) (hS : ∀ x, x < 5 ^ k → (S x ↔ x = ma j)) (hr : rwA k (bK (fk h)) S (ma i) p3 r) : farP k told ma fk p0 p1 p2 p3 r := by
  refine Or.inr ⟨⟨by rw [e0]; exact inR05 hi, by rw [e1]; exact inR05 hj, by rw [e2]; exact inR03 hh⟩, Or.inr ⟨h3, ?_⟩⟩
  rw [e0, e1, e2, nI_clamp (by omega), nI_clamp (by omega), nI_clamp (by omega)]
  exact rwA_S hS hr
theorem btP_4 {k i j h : Nat} {told : Int32} {ma : Nat → Nat} {fk : Nat → Int32} {p0 p1 p2 p3 r x : Int32} {S : Nat → Prop} (hi : i < 6) (e0 : p0 = nI i) (hj : j < 6) (e1 : p1 = nI j) (hh : h < 4) (e2 : p2 = nI h) (h9 : inR p3 1 9) (h3 : tdP told p0 ∧ tdP told p1) (hS : ∀ x, x < 5 ^ k → (S x ↔ x = ma j)) (hx : dsA k (bK (fk h)) S (ma i) x) (hr : r = cIf (x < 0) (-6) ((x + p3 - 1) / p3)) : btP k told ma fk p0 p1 p2 p3 r := by
  refine Or.inr ⟨⟨by rw [e0]; exact inR05 hi, by rw [e1]; exact inR05 hj, by rw [e2]; exact inR03 hh⟩, Or.inr ⟨h9, Or.inr ⟨h3, x, ?_, hr⟩⟩⟩
  rw [e0, e1, e2, nI_clamp (by omega), nI_clamp (by omega), nI_clamp (by omega)]
  exact dsA_S hS hx
