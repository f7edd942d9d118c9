theorem w1_a {f : Nat → Int32} {pm k p : Nat} (h : kdO (f p) < 0) : w1 f pm k p = some p := pIf_t h
theorem w1_b {f : Nat → Int32} {pm k p : Nat} (h : ¬ kdO (f p) < 0) (h2 : pm ≤ p + 1) : w1 f pm k p = some pm := by unfold w1; rw [pIf_f h, pIf_t h2]
theorem w1_c {f : Nat → Int32} {pm k p : Nat} (h : ¬ kdO (f p) < 0) (h2 : ¬ pm ≤ p + 1) (h3 : ¬ dgt f k p) : w1 f pm k p = some (p + 1) := by unfold w1; rw [pIf_f h, pIf_f h2, pIf_f h3]
theorem w1_d {f : Nat → Int32} {pm k p : Nat} (h : ¬ kdO (f p) < 0) (h2 : ¬ pm ≤ p + 1) (h3 : dgt f k p) (h4 : ¬ f p = 99) : w1 f pm k p = none := by unfold w1; rw [pIf_f h, pIf_f h2, pIf_t h3, pIf_f h4]
theorem w1_e {f : Nat → Int32} {pm k p : Nat} (h : ¬ kdO (f p) < 0) (h2 : ¬ pm ≤ p + 1) (h3 : dgt f k p) (h4 : f p = 99) (h5 : pm ≤ p + 2) : w1 f pm k p = some pm := by unfold w1; rw [pIf_f h, pIf_f h2, pIf_t h3, pIf_t h4, pIf_t h5]
theorem w1_f {f : Nat → Int32} {pm k p : Nat} (h : ¬ kdO (f p) < 0) (h2 : ¬ pm ≤ p + 1) (h3 : dgt f k p) (h4 : f p = 99) (h5 : ¬ pm ≤ p + 2) (h6 : ¬ inR (f (p + 2)) 97 100) : w1 f pm k p = some (p + 2) := by unfold w1; rw [pIf_f h, pIf_f h2, pIf_t h3, pIf_t h4, pIf_f h5, pIf_f h6]
theorem w1_g {f : Nat → Int32} {pm k p : Nat} (h : ¬ kdO (f p) < 0) (h2 : ¬ pm ≤ p + 1) (h3 : dgt f k p) (h4 : f p = 99) (h5 : ¬ pm ≤ p + 2) (h6 : inR (f (p + 2)) 97 100) : w1 f pm k p = none := by unfold w1; rw [pIf_f h, pIf_f h2, pIf_t h3, pIf_t h4, pIf_f h5, pIf_t h6]
/-- the class's numbers of kinds, sites and letters against these -/
theorem knd_0 {c : Int32} : knd c = 0 ↔ c = 99 := by
  unfold knd
  by_cases a : c = 99
  · rw [cIf_t a]; exact ⟨fun _ => a, fun _ => rfl⟩
  · rw [cIf_f a]
    by_cases b : c = 111
    · rw [cIf_t b]; exact ⟨fun q => absurd q (by decide), fun q => absurd q a⟩
    · rw [cIf_f b]
      by_cases d : c = 115
      · rw [cIf_t d]; exact ⟨fun q => absurd q (by decide), fun q => absurd q a⟩
      · rw [cIf_f d]
        by_cases g : c = 116
        · rw [cIf_t g]; exact ⟨fun q => absurd q (by decide), fun q => absurd q a⟩
        · rw [cIf_f g]; exact ⟨fun q => absurd q (by decide), fun q => absurd q a⟩
theorem stf_nI {k q : Nat} (h2 : 2 ≤ k) : stf (nI q) (nI k) = nI (sitesK k (nI q)) := by
  unfold stf sitesK
  by_cases a : nI q = 1
  · rw [cIf_t a, if_pos a, show k = (k - 1) + 1 by omega, nI_pred, show k - 1 + 1 - 1 = k - 1 by omega]
  · rw [cIf_f a, if_neg a]
    by_cases b : nI q = 2
    · rw [cIf_t b, if_pos b, show k = (k - 1) + 1 by omega, nI_pred, show k - 1 + 1 - 1 = k - 1 by omega]
    · rw [cIf_f b, if_neg b]
theorem sitesK_pos {k : Nat} (h2 : 2 ≤ k) (x : Int32) : 1 ≤ sitesK k x ∧ sitesK k x ≤ k := by
  unfold sitesK
  by_cases a : x = 1
  · rw [if_pos a]; omega
  · rw [if_neg a]
    by_cases b : x = 2
    · rw [if_pos b]; omega
    · rw [if_neg b]; omega
theorem dgt_cls {f : Nat → Int32} {k p : Nat} (h2 : 2 ≤ k) (h6 : k ≤ 6) (hk : ¬ kdO (f p) < 0) : dgt f k p ↔ ¬ f (p + 1) - 48 < 0 ∧ f (p + 1) - 48 < stf (knd (f p)) (nI k) := by
  obtain ⟨q, hq, eq⟩ := kdO_nat hk
  have e2 := kdO_knd.2 hk
  have hs := sitesK_pos h2 (nI q)
  unfold dgt
  rw [← e2, eq, stf_nI h2]
  have e3 := nI_toInt (n := sitesK k (nI q) - 1) (by omega)
  have e4 := nI_toInt (n := sitesK k (nI q)) (by omega)
  simp only [inR, i3_le, i3_lt, e3, e4, Int32.reduceToInt]
  omega
theorem letter_cls {c : Int32} : inR c 97 100 ↔ ¬ num c < 0 ∧ num c < 4 := by
  constructor
  · intro h
    obtain ⟨g, hg, e⟩ := sub97 h
    have h0 : 0 ≤ sgO c := by
      unfold sgO
      rw [cIf_f (by intro q; rw [q] at h; exact absurd h (by unfold inR; decide)), cIf_t h, e]; exact nI_pos' (by omega)
    have hn := mark_sgO.2.1 h0
    have e2 : sgO c = nI g := by unfold sgO; rw [cIf_f (by intro q; rw [q] at h; exact absurd h (by unfold inR; decide)), cIf_t h, e]
    rw [hn, e2]
    exact ⟨nI_pos (by omega), nI_lt (b := 4) (by omega) (by decide)⟩
  · intro ⟨h1, h2⟩
    have h3 : 0 ≤ sgO c := mark_sgO.1.mpr (fun q => q.elim h1 (fun q => by simp only [i3_lt, Int32.reduceToInt] at q h2; omega))
    have hn := mark_sgO.2.1 h3
    unfold sgO at h3 hn
    by_cases a : c = 45
    · rw [cIf_t a] at hn; rw [hn] at h2; exact absurd h2 (by decide)
    · rw [cIf_f a] at h3
      by_cases b : inR c 97 100
      · exact b
      · rw [cIf_f b] at h3; exact absurd h3 (by decide)
