/-! what the pad says: the first fault of a map, of a wish, of slips; which slips they are -/
noncomputable def pIf {α : Type} (P : Prop) (a b : α) : α := @ite _ P (Classical.propDecidable P) a b
theorem pIf_t {α : Type} {P : Prop} {a b : α} (h : P) : pIf P a b = a := by unfold pIf; exact if_pos h
theorem pIf_f {α : Type} {P : Prop} {a b : α} (h : ¬ P) : pIf P a b = b := by unfold pIf; exact if_neg h
def canM (wish : Prop) (c : Int32) : Prop := 0 ≤ sgO c ∨ (wish ∧ c = 63)
/-- from place i on, r signs left to look at -/
noncomputable def fmF (f : Nat → Int32) (pm k : Nat) (wish : Prop) : Nat → Nat → Int32
  | 0, _ => pIf (pm < k) (nI pm) (-6)
  | r + 1, i => pIf (i = k ∨ ¬ canM wish (f i)) (nI i) (fmF f pm k wish r (i + 1))
theorem fmF_stop {f : Nat → Int32} {pm k r i : Nat} {wish : Prop} (h : i = k ∨ ¬ canM wish (f i)) : fmF f pm k wish (r + 1) i = nI i := pIf_t h
theorem fmF_go {f : Nat → Int32} {pm k r i : Nat} {wish : Prop} (h : ¬ i = k) (h2 : canM wish (f i)) : fmF f pm k wish (r + 1) i = fmF f pm k wish r (i + 1) := pIf_f (fun q => q.elim h (fun q => q h2))
theorem fmF_congr {f g : Nat → Int32} {pm k : Nat} {wish : Prop} : ∀ (r i : Nat), i + r = pm → (∀ j, j < pm → f j = g j) → fmF f pm k wish r i = fmF g pm k wish r i
  | 0, _, _, _ => rfl
  | r + 1, i, h, hfg => by
    show pIf _ _ _ = pIf _ _ _
    rw [hfg i (by omega), fmF_congr r (i + 1) (by omega) hfg]
def lenS (f : Nat → Int32) (p : Nat) : Nat := if f p = 99 then 3 else 2
/-- how many sites a slip of this kind has -/
def sitesK (k : Nat) (kd : Int32) : Nat := if kd = 1 then k - 1 else if kd = 2 then k - 1 else k
def dgt (f : Nat → Int32) (k p : Nat) : Prop := inR (f (p + 1) - 48) 0 (nI (sitesK k (kdO (f p)) - 1))
/-- the first wrong sign of the slip at p -/
noncomputable def w1 (f : Nat → Int32) (pm k p : Nat) : Option Nat :=
  pIf (kdO (f p) < 0) (some p) (pIf (pm ≤ p + 1) (some pm) (pIf (dgt f k p) (pIf (f p = 99) (pIf (pm ≤ p + 2) (some pm) (pIf (inR (f (p + 2)) 97 100) none (some (p + 2)))) none) (some (p + 1))))
/-- from place p on, r slips may still come -/
noncomputable def psl (f : Nat → Int32) (pm k : Nat) : Nat → Nat → Int32
  | 0, p => pIf (p < pm) (nI p) (-6)
  | r + 1, p => pIf (p < pm) (match w1 f pm k p with
    | some i => nI i
    | none => psl f pm k r (p + lenS f p)) (-6)
theorem psl_bad {f : Nat → Int32} {pm k r p i : Nat} (hp : p < pm) (h : w1 f pm k p = some i) : psl f pm k (r + 1) p = nI i := by
  show pIf _ _ _ = _
  rw [pIf_t hp, h]
theorem psl_go {f : Nat → Int32} {pm k r p : Nat} (hp : p < pm) (h : w1 f pm k p = none) : psl f pm k (r + 1) p = psl f pm k r (p + lenS f p) := by
  show pIf _ _ _ = _
  rw [pIf_t hp, h]
theorem psl_end {f : Nat → Int32} {pm k r p : Nat} (hp : ¬ p < pm) : psl f pm k r p = (-6) := by
  cases r with
  | zero => exact pIf_f hp
  | succ r => exact pIf_f hp
theorem psl_full {f : Nat → Int32} {pm k p : Nat} (hp : p < pm) : psl f pm k 0 p = nI p := pIf_t hp
/-- where the slip t begins -/
def pl (f : Nat → Int32) : Nat → Nat
  | 0 => 0
  | t + 1 => pl f t + lenS f (pl f t)
/-- the number of the slip at p -/
noncomputable def slp (f : Nat → Int32) (p : Nat) : Int32 := 100 * kdO (f p) + 10 * (f (p + 1) - 48) + pIf (f p = 99) (f (p + 2) - 97) 0
theorem w1_ok {f : Nat → Int32} {pm k p : Nat} (h2 : 2 ≤ k) (h6 : k ≤ 6) (h : w1 f pm k p = none) : ¬ kdO (f p) < 0 ∧ p + lenS f p ≤ pm ∧ slipOK k (slp f p) := by
  unfold w1 at h
  by_cases a1 : kdO (f p) < 0
  · rw [pIf_t a1] at h; cases h
  rw [pIf_f a1] at h
  by_cases a2 : pm ≤ p + 1
  · rw [pIf_t a2] at h; cases h
  rw [pIf_f a2] at h
  by_cases a3 : dgt f k p
  · rw [pIf_t a3] at h
    obtain ⟨kd, hkd, ekd⟩ := kdO_nat a1
    have hs : sitesK k (nI kd) - 1 < 2 ^ 31 := by
      unfold sitesK
      split
      · omega
      · split <;> omega
    unfold dgt at a3
    rw [ekd] at a3
    obtain ⟨si, hsi, esi⟩ := inRn hs a3
    by_cases a4 : f p = 99
    · rw [pIf_t a4] at h
      by_cases a5 : pm ≤ p + 2
      · rw [pIf_t a5] at h; cases h
      rw [pIf_f a5] at h
      by_cases a6 : inR (f (p + 2)) 97 100
      · obtain ⟨g, hg, eg⟩ := sub97 a6
        have hk0 : kd = 0 := by
          have e : kdO (f p) = 0 := by unfold kdO; rw [cIf_t a4]
          exact (nI_eq (a := kd) (b := 0) (by omega) (by omega)).mp (ekd.symm.trans e)
        subst hk0
        refine ⟨a1, by unfold lenS; rw [if_pos a4]; omega, 0, si, g, Or.inl ⟨rfl, ?_, hg⟩, ?_⟩
        · have e : sitesK k (nI 0) = k := by unfold sitesK; rw [if_neg (by decide), if_neg (by decide)]
          rw [e] at hsi; omega
        · unfold slp
          rw [pIf_t a4, ekd, esi, eg]
          show nI 100 * nI 0 + nI 10 * nI si + nI g = _
          rw [pk_mul, pk_mul, nI_add, nI_add]
      · rw [pIf_f a6] at h; cases h
    · rw [pIf_f a4] at h
      refine ⟨a1, by unfold lenS; rw [if_neg a4]; omega, kd, si, 0, ?_, ?_⟩
      · have hk0 : ¬ kd = 0 := by
          intro e
          apply a4
          unfold kdO at ekd
          by_cases b1 : f p = 99
          · exact b1
          · rw [cIf_f b1] at ekd
            by_cases b2 : f p = 115
            · rw [cIf_t b2, e] at ekd; exact absurd ekd (by decide)
            · rw [cIf_f b2] at ekd
              by_cases b3 : f p = 116
              · rw [cIf_t b3, e] at ekd; exact absurd ekd (by decide)
              · rw [cIf_f b3] at ekd
                by_cases b4 : f p = 111
                · rw [cIf_t b4, e] at ekd; exact absurd ekd (by decide)
                · rw [cIf_f b4, e] at ekd; exact absurd ekd (by decide)
        rcases (show kd = 1 ∨ kd = 2 ∨ kd = 3 by omega) with rfl | rfl | rfl
        · have e : sitesK k (nI 1) = k - 1 := by unfold sitesK; rw [if_pos (by decide)]
          rw [e] at hsi; exact Or.inr (Or.inl ⟨rfl, by omega, rfl⟩)
        · have e : sitesK k (nI 2) = k - 1 := by unfold sitesK; rw [if_neg (by decide), if_pos (by decide)]
          rw [e] at hsi; exact Or.inr (Or.inr (Or.inl ⟨rfl, by omega, rfl⟩))
        · have e : sitesK k (nI 3) = k := by unfold sitesK; rw [if_neg (by decide), if_neg (by decide)]
          rw [e] at hsi; exact Or.inr (Or.inr (Or.inr ⟨rfl, by omega, rfl⟩))
      · unfold slp
        rw [pIf_f a4, ekd, esi]
        show nI 100 * nI kd + nI 10 * nI si + nI 0 = _
        rw [pk_mul, pk_mul, nI_add, nI_add]
  · rw [pIf_f a3] at h; cases h
/-- the moves that the slips are -/
def mvOf (x : Int32) : Nat × Nat × Nat := (x.toNatClampNeg / 100, x.toNatClampNeg / 10 % 10, x.toNatClampNeg % 10)
theorem mvOf_ok {k : Nat} {x : Int32} (hk : k ≤ 6) (h : slipOK k x) : okV k (mvOf x).1 (mvOf x).2.1 (mvOf x).2.2 ∧ x = nI (100 * (mvOf x).1 + 10 * (mvOf x).2.1 + (mvOf x).2.2) := by
  obtain ⟨m0, mj, mg, hok, e⟩ := h
  have hb : 100 * m0 + 10 * mj + mg < 400 ∧ mj < 10 ∧ mg < 10 := by unfold okV at hok; omega
  have ec : x.toNatClampNeg = 100 * m0 + 10 * mj + mg := by rw [e]; exact nI_clamp (by omega)
  have e0 : (mvOf x).1 = m0 := by unfold mvOf; rw [ec]; dsimp only; omega
  have e1 : (mvOf x).2.1 = mj := by unfold mvOf; rw [ec]; dsimp only; omega
  have e2 : (mvOf x).2.2 = mg := by unfold mvOf; rw [ec]; dsimp only; omega
  rw [e0, e1, e2]
  exact ⟨hok, e⟩
/-- the first of the slips from t on (r are left) that changes nothing -/
def bdF (k : Nat) (sl : Nat → Int32) : Nat → Nat → Nat → Int32
  | 0, _, _ => (-6)
  | r + 1, t, a => if slN k a (mvOf (sl t)) = a then nI t else bdF k sl r (t + 1) (slN k a (mvOf (sl t)))
/-- the map behind the slips t, t + 1, .. -/
def runS (k : Nat) (sl : Nat → Int32) : Nat → Nat → Nat → Nat
  | 0, _, a => a
  | r + 1, t, a => runS k sl r (t + 1) (slN k a (mvOf (sl t)))
