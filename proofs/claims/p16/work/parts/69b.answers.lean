/-! Int32 by its bits -/
def bt (x : Int32) (i : Nat) : Bool := x.toBitVec.getLsbD i
theorem b_or (x y : Int32) (i : Nat) : bt (x ||| y) i = (bt x i || bt y i) := by unfold bt; rw [Int32.toBitVec_or, BitVec.getLsbD_or]
theorem b_and (x y : Int32) (i : Nat) : bt (x &&& y) i = (bt x i && bt y i) := by unfold bt; rw [Int32.toBitVec_and, BitVec.getLsbD_and]
theorem b_ext {x y : Int32} (h : ∀ i, i < 32 → bt x i = bt y i) : x = y := Int32.toBitVec_inj.mp (BitVec.eq_of_getLsbD_eq (fun i hi => h i hi))
theorem s_l : ∀ n, n < 32 → ((nI n &&& 31).toBitVec.smod 32).toNat = n := by decide +kernel
theorem b_shl (n : Nat) (hn : n < 32) (x : Int32) {i : Nat} (hi : i < 32) : bt (x <<< (nI n &&& 31)) i = (decide (n ≤ i) && bt x (i - n)) := by
  unfold bt
  rw [Int32.toBitVec_shiftLeft]
  show (x.toBitVec <<< ((nI n &&& 31).toBitVec.smod 32).toNat).getLsbD i = _
  rw [s_l n hn, BitVec.getLsbD_shiftLeft]
  rcases Nat.lt_or_ge i n with h | h
  · simp [h, Nat.not_le.mpr h]
  · simp [hi, h, Nat.not_lt.mpr h]
theorem b_sshr (n : Nat) (hn : n < 32) (x : Int32) {i : Nat} (hi : i < 32) : bt (x >>> (nI n &&& 31)) i = if n + i < 32 then bt x (n + i) else bt x 31 := by
  unfold bt
  rw [Int32.toBitVec_shiftRight]
  show (x.toBitVec.sshiftRight ((nI n &&& 31).toBitVec.smod 32).toNat).getLsbD i = _
  rw [s_l n hn, BitVec.getLsbD_sshiftRight, BitVec.msb_eq_getLsbD_last]
  simp [hi]
theorem bt_one : ∀ i, i < 32 → bt 1 i = decide (i = 0) := by decide +kernel
theorem bt_zero (i : Nat) : bt 0 i = false := BitVec.getLsbD_zero
/-- whether map j is among those told, by its bit -/
theorem td_bit {told : Int32} {j : Nat} (hj : j < 32) : tdP told (nI j) ↔ bt told j = true := by
  have h0 : bt ((told >>> (nI j &&& 31)) &&& 1) 0 = bt told j := by
    rw [b_and, b_sshr j hj told (by decide), if_pos (by omega), Nat.add_zero, bt_one 0 (by decide)]
    simp
  unfold tdP
  constructor
  · intro h
    rw [h] at h0
    rw [← h0]
    decide
  · intro h
    rw [h] at h0
    rcases and1 (told >>> (nI j &&& 31)) with q | q
    · rw [q] at h0
      exact absurd h0 (by decide)
    · exact q
def tb (told x : Int32) : Int32 := told ||| (1 <<< (x &&& 31))
theorem td_tb {told : Int32} {i j : Nat} (hi : i < 32) (hj : j < 32) : tdP (tb told (nI i)) (nI j) ↔ i = j ∨ tdP told (nI j) := by
  have e : bt (tb told (nI i)) j = (bt told j || (decide (i ≤ j) && decide (j - i = 0))) := by
    unfold tb
    rw [b_or, b_shl i hi 1 hj, bt_one (j - i) (by omega)]
  rw [td_bit hj, td_bit hj, e]
  constructor
  · intro h
    simp at h
    rcases h with h | h
    · exact Or.inr h
    · exact Or.inl (by omega)
  · rintro (h | h)
    · simp; exact Or.inr (by omega)
    · simp [h]
theorem td_none {j : Nat} (hj : j < 32) : ¬ tdP 0 (nI j) := by
  rw [td_bit hj, bt_zero]
  decide
/-! what calls answer: the same numbers on both sides -/
def maN (fm : Nat → Int32) (j : Nat) : Nat := (fm j).toNatClampNeg
theorem maN_ok {k : Nat} {fm : Nat → Int32} (hk : k ≤ 6) (h : mapsOK k fm) {j : Nat} (hj : j < 6) : maN fm j < 5 ^ k ∧ fm j = nI (maN fm j) := by
  obtain ⟨a, ha, e⟩ := h j hj
  have h5 := p5le hk
  have e2 : maN fm j = a := by unfold maN; rw [e]; exact nI_clamp (by omega)
  rw [e2]
  exact ⟨ha, e⟩
/-- codes of the class against maps, where they are told -/
def CR (k : Nat) (told : Int32) (fc : Nat → Int32) (ma : Nat → Nat) : Prop := ∀ j : Nat, j < 6 → tdP told (nI j) → ma j < 5 ^ k ∧ fc j = nI (sc k (ma j))
noncomputable def wrN (d : Nat) : Int32 := cIf (nI d = 4) 45 (97 + nI d)
theorem inS_nI {x : Int32} {k : Nat} (hk : k ≤ 6) : inS x (nI k) = (∃ j, j < k ∧ x = nI j) := by
  apply propext
  unfold inS
  constructor
  · rintro ⟨h1, h2⟩
    rw [i3_le] at h1
    rw [i3_lt, nI_toInt (by omega)] at h2
    simp only [Int32.reduceToInt] at h1
    refine ⟨x.toInt.toNat, by omega, ?_⟩
    rw [i3_eq, nI_toInt (by omega)]
    omega
  · rintro ⟨j, h1, rfl⟩
    exact ⟨nI_pos' (by omega), nI_lt h1 (by omega)⟩
theorem isOfP_td {told x : Int32} : isOfP told x = (inR x 0 5 ∧ tdP told x) := propext ⟨fun h => ⟨h.1, (td_of h.1).mp h⟩, fun h => (td_of h.1).mpr h.2⟩
noncomputable abbrev sF (f : Nat → Int32) : Nat → Int32 := fun t => slp f (pl f t)
theorem lenS_two (f : Nat → Int32) (i : Nat) : 2 ≤ lenS f i := by unfold lenS; split <;> omega
theorem pl_lt (f : Nat → Int32) : ∀ {i j : Nat}, i < j → pl f i < pl f j
  | i, j + 1, h => by
    show pl f i < pl f j + lenS f (pl f j)
    have h2 := lenS_two f (pl f j)
    rcases Nat.lt_or_ge i j with q | q
    · have := pl_lt f q
      omega
    · have : i = j := by omega
      subst this
      omega
theorem pl_inj {f : Nat → Int32} {i j : Nat} (h : pl f i = pl f j) : i = j := by
  rcases Nat.lt_trichotomy i j with q | q | q
  · have := pl_lt f q
    omega
  · exact q
  · have := pl_lt f q
    omega
/-- how many slips the pad has, if it has slips -/
noncomputable def nS (f : Nat → Int32) (pm : Nat) : Nat := @dite _ (∃ n, pl f n = pm) (Classical.propDecidable _) Classical.choose (fun _ => 0)
theorem nS_eq {f : Nat → Int32} {pm n : Nat} (h : pl f n = pm) : nS f pm = n := by
  have hex : ∃ n, pl f n = pm := ⟨n, h⟩
  unfold nS
  rw [dif_pos hex]
  exact pl_inj ((Classical.choose_spec hex).trans h.symm)
theorem psl_all {f : Nat → Int32} {pm k : Nat} (hp : pm ≤ 40) (h2 : 2 ≤ k) (h6 : k ≤ 6) (h : psl f pm k 10 0 = (-6)) : nS f pm ≤ 10 ∧ pl f (nS f pm) = pm ∧ ∀ t : Nat, t < nS f pm → w1 f pm k (pl f t) = none := by
  obtain ⟨n, -, a2, a3, a4⟩ := psl_ok hp h2 h6 10 0 (Nat.zero_le _) h
  rw [nS_eq a3]
  exact ⟨by omega, a3, fun t ht => a4 t (Nat.zero_le _) ht⟩
theorem psl_cases {f : Nat → Int32} {pm k : Nat} (hp : pm ≤ 40) : ∀ (r i : Nat), psl f pm k r i = (-6) ∨ ∃ j, j ≤ 40 ∧ psl f pm k r i = nI j
  | 0, i => by
    by_cases h : i < pm
    · exact Or.inr ⟨i, by omega, psl_full h⟩
    · exact Or.inl (psl_end h)
  | r + 1, i => by
    by_cases h : i < pm
    · cases e : w1 f pm k i with
      | some j => exact Or.inr ⟨j, w1_bound hp h e, psl_bad h e⟩
      | none => rw [psl_go h e]; exact psl_cases hp r _
    · exact Or.inl (psl_end h)
theorem neg_cases {x : Int32} (h : x = (-6) ∨ ∃ j, j ≤ 40 ∧ x = nI j) : x < 0 ↔ x = (-6) := by
  rcases h with h | ⟨j, h1, h2⟩
  · rw [h]; decide
  · rw [h2]; exact ⟨fun q => absurd q (nI_pos (by omega)), fun q => absurd q (nI_ne6 h1)⟩
theorem bdF_t {k r t a : Nat} {sl : Nat → Int32} (h : slN k a (mvOf (sl t)) = a) : bdF k sl (r + 1) t a = nI t := if_pos h
theorem bdF_f {k r t a : Nat} {sl : Nat → Int32} (h : ¬ slN k a (mvOf (sl t)) = a) : bdF k sl (r + 1) t a = bdF k sl r (t + 1) (slN k a (mvOf (sl t))) := if_neg h
theorem bdF_cases {k : Nat} {sl : Nat → Int32} : ∀ (r t a : Nat), t + r ≤ 40 → (bdF k sl r t a = (-6) ∨ ∃ j, j ≤ 40 ∧ bdF k sl r t a = nI j)
  | 0, _, _, _ => Or.inl rfl
  | r + 1, t, a, h => by
    by_cases e : slN k a (mvOf (sl t)) = a
    · rw [bdF_t e]; exact Or.inr ⟨t, by omega, rfl⟩
    · rw [bdF_f e]; exact bdF_cases r (t + 1) _ (by omega)
theorem runS_lt {k : Nat} {sl : Nat → Int32} (hk : k ≤ 6) : ∀ (r t a : Nat), a < 5 ^ k → (∀ i, t ≤ i → i < t + r → slipOK k (sl i)) → runS k sl r t a < 5 ^ k
  | 0, _, _, h, _ => h
  | r + 1, t, a, h, hs => by
    show runS k sl r (t + 1) (slN k a (mvOf (sl t))) < 5 ^ k
    exact runS_lt hk r (t + 1) _ (slN_lt h (mvOf_ok hk (hs t (Nat.le_refl _) (by omega))).1) (fun i h1 h2 => hs i (by omega) (by omega))
theorem runS_s {k : Nat} {sl : Nat → Int32} : ∀ (r t a : Nat), runS k sl (r + 1) t a = slN k (runS k sl r t a) (mvOf (sl (t + r)))
  | 0, t, a => rfl
  | r + 1, t, a => by
    show runS k sl (r + 1) (t + 1) (slN k a (mvOf (sl t))) = slN k (runS k sl r (t + 1) (slN k a (mvOf (sl t)))) (mvOf (sl (t + (r + 1))))
    rw [runS_s r (t + 1), show t + 1 + r = t + (r + 1) by omega]
theorem fmF_w {f : Nat → Int32} {pm k r i : Nat} {w w' : Prop} (h : w ↔ w') : fmF f pm k w r i = fmF f pm k w' r i := by rw [propext h]
theorem fmF_cases {f : Nat → Int32} {pm k : Nat} {w : Prop} (hp : pm ≤ 40) : ∀ (r i : Nat), i + r = pm → (fmF f pm k w r i = (-6) ∨ ∃ j, j ≤ 40 ∧ fmF f pm k w r i = nI j)
  | 0, i, h => by
    show pIf _ _ _ = _ ∨ ∃ j, j ≤ 40 ∧ pIf _ _ _ = _
    by_cases c : pm < k
    · rw [pIf_t c]; exact Or.inr ⟨pm, hp, rfl⟩
    · rw [pIf_f c]; exact Or.inl rfl
  | r + 1, i, h => by
    by_cases c : i = k ∨ ¬ canM w (f i)
    · rw [fmF_stop c]; exact Or.inr ⟨i, by omega, rfl⟩
    · rw [fmF_go (fun q => c (Or.inl q)) (Classical.byContradiction (fun q => c (Or.inr q)))]
      exact fmF_cases hp r (i + 1) (by omega)
theorem fmF_ok {f : Nat → Int32} {pm k : Nat} {w : Prop} (hp : pm ≤ 40) : ∀ (r i : Nat), i + r = pm → i ≤ k → fmF f pm k w r i = (-6) → pm = k ∧ ∀ j, i ≤ j → j < pm → canM w (f j)
  | 0, i, h, hk, e => by
    have e2 : pIf (pm < k) (nI pm) (-6) = (-6) := e
    by_cases c : pm < k
    · rw [pIf_t c] at e2; exact absurd e2 (nI_ne6 hp)
    · exact ⟨by omega, fun j h1 h2 => by omega⟩
  | r + 1, i, h, hk, e => by
    by_cases c : i = k ∨ ¬ canM w (f i)
    · rw [fmF_stop c] at e; exact absurd e (nI_ne6 (by omega))
    · have c1 : ¬ i = k := fun q => c (Or.inl q)
      have c2 : canM w (f i) := Classical.byContradiction (fun q => c (Or.inr q))
      rw [fmF_go c1 c2] at e
      obtain ⟨a1, a2⟩ := fmF_ok hp r (i + 1) (by omega) (by omega) e
      refine ⟨a1, fun j h1 h2 => ?_⟩
      by_cases d : j = i
      · rw [d]; exact c2
      · exact a2 j (by omega) h2
theorem fmF_map {f : Nat → Int32} {pm k : Nat} {w : Prop} (hp : pm ≤ 40) (hw : ¬ w) (e : fmF f pm k w pm 0 = (-6)) : pm = k ∧ ∀ j, j < k → 0 ≤ sgO (f j) := by
  obtain ⟨a1, a2⟩ := fmF_ok hp pm 0 (by omega) (Nat.zero_le _) e
  exact ⟨a1, fun j hj => (a2 j (Nat.zero_le _) (by omega)).elim id (fun q => absurd q.1 hw)⟩
/-- the map that the pad is -/
noncomputable def mkM (f : Nat → Int32) : Nat → Nat
  | 0 => 0
  | x + 1 => 5 * mkM f x + (sgO (f x)).toNatClampNeg
theorem mkM_ok {f : Nat → Int32} : ∀ (x : Nat), (∀ i, i < x → 0 ≤ sgO (f i)) → mkM f x < 5 ^ x ∧ ∀ j, j < x → nI (dg x (mkM f x) j) = sgO (f j)
  | 0, _ => ⟨show (0 : Nat) < 5 ^ 0 by decide, fun j hj => absurd hj (Nat.not_lt_zero _)⟩
  | x + 1, h => by
    obtain ⟨g, hg, eg⟩ := sgO_nat (h x (by omega))
    obtain ⟨h1, h2⟩ := mkM_ok x (fun i hi => h i (by omega))
    have e : mkM f (x + 1) = 5 * mkM f x + g := by
      show 5 * mkM f x + (sgO (f x)).toNatClampNeg = _
      rw [eg, nI_clamp (by omega)]
    rw [e]
    refine ⟨by rw [Nat.pow_succ]; omega, fun j hj => ?_⟩
    by_cases c : j = x
    · rw [c, dg_last hg, eg]
    · rw [dg_cons hg (by omega)]; exact h2 j (by omega)
theorem map_code {f : Nat → Int32} {k q : Nat} (hk : k ≤ 6) (hcan : ∀ i, i < k → 0 ≤ sgO (f i)) (hq : q < 5 ^ 6) (h1 : ∀ j, j < k → nI (dg 6 q j) = sgO (f j)) (h0 : ∀ j, k ≤ j → j < 6 → dg 6 q j = 0) : q = sc k (mkM f k) := by
  obtain ⟨m1, m2⟩ := mkM_ok k hcan
  refine sc_ext hk m1 hq (fun j hj => ?_) h0
  have e := (h1 j hj).trans (m2 j hj).symm
  have a1 := dg_lt 6 q j
  have a2 := dg_lt k (mkM f k) j
  exact (nI_eq (by omega) (by omega)).mp e
/-! outcomes -/
noncomputable def fltA (k pm : Nat) (f : Nat → Int32) (p0 : Int32) : Int32 := pIf (p0 = 0) (fmF f pm k False pm 0) (pIf (p0 = 1) (psl f pm k 10 0) (pIf (p0 = 2) (fmF f pm k True pm 0) (-2)))
noncomputable def mpA (k pm : Nat) (f : Nat → Int32) (p0 : Int32) : Int32 × Option Nat := pIf (inR p0 0 5) (pIf (fmF f pm k False pm 0 = (-6)) (1, some (mkM f k)) ((-5), none)) ((-1), none)
noncomputable def atA (k : Nat) (told : Int32) (ma : Nat → Nat) (p0 p1 : Int32) : Int32 := pIf (inR p0 0 5 ∧ ∃ j, j < k ∧ p1 = nI j) (pIf (tdP told p0) (wrN (dg k (ma p0.toNatClampNeg) p1.toNatClampNeg)) (-3)) (-1)
noncomputable def jdA (k pm : Nat) (told : Int32) (f : Nat → Int32) (ma : Nat → Nat) (p0 : Int32) : Int32 := pIf (inR p0 0 5) (pIf (tdP told p0) (pIf (psl f pm k 10 0 = (-6)) (bdF k (sF f) (nS f pm) 0 (ma p0.toNatClampNeg)) (-5)) (-3)) (-1)
noncomputable def cpA (k pm : Nat) (told : Int32) (f : Nat → Int32) (ma : Nat → Nat) (p0 p1 : Int32) : Int32 × Option Nat := pIf (inR p0 0 5 ∧ inR p1 0 5) (pIf (tdP told p1) (pIf (psl f pm k 10 0 = (-6)) (pIf (bdF k (sF f) (nS f pm) 0 (ma p1.toNatClampNeg) = (-6)) (nI (nS f pm), some (runS k (sF f) (nS f pm) 0 (ma p1.toNatClampNeg))) ((-5), none)) ((-5), none)) ((-3), none)) ((-1), none)
/-- what becomes of the class's state, of the reference's -/
def COut (k : Nat) (o : Option Nat) (p0 told told1 len len1 : Int32) (fc fc1 : Nat → Int32) : Prop := match o with
  | none => told1 = told ∧ len1 = len ∧ fc1 = fc
  | some a => inR p0 0 5 ∧ a < 5 ^ k ∧ told1 = tb told p0 ∧ len1 = 0 ∧ fc1 = upd fc p0.toNatClampNeg (nI (sc k a))
def MOut (k : Nat) (o : Option Nat) (p0 told told1 : Int32) (pm pm1 : Nat) (fm fm1 : Nat → Int32) : Prop := match o with
  | none => told1 = told ∧ pm1 = pm ∧ fm1 = fm
  | some a => a < 5 ^ k ∧ told1 = tb told p0 ∧ pm1 = 0 ∧ fm1 = upd fm p0.toNatClampNeg (nI a)
theorem CO_n {k : Nat} {o : Int32 × Option Nat} {r x p0 told len : Int32} {fc : Nat → Int32} (h : o = (x, none)) (hr : r = x) : r = o.1 ∧ COut k o.2 p0 told told len len fc fc := by rw [h]; exact ⟨hr, rfl, rfl, rfl⟩
theorem MO_n {k : Nat} {o : Int32 × Option Nat} {r x p0 told : Int32} {pm : Nat} {fm : Nat → Int32} (h : o = (x, none)) (hr : r = x) : r = o.1 ∧ MOut k o.2 p0 told told pm pm fm fm := by rw [h]; exact ⟨hr, rfl, rfl, rfl⟩
noncomputable def ldA (k la : Nat) (p0 : Int32) : Int32 := pIf (∃ j, j < k ∧ p0 = nI j) (wrN (dg k la p0.toNatClampNeg)) (-1)
noncomputable def yrA (k la : Nat) (told sp : Int32) (ma : Nat → Nat) (p0 : Int32) : Int32 := pIf (inR p0 0 5) (pIf (tdP told p0) ((nI (unl k la (ma p0.toNatClampNeg) k) + sp - 1) / sp) (-3)) (-1)
/-- the land behind n sites dug, from site i on -/
def fol (k a : Nat) : Nat → Nat → Nat → Nat → Nat
  | 0, _, b, _ => b
  | r + 1, i, b, n => if 0 < n ∧ ¬ dg k b i = dg k a i then fol k a r (i + 1) (wN k b i (dg k a i)) (n - 1) else fol k a r (i + 1) b n
theorem fol_t {k a r i b n : Nat} (h1 : 0 < n) (h2 : ¬ dg k b i = dg k a i) : fol k a (r + 1) i b n = fol k a r (i + 1) (wN k b i (dg k a i)) (n - 1) := if_pos ⟨h1, h2⟩
theorem fol_f {k a r i b n : Nat} (h : ¬ (0 < n ∧ ¬ dg k b i = dg k a i)) : fol k a (r + 1) i b n = fol k a r (i + 1) b n := if_neg h
theorem fol_0 {k a : Nat} : ∀ (r i b : Nat), fol k a r i b 0 = b
  | 0, _, _ => rfl
  | r + 1, i, b => by rw [fol_f (fun q => absurd q.1 (Nat.lt_irrefl _))]; exact fol_0 r (i + 1) b
noncomputable def flA (k la : Nat) (told sp : Int32) (ma : Nat → Nat) (p0 p1 : Int32) : Int32 × Nat := pIf (inR p0 0 5) (pIf (inR p1 0 9) (pIf (tdP told p0) (nI (unl k (fol k (ma p0.toNatClampNeg) k 0 la (p1.toNatClampNeg * sp.toNatClampNeg)) (ma p0.toNatClampNeg) k), fol k (ma p0.toNatClampNeg) k 0 la (p1.toNatClampNeg * sp.toNatClampNeg)) ((-3), la)) ((-2), la)) ((-1), la)
/-! outcomes, case by case -/
theorem flt_in {k pm : Nat} {f : Nat → Int32} {p0 r : Int32} (h0 : ¬ p0 < 0) (h2 : p0 ≤ 2) (h : (p0 = 1 → r = psl f pm k 10 0) ∧ (¬ p0 = 1 → r = fmF f pm k (p0 = 2) pm 0)) : r = fltA k pm f p0 := by
  unfold fltA
  by_cases c1 : p0 = 1
  · rw [pIf_f (by rw [c1]; decide), pIf_t c1]; exact h.1 c1
  · by_cases c0 : p0 = 0
    · rw [pIf_t c0, h.2 c1]; exact fmF_w ⟨fun q => by rw [c0] at q; exact absurd q (by decide), fun q => q.elim⟩
    · have c2 : p0 = 2 := by simp only [i3_le, i3_lt, i3_eq, Int32.reduceToInt] at *; omega
      rw [pIf_f c0, pIf_f c1, pIf_t c2, h.2 c1]; exact fmF_w ⟨fun _ => trivial, fun _ => c2⟩
theorem flt_out {k pm : Nat} {f : Nat → Int32} {p0 : Int32} (h : p0 < 0 ∨ 2 < p0) : (-2) = fltA k pm f p0 := by
  unfold fltA
  rw [pIf_f (by intro q; rw [q] at h; revert h; decide), pIf_f (by intro q; rw [q] at h; revert h; decide), pIf_f (by intro q; rw [q] at h; revert h; decide)]
theorem fw_0 {k pm : Nat} {f : Nat → Int32} {r : Int32} (h : ((0 : Int32) = 1 → r = psl f pm k 10 0) ∧ (¬ (0 : Int32) = 1 → r = fmF f pm k ((0 : Int32) = 2) pm 0)) : r = fmF f pm k False pm 0 := (h.2 (by decide)).trans (fmF_w (by decide))
theorem fw_1 {k pm : Nat} {f : Nat → Int32} {r : Int32} (h : ((1 : Int32) = 1 → r = psl f pm k 10 0) ∧ (¬ (1 : Int32) = 1 → r = fmF f pm k ((1 : Int32) = 2) pm 0)) : r = psl f pm k 10 0 := h.1 rfl
theorem mpA_1 {k pm : Nat} {f : Nat → Int32} {p0 : Int32} (h : ¬ inR p0 0 5) : mpA k pm f p0 = ((-1), none) := pIf_f h
theorem mpA_2 {k pm : Nat} {f : Nat → Int32} {p0 : Int32} (h : inR p0 0 5) (h2 : ¬ fmF f pm k False pm 0 = (-6)) : mpA k pm f p0 = ((-5), none) := by unfold mpA; rw [pIf_t h, pIf_f h2]
theorem mpA_3 {k pm : Nat} {f : Nat → Int32} {p0 : Int32} (h : inR p0 0 5) (h2 : fmF f pm k False pm 0 = (-6)) : mpA k pm f p0 = (1, some (mkM f k)) := by unfold mpA; rw [pIf_t h, pIf_t h2]
theorem CO_s {k a : Nat} {o : Int32 × Option Nat} {r x p0 told told1 len : Int32} {fc fc1 : Nat → Int32} (h : o = (x, some a)) (hin : inR p0 0 5) (ha : a < 5 ^ k) (hr : r = x) (h1 : told1 = tb told p0) (h2 : fc1 = upd fc p0.toNatClampNeg (nI (sc k a))) : r = o.1 ∧ COut k o.2 p0 told told1 len 0 fc fc1 := by rw [h]; exact ⟨hr, hin, ha, h1, rfl, h2⟩
theorem MO_s {k a : Nat} {o : Int32 × Option Nat} {r x p0 told told1 : Int32} {pm : Nat} {fm fm1 : Nat → Int32} (h : o = (x, some a)) (ha : a < 5 ^ k) (hr : r = x) (h1 : told1 = tb told p0) (h2 : fm1 = upd fm p0.toNatClampNeg (nI a)) : r = o.1 ∧ MOut k o.2 p0 told told1 pm 0 fm fm1 := by rw [h]; exact ⟨hr, ha, h1, rfl, h2⟩
theorem atA_1 {k : Nat} {told : Int32} {ma : Nat → Nat} {p0 p1 : Int32} (h : ¬ (inR p0 0 5 ∧ ∃ j, j < k ∧ p1 = nI j)) : (-1) = atA k told ma p0 p1 := (pIf_f h).symm
theorem atA_2 {k : Nat} {told : Int32} {ma : Nat → Nat} {p0 p1 : Int32} (h : inR p0 0 5 ∧ ∃ j, j < k ∧ p1 = nI j) (h2 : ¬ tdP told p0) : (-3) = atA k told ma p0 p1 := by unfold atA; rw [pIf_t h, pIf_f h2]
theorem atA_3 {k i j : Nat} {told : Int32} {ma : Nat → Nat} {p0 p1 : Int32} (hk : k ≤ 6) (hi : i < 6) (hj : j < k) (e0 : p0 = nI i) (e1 : p1 = nI j) (h2 : tdP told p0) : wrN (dg k (ma i) j) = atA k told ma p0 p1 := by
  unfold atA
  rw [pIf_t ⟨by rw [e0]; exact inR05 hi, j, hj, e1⟩, pIf_t h2, e0, e1, nI_clamp (by omega), nI_clamp (by omega)]
theorem jdA_1 {k pm : Nat} {told : Int32} {f : Nat → Int32} {ma : Nat → Nat} {p0 : Int32} (h : ¬ inR p0 0 5) : (-1) = jdA k pm told f ma p0 := (pIf_f h).symm
theorem jdA_2 {k pm : Nat} {told : Int32} {f : Nat → Int32} {ma : Nat → Nat} {p0 : Int32} (h : inR p0 0 5) (h2 : ¬ tdP told p0) : (-3) = jdA k pm told f ma p0 := by unfold jdA; rw [pIf_t h, pIf_f h2]
theorem jdA_3 {k pm : Nat} {told : Int32} {f : Nat → Int32} {ma : Nat → Nat} {p0 : Int32} (h : inR p0 0 5) (h2 : tdP told p0) (h3 : ¬ psl f pm k 10 0 = (-6)) : (-5) = jdA k pm told f ma p0 := by unfold jdA; rw [pIf_t h, pIf_t h2, pIf_f h3]
theorem jdA_4 {k pm j : Nat} {told : Int32} {f : Nat → Int32} {ma : Nat → Nat} {p0 : Int32} (hj : j < 6) (e0 : p0 = nI j) (h2 : tdP told p0) (h3 : psl f pm k 10 0 = (-6)) : bdF k (sF f) (nS f pm) 0 (ma j) = jdA k pm told f ma p0 := by
  unfold jdA
  rw [pIf_t (by rw [e0]; exact inR05 hj), pIf_t h2, pIf_t h3, e0, nI_clamp (by omega)]
theorem cpA_1 {k pm : Nat} {told : Int32} {f : Nat → Int32} {ma : Nat → Nat} {p0 p1 : Int32} (h : ¬ (inR p0 0 5 ∧ inR p1 0 5)) : cpA k pm told f ma p0 p1 = ((-1), none) := pIf_f h
theorem cpA_2 {k pm : Nat} {told : Int32} {f : Nat → Int32} {ma : Nat → Nat} {p0 p1 : Int32} (h : inR p0 0 5 ∧ inR p1 0 5) (h2 : ¬ tdP told p1) : cpA k pm told f ma p0 p1 = ((-3), none) := by unfold cpA; rw [pIf_t h, pIf_f h2]
theorem cpA_3 {k pm : Nat} {told : Int32} {f : Nat → Int32} {ma : Nat → Nat} {p0 p1 : Int32} (h : inR p0 0 5 ∧ inR p1 0 5) (h2 : tdP told p1) (h3 : ¬ psl f pm k 10 0 = (-6)) : cpA k pm told f ma p0 p1 = ((-5), none) := by unfold cpA; rw [pIf_t h, pIf_t h2, pIf_f h3]
theorem cpA_4 {k pm j : Nat} {told : Int32} {f : Nat → Int32} {ma : Nat → Nat} {p0 p1 : Int32} (hj : j < 6) (e1 : p1 = nI j) (h : inR p0 0 5) (h2 : tdP told p1) (h3 : psl f pm k 10 0 = (-6)) (h4 : ¬ bdF k (sF f) (nS f pm) 0 (ma j) = (-6)) : cpA k pm told f ma p0 p1 = ((-5), none) := by
  unfold cpA
  rw [pIf_t ⟨h, by rw [e1]; exact inR05 hj⟩, pIf_t h2, pIf_t h3, e1, nI_clamp (by omega), pIf_f h4]
theorem cpA_5 {k pm j : Nat} {told : Int32} {f : Nat → Int32} {ma : Nat → Nat} {p0 p1 : Int32} (hj : j < 6) (e1 : p1 = nI j) (h : inR p0 0 5) (h2 : tdP told p1) (h3 : psl f pm k 10 0 = (-6)) (h4 : bdF k (sF f) (nS f pm) 0 (ma j) = (-6)) : cpA k pm told f ma p0 p1 = (nI (nS f pm), some (runS k (sF f) (nS f pm) 0 (ma j))) := by
  unfold cpA
  rw [pIf_t ⟨h, by rw [e1]; exact inR05 hj⟩, pIf_t h2, pIf_t h3, e1, nI_clamp (by omega), pIf_t h4]
theorem cp_lt {k pm a : Nat} {f : Nat → Int32} (hk2 : 2 ≤ k) (hk : k ≤ 6) (ha : a < 5 ^ k) (hno : ∀ t : Nat, t < nS f pm → w1 f pm k (pl f t) = none) : runS k (sF f) (nS f pm) 0 a < 5 ^ k := runS_lt hk _ _ _ ha (fun i _ h => (w1_ok hk2 hk (hno i (by omega))).2.2)
theorem ldA_1 {k la : Nat} {p0 : Int32} (h : ¬ ∃ j, j < k ∧ p0 = nI j) : (-1) = ldA k la p0 := (pIf_f h).symm
theorem ldA_2 {k la j : Nat} {p0 : Int32} (hk : k ≤ 6) (hj : j < k) (e0 : p0 = nI j) : wrN (dg k la j) = ldA k la p0 := by
  unfold ldA
  rw [pIf_t ⟨j, hj, e0⟩, e0, nI_clamp (by omega)]
theorem yrA_1 {k la : Nat} {told sp : Int32} {ma : Nat → Nat} {p0 : Int32} (h : ¬ inR p0 0 5) : (-1) = yrA k la told sp ma p0 := (pIf_f h).symm
theorem yrA_2 {k la : Nat} {told sp : Int32} {ma : Nat → Nat} {p0 : Int32} (h : inR p0 0 5) (h2 : ¬ tdP told p0) : (-3) = yrA k la told sp ma p0 := by unfold yrA; rw [pIf_t h, pIf_f h2]
theorem yrA_3 {k la j : Nat} {told sp : Int32} {ma : Nat → Nat} {p0 : Int32} (hj : j < 6) (e0 : p0 = nI j) (h2 : tdP told p0) : (nI (unl k la (ma j) k) + sp - 1) / sp = yrA k la told sp ma p0 := by
  unfold yrA
  rw [pIf_t (by rw [e0]; exact inR05 hj), pIf_t h2, e0, nI_clamp (by omega)]
theorem sp_nat {sp : Int32} (h : inR sp 1 6) : ∃ q, 1 ≤ q ∧ q ≤ 6 ∧ sp = nI q := by
  have h1 := i3_le.mp h.1
  have h2 := i3_le.mp h.2
  simp only [Int32.reduceToInt] at h1 h2
  refine ⟨sp.toInt.toNat, by omega, by omega, ?_⟩
  rw [i3_eq, nI_toInt (by omega)]
  omega
theorem sp_ne {sp : Int32} (h : inR sp 1 6) : ¬ sp = 0 := fun q => absurd h (by rw [q]; unfold inR; decide)
theorem max1_sp {sp : Int32} (h : inR sp 1 6) : (if (1 : Int32) < sp then sp else 1) = sp := by
  by_cases c : (1 : Int32) < sp
  · rw [if_pos c]
  · rw [if_neg c]
    have h1 := h.1
    simp only [i3_le, i3_lt, i3_eq, Int32.reduceToInt] at *
    omega
theorem dec_nI {n : Nat} (h : 0 < n) : nI n + (-1) = nI (n - 1) := by
  rw [← Int32.sub_eq_add_neg]
  exact pk_sub (b := 1) h
theorem flA_1 {k la : Nat} {told sp : Int32} {ma : Nat → Nat} {p0 p1 : Int32} (h : ¬ inR p0 0 5) : flA k la told sp ma p0 p1 = ((-1), la) := pIf_f h
theorem flA_2 {k la : Nat} {told sp : Int32} {ma : Nat → Nat} {p0 p1 : Int32} (h : inR p0 0 5) (h1 : ¬ inR p1 0 9) : flA k la told sp ma p0 p1 = ((-2), la) := by unfold flA; rw [pIf_t h, pIf_f h1]
theorem flA_3 {k la : Nat} {told sp : Int32} {ma : Nat → Nat} {p0 p1 : Int32} (h : inR p0 0 5) (h1 : inR p1 0 9) (h2 : ¬ tdP told p0) : flA k la told sp ma p0 p1 = ((-3), la) := by unfold flA; rw [pIf_t h, pIf_t h1, pIf_f h2]
theorem flA_4 {k la j y q : Nat} {told sp : Int32} {ma : Nat → Nat} {p0 p1 : Int32} (hj : j < 6) (e0 : p0 = nI j) (hy : y ≤ 9) (e1 : p1 = nI y) (hq : q ≤ 6) (e2 : sp = nI q) (h2 : tdP told p0) : flA k la told sp ma p0 p1 = (nI (unl k (fol k (ma j) k 0 la (y * q)) (ma j) k), fol k (ma j) k 0 la (y * q)) := by
  unfold flA
  rw [pIf_t (by rw [e0]; exact inR05 hj), pIf_t (by rw [e1]; exact inRm (n := 9) (by decide) hy rfl), pIf_t h2, e0, e1, e2, nI_clamp (by omega), nI_clamp (by omega), nI_clamp (by omega)]
theorem td10 {p0 : Int32} (h : ¬ p0 < 10) : inR (p0 - 10) 0 3 ↔ inR p0 10 13 := by
  have e := sub10 (x := p0) (by simp only [i3_le, i3_lt, Int32.reduceToInt] at *; omega)
  simp only [inR, i3_le, i3_lt, e, Int32.reduceToInt] at *
  omega
theorem tdA_0 {fk : Nat → Int32} {pm k : Nat} {told sp : Int32} : nI pm = tdA 0 fk pm k told sp := by unfold tdA; rw [cIf_f (by unfold inR; decide), cIf_t rfl]
theorem tdA_1 {fk : Nat → Int32} {pm k : Nat} {told sp : Int32} : nI k = tdA 1 fk pm k told sp := by unfold tdA; rw [cIf_f (by unfold inR; decide), cIf_f (by decide), cIf_t rfl]
theorem tdA_2 {fk : Nat → Int32} {pm k : Nat} {told sp : Int32} : told = tdA 2 fk pm k told sp := by unfold tdA; rw [cIf_f (by unfold inR; decide), cIf_f (by decide), cIf_f (by decide), cIf_t rfl]
theorem tdA_3 {fk : Nat → Int32} {pm k : Nat} {told sp : Int32} : sp = tdA 3 fk pm k told sp := by unfold tdA; rw [cIf_f (by unfold inR; decide), cIf_f (by decide), cIf_f (by decide), cIf_f (by decide), cIf_t rfl]
theorem tdA_d {fk : Nat → Int32} {pm k : Nat} {told sp p0 : Int32} (h : ¬ inR p0 10 13) (h0 : ¬ p0 = 0) (h1 : ¬ p0 = 1) (h2 : ¬ p0 = 2) (h3 : ¬ p0 = 3) : (-2) = tdA p0 fk pm k told sp := by unfold tdA; rw [cIf_f h, cIf_f h0, cIf_f h1, cIf_f h2, cIf_f h3]
theorem tdA_k {fk : Nat → Int32} {pm k : Nat} {told sp p0 : Int32} (h : inR p0 10 13) : fk (p0 - 10).toNatClampNeg = tdA p0 fk pm k told sp := by unfold tdA; rw [cIf_t h]
theorem tdA_congr {fk fk' : Nat → Int32} {pm k : Nat} {told sp p0 : Int32} (h : ∀ j : Nat, j < 4 → fk j = fk' j) : tdA p0 fk pm k told sp = tdA p0 fk' pm k told sp := by
  by_cases c : inR p0 10 13
  · rw [← tdA_k c, ← tdA_k c]
    exact h _ (clampR (hi := 3) ((td10 (by simp only [inR, i3_le, i3_lt, Int32.reduceToInt] at *; omega)).mpr c) (by decide))
  · unfold tdA; rw [cIf_f c, cIf_f c]
theorem bdF_congr {k : Nat} {sl sl' : Nat → Int32} : ∀ (r t a : Nat), (∀ i, t ≤ i → i < t + r → sl i = sl' i) → bdF k sl r t a = bdF k sl' r t a
  | 0, _, _, _ => rfl
  | r + 1, t, a, h => by
    show (if _ then _ else _) = (if _ then _ else _)
    rw [h t (Nat.le_refl _) (by omega), bdF_congr r (t + 1) _ (fun i h1 h2 => h i (by omega) (by omega))]
theorem runS_congr {k : Nat} {sl sl' : Nat → Int32} : ∀ (r t a : Nat), (∀ i, t ≤ i → i < t + r → sl i = sl' i) → runS k sl r t a = runS k sl' r t a
  | 0, _, _, _ => rfl
  | r + 1, t, a, h => by
    show runS k sl r (t + 1) _ = runS k sl' r (t + 1) _
    rw [h t (Nat.le_refl _) (by omega)]
    exact runS_congr r (t + 1) _ (fun i h1 h2 => h i (by omega) (by omega))
/-! the reference's reading of slips, step by step -/
theorem kdO_99 {c : Int32} (h : kdO c = 0) : c = 99 := knd_0.mp ((kdO_knd.2 (by rw [h]; decide)).symm.trans h)
theorem kdO_n99 {c : Int32} {kd : Nat} (h : kdO c = nI kd) (hk : kd ≤ 3) (hn : ¬ kd = 0) : ¬ c = 99 := fun q => hn ((nI_eq (a := kd) (b := 0) (by omega) (by decide)).mp (h.symm.trans (by unfold kdO; rw [cIf_t q]; rfl)))
theorem dgt_12 {f : Nat → Int32} {k i kd : Nat} (h2 : kdO (f i) = nI kd) (h : kd = 1 ∨ kd = 2) : dgt f k i ↔ inR (f (i + 1) - 48) 0 (nI (k - 2)) := by
  unfold dgt
  rw [h2]
  have e : sitesK k (nI kd) - 1 = k - 2 := by
    rcases h with rfl | rfl
    · unfold sitesK; rw [if_pos (by decide)]; omega
    · unfold sitesK; rw [if_neg (by decide), if_pos (by decide)]; omega
  rw [e]
theorem dgt_03 {f : Nat → Int32} {k i kd : Nat} (h2 : kdO (f i) = nI kd) (hk : kd ≤ 3) (h : ¬ kd = 1) (h' : ¬ kd = 2) : dgt f k i ↔ inR (f (i + 1) - 48) 0 (nI (k - 1)) := by
  unfold dgt
  rw [h2]
  have e : sitesK k (nI kd) = k := by
    rcases (show kd = 0 ∨ kd = 3 by omega) with rfl | rfl
    · unfold sitesK; rw [if_neg (by decide), if_neg (by decide)]
    · unfold sitesK; rw [if_neg (by decide), if_neg (by decide)]
  rw [e]
theorem slp_n {f : Nat → Int32} {i kd si : Nat} (h2 : kdO (f i) = nI kd) (hn : ¬ f i = 99) (hs : f (i + 1) - 48 = nI si) : slp f i = nI (100 * kd + 10 * si + 0) := by
  unfold slp
  rw [pIf_f hn, h2, hs]
  show nI 100 * nI kd + nI 10 * nI si + nI 0 = _
  rw [pk_mul, pk_mul, nI_add, nI_add]
theorem slp_c {f : Nat → Int32} {i kd si mg : Nat} (h2 : kdO (f i) = nI kd) (h9 : f i = 99) (hs : f (i + 1) - 48 = nI si) (hg : f (i + 2) - 97 = nI mg) : slp f i = nI (100 * kd + 10 * si + mg) := by
  unfold slp
  rw [pIf_t h9, h2, hs, hg]
  show nI 100 * nI kd + nI 10 * nI si + nI mg = _
  rw [pk_mul, pk_mul, nI_add, nI_add]
theorem fs_ret {x : Nat} {y : Int32} {R : Prop} (hx : x ≤ 40) (h : y = nI x) : nI x = y ∧ (y = (-6) → R) := ⟨h.symm, fun q => absurd (h.symm.trans q) (nI_ne6 hx)⟩
theorem lenS_3 {f : Nat → Int32} {i : Nat} (h : f i = 99) : lenS f i = 3 := if_pos h
theorem lenS_2 {f : Nat → Int32} {i : Nat} (h : ¬ f i = 99) : lenS f i = 2 := if_neg h
