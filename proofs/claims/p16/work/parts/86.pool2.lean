/-! tables of a Search, each with what it says -/
def tokS (d : TD) : Prop := match d with
  | (_, _, _, qd, se, go, ki, nn, fs, fq) => nn = 0 ∨ ∃ k y c, 2 ≤ k ∧ k ≤ 6 ∧ nn = nI k ∧ qd = nI c ∧ se = nI y ∧ BK k (bK ki) (gS k go) y c fs fq
def PL2 (G : Gy) (ft : Nat → Option Nat) (T : va_W) : Prop := ∃ D : Nat → Option TD, T = fl G D 8 ∧ (∀ j, j < 8 → ft j = (D j).map (fun d => d.1)) ∧ ∀ j, j < 8 → ∀ d, D j = some d → tokS d
def TL2 (G : Gy) (ft : Nat → Option Nat) (d : TD) (T : va_W) : Prop := ∃ (D : Nat → Option TD) (i : Nat) (X Y : va_W), i < 8 ∧ T = X ++ Y ∧ (∀ o : Option TD, fl G (va_up D i o) 8 = X ++ (oc G o ++ Y)) ∧ ft i = some d.1 ∧ (∀ j, j < 8 → j ≠ i → ft j = (D j).map (fun d => d.1)) ∧ ∀ j, j < 8 → j ≠ i → ∀ d, D j = some d → tokS d
theorem pl2_take {G : Gy} {ft : Nat → Option Nat} {T X : va_W} {j t : Nat} {A : Nat → Prop} {H : Heap} (h : PL2 G ft T) (hj : j < 8) (ht : ft j = some t) (hP : va_P G.1 vwCl (X ++ T) H) (hD : va_D A (X ++ T)) : ∃ (d : TD) (T1 : va_W), d.1 = t ∧ tokS d ∧ TL2 G ft d T1 ∧ va_P G.1 vwCl ((X ++ tc G d) ++ T1) H ∧ va_D A ((X ++ tc G d) ++ T1) := by
  obtain ⟨D, rfl, h1, h2⟩ := h
  have h3 := h1 j hj
  rw [ht] at h3
  cases hd : D j with
  | none => rw [hd] at h3; cases h3
  | some d =>
    rw [hd] at h3
    obtain ⟨Y1, Y2, e1, e2⟩ := fl_at (G := G) (D := D) (i := j) 8 hj
    have hdt : d.1 = t := (Option.some.inj h3).symm
    refine ⟨d, Y1 ++ Y2, hdt, h2 j hj d hd, ⟨D, j, Y1, Y2, hj, rfl, e2, by rw [hdt]; exact ht, fun k hk _ => h1 k hk, fun k hk _ => h2 k hk⟩, ?_, ?_⟩
    · rw [e1, hd] at hP
      exact P_perm (perm_in X Y1 (tc G d) Y2) hP
    · rw [e1, hd] at hD
      exact D_perm (perm_in X Y1 (tc G d) Y2) hD
theorem pl2_put {G : Gy} {ft : Nat → Option Nat} {T X : va_W} {d d1 : TD} {A : Nat → Prop} {H : Heap} (h : TL2 G ft d T) (he : d1.1 = d.1) (hk : tokS d1) (hP : va_P G.1 vwCl ((X ++ tc G d1) ++ T) H) (hD : va_D A ((X ++ tc G d1) ++ T)) : ∃ T1 : va_W, PL2 G ft T1 ∧ va_P G.1 vwCl (X ++ T1) H ∧ va_D A (X ++ T1) := by
  obtain ⟨D, i, Y1, Y2, hi, rfl, e2, h3, h4, h5⟩ := h
  refine ⟨fl G (va_up D i (some d1)) 8, ⟨_, rfl, fun j hj => ?_, fun j hj q hq => ?_⟩, ?_, ?_⟩
  · by_cases hji : j = i
    · subst hji
      rw [h3, show va_up D j (some d1) j = some d1 from if_pos rfl]
      show some d.1 = some d1.1
      rw [he]
    · rw [show va_up D i (some d1) j = D j from if_neg hji]
      exact h4 j hj hji
  · by_cases hji : j = i
    · subst hji
      rw [show va_up D j (some d1) j = some d1 from if_pos rfl] at hq
      cases hq
      exact hk
    · rw [show va_up D i (some d1) j = D j from if_neg hji] at hq
      exact h5 j hj hji q hq
  · rw [e2]
    exact P_perm (perm_in X Y1 (tc G d1) Y2).symm hP
  · rw [e2]
    exact D_perm (perm_in X Y1 (tc G d1) Y2).symm hD
theorem pl2_add {G : Gy} {ft : Nat → Option Nat} {T : va_W} {j : Nat} {d : TD} (h : PL2 G ft T) (hj : j < 8) (ht : ft j = none) : TL2 G (va_up ft j (some d.1)) d T := by
  obtain ⟨D, rfl, h1, h2⟩ := h
  have h3 := h1 j hj
  rw [ht] at h3
  obtain ⟨Y1, Y2, e1, e2⟩ := fl_at (G := G) (D := D) (i := j) 8 hj
  have hd : D j = none := by
    cases hd : D j with
    | none => rfl
    | some q => rw [hd] at h3; cases h3
  refine ⟨D, j, Y1, Y2, hj, by rw [e1, hd]; rfl, e2, if_pos rfl, fun k hk hkj => ?_, fun k hk _ => h2 k hk⟩
  rw [show va_up ft j (some d.1) k = ft k from if_neg hkj]
  exact h1 k hk
theorem pl2_none {G : Gy} : PL2 G (fun _ => none) [] := ⟨fun _ => none, rfl, fun _ _ => rfl, fun _ _ d h => by cases h⟩
theorem tl2_same {G : Gy} {ft : Nat → Option Nat} {d d1 : TD} {T : va_W} (h : TL2 G ft d T) (e : d1.1 = d.1) : TL2 G ft d1 T := by
  obtain ⟨D, i, X, Y, h1, h2, h3, h4, h5, h6⟩ := h
  exact ⟨D, i, X, Y, h1, h2, h3, by rw [e]; exact h4, h5, h6⟩
def SK2 (G : Gy) (v : Value) (T : va_W) (u : Nat) : Prop := (v = .null ∧ T = [] ∧ u = 0) ∨ ∃ (sr rt ru : Nat) (ol : Int32) (ft : Nat → Option Nat) (gu : Nat → Int32) (T2 : va_W), v = .ref sr ∧ PL2 G ft T2 ∧ T = [(sr, .inr (2, [.ref rt, .ref ru, .int ol])), (rt, .inl (gT G, 8, .inr (.inr (.inr (.inr ft))))), (ru, .inl (gI G, 15625, .inl gu))] ++ T2 ∧ u = 1 + cntS ft 8
theorem SK2.le {G : Gy} {v : Value} {T : va_W} {u : Nat} (h : SK2 G v T u) : u ≤ 9 := by
  rcases h with ⟨-, -, h⟩ | ⟨sr, rt, ru, ol, ft, gu, T2, -, -, -, h⟩
  · omega
  · have := cntS_le ft 8
    omega
