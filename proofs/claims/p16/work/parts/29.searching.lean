section LPH
variable {p : Program} {l : Launch} {e : Env} {R : Room} {s : State} {m : MethodId} {args : Array Value} {below : List Frame} {meth : Method} {c : Code} {H : Heap} {locs : List Loc} {cells slots : Nat} {Q : State → Prop}
variable {pc : Nat} {ls : Array Slot} {st : List Value} {A : Nat → Prop} {G : Gy}
/-- a loop that may make cells: the count stands in the state -/
theorem lp_runH {σ : Type} {x0 : σ} {nL : Nat} (gc gs : σ → Nat) (g0 : GF s.heap H (gc x0) (gs x0)) (WS : σ → va_W) (LV : σ → List (Nat × Value)) (I : σ → Prop) (μ : σ → Nat) (hP : va_P G.1 vwCl (WS x0) H) (hD : va_D A (WS x0)) (hS : va_S A s.heap H locs) (hl : lv_has ls nL (LV x0)) (h0 : I x0)
    (step : ∀ x : σ, I x → (∀ y : σ, I y → μ y < μ x → ∀ (H1 : Heap) (locs1 : List Loc) (ls1 : Array Slot), va_P G.1 vwCl (WS y) H1 → va_D A (WS y) → va_S A s.heap H1 locs1 → lv_has ls1 nL (LV y) → W p l e R s m args below meth c H1 locs1 (gc y) (gs y) Q (F0 m pc ls1 st)) → ∀ (H1 : Heap) (locs1 : List Loc) (ls1 : Array Slot), va_P G.1 vwCl (WS x) H1 → va_D A (WS x) → va_S A s.heap H1 locs1 → lv_has ls1 nL (LV x) → W p l e R s m args below meth c H1 locs1 (gc x) (gs x) Q (F0 m pc ls1 st)) : W p l e R s m args below meth c H locs cells slots Q (F0 m pc ls st) := by
  have key : ∀ (k : Nat) (x : σ), μ x < k → I x → ∀ (H1 : Heap) (locs1 : List Loc) (ls1 : Array Slot), va_P G.1 vwCl (WS x) H1 → va_D A (WS x) → va_S A s.heap H1 locs1 → lv_has ls1 nL (LV x) → W p l e R s m args below meth c H1 locs1 (gc x) (gs x) Q (F0 m pc ls1 st) := by
    intro k
    induction k with
    | zero => intro x h; exact absurd h (Nat.not_lt_zero _)
    | succ k ih => intro x hx hI; exact step x hI (fun y hy hm => ih y (Nat.lt_of_lt_of_le hm (Nat.le_of_lt_succ hx)) hy)
  exact W_lower g0 (key (μ x0 + 1) x0 (Nat.lt_succ_self _) h0 H locs ls hP hD hS hl)
end LPH
theorem SK.le {G : Gy} {v : Value} {T : va_W} {u : Nat} (h : SK G v T u) : u ≤ 9 := by
  rcases h with ⟨-, -, h⟩ | ⟨sr, rt, ru, ol, ft, gu, T2, -, -, -, h⟩
  · omega
  · have := cntS_le ft 8
    omega
