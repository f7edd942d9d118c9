/-- the field trees and the cells behind it -/
def TK (G : Gy) (v : Value) (T : va_W) (b : Nat) : Prop := (v = .null ∧ T = [] ∧ b = 0) ∨ ∃ (tr us uf ub : Nat) (le ma : Int32) (gs gf gb : Nat → Int32), v = .ref tr ∧ T = [(tr, .inr (4, [.ref us, .ref uf, .ref ub, .int le, .int ma])), (us, .inl (gI G, 36, .inl gs)), (uf, .inl (gI G, 6, .inl gf)), (ub, .inl (gI G, 6, .inl gb))] ∧ b = 1
theorem TK.le {G : Gy} {v : Value} {T : va_W} {b : Nat} (h : TK G v T b) : b ≤ 1 := by
  rcases h with ⟨-, -, h⟩ | ⟨tr, us, uf, ub, le, ma, gs, gf, gb, -, -, h⟩ <;> omega
theorem perm_tr (X C T : va_W) : ((X ++ C) ++ T).Perm (X ++ (T ++ C)) := by
  rw [List.append_assoc]
  exact List.Perm.append_left X List.perm_append_comm
