/-! answers of the class's leaves, as functions of numbers -/
def tOi (j : Nat) : Int32 := ([0, 1, 2, 3, 10, 11, 12, 13, 20, 21, 22, 23, 30, 31, 32, 33, 40, 41, 42, 43, 50, 51, 52, 53, 100, 110, 120, 130, 140, 200, 210, 220, 230, 240, 300, 310, 320, 330, 340, 350] : List Int32).getD j 0
noncomputable def ord (x : Int32) : Int32 := cIf (inR x 0 39) (tOi x.toNatClampNeg) (-6)
noncomputable def wth (c s g : Int32) : Int32 := c + (g - sgn c (wgt s)) * wgt s
noncomputable def cnt5 (n : Int32) : Int32 := cIf (wgt (n - 1) < 1) 0 (15625 / wgt (n - 1))
noncomputable def stf (k n : Int32) : Int32 := cIf (k = 1) (n - 1) (cIf (k = 2) (n - 1) n)
def q10 (s : Int32) : Int32 := s / 10 - s / 10 / 10 * 10
def mdP (s k n : Int32) : Prop := 0 ≤ s ∧ (¬ (k >>> ((s / 100) &&& 31)) &&& 1 = 0) ∧ q10 s < stf (s / 100) n
noncomputable def aft (c s : Int32) : Int32 := cIf (0 ≤ s) (cIf (s / 100 = 0) (wth c (q10 s) (s - s / 10 * 10)) (cIf (s / 100 = 1) (wth (wth c (q10 s) (sgn c (wgt (q10 s + 1)))) (q10 s + 1) (sgn c (wgt (q10 s)))) (cIf (s / 100 = 2) (wth c (q10 s + 1) (sgn c (wgt (q10 s)))) (cIf (s / 100 = 3) (wth c (q10 s) 4) c)))) c
noncomputable def num (c : Int32) : Int32 := cIf (97 = c) 0 (cIf (98 = c) 1 (cIf (99 = c) 2 (cIf (100 = c) 3 (cIf (45 = c) 4 (cIf (63 = c) 5 (-1))))))
noncomputable def psg (f : Nat → Int32) (len p : Int32) : Int32 := cIf (0 ≤ p) (cIf (p < len) (cIf (p < 40) (f p.toNatClampNeg) 0) 0) 0
noncomputable def knd (c : Int32) : Int32 := cIf (c = 99) 0 (cIf (c = 111) 3 (cIf (c = 115) 1 (cIf (c = 116) 2 (-1))))
noncomputable def lsl (f : Nat → Int32) (len p : Int32) : Int32 := cIf (knd (psg f len p) = 0) 3 2
theorem inc_lt {x y z : Int32} (h : x.toInt < y.toInt) (e : z = x + 1) : z.toInt = x.toInt + 1 := by
  have h1 := Int32.toInt_lt y
  have h2 := Int32.le_toInt x
  rw [e, Int32.toInt_add]
  have h3 : (1 : Int32).toInt = 1 := rfl
  rw [h3]
  apply Int.bmod_eq_of_le <;> omega
theorem lv_lk {x : Int32} {a o d : Int} {r : List (Int × Int)} {k : Int32} (h : x = k) (hk : k.toInt = a) : Op.lookupswitch.offset ((a, o) :: r) d x.toInt = o := by
  rw [h, hk]
  simp [Op.lookupswitch.offset]
theorem idx36 {a b : Int32} (ha : inR a 0 5) (hb : inR b 0 5) : vp_in (a * 6 + b) 36 := by
  have a1 := i3_le.mp ha.1
  have a2 := i3_le.mp ha.2
  have b1 := i3_le.mp hb.1
  have b2 := i3_le.mp hb.2
  simp only [Int32.reduceToInt] at a1 a2 b1 b2
  have h6 : (a * 6).toInt = a.toInt * 6 := by
    rw [Int32.toInt_mul, show (6 : Int32).toInt = 6 from rfl]
    apply Int.bmod_eq_of_le <;> omega
  have h : (a * 6 + b).toInt = a.toInt * 6 + b.toInt := by
    rw [Int32.toInt_add, h6]
    apply Int.bmod_eq_of_le <;> omega
  exact vp_in_iff.mpr ⟨by omega, by omega⟩