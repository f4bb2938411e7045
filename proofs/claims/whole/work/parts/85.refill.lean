/-! whole cases -/
theorem dvm {x z : Int32} (hz : tI z 1 12) : (0 ≤ x → x - (x - x / z * z) = x / z * z ∧ (x / z * z ≤ 0 ↔ x / z ≤ 0) ∧ 0 ≤ (x / z * z).toInt ∧ (x / z * z).toInt ≤ x.toInt) ∧ (¬ 0 ≤ x → x / z ≤ 0) := by
  have h1 := tI_of hz
  have e0 : (0 : Int32).toInt = 0 := by decide
  have hne : z ≠ -1 := fun r => by rw [r] at h1; exact absurd h1.1 (by decide)
  have ed := Int32.toInt_div_of_ne_right x z hne
  have xb := x.toInt_lt
  simp only [Int.reducePow, Nat.reducePow, Nat.reduceSub, Int.reduceSub] at xb
  constructor
  · intro hx
    have hx0 := Int32.le_iff_toInt_le.mp hx
    rw [e0] at hx0
    rw [Int.tdiv_eq_ediv_of_nonneg hx0] at ed
    have q0 : 0 ≤ x.toInt / z.toInt := Int.ediv_nonneg hx0 (by omega)
    have q1 : x.toInt / z.toInt * z.toInt ≤ x.toInt := Int.ediv_mul_le x.toInt (by omega)
    generalize x.toInt / z.toInt = q at *
    have q2 : 0 ≤ q * z.toInt := Int.mul_nonneg q0 (by omega)
    have em : (x / z * z).toInt = q * z.toInt := by
      rw [Int32.toInt_mul, ed]; exact Int.bmod_eq_of_le (by simp; omega) (by simp; omega)
    have q3 : q * z.toInt ≤ 0 ↔ q ≤ 0 := by
      constructor
      · intro r
        refine Classical.byContradiction fun c => ?_
        have := Int.mul_pos (show 0 < q by omega) (show 0 < z.toInt by omega)
        omega
      · intro r
        have : q = 0 := by omega
        rw [this]; simp
    have s1 : (x - x / z * z).toInt = x.toInt - (x / z * z).toInt := sub_toInt (by omega) (by omega)
    refine ⟨?_, ?_, by omega, by omega⟩
    · apply Int32.toInt_inj.mp
      rw [sub_toInt (by omega) (by omega), s1]
      omega
    · rw [Int32.le_iff_toInt_le, Int32.le_iff_toInt_le, e0, em, ed]; exact q3
  · intro hx
    have hx0 := mt Int32.le_iff_toInt_le.mpr hx
    rw [e0] at hx0
    rw [Int32.le_iff_toInt_le, e0, ed]
    have a := Int.tdiv_nonneg (show 0 ≤ -x.toInt by omega) (show 0 ≤ z.toInt by omega)
    rw [Int.neg_tdiv] at a
    omega
theorem mnm (x y : Int32) : (if x < y then x else y) = (if y ≤ x then y else x) := by
  by_cases h : x < y
  · rw [if_pos h, if_neg (Int32.not_le.mpr h)]
  · rw [if_neg h, if_pos (Int32.not_lt.mp h)]
