/-! refill: bounds -/
section
variable {B k : Nat} {S : Ss} {w : MS}
theorem Rel.n1u (h : Rel B k S w) {p i : Nat} (hp : p < 28) (hi : i < 6) : (zC S 1 (6 * p + i)).toInt ≤ 96000000 := by
  have h12 := h.lo.1
  obtain ⟨n1, n2, n3⟩ := h.nn
  have u0 : ∀ l, l ∈ List.range (zN S 5) → 0 ≤ ((if itS S l = i then zC S 0 (12 * p + l) else 0 : Int32)).toInt := fun l hl => by
    split
    · exact (n2 _ (by have := List.mem_range.mp hl; omega)).1
    · exact Int.le_refl _
  have u1 := sz_ub (z := fun l => ((if itS S l = i then zC S 0 (12 * p + l) else 0 : Int32)).toInt) (c := 8000000) (List.range (zN S 5)) fun l hl => by
    split
    · have := (n2 (12 * p + l) (by have := List.mem_range.mp hl; omega)).2; omega
    · decide
  rw [List.length_range] at u1
  rw [h.bk.2.1 p i hp hi, sm_toInt _ u0 (by omega)]
  omega
theorem Rel.n4u (h : Rel B k S w) {s i : Nat} (hs : s < 18) (hi : i < 6) : (zC S 4 (6 * s + i)).toInt ≤ 5940 := by
  have h60 := h.ta.1
  have u1 := sz_ub (z := fun t => (apc S s i t).toInt) (c := 99) (List.range (zN S 10)) fun t ht => (h.n4a (List.mem_range.mp ht)).2
  rw [List.length_range] at u1
  rw [h.ap.1 s i hs hi, sm_toInt _ (fun t ht => (h.n4a (List.mem_range.mp ht)).1) (h.n4s s i)]
  omega
theorem Rel.there0 (h : Rel B k S w) {s i : Nat} (hs : s < 18) (hi : i < 6) : 0 ≤ (zC S 1 (6 * s + i) + zC S 4 (6 * s + i)).toInt := by
  have a := h.n1 (show s < 28 by omega) hi
  have b := h.n1u (show s < 28 by omega) hi
  have c := h.n4 hs hi
  have d := h.n4u hs hi
  rw [add_toInt (by omega) (by omega)]; omega
end
