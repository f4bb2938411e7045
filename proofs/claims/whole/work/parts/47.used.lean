section
variable {α : Type}
theorem sm_zero {f : α → Int32} (xs : List α) (h0 : ∀ a, a ∈ xs → 0 ≤ (f a).toInt) (hb : sz xs (fun a => (f a).toInt) < 2147483648) : sm xs f = 0 ↔ ∀ a, a ∈ xs → f a = 0 := by
  constructor
  · intro h a ha
    have e := sm_toInt xs h0 hb
    rw [h] at e
    have e0 : (0 : Int32).toInt = 0 := rfl
    have := sz_mem (z := fun a => (f a).toInt) xs h0 ha
    have h9 := h0 a ha
    apply Int32.toInt_inj.mp
    omega
  · exact sm_0 xs
end
section
variable {B k : Nat} {S : Ss} {w : MS}
theorem Rel.n1 (h : Rel B k S w) {p i : Nat} (hp : p < 28) (hi : i < 6) : 0 ≤ (zC S 1 (6 * p + i)).toInt := by
  have h12 := h.lo.1
  obtain ⟨n1, n2, n3⟩ := h.nn
  rw [h.bk.2.1 p i hp hi, sm_toInt]
  · refine sz_0 _ fun l hl => ?_
    split
    · exact (n2 _ (by have := List.mem_range.mp hl; omega)).1
    · exact Int.le_refl _
  · intro l hl
    split
    · exact (n2 _ (by have := List.mem_range.mp hl; omega)).1
    · exact Int.le_refl _
  · have := sz_ub (z := fun l => ((if itS S l = i then zC S 0 (12 * p + l) else 0 : Int32)).toInt) (c := 8000000) (List.range (zN S 5)) fun l hl => by
      split
      · have := (n2 (12 * p + l) (by have := List.mem_range.mp hl; omega)).2; omega
      · decide
    rw [List.length_range] at this
    omega
theorem Rel.n4a (h : Rel B k S w) {s i t : Nat} (ht : t < zN S 10) : 0 ≤ (apc S s i t).toInt ∧ (apc S s i t).toInt ≤ 99 := by
  obtain ⟨-, -, -, -, -, i6, -⟩ := h.ta.2.2.2 t ht
  unfold apc
  split
  · exact i6
  · decide
theorem Rel.n4s (h : Rel B k S w) (s i : Nat) : sz (List.range (zN S 10)) (fun t => (apc S s i t).toInt) < 2147483648 := by
  have h60 := h.ta.1
  have := sz_ub (z := fun t => (apc S s i t).toInt) (c := 99) (List.range (zN S 10)) fun t ht => (h.n4a (List.mem_range.mp ht)).2
  rw [List.length_range] at this
  omega
theorem Rel.n4 (h : Rel B k S w) {s i : Nat} (hs : s < 18) (hi : i < 6) : 0 ≤ (zC S 4 (6 * s + i)).toInt := by
  rw [h.ap.1 s i hs hi, sm_toInt _ (fun t ht => (h.n4a (List.mem_range.mp ht)).1) (h.n4s s i)]
  exact sz_0 _ fun t ht => (h.n4a (List.mem_range.mp ht)).1
theorem Rel.z4 (h : Rel B k S w) {s i : Nat} (hs : s < 18) (hi : i < 6) : zC S 4 (6 * s + i) = 0 ↔ ∀ t, t < zN S 10 → apc S s i t = 0 := by
  rw [h.ap.1 s i hs hi, sm_zero _ (fun t ht => (h.n4a (List.mem_range.mp ht)).1) (h.n4s s i)]
  exact ⟨fun q t ht => q t (List.mem_range.mpr ht), fun q t ht => q t (List.mem_range.mp ht)⟩
theorem Rel.rpcB (h : Rel B k S w) {s t : Nat} (ht : t < zN S 10) : 0 ≤ (rpc S s t).toInt ∧ (rpc S s t).toInt ≤ 891 ∧ (rpc S s t = 0 ↔ apc S s (itS S (lotT S t)) t = 0) := by
  obtain ⟨-, -, -, -, -, i6, -⟩ := h.ta.2.2.2 t ht
  obtain ⟨l1, l2⟩ := h.lotI ht
  obtain ⟨-, -, -, -, -, b6, b7⟩ := h.lo.2.2.2.1 _ l1
  have c := (h.it _ b6).2.2.2.2.2.2.1
  have j1 := tI_of i6
  have j2 := tI_of c
  unfold rpc apc
  by_cases q2 : (zA S 1005 t = 0 ∨ zA S 1005 t = 1) ∧ ¬ zA S 1001 t = 2 ∧ zA S 1003 t = nI s
  · rw [if_pos q2, if_pos ⟨q2.1, q2.2.1, q2.2.2, rfl⟩]
    have m1 : 0 ≤ (zA S 1004 t).toInt * (zA S 302 (itS S (lotT S t))).toInt := Int.mul_nonneg j1.1 (by omega)
    have m2 : (zA S 1004 t).toInt * (zA S 302 (itS S (lotT S t))).toInt ≤ 99 * 9 := Int.mul_le_mul j1.2 j2.2 (by omega) (by decide)
    have e : (zA S 1004 t * zA S 302 (itS S (lotT S t))).toInt = (zA S 1004 t).toInt * (zA S 302 (itS S (lotT S t))).toInt := by
      rw [Int32.toInt_mul]; exact Int.bmod_eq_of_le (by simp; omega) (by simp; omega)
    refine ⟨by omega, by omega, fun q => ?_, fun q => by rw [q, Int32.zero_mul]⟩
    rw [q] at e
    have e0 : (0 : Int32).toInt = 0 := rfl
    apply Int32.toInt_inj.mp
    have := Int.mul_eq_zero.mp (e.symm.trans e0)
    omega
  · rw [if_neg q2, if_neg fun r => q2 ⟨r.1, r.2.1, r.2.2.1⟩]
    exact ⟨by decide, by decide, Iff.rfl⟩
/-- nothing stands in a slot, nothing is awaited there -/
def emp (S : Ss) (s : Nat) : Prop := ∀ i, i < 6 → zC S 1 (6 * s + i) = 0 ∧ zC S 4 (6 * s + i) = 0
theorem Rel.zR (h : Rel B k S w) {s : Nat} (hs : s < 18) : sm (List.range (zN S 10)) (rpc S s) = 0 ↔ ∀ i, i < 6 → zC S 4 (6 * s + i) = 0 := by
  have h60 := h.ta.1
  rw [sm_zero _ (fun t ht => (h.rpcB (List.mem_range.mp ht)).1) (by
    have := sz_ub (z := fun t => (rpc S s t).toInt) (c := 891) (List.range (zN S 10)) fun t ht => (h.rpcB (List.mem_range.mp ht)).2.1
    rw [List.length_range] at this
    omega)]
  constructor
  · intro q i hi
    rw [h.z4 hs hi]
    intro t ht
    have := (h.rpcB ht).2.2.mp (q t (List.mem_range.mpr ht))
    by_cases r : itS S (lotT S t) = i
    · rw [← r]; exact this
    · unfold apc; rw [if_neg fun x => r x.2.2.2]
  · intro q t ht
    have ht' := List.mem_range.mp ht
    have := (h.lo.2.2.2.1 _ (h.lotI ht').1).2.2.2.2.2.1
    exact (h.rpcB ht').2.2.mpr ((h.z4 hs this).mp (q _ this) t ht')
end
