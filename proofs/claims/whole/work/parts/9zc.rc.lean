/-! the class's first state, by numbers -/
def s0A (f i : Nat) : Int32 := match f with
  | 901 => 100
  | 300 => nI i
  | 302 => 1
  | 303 => 1
  | 305 => 1
  | 801 => -1
  | 803 => -1
  | _ => 0
def s0N (c : Nat) : Nat := match c with
  | 0 => 1
  | 11 => 1
  | 9 => 18
  | 3 => 6
  | 8 => 3
  | 60 => 128
  | _ => 0
def S0 : Ss := (s0A, fun _ _ => none, fun _ _ => [], fun _ _ => 0, fun _ _ => 0, fun _ => 0, s0N)
/-- where things stand among the cells -/
def s0D (ad : Nat → Nat) (c i : Nat) : Nat := match c with
  | 0 => ad 11
  | 11 => ad 1
  | 9 => ad (33 + i)
  | 3 => ad (51 + i)
  | 8 => ad (57 + i * 2)
  | 10800 => ad (57 + i * 2 + 1)
  | 11103 => ad 5
  | 11104 => ad 6
  | 11105 => ad 7
  | 11106 => ad 8
  | 11107 => ad 9
  | 11108 => ad 10
  | 20000 => match i with
    | 1100 => ad 2
    | 1101 => ad 3
    | _ => ad 4
  | 30000 => match i with
    | 0 => ad 12
    | 1 => ad 14
    | 2 => ad 16
    | 3 => ad 18
    | 4 => ad 20
    | 5 => ad 22
    | 1110 => ad 25
    | 1111 => ad 27
    | 1112 => ad 29
    | _ => ad 31
  | 30001 => match i with
    | 0 => ad 13
    | 1 => ad 15
    | 2 => ad 17
    | 3 => ad 19
    | 4 => ad 21
    | 5 => ad 23
    | 1110 => ad 26
    | 1111 => ad 28
    | 1112 => ad 30
    | _ => ad 32
  | _ => ad 0
/-- the number of a thing among the cells -/
def s0I (c i : Nat) : Nat := match c with
  | 0 => 11
  | 11 => 1
  | 9 => 33 + i
  | 3 => 51 + i
  | 8 => 57 + i * 2
  | _ => 0
theorem s0_c {c i : Nat} (hi : i < zN S0 c) (hc : c < 12) : (c = 0 ∧ i = 0) ∨ (c = 11 ∧ i = 0) ∨ (c = 9 ∧ i < 18) ∨ (c = 3 ∧ i < 6) ∨ (c = 8 ∧ i < 3) := by
  have hi : i < s0N c := hi
  unfold s0N at hi
  split at hi
  · exact Or.inl ⟨rfl, by omega⟩
  · exact Or.inr (Or.inl ⟨rfl, by omega⟩)
  · exact Or.inr (Or.inr (Or.inl ⟨rfl, hi⟩))
  · exact Or.inr (Or.inr (Or.inr (Or.inl ⟨rfl, hi⟩)))
  · exact Or.inr (Or.inr (Or.inr (Or.inr ⟨rfl, hi⟩)))
  · omega
  · omega
theorem s0_l {f c t i : Nat} (hf : lF f c t = true) (hi : i < zN S0 (lC f)) : (f = 800 ∧ c = 8 ∧ t = 10 ∧ i < 3) ∨ (1103 ≤ f ∧ f ≤ 1108 ∧ c = 11 ∧ i = 0) := by
  unfold lF at hf
  split at hf
  · exact absurd hi (Nat.not_lt_zero i)
  · simp only [Bool.and_eq_true, beq_iff_eq] at hf
    exact Or.inl ⟨rfl, hf.1, hf.2, hi⟩
  all_goals first
    | (simp only [Bool.and_eq_true, beq_iff_eq] at hf
       exact Or.inr ⟨by decide, by decide, hf.1, by have hi : i < 1 := hi; omega⟩)
    | cases hf
section
variable {C : Nat → Nat} {σ : St} {ad : Nat → Nat} {ce : Nat → Cell}
theorem s0_i {c i : Nat} (hi : i < zN S0 c) (hc : c < 12) : s0D ad c i = ad (s0I c i) ∧ s0I c i < 63 := by
  rcases s0_c hi hc with ⟨rfl, rfl⟩ | ⟨rfl, rfl⟩ | ⟨rfl, h⟩ | ⟨rfl, h⟩ | ⟨rfl, h⟩
  · exact ⟨rfl, by decide⟩
  · exact ⟨rfl, by decide⟩
  · exact ⟨rfl, show 33 + i < 63 by omega⟩
  · exact ⟨rfl, show 51 + i < 63 by omega⟩
  · exact ⟨rfl, show 57 + i * 2 < 63 by omega⟩
theorem s0_inj {c i j : Nat} (hc : c < 12) (hi : i < zN S0 c) (hj : j < zN S0 c) (e : s0I c i = s0I c j) : i = j := by
  rcases s0_c hi hc with ⟨rfl, rfl⟩ | ⟨rfl, rfl⟩ | ⟨rfl, h⟩ | ⟨rfl, h⟩ | ⟨rfl, h⟩
  · have : j < 1 := hj
    omega
  · have : j < 1 := hj
    omega
  · have : 33 + i = 33 + j := e
    omega
  · have : 51 + i = 51 + j := e
    omega
  · have : 57 + i * 2 = 57 + j * 2 := e
    omega
theorem rc_k (hv : HVC C σ 63 ad ce) (hA : HA ad ce) (hB : HB ce) (hE : HE ad ce) (hC : C (ad 0) % 2 = 1) : RCk (s0D ad) σ S0 := by
  unfold HA at hA
  obtain ⟨A0, A1, A2, A3, A4, A5, A6, A7, A8, A9, A10, A11, A12, A13, A14, A15, A16, A17, A18, A19, A20, A21, A22, A23, A24, A25, A26, A27, A28, A29, A30, A31, A32, A33, A34, A35, A36, A37, A38⟩ := hA
  obtain ⟨E1, E2, E3, E4, E5, E6, E7⟩ := hE
  refine ⟨fun c i hc hi => ?_, fun c i j hc hi hj e => ?_, ⟨rfl, rfl, rfl, rfl, rfl, rfl⟩, ?_, fun f t hf => ?_, ?_⟩
  · rcases s0_c hi hc with ⟨rfl, rfl⟩ | ⟨rfl, rfl⟩ | ⟨rfl, h⟩ | ⟨rfl, h⟩ | ⟨rfl, h⟩
    · show sK σ (ad 11) = 1
      rw [hv.k (by decide)]; exact A36
    · show sK σ (ad 1) = 12
      rw [hv.k (by decide)]; exact A2
    · show sK σ (ad (33 + i)) = 10
      rw [hv.k (by omega), E4 i h]; rfl
    · show sK σ (ad (51 + i)) = 4
      rw [hv.k (by omega), E5 i h]; rfl
    · show sK σ (ad (57 + i * 2)) = 9
      rw [hv.k (by omega), E6 i h]; rfl
  · rw [(s0_i hi hc).1, (s0_i hj hc).1] at e
    exact s0_inj hc hi hj (hv.2.1 _ _ (s0_i (ad := ad) hi hc).2 (s0_i (ad := ad) hj hc).2 e)
  · show sR σ 1109 (ad 1) = some (ad 11)
    rw [hv.r (by decide)]; exact A13
  · unfold aF at hf
    split at hf
    · have : t = 9 := by simpa using hf
      subst this
      refine ⟨?_, ?_, ?_, fun j hj => ?_⟩
      · show sR σ 1100 (ad 1) = some (ad 2)
        rw [hv.r (by decide)]; exact A4
      · show 24 ≤ sK σ (ad 2) ∧ sK σ (ad 2) ≤ 26
        rw [hv.k (by decide), hB.1]; decide
      · show sL σ (ad 2) = 18
        rw [hv.l (by decide)]; exact hB.2.1
      · show sQ σ (ad 2) j = some (ad (33 + j))
        rw [hv.q (by decide)]; exact E1 j hj
    · have : t = 3 := by simpa using hf
      subst this
      refine ⟨?_, ?_, ?_, fun j hj => ?_⟩
      · show sR σ 1101 (ad 1) = some (ad 3)
        rw [hv.r (by decide)]; exact A5
      · show 24 ≤ sK σ (ad 3) ∧ sK σ (ad 3) ≤ 26
        rw [hv.k (by decide), hB.2.2.1]; decide
      · show sL σ (ad 3) = 6
        rw [hv.l (by decide)]; exact hB.2.2.2.1
      · show sQ σ (ad 3) j = some (ad (51 + j))
        rw [hv.q (by decide)]; exact E2 j hj
    · have : t = 8 := by simpa using hf
      subst this
      refine ⟨?_, ?_, ?_, fun j hj => ?_⟩
      · show sR σ 1102 (ad 1) = some (ad 4)
        rw [hv.r (by decide)]; exact A6
      · show 24 ≤ sK σ (ad 4) ∧ sK σ (ad 4) ≤ 26
        rw [hv.k (by decide), hB.2.2.2.2.1]; decide
      · show sL σ (ad 4) = 3
        rw [hv.l (by decide)]; exact hB.2.2.2.2.2
      · show sQ σ (ad 4) j = some (ad (57 + j * 2))
        rw [hv.q (by decide)]; exact E3 j hj
    · cases hf
  · show sK σ (ad 0) = 50 ∧ sL σ (ad 0) = 0 ∧ sC σ (ad 0) % 2 = 1
    rw [hv.k (by decide), hv.l (by decide), hv.2.2.2]
    exact ⟨A0, A1, hC⟩
end
