section
theorem bit6 : ∀ n, n < 6 → nI n &&& 31 = nI n := by decide
theorem bx_bit (x : Int32) {i j : Nat} (hi : i < 6) (hj : j < 6) : ((x ||| (1 <<< (nI j &&& 31))) >>> (nI i &&& 31)) &&& 1 = 1 ↔ ((x >>> (nI i &&& 31)) &&& 1 = 1 ∨ i = j) := by
  rw [bit6 i hi, bit6 j hj, bt_get _ _ (by omega), bt_get _ _ (by omega), Int32.toBitVec_or, BitVec.getLsbD_or, bt_one j (by omega) i (by omega), Bool.or_eq_true, decide_eq_true_iff]
variable {z t g z' t' g' : Nat → Int32} {b : Int32} {i : Nat}
def nobit (i : Nat) (x : Bx) : Prop := ¬ (x.2.2.2 >>> (nI i &&& 31)) &&& 1 = 1
theorem bxF_cg {j : Nat} {x : Bx} (hz : z j = z' j) (ht : t j = t' j) (hg : ∀ o, o < 6 → o ≠ i → g o = g' o) (hj : j < 6) (hji : j ≠ i) (hx : nobit i x) : bxF z t g b j x = bxF z' t' g' b j x := by
  unfold bxF
  rw [hz, ht]
  congr 2
  have key : ∀ (l : List Nat), (∀ o, o ∈ l → o < 6) → (l.all fun o => !(decide ((x.2.2.2 >>> (nI o &&& 31)) &&& 1 = 1) && (decide (o ≠ j) && isBar b (g o) (g j)))) = l.all fun o => !(decide ((x.2.2.2 >>> (nI o &&& 31)) &&& 1 = 1) && (decide (o ≠ j) && isBar b (g' o) (g' j))) := by
    intro l
    induction l with
    | nil => intro _; rfl
    | cons o r ih =>
      intro ho
      rw [List.all_cons, List.all_cons, ih fun q hq => ho q (List.mem_cons_of_mem _ hq)]
      congr 1
      by_cases e : o = i
      · have hn : ¬ (x.2.2.2 >>> (nI o &&& 31)) &&& 1 = 1 := by rw [e]; exact hx
        rw [decide_eq_false hn]; rfl
      · rw [hg o (ho o (List.mem_cons_self ..)) e, hg j hj hji]
  exact key _ fun o ho => List.mem_range.mp ho
theorem bxP_nobit {j : Nat} {x : Bx} (hi : i < 6) (hj : j < 6) (hji : j ≠ i) (hx : nobit i x) : nobit i (bxP z t j x) := by
  unfold nobit bxP
  dsimp only
  rw [bx_bit _ hi hj]
  rintro (r | r)
  · exact hx r
  · exact hji r.symm
theorem put1_cg {j : Nat} (hi : i < 6) (hz : z j = z' j) (ht : t j = t' j) (hg : ∀ o, o < 6 → o ≠ i → g o = g' o) (hj : j < 6) (hji : j ≠ i) : ∀ xs : List Bx, (∀ x, x ∈ xs → nobit i x) → put1 z t g b j xs = put1 z' t' g' b j xs ∧ ∀ x, x ∈ put1 z t g b j xs → nobit i x
  | [], _ => by
    have e : bxP z t j (0, 0, 0, 0) = bxP z' t' j (0, 0, 0, 0) := by unfold bxP; rw [hz, ht]
    have h0 : nobit i ((0, 0, 0, 0) : Bx) := by
      unfold nobit
      have : ∀ n, n < 6 → ¬ ((0 : Int32) >>> (nI n &&& 31)) &&& 1 = 1 := by decide
      exact this i hi
    refine ⟨by unfold put1; rw [e], fun x hx => ?_⟩
    have hx' : x ∈ [bxP z t j (0, 0, 0, 0)] := hx
    rw [List.mem_singleton.mp hx']
    exact bxP_nobit hi hj hji h0
  | x :: r, h => by
    obtain ⟨a1, a2⟩ := put1_cg hi hz ht hg hj hji r fun y hy => h y (List.mem_cons_of_mem _ hy)
    have hx := h x (List.mem_cons_self ..)
    have e : bxP z t j x = bxP z' t' j x := by unfold bxP; rw [hz, ht]
    have e2 := bxF_cg (b := b) hz ht hg hj hji hx
    by_cases q : bxF z t g b j x = true
    · have q' := q
      rw [e2] at q'
      refine ⟨by rw [put1, put1, if_pos q, if_pos q', e], fun y hy => ?_⟩
      rw [put1, if_pos q] at hy
      rcases List.mem_cons.mp hy with r | r
      · rw [r]; exact bxP_nobit hi hj hji hx
      · exact h y (List.mem_cons_of_mem _ r)
    · have q' := q
      rw [e2] at q'
      refine ⟨by rw [put1, put1, if_neg q, if_neg q', a1], fun y hy => ?_⟩
      rw [put1, if_neg q] at hy
      rcases List.mem_cons.mp hy with r | r
      · rw [r]; exact hx
      · exact a2 y r
theorem putN_cg {j : Nat} (hi : i < 6) (hz : z j = z' j) (ht : t j = t' j) (hg : ∀ o, o < 6 → o ≠ i → g o = g' o) (hj : j < 6) (hji : j ≠ i) : ∀ (n : Nat) (xs : List Bx), (∀ x, x ∈ xs → nobit i x) → putN z t g b j n xs = putN z' t' g' b j n xs ∧ ∀ x, x ∈ putN z t g b j n xs → nobit i x
  | 0, xs, h => ⟨rfl, h⟩
  | n + 1, xs, h => by
    obtain ⟨a1, a2⟩ := put1_cg (b := b) hi hz ht hg hj hji xs h
    obtain ⟨b1, b2⟩ := putN_cg hi hz ht hg hj hji n (put1 z t g b j xs) a2
    refine ⟨?_, b2⟩
    rw [putN, putN, b1, a1]
theorem pkS_cg {c : Nat → Nat} (hi : i < 6) (hc : c i = 0) (hz : ∀ o, o < 6 → o ≠ i → z o = z' o) (ht : ∀ o, o < 6 → o ≠ i → t o = t' o) (hg : ∀ o, o < 6 → o ≠ i → g o = g' o) : ∀ k, pkS z t g b c k = pkS z' t' g' b c k ∧ ∀ x, x ∈ pkS z t g b c k → nobit i x
  | 0 => ⟨rfl, fun x hx => by cases hx⟩
  | k + 1 => by
    obtain ⟨a1, a2⟩ := pkS_cg hi hc hz ht hg k
    have h6 : k % 6 < 6 := Nat.mod_lt _ (by decide)
    rw [pkS, pkS]
    by_cases e : k % 6 = i
    · rw [e, hc]
      have e1 : ∀ (z t g : Nat → Int32) xs, putN z t g b i 0 xs = xs := fun _ _ _ _ => rfl
      rw [e1, e1, ite_self, ite_self]
      exact ⟨a1, a2⟩
    · obtain ⟨b1, b2⟩ := putN_cg (b := b) hi (hz _ h6 e) (ht _ h6 e) hg h6 e (c (k % 6)) (pkS z t g b c k) a2
      rw [← hz _ h6 e]
      by_cases q : z (k % 6) = nI (9 - k / 6)
      · rw [if_pos q, if_pos q]
        exact ⟨by rw [b1, a1], b2⟩
      · rw [if_neg q, if_neg q]; exact ⟨a1, a2⟩
end
