section
variable {B k : Nat} {S T : Ss} {w v : MS}
/-- the book's group, when d is added to it at lot l -/
theorem bk_of (h : Rel B k S w) {l : Nat} {d : Nat → Int32} (hl : l < zN S 5) (h0 : ∀ j, j < 336 → zC T 0 j = zC S 0 j + d j) (h1 : ∀ p i', i' < 6 → zC T 1 (6 * p + i') = zC S 1 (6 * p + i') + if i' = itS S l then d (12 * p + l) else 0) (hd : ∀ p l', l' < 12 → l' ≠ l → d (12 * p + l') = 0) (hw : ∀ j, j < 336 → mA v 19 j = mA w 19 j + d j) (hN : zN T 5 = zN S 5) (hO : zO T 501 = zO S 501) : g_bk T v := by
  obtain ⟨b1, b2, b3⟩ := h.bk
  have h12 := h.lo.1
  have hi : ∀ x, itS T x = itS S x := fun x => by unfold itS; rw [hO]
  unfold g_bk
  rw [hN]
  refine ⟨fun j hj => by rw [h0 j hj, hw j hj, b1 j hj], fun p i hp hi6 => ?_, fun p x hp h1 h2 => ?_⟩
  · rw [h1 p i hi6, b2 p i hp hi6]
    have e : (if i = itS S l then d (12 * p + l) else 0) = sm (List.range (zN S 5)) (fun x => if l = x then (if itS S x = i then d (12 * p + x) else 0) else 0) := by
      rw [sm_one (f := fun x => if itS S x = i then d (12 * p + x) else 0) _ hl]
      by_cases q : i = itS S l
      · rw [if_pos q, if_pos q.symm]
      · rw [if_neg q, if_neg (fun r => q r.symm)]
    rw [e, ← sm_add]
    refine sm_cg _ fun x hx => ?_
    have := List.mem_range.mp hx
    rw [hi]
    by_cases q1 : itS S x = i
    · rw [if_pos q1, if_pos q1, if_pos q1, h0 _ (by omega)]
      by_cases q2 : l = x
      · rw [if_pos q2]
      · rw [if_neg q2, hd p x (by omega) (fun r => q2 r.symm)]
    · rw [if_neg q1, if_neg q1, if_neg q1]; split <;> rw [Int32.add_zero]
  · rw [h0 _ (by omega), b3 p x hp h1 h2, hd p x h2 (by omega)]; rfl
theorem db_of (h : Rel B k S w) {l : Nat} {P : Nat → Prop} (h5 : ∀ p l', p < 18 → l' < 12 → (P p ∧ l' = l → zC T 5 (12 * p + l') = 0 ∧ mA v 21 (12 * p + l') = -1) ∧ (¬ (P p ∧ l' = l) → zC T 5 (12 * p + l') = zC S 5 (12 * p + l') ∧ mA v 21 (12 * p + l') = mA w 21 (12 * p + l'))) : g_db T v := by
  intro j hj
  obtain ⟨p, l', e, h1, h2⟩ : ∃ p l', j = 12 * p + l' ∧ p < 18 ∧ l' < 12 := ⟨j / 12, j % 12, by omega, by omega, by omega⟩
  subst e
  obtain ⟨a1, a2⟩ := h5 p l' h1 h2
  by_cases q : P p ∧ l' = l
  · rw [(a1 q).1, (a1 q).2]; rfl
  · rw [(a2 q).1, (a2 q).2]; exact h.db _ hj
theorem mv_of (h : Rel B k S w) {k' : Nat} {d : Nat → Int32} (hk : k' ≤ 1024) (ha : mvA T k') (hm : ∀ p l', p < 28 → l' < 12 → mvS (zM T) k' p l' = mvS (zM S) k p l' + d (12 * p + l')) (h0 : ∀ j, j < 336 → zC T 0 j = zC S 0 j + d j) : g_mv T k' := by
  obtain ⟨a1, a2, a3, a4, a5⟩ := ha
  refine ⟨hk, a1, a2, a3, a4, a5, fun p l hp hl => ?_⟩
  rw [hm p l hp hl, h0 _ (by omega), h.mv.2.2.2.2.2.2 p l hp hl]
theorem Rel.mvAr (h : Rel B k S w) : mvA S k := ⟨h.mv.2.1, h.mv.2.2.1, h.mv.2.2.2.1, h.mv.2.2.2.2.1, h.mv.2.2.2.2.2.1⟩
end
