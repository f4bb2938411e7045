/-! loops that look for something -/
theorem nd_inj {xs : List Nat} (h : xs.Nodup) {i j a : Nat} (hi : xs[i]? = some a) (hj : xs[j]? = some a) : i = j := by
  obtain ⟨i1, i2⟩ := List.getElem?_eq_some_iff.mp hi
  obtain ⟨j1, j2⟩ := List.getElem?_eq_some_iff.mp hj
  refine Classical.byContradiction fun r => ?_
  rcases Nat.lt_or_gt_of_ne r with q | q
  · exact List.pairwise_iff_getElem.mp h i j i1 j1 q (i2.trans j2.symm)
  · exact List.pairwise_iff_getElem.mp h j i j1 i1 q (j2.trans i2.symm)
theorem nd_take {M : List Nat} (h : M.Nodup) {i X : Nat} (hx : M[i]? = some X) : X ∉ M.take i := fun r => by
  obtain ⟨j, hj, hjx⟩ := List.mem_iff_getElem.mp r
  rw [List.length_take] at hj
  have e : M[j]? = some X := by
    have : (M.take i)[j]? = some X := List.getElem?_eq_some_iff.mpr ⟨by rw [List.length_take]; exact hj, hjx⟩
    rw [List.getElem?_take_of_lt (by omega)] at this; exact this
  have := nd_inj h e hx
  omega
theorem mem_take1 {M : List Nat} {i X : Nat} (hx : M[i]? = some X) (z : Nat) : z ∈ M.take (i + 1) ↔ z ∈ M.take i ∨ z = X := by
  have e : M.take (i + 1) = M.take i ++ [X] := by rw [List.take_add_one, hx]; rfl
  rw [e, List.mem_append, List.mem_singleton]
section
variable {R : Type}
theorem m_find (L : Nat → Int32 → MM R) (S : Ss) (n : Nat) (P : Nat → Prop) (Y : Nat → Option (R × Ss)) (Z : Option (R × Ss)) (h1 : ∀ f i, i < n → P i → (L (f + 1) (nI i)).1 S = Y i) (h2 : ∀ f i, i < n → ¬ P i → (L (f + 1) (nI i)).1 S = (L f (nI (i + 1))).1 S) (hd : ∀ f, (L (f + 1) (nI n)).1 S = Z) (F : Nat) (hF : n < F) : (∃ i, i < n ∧ P i ∧ (∀ j, j < i → ¬ P j) ∧ (L F 0).1 S = Y i) ∨ ((∀ i, i < n → ¬ P i) ∧ (L F 0).1 S = Z) := by
  have key : ∀ i, i ≤ n → ∀ f, f + i = F → (∃ j, j < i ∧ P j ∧ (∀ q, q < j → ¬ P q) ∧ (L F 0).1 S = Y j) ∨ ((∀ j, j < i → ¬ P j) ∧ (L F 0).1 S = (L f (nI i)).1 S) := by
    intro i
    induction i with
    | zero => intro _ f hf; right; refine ⟨fun j hj => absurd hj (by omega), ?_⟩; rw [show f = F by omega]; rfl
    | succ i ih =>
      intro hi f hf
      rcases ih (by omega) (f + 1) (by omega) with ⟨j, a1, a2, a3, a4⟩ | ⟨a1, a2⟩
      · exact Or.inl ⟨j, by omega, a2, a3, a4⟩
      · by_cases q : P i
        · exact Or.inl ⟨i, by omega, q, a1, by rw [a2, h1 f i (by omega) q]⟩
        · refine Or.inr ⟨fun j hj => ?_, by rw [a2, h2 f i (by omega) q]⟩
          by_cases e : j = i
          · rw [e]; exact q
          · exact a1 j (by omega)
  obtain ⟨d, hd2⟩ : ∃ d, F = d + 1 + n := ⟨F - n - 1, by omega⟩
  rcases key n (Nat.le_refl _) (d + 1) (by omega) with a | ⟨a1, a2⟩
  · exact Or.inl a
  · exact Or.inr ⟨a1, by rw [a2, hd]⟩
theorem g_find (L : Nat → Int32 → GM R) (w : MS) (n : Nat) (P : Nat → Prop) (Y : Nat → Option (R × MS)) (Z : Option (R × MS)) (h1 : ∀ f i, i < n → P i → L (f + 1) (nI i) w = Y i) (h2 : ∀ f i, i < n → ¬ P i → L (f + 1) (nI i) w = L f (nI (i + 1)) w) (hd : ∀ f, L (f + 1) (nI n) w = Z) (F : Nat) (hF : n < F) : (∃ i, i < n ∧ P i ∧ (∀ j, j < i → ¬ P j) ∧ L F 0 w = Y i) ∨ ((∀ i, i < n → ¬ P i) ∧ L F 0 w = Z) := by
  have key : ∀ i, i ≤ n → ∀ f, f + i = F → (∃ j, j < i ∧ P j ∧ (∀ q, q < j → ¬ P q) ∧ L F 0 w = Y j) ∨ ((∀ j, j < i → ¬ P j) ∧ L F 0 w = L f (nI i) w) := by
    intro i
    induction i with
    | zero => intro _ f hf; right; refine ⟨fun j hj => absurd hj (by omega), ?_⟩; rw [show f = F by omega]; rfl
    | succ i ih =>
      intro hi f hf
      rcases ih (by omega) (f + 1) (by omega) with ⟨j, a1, a2, a3, a4⟩ | ⟨a1, a2⟩
      · exact Or.inl ⟨j, by omega, a2, a3, a4⟩
      · by_cases q : P i
        · exact Or.inl ⟨i, by omega, q, a1, by rw [a2, h1 f i (by omega) q]⟩
        · refine Or.inr ⟨fun j hj => ?_, by rw [a2, h2 f i (by omega) q]⟩
          by_cases e : j = i
          · rw [e]; exact q
          · exact a1 j (by omega)
  obtain ⟨d, hd2⟩ : ∃ d, F = d + 1 + n := ⟨F - n - 1, by omega⟩
  rcases key n (Nat.le_refl _) (d + 1) (by omega) with a | ⟨a1, a2⟩
  · exact Or.inl a
  · exact Or.inr ⟨a1, by rw [a2, hd]⟩
/-- a flag that goes from c to d once, and stays -/
theorem g_flag (L : Nat → Int32 → Int32 → GM R) (w : MS) (n : Nat) (P : Nat → Prop) (c d : Int32) (K : Int32 → Option (R × MS)) (h1 : ∀ f i, i < n → P i → L (f + 1) c (nI i) w = L f d (nI (i + 1)) w) (h2 : ∀ f i, i < n → ¬ P i → L (f + 1) c (nI i) w = L f c (nI (i + 1)) w) (h3 : ∀ f i, i < n → L (f + 1) d (nI i) w = L f d (nI (i + 1)) w) (hd : ∀ f a, (a = c ∨ a = d) → L (f + 1) a (nI n) w = K a) (F : Nat) (hF : n < F) : ((∃ i, i < n ∧ P i) → L F c 0 w = K d) ∧ ((∀ i, i < n → ¬ P i) → L F c 0 w = K c) ∧ L F d 0 w = K d := by
  have k3 : ∀ i, i ≤ n → ∀ f, f + i = F → L F d 0 w = L f d (nI i) w := by
    intro i
    induction i with
    | zero => intro _ f hf; rw [show f = F by omega]; rfl
    | succ i ih => intro hi f hf; rw [ih (by omega) (f + 1) (by omega), h3 f i (by omega)]
  have key : ∀ i, i ≤ n → ∀ f, f + i = F → ((∃ j, j < i ∧ P j) → L F c 0 w = L f d (nI i) w) ∧ ((∀ j, j < i → ¬ P j) → L F c 0 w = L f c (nI i) w) := by
    intro i
    induction i with
    | zero => intro _ f hf; refine ⟨fun ⟨j, hj, _⟩ => absurd hj (by omega), fun _ => ?_⟩; rw [show f = F by omega]; rfl
    | succ i ih =>
      intro hi f hf
      obtain ⟨a1, a2⟩ := ih (by omega) (f + 1) (by omega)
      by_cases q : ∃ j, j < i ∧ P j
      · refine ⟨fun _ => by rw [a1 q, h3 f i (by omega)], fun r => ?_⟩
        obtain ⟨j, hj, hp⟩ := q
        exact absurd hp (r j (by omega))
      · have q' : ∀ j, j < i → ¬ P j := fun j hj hp => q ⟨j, hj, hp⟩
        refine ⟨fun ⟨j, hj, hp⟩ => ?_, fun r => by rw [a2 q', h2 f i (by omega) (r i (by omega))]⟩
        have e : j = i := by
          refine Classical.byContradiction fun e => q' j (by omega) hp
        rw [a2 q', h1 f i (by omega) (e ▸ hp)]
  obtain ⟨x, hx⟩ : ∃ x, F = x + 1 + n := ⟨F - n - 1, by omega⟩
  obtain ⟨a1, a2⟩ := key n (Nat.le_refl _) (x + 1) (by omega)
  exact ⟨fun q => by rw [a1 q, hd x d (Or.inr rfl)], fun q => by rw [a2 q, hd x c (Or.inl rfl)], by rw [k3 n (Nat.le_refl _) (x + 1) (by omega), hd x d (Or.inr rfl)]⟩
/-- loops that change the state, with an invariant -/
theorem g_loop {α : Type} (L : Nat → α → Int32 → GM R) (n : Nat) (I : Nat → MS → α → Prop) (K : α → MS → Option (R × MS)) (hs : ∀ f i w a, i < n → I i w a → ∃ w' a', L (f + 1) a (nI i) w = L f a' (nI (i + 1)) w' ∧ I (i + 1) w' a') (hd : ∀ f w a, I n w a → L (f + 1) a (nI n) w = K a w) (F : Nat) (hF : n < F) {w : MS} {a : α} (h0 : I 0 w a) : ∃ w' a', I n w' a' ∧ L F a 0 w = K a' w' := by
  have key : ∀ i, i ≤ n → ∀ f, f + i = F → ∃ w' a', I i w' a' ∧ L F a 0 w = L f a' (nI i) w' := by
    intro i
    induction i with
    | zero => intro _ f hf; refine ⟨w, a, h0, ?_⟩; rw [show f = F by omega]; rfl
    | succ i ih =>
      intro hi f hf
      obtain ⟨w1, a1, i1, e1⟩ := ih (by omega) (f + 1) (by omega)
      obtain ⟨w2, a2, e2, i2⟩ := hs f i w1 a1 (by omega) i1
      exact ⟨w2, a2, i2, e1.trans e2⟩
  obtain ⟨d, hd2⟩ : ∃ d, F = d + 1 + n := ⟨F - n - 1, by omega⟩
  obtain ⟨w1, a1, i1, e1⟩ := key n (Nat.le_refl _) (d + 1) (by omega)
  exact ⟨w1, a1, i1, e1.trans (hd d w1 a1 i1)⟩
theorem m_loop {α : Type} (L : Nat → α → Int32 → MM R) (n : Nat) (I : Nat → Ss → α → Prop) (K : α → Ss → Option (R × Ss)) (hs : ∀ f i S a, i < n → I i S a → ∃ S' a', (L (f + 1) a (nI i)).1 S = (L f a' (nI (i + 1))).1 S' ∧ I (i + 1) S' a') (hd : ∀ f S a, I n S a → (L (f + 1) a (nI n)).1 S = K a S) (F : Nat) (hF : n < F) {S : Ss} {a : α} (h0 : I 0 S a) : ∃ S' a', I n S' a' ∧ (L F a 0).1 S = K a' S' := by
  have key : ∀ i, i ≤ n → ∀ f, f + i = F → ∃ S' a', I i S' a' ∧ (L F a 0).1 S = (L f a' (nI i)).1 S' := by
    intro i
    induction i with
    | zero => intro _ f hf; refine ⟨S, a, h0, ?_⟩; rw [show f = F by omega]; rfl
    | succ i ih =>
      intro hi f hf
      obtain ⟨w1, a1, i1, e1⟩ := ih (by omega) (f + 1) (by omega)
      obtain ⟨w2, a2, e2, i2⟩ := hs f i w1 a1 (by omega) i1
      exact ⟨w2, a2, i2, e1.trans e2⟩
  obtain ⟨d, hd2⟩ : ∃ d, F = d + 1 + n := ⟨F - n - 1, by omega⟩
  obtain ⟨w1, a1, i1, e1⟩ := key n (Nat.le_refl _) (d + 1) (by omega)
  exact ⟨w1, a1, i1, e1.trans (hd d w1 a1 i1)⟩
end
