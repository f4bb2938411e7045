section
variable {D : Nat → Nat → Nat} {σ τ s : St} {S : Ss}
theorem RC.lch (h : RC D σ S) {f c t i e e' k : Nat} {ys : List Nat} (hf : lF f c t = true) (hi : i < zN S (lC f)) (he : sR σ 1301 (D (10000 + f) i) = some e) (hc : chL σ τ (D (10000 + f) i) e e') (hy : LSTe τ (D (10000 + f) i) e' (ys.map (D t))) (hl : ∀ j, j ∈ ys → lv S t j) (hk : sL τ e' = k) (hp : e' = e → 0 < sL σ e) : RC D τ (pL f i ys k S) := by
  obtain ⟨h1, h2, h3, h4, h5⟩ := h
  obtain ⟨a1, a2, ⟨e0, a3, a4⟩, a5⟩ := h4.1 f c t i hf hi
  have hee : e0 = e := Option.some.inj (a3.1.symm.trans he)
  subst hee
  have hE : sK σ e0 = 50 := a3.2.2.2.2.2.2.2
  have hL : sK σ (D (10000 + f) i) = 30 := a3.2.2.2.2.2.2.1
  obtain ⟨c1, c2, c3, c4, c5⟩ := hc
  have F1 : ∀ f' a, f' ≠ 1300 → f' ≠ 1302 → sI τ f' a = sI σ f' a := fun f' a x y => c1 f' a (Or.inr ⟨x, y⟩)
  have F2 : ∀ f' a, f' ≠ 1301 → sR τ f' a = sR σ f' a := fun f' a x => c2 f' a (Or.inr x)
  have F0 : e' = e0 ∨ sK σ e' = 0 := by
    rcases c5 with q | q
    · exact Or.inl q.1
    · exact Or.inr q
  have F3 : ∀ a, sK σ a ≠ 0 → sK τ a = sK σ a := fun a ha => by
    by_cases q : a = e'
    · rcases c5 with r | r
      · rw [q]; exact r.2.2.2
      · exact absurd (q ▸ r) ha
    · exact (c3 a q).2.2.2
  have F4 : ∀ a, sK σ a ≠ 0 → a ≠ e0 → sA τ a = sA σ a ∧ sL τ a = sL σ a ∧ sQ τ a = sQ σ a := fun a ha hb => by
    have q : a ≠ e' := fun q => by
      rcases F0 with r | r
      · exact hb (q.trans r)
      · exact ha (q ▸ r)
    exact ⟨(c3 a q).1, (c3 a q).2.1, (c3 a q).2.2.1⟩
  have hd : D 40000 0 ≠ e' := fun q => by
    rcases F0 with r | r
    · have := hp r
      have g := h1.2.2.2.2.2.2.1
      rw [q, r] at g; omega
    · have g := h1.2.2.2.2.2.1
      rw [q, r] at g; cases g
  -- the other lists
  have G : ∀ f' c' t' i', lF f' c' t' = true → i' < zN S (lC f') → ¬ (f' = f ∧ i' = i) → ∀ e2, LSTe σ (D (10000 + f') i') e2 ((zL S f' i').map (D t')) → sL σ e2 = zP S f' i' → D (10000 + f') i' ≠ D (10000 + f) i ∧ e2 ≠ e' := by
    intro f' c' t' i' hf' hi' hn e2 b1 b2
    have n1 : D (10000 + f') i' ≠ D (10000 + f) i := fun q => hn (h4.2.1 f' c' t' i' f c t i hf' hf hi' hi q)
    refine ⟨n1, fun q => ?_⟩
    rcases F0 with r | r
    · rcases h4.2.2 f' c' t' i' f c t i hf' hf hi' hi (by rw [b1.1, q, r]; exact a3.1.symm) with p | p
      · exact hn p
      · have := hp r
        rw [q, r] at b2; omega
    · have g := b1.2.2.2.2.2.2.2
      rw [q, r] at g; cases g
  refine ⟨⟨fun c' i' hc' hi' => ?_, h1.2.1, h1.2.2.1, ?_, fun f' t' hf' => ?_, ?_⟩, fun f' c' i' hc' hf' hi' => ?_, fun f' c' t' i' hf' hi' => ?_, ⟨fun f' c' t' i' hf' hi' => ?_, h4.2.1, fun f1 y1 t1 i1 f2 y2 t2 i2 g1 g2 g3 g4 hh => ?_⟩, fun r c' hr => ?_, h5.2.1, ?_⟩
  · rw [F3 _ (by rw [h1.1 c' i' hc' hi']; omega)]; exact h1.1 c' i' hc' hi'
  · rw [F2 _ _ (by decide)]; exact h1.2.2.2.1
  · obtain ⟨g1, g2, g3, g4⟩ := h1.2.2.2.2.1 f' t' hf'
    have hl9 := aF_c hf'
    obtain ⟨m1, m2, m3⟩ := F4 (D 20000 f') (by omega) (fun q => by rw [q] at g2; omega)
    exact ⟨by rw [F2 _ _ (by omega)]; exact g1, by rw [F3 _ (by omega)]; exact g2, by rw [m2]; exact g3, fun j hj => by rw [m3]; exact g4 j hj⟩
  · obtain ⟨g1, g2, g3⟩ := h1.2.2.2.2.2
    obtain ⟨m1, m2, m3, m4⟩ := c3 _ hd
    exact ⟨by rw [m4]; exact g1, by rw [m2]; exact g2, by rw [c4]; exact g3⟩
  · rw [F1 _ _ (by omega) (by omega)]; exact h2 f' c' i' hc' hf' hi'
  · rw [F2 _ _ (fun q => (rF_c hf').2.2.2.2.2.2 q)]; exact h3 f' c' t' i' hf' hi'
  · have hl9 := lF_c hf'
    obtain ⟨b1, b2, ⟨e2, b3, b4⟩, b5⟩ := h4.1 f' c' t' i' hf' hi'
    refine ⟨b1, by rw [F2 _ _ (by omega)]; exact b2, ?_, ?_⟩
    · show ∃ e3, LSTe τ (D (10000 + f') i') e3 ((u2 f i ys (zL S) f' i').map (D t')) ∧ sL τ e3 = u2 f i k (zP S) f' i'
      by_cases q : f' = f ∧ i' = i
      · rw [u2_at, u2_at, if_pos q, if_pos q, q.1, q.2]
        have hu := lF_u (q.1 ▸ hf') hf
        rw [hu.2]
        exact ⟨e', hy, hk⟩
      · obtain ⟨n1, n2⟩ := G f' c' t' i' hf' hi' q e2 b3 b4
        rw [u2_at, u2_at, if_neg q, if_neg q]
        obtain ⟨m1, m2, m3, m4⟩ := c3 _ n2
        exact ⟨e2, b3.congr (c2 _ _ (Or.inl n1)) (c1 _ _ (Or.inl n1)) m2 m3 (by rw [c4]) (F3 _ (by rw [b3.2.2.2.2.2.2.1]; decide)) m4, by rw [m2]; exact b4⟩
    · show ∀ j, j ∈ u2 f i ys (zL S) f' i' → lv S t' j
      rw [u2_at]
      by_cases q : f' = f ∧ i' = i
      · rw [if_pos q]
        have hu := lF_u (q.1 ▸ hf') hf
        rw [hu.2]; exact hl
      · rw [if_neg q]; exact b5
  · show (f1 = f2 ∧ i1 = i2) ∨ u2 f i k (zP S) f1 i1 = 0
    obtain ⟨-, -, ⟨e1, b3, b4⟩, -⟩ := h4.1 f1 y1 t1 i1 g1 g3
    obtain ⟨-, -, ⟨e2, d3, d4⟩, -⟩ := h4.1 f2 y2 t2 i2 g2 g4
    by_cases q1 : f1 = f ∧ i1 = i
    · by_cases q2 : f2 = f ∧ i2 = i
      · exact Or.inl ⟨by rw [q1.1, q2.1], by rw [q1.2, q2.2]⟩
      · obtain ⟨n1, n2⟩ := G f2 y2 t2 i2 g2 g4 q2 e2 d3 d4
        rw [q1.1, q1.2, hy.1] at hh
        have r2 : sR τ 1301 (D (10000 + f2) i2) = some e2 := (c2 1301 _ (Or.inl n1)).trans d3.1
        rw [r2] at hh
        exact absurd (Option.some.inj hh).symm n2
    · obtain ⟨n1, n2⟩ := G f1 y1 t1 i1 g1 g3 q1 e1 b3 b4
      rw [u2_at, if_neg q1]
      have r1 : sR τ 1301 (D (10000 + f1) i1) = some e1 := (c2 1301 _ (Or.inl n1)).trans b3.1
      by_cases q2 : f2 = f ∧ i2 = i
      · rw [r1, q2.1, q2.2, hy.1] at hh
        exact absurd (Option.some.inj hh) n2
      · obtain ⟨n3, n4⟩ := G f2 y2 t2 i2 g2 g4 q2 e2 d3 d4
        have r2 : sR τ 1301 (D (10000 + f2) i2) = some e2 := (c2 1301 _ (Or.inl n3)).trans d3.1
        refine h4.2.2 f1 y1 t1 i1 f2 y2 t2 i2 g1 g2 g3 g4 ?_
        rw [b3.1, d3.1, ← r1, ← r2]; exact hh
  · have hl9 := cF_c hr
    obtain ⟨g1, g2, g3, g4, g5, g6, g7⟩ := h5.1 r c' hr
    obtain ⟨m1, m2, m3⟩ := F4 (D 30001 r) (by rw [g5]; decide) (fun q => by rw [q, hE] at g5; cases g5)
    exact ⟨by rw [F2 _ _ (by omega)]; exact g1, by rw [F3 _ (by rw [g2]; decide)]; exact g2, by rw [F1 _ _ (by decide) (by decide)]; exact g3, by rw [F2 _ _ (by decide)]; exact g4, by rw [F3 _ (by rw [g5]; decide)]; exact g5, by rw [m2]; exact g6, fun j => by rw [m1]; exact g7 j⟩
  · obtain ⟨m, g1, g2, g3, g4, g5⟩ := h5.2.2
    obtain ⟨m1, m2, m3⟩ := F4 m (by rw [g2]; decide) (fun q => by rw [q, hE] at g2; cases g2)
    exact ⟨m, by rw [F2 _ _ (by decide)]; exact g1, by rw [F3 _ (by rw [g2]; decide)]; exact g2, by rw [m2]; exact g3, fun j => by rw [m1]; exact g4 j, g5⟩
end
