section
variable {D : Nat → Nat → Nat} {σ τ s : St} {S : Ss}
/-- a new thing -/
def pNew (c n : Nat) (S : Ss) : Ss := (fun f i => if f / 100 = c ∧ i = zN S c then 0 else zA S f i, fun f i => if f / 100 = c ∧ i = zN S c then none else zO S f i, zL S, zP S, zC S, zM S, fun k => if k = c then zN S c + 1 else if k = 61 then zN S 61 + 1 else if k = 62 then zN S 62 + n else zN S k)
theorem pNew_le (c n : Nat) (S : Ss) : zle S (pNew c n S) := by
  intro k
  show zN S k ≤ if k = c then zN S c + 1 else if k = 61 then zN S 61 + 1 else if k = 62 then zN S 62 + n else zN S k
  split
  · rename_i q; rw [q]; omega
  · split
    · rename_i q; rw [q]; omega
    · split
      · rename_i q; rw [q]; omega
      · omega
theorem RC.nwO (h : RC D σ S) {c n q : Nat} (hc : c = 2 ∨ c = 4 ∨ c = 5 ∨ c = 6 ∨ c = 7 ∨ c = 10) (hq : sK σ q = 0) (e : s = newO (c + 1) q σ) : ∃ D', RC D' s (pNew c n S) ∧ DX S D D' ∧ AT D' (pNew c n S) c (zN S c) q := by
  subst e
  have hc12 : c < 12 := by omega
  have hs : ∀ b, b ≠ q → cEq σ (newO (c + 1) q σ) b ∧ sK (newO (c + 1) q σ) b = sK σ b := fun b hb => ⟨cEq_newO _ _ _ hb, by rw [sK_newO, u1_at, if_neg hb]⟩
  have h' : RC D (newO (c + 1) q σ) S := h.congr fun b hb _ => ⟨(hs b (fun r => hb (by rw [r]; exact hq))).2, (hs b (fun r => hb (by rw [r]; exact hq))).1⟩
  have hnq : ∀ c' i', c' < 12 → i' < zN S c' → D c' i' ≠ q := fun c' i' a b r => by have := h.1.1 c' i' a b; rw [r, hq] at this; cases this
  let D' : Nat → Nat → Nat := fun c' i' => if c' = c ∧ i' = zN S c then q else D c' i'
  have hD : ∀ c' i', c' ≠ c → D' c' i' = D c' i' := fun c' i' a => if_neg fun r => a r.1
  have hDl : ∀ c' i', lv S c' i' → D' c' i' = D c' i' := fun c' i' a => if_neg fun r => by
    rw [r.1, lv_o hc12] at a
    omega
  have hDn : D' c (zN S c) = q := if_pos ⟨rfl, rfl⟩
  have hN : ∀ k, k ≠ c → k ≠ 61 → k ≠ 62 → zN (pNew c n S) k = zN S k := fun k a b d => by
    show (if k = c then zN S c + 1 else if k = 61 then zN S 61 + 1 else if k = 62 then zN S 62 + n else zN S k) = _
    rw [if_neg a, if_neg b, if_neg d]
  have hNc : zN (pNew c n S) c = zN S c + 1 := if_pos rfl
  have hlt : ∀ c' i', c' < 12 → i' < zN (pNew c n S) c' → (c' = c ∧ i' = zN S c) ∨ (i' < zN S c' ∧ D' c' i' = D c' i' ∧ ¬ (c' = c ∧ i' = zN S c)) := fun c' i' a b => by
    by_cases r : c' = c
    · subst r
      rw [hNc] at b
      by_cases r2 : i' = zN S c'
      · exact Or.inl ⟨rfl, r2⟩
      · exact Or.inr ⟨by omega, hDl c' i' ((lv_o a).mpr (by omega)), fun w => r2 w.2⟩
    · rw [hN c' r (by omega) (by omega)] at b
      exact Or.inr ⟨b, hD c' i' r, fun w => r w.1⟩
  have hlC : ∀ f c1 t, lF f c1 t = true → zN (pNew c n S) (lC f) = zN S (lC f) := fun f c1 t hf => by
    have := lF_c hf
    unfold lC
    split
    · exact hN _ (by omega) (by decide) (by decide)
    · rename_i h704
      refine hN _ (fun r => ?_) (by omega) (by omega)
      have : c1 = 8 ∨ c1 = 11 := by
        unfold lF at hf
        split at hf <;> simp_all
      omega
  obtain ⟨h1, h2, h3, h4, h5⟩ := h'
  have l1 := pNew_le c n S
  refine ⟨D', ⟨⟨fun c' i' hc' hi' => ?_, fun c' i' j' hc' hi' hj' hh => ?_, ?_, ?_, fun f t hf => ?_, ?_⟩, fun f c' i' hc' hf hi' => ?_, fun f c' t i' hf hi' => ?_, ⟨fun f c' t i' hf hi' => ?_, fun f1 c1 t1 i1 f2 c2 t2 i2 g1 g2 g3 g4 hh => ?_, fun f1 c1 t1 i1 f2 c2 t2 i2 g1 g2 g3 g4 hh => ?_⟩, fun r c' hr => ?_, fun r c1 r' c2 g1 g2 hh => ?_, ?_⟩, fun c' i' hl => hDl c' i' hl, (lv_o hc12).mpr (by rw [hNc]; omega), hDn⟩
  · rcases hlt c' i' hc' hi' with r | r
    · rw [r.1, r.2, hDn, sK_newO, u1_at, if_pos rfl]
    · rw [r.2.1]; exact h1.1 c' i' hc' r.1
  · rcases hlt c' i' hc' hi' with r | r
    · rcases hlt c' j' hc' hj' with r2 | r2
      · rw [r.2, r2.2]
      · rw [r2.2.1, r.1, r.2, hDn] at hh
        exact absurd (by rw [← r.1] at hh; exact hh.symm) (hnq c' j' hc' r2.1)
    · rcases hlt c' j' hc' hj' with r2 | r2
      · rw [r.2.1, r2.1, r2.2, hDn] at hh
        exact absurd (by rw [← r2.1] at hh; exact hh) (hnq c' i' hc' r.1)
      · rw [r.2.1, r2.2.1] at hh
        exact h1.2.1 c' i' j' hc' r.1 r2.1 hh
  · obtain ⟨g1, g2, g3, g4, g5, g6⟩ := h1.2.2.1
    exact ⟨by rw [hN _ (by omega) (by decide) (by decide)]; exact g1, by rw [hN _ (by omega) (by decide) (by decide)]; exact g2, by rw [hN _ (by omega) (by decide) (by decide)]; exact g3, by rw [hN _ (by omega) (by decide) (by decide)]; exact g4, by rw [hN _ (by omega) (by decide) (by decide)]; exact g5, by rw [hN _ (by omega) (by decide) (by decide)]; exact g6⟩
  · rw [hD 11 0 (by omega), hD 0 0 (by omega)]; exact h1.2.2.2.1
  · obtain ⟨g1, g2, g3, g4⟩ := h1.2.2.2.2.1 f t hf
    have ht : t ≠ c := by
      have : t = 9 ∨ t = 3 ∨ t = 8 := by
        unfold aF at hf
        split at hf <;> simp_all
      omega
    rw [hD 11 0 (by omega), hD 20000 f (by omega)]
    exact ⟨g1, g2, g3, fun j hj => by rw [hD t j ht]; exact g4 j hj⟩
  · rw [hD 40000 0 (by omega)]; exact h1.2.2.2.2.2
  · show sI _ f (D' c' i') = if f / 100 = c ∧ i' = zN S c then 0 else zA S f i'
    rcases hlt c' i' hc' hi' with r | r
    · rw [if_pos ⟨hf.trans r.1, r.2⟩, r.1, r.2, hDn, sI_newO, u2r_at, if_pos rfl]
    · rw [if_neg (fun w => r.2.2 ⟨hf.symm.trans w.1, w.2⟩), r.2.1]
      exact h2 f c' i' hc' hf r.1
  · have hl9 := rF_c hf
    show ATo D' (pNew c n S) t (if f / 100 = c ∧ i' = zN S c then none else zO S f i') (sR _ f (D' c' i'))
    rcases hlt c' i' hl9.2.1 hi' with r | r
    · rw [if_pos ⟨hl9.1.trans r.1, r.2⟩, r.1, r.2, hDn, sR_newO, u2r_at, if_pos rfl]
      exact ATo.nn
    · rw [if_neg (fun w => r.2.2 ⟨hl9.1.symm.trans w.1, w.2⟩), r.2.1]
      exact (h3 f c' t i' hf r.1).up l1 (fun c9 i9 hh => hDl c9 i9 hh)
  · rw [hlC f c' t hf] at hi'
    have hl9 := lF_c hf
    obtain ⟨g1, g2, ⟨e, g3, g4⟩, g5⟩ := h4.1 f c' t i' hf hi'
    have hm : (zL S f i').map (D' t) = (zL S f i').map (D t) := List.map_congr_left fun j hj => hDl t j (g5 j hj)
    refine ⟨Nat.lt_of_lt_of_le g1 (l1 _), ?_, ⟨e, ?_, g4⟩, fun j hj => (g5 j hj).mono l1⟩
    · rw [hDl c' i' ((lv_o hl9.2.1).mpr g1), hD (10000 + f) i' (by omega)]; exact g2
    · rw [hD (10000 + f) i' (by omega)]
      show LSTe _ _ e ((zL S f i').map (D' t))
      rw [hm]; exact g3
  · rw [hlC _ _ _ g1] at g3
    rw [hlC _ _ _ g2] at g4
    rw [hD _ _ (by omega), hD _ _ (by omega)] at hh
    exact h4.2.1 f1 c1 t1 i1 f2 c2 t2 i2 g1 g2 g3 g4 hh
  · rw [hlC _ _ _ g1] at g3
    rw [hlC _ _ _ g2] at g4
    rw [hD _ _ (by omega), hD _ _ (by omega)] at hh
    exact h4.2.2 f1 c1 t1 i1 f2 c2 t2 i2 g1 g2 g3 g4 hh
  · have hl9 := cF_c hr
    rw [hD c' 0 (by omega), hD 30000 r (by omega), hD 30001 r (by omega)]
    exact h5.1 r c' hr
  · rw [hD _ _ (by omega), hD _ _ (by omega)] at hh
    exact h5.2.1 r c1 r' c2 g1 g2 hh
  · obtain ⟨m, g1, g2, g3, g4, g5⟩ := h5.2.2
    refine ⟨m, by rw [hD 0 0 (by omega)]; exact g1, g2, ?_, g4, fun r c' hr => by rw [hD _ _ (by omega)]; exact g5 r c' hr⟩
    rw [hN 60 (by omega) (by decide) (by decide)]; exact g3
end
