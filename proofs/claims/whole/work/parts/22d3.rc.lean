theorem rF_704 {f c t : Nat} (h : rF f c t = true) : f ≠ 704 := by
  unfold rF at h
  split at h <;> simp_all
theorem lF_704 {c t : Nat} (h : lF 704 c t = true) : c = 7 ∧ t = 4 := by
  unfold lF at h
  simp at h
  exact h
section
variable {D : Nat → Nat → Nat} {σ τ s : St} {S S' : Ss}
theorem RC.nlc (h : RC D σ S) {i a q d0 : Nat} (hi : i = zN S 72) (A : AT D S 7 i a) (hq : sK σ q = 0) (hd0 : D 40000 0 = d0) (T1 : sR τ 704 a = some q) (T2 : sR τ 1301 q = some d0) (T3 : sI τ 1302 q = 0) (T4 : sK τ q = 30) (T5 : ∀ b, b ≠ q → (∀ f, sI τ f b = sI σ f b) ∧ (∀ f, ¬ (f = 704 ∧ b = a) → sR τ f b = sR σ f b) ∧ sA τ b = sA σ b ∧ sL τ b = sL σ b ∧ sQ τ b = sQ σ b ∧ sC τ b = sC σ b ∧ sK τ b = sK σ b) (U1 : ∀ k, k ≠ 72 → k ≠ 61 → k ≠ 62 → zN S' k = zN S k) (U2 : zN S' 72 = zN S 72 + 1) (U3 : ∀ f i', ¬ (f = 704 ∧ i' = i) → zL S' f i' = zL S f i' ∧ zP S' f i' = zP S f i') (U4 : zL S' 704 i = [] ∧ zP S' 704 i = 0) (U5 : zA S' = zA S ∧ zO S' = zO S ∧ zC S' = zC S ∧ zM S' = zM S) (l1 : zle S S') : ∃ D', RC D' τ S' ∧ DX S D D' := by
  obtain ⟨D', hD, hDn, hDo⟩ : ∃ D' : Nat → Nat → Nat, (∀ c' i', c' ≠ 10000 + 704 → D' c' i' = D c' i') ∧ D' (10000 + 704) i = q ∧ ∀ i', i' ≠ i → D' (10000 + 704) i' = D (10000 + 704) i' := ⟨fun c' i' => if c' = 10000 + 704 ∧ i' = i then q else D c' i', fun c' i' a => if_neg fun r => a r.1, if_pos ⟨rfl, rfl⟩, fun i' a => if_neg fun r => a r.2⟩
  have hl704 : lC 704 = 72 := rfl
  have hDl : ∀ c' i', lv S c' i' → D' c' i' = D c' i' := fun c' i' a => by
    by_cases r : c' = 10000 + 704
    · subst r
      refine hDo i' fun r2 => ?_
      have := (lF_k (f := 704) (c := 7) (t := 4) rfl S i').mp a
      rw [hl704] at this
      omega
    · exact hD c' i' r
  have X : DX S D D' := fun c' i' hl => hDl c' i' hl
  obtain ⟨h1, h2, h3, h4, h5⟩ := h
  have hN : ∀ c i, c < 12 → i < zN S' c → i < zN S c := fun c i hc hi => by rw [U1 c (by omega) (by omega) (by omega)] at hi; exact hi
  have O : ∀ c i, c < 12 → i < zN S c → D c i ≠ q := fun c i hc hi r => by have := h1.1 c i hc hi; rw [r, hq] at this; cases this
  have K : ∀ b, sK σ b ≠ 0 → b ≠ q := fun b hb r => hb (by rw [r]; exact hq)
  have hai : i < zN S 7 := (lv_o (by decide)).mp A.1
  have haq : a ≠ q := by rw [← A.2]; exact O 7 i (by decide) hai
  have RR : ∀ f b, b ≠ q → f ≠ 704 → sR τ f b = sR σ f b := fun f b hb hf => (T5 b hb).2.1 f fun r => hf r.1
  have hnl : ∀ f c t i', lF f c t = true → i' < zN S (lC f) → D (10000 + f) i' ≠ q ∧ ∃ e, sR σ 1301 (D (10000 + f) i') = some e ∧ sL σ e = zP S f i' := fun f c t i' hf hi' => by
    obtain ⟨g1, g2, ⟨e, g3, g4⟩, g5⟩ := h4.1 f c t i' hf hi'
    exact ⟨K _ (by rw [g3.2.2.2.2.2.2.1]; decide), e, g3.1, g4⟩
  have hlC : ∀ f c1 t, lF f c1 t = true → f ≠ 704 → zN S' (lC f) = zN S (lC f) := fun f c1 t hf hn => by
    have := lF_c hf
    unfold lC
    rw [if_neg hn]
    exact U1 _ (by omega) (by omega) (by omega)
  have hlt : ∀ f c1 t i', lF f c1 t = true → i' < zN S' (lC f) → (f = 704 ∧ i' = i) ∨ (i' < zN S (lC f) ∧ D' (10000 + f) i' = D (10000 + f) i' ∧ ¬ (f = 704 ∧ i' = i)) := fun f c1 t i' hf hi' => by
    by_cases r : f = 704
    · subst r
      by_cases r2 : i' = i
      · exact Or.inl ⟨rfl, r2⟩
      · rw [hl704, U2] at hi'
        exact Or.inr ⟨by rw [hl704]; omega, hDo i' r2, fun w => r2 w.2⟩
    · rw [hlC f c1 t hf r] at hi'
      exact Or.inr ⟨hi', hD _ _ (by omega), fun w => r w.1⟩
  have M := O 11 0 (by decide) (by rw [h1.2.2.1.2.1]; decide)
  have B := O 0 0 (by decide) (by rw [h1.2.2.1.1]; decide)
  have L1 : ∀ f c' t i', lF f c' t = true → i' < zN S' (lC f) → i' < zN S' c' ∧ sR τ f (D' c' i') = some (D' (10000 + f) i') ∧ (∃ e, LSTe τ (D' (10000 + f) i') e ((zL S' f i').map (D' t)) ∧ sL τ e = zP S' f i') ∧ ∀ j, j ∈ zL S' f i' → lv S' t j := by
    intro f c' t i' hf hi'
    have hl9 := lF_c hf
    have hdq : d0 ≠ q := K _ (by rw [← hd0, h1.2.2.2.2.2.1]; decide)
    rcases hlt f c' t i' hf hi' with r | r
    · obtain ⟨r1, r2⟩ := r
      subst r1
      rw [r2]
      have hu := lF_704 hf
      rw [hu.1, hu.2, U4.1, U4.2, hDn, hD 7 i (by decide), A.2]
      have z0 : sL τ d0 = 0 := by rw [(T5 d0 hdq).2.2.2.1, ← hd0]; exact h1.2.2.2.2.2.2.1
      refine ⟨Nat.lt_of_lt_of_le hai (l1 _), T1, ⟨d0, ⟨T2, T3, Nat.zero_le _, by rw [z0]; exact Nat.zero_le _, fun j x hx => ?_, fun _ => ?_, T4, ?_⟩, z0⟩, fun j hj => ?_⟩
      · cases hx
      · rw [(T5 d0 hdq).2.2.2.2.2.1, ← hd0]; exact h1.2.2.2.2.2.2.2
      · rw [(T5 d0 hdq).2.2.2.2.2.2, ← hd0]; exact h1.2.2.2.2.2.1
      · cases hj
    · obtain ⟨r1, r2, r3⟩ := r
      obtain ⟨g1, g2, ⟨e, g3, g4⟩, g5⟩ := h4.1 f c' t i' hf r1
      rw [r2, (U3 f i' r3).1, (U3 f i' r3).2, hD c' i' (by omega)]
      have hm : (zL S f i').map (D' t) = (zL S f i').map (D t) := List.map_congr_left fun j hj => hDl t j (g5 j hj)
      rw [hm]
      have e1 := hnl f c' t i' hf r1
      have hl := T5 _ e1.1
      have he := T5 e (K _ (by rw [g3.2.2.2.2.2.2.2]; decide))
      refine ⟨Nat.lt_of_lt_of_le g1 (l1 _), ?_, ⟨e, g3.congr (RR _ _ e1.1 (by decide)) (hl.1 _) he.2.2.2.1 he.2.2.2.2.1 he.2.2.2.2.2.1 hl.2.2.2.2.2.2 he.2.2.2.2.2.2, by rw [he.2.2.2.1]; exact g4⟩, fun j hj => (g5 j hj).mono l1⟩
      rw [(T5 _ (O c' i' hl9.2.1 g1)).2.1 f (fun w => ?_)]
      · exact g2
      · obtain ⟨w1, w2⟩ := w
        subst w1
        have hu := lF_704 hf
        rw [hu.1] at w2 g1
        exact r3 ⟨rfl, h1.2.1 7 i' i (by decide) g1 hai (w2.trans A.2.symm)⟩
  have L2 : ∀ f c t i f' c' t' i', lF f c t = true → lF f' c' t' = true → i < zN S' (lC f) → i' < zN S' (lC f') → D' (10000 + f) i = D' (10000 + f') i' → f = f' ∧ i = i' := by
    intro f1 y1 t1 i1 f2 y2 t2 i2 g1 g2 g3 g4 hh
    rcases hlt f1 y1 t1 i1 g1 g3 with r | r
    · rcases hlt f2 y2 t2 i2 g2 g4 with r2 | r2
      · exact ⟨r.1.trans r2.1.symm, r.2.trans r2.2.symm⟩
      · rw [r2.2.1, r.1, r.2, hDn] at hh
        exact absurd hh.symm (hnl f2 y2 t2 i2 g2 r2.1).1
    · rcases hlt f2 y2 t2 i2 g2 g4 with r2 | r2
      · rw [r.2.1, r2.1, r2.2, hDn] at hh
        exact absurd hh (hnl f1 y1 t1 i1 g1 r.1).1
      · rw [r.2.1, r2.2.1] at hh
        exact h4.2.1 f1 y1 t1 i1 f2 y2 t2 i2 g1 g2 r.1 r2.1 hh
  have L3 : ∀ f c t i f' c' t' i', lF f c t = true → lF f' c' t' = true → i < zN S' (lC f) → i' < zN S' (lC f') → sR τ 1301 (D' (10000 + f) i) = sR τ 1301 (D' (10000 + f') i') → (f = f' ∧ i = i') ∨ zP S' f i = 0 := by
    intro f1 y1 t1 i1 f2 y2 t2 i2 g1 g2 g3 g4 hh
    rcases hlt f1 y1 t1 i1 g1 g3 with r | r
    · refine Or.inr ?_
      rw [r.1, r.2]; exact U4.2
    · rw [(U3 _ _ r.2.2).2]
      obtain ⟨n1, e, n2, n3⟩ := hnl f1 y1 t1 i1 g1 r.1
      rcases hlt f2 y2 t2 i2 g2 g4 with r2 | r2
      · refine Or.inr ?_
        rw [r.2.1, r2.1, r2.2, hDn, T2, RR _ _ n1 (by decide), n2] at hh
        rw [← n3, Option.some.inj hh, ← hd0]; exact h1.2.2.2.2.2.2.1
      · rw [r.2.1, r2.2.1, RR _ _ n1 (by decide), RR _ _ (hnl f2 y2 t2 i2 g2 r2.1).1 (by decide)] at hh
        exact h4.2.2 f1 y1 t1 i1 f2 y2 t2 i2 g1 g2 r.1 r2.1 hh
  refine ⟨D', ⟨⟨fun c' i' hc' hi' => ?_, fun c' i' j' hc' hi' hj' hh => ?_, ?_, ?_, fun f t hf => ?_, ?_⟩, fun f c' i' hc' hf hi' => ?_, fun f c' t i' hf hi' => ?_, ⟨L1, L2, L3⟩, fun r c' hr => ?_, fun r c1 r' c2 g1 g2 hh => ?_, ?_⟩, X⟩
  · have hi2 := hN c' i' hc' hi'
    rw [hD c' i' (by omega), (T5 _ (O c' i' hc' hi2)).2.2.2.2.2.2]
    exact h1.1 c' i' hc' hi2
  · rw [hD c' i' (by omega), hD c' j' (by omega)] at hh
    exact h1.2.1 c' i' j' hc' (hN c' i' hc' hi') (hN c' j' hc' hj') hh
  · obtain ⟨g1, g2, g3, g4, g5, g6⟩ := h1.2.2.1
    exact ⟨(U1 _ (by decide) (by decide) (by decide)).trans g1, (U1 _ (by decide) (by decide) (by decide)).trans g2, (U1 _ (by decide) (by decide) (by decide)).trans g3, (U1 _ (by decide) (by decide) (by decide)).trans g4, (U1 _ (by decide) (by decide) (by decide)).trans g5, (U1 _ (by decide) (by decide) (by decide)).trans g6⟩
  · rw [hD 11 0 (by decide), hD 0 0 (by decide), RR _ _ M (by decide)]; exact h1.2.2.2.1
  · have hl9 := aF_c hf
    obtain ⟨g1, g2, g3, g4⟩ := h1.2.2.2.2.1 f t hf
    have k9 := T5 (D 20000 f) (K _ (by omega))
    rw [hD 11 0 (by decide), hD 20000 f (by decide), RR _ _ M (by omega), k9.2.2.2.2.2.2, k9.2.2.2.1, k9.2.2.2.2.1]
    exact ⟨g1, g2, g3, fun j hj => by rw [hD t j (by omega)]; exact g4 j hj⟩
  · obtain ⟨g1, g2, g3⟩ := h1.2.2.2.2.2
    have k9 := T5 (D 40000 0) (K _ (by omega))
    rw [hD 40000 0 (by decide), k9.2.2.2.2.2.2, k9.2.2.2.1, k9.2.2.2.2.2.1]
    exact ⟨g1, g2, g3⟩
  · have hi2 := hN c' i' hc' hi'
    rw [hD c' i' (by omega), (T5 _ (O c' i' hc' hi2)).1, U5.1]
    exact h2 f c' i' hc' hf hi2
  · have hl9 := rF_c hf
    have hi2 := hN c' i' hl9.2.1 hi'
    rw [hD c' i' (by omega), RR _ _ (O c' i' hl9.2.1 hi2) (rF_704 hf), U5.2.1]
    exact (h3 f c' t i' hf hi2).up l1 X
  · have hl9 := cF_c hr
    obtain ⟨g1, g2, g3, g4, g5, g6, g7⟩ := h5.1 r c' hr
    have k9 := T5 (D 30000 r) (K _ (by omega))
    have k8 := T5 (D 30001 r) (K _ (by omega))
    have hcc : D c' 0 ≠ q := by
      rcases hl9.2.1 with w | w
      · rw [w]; exact B
      · rw [w]; exact M
    rw [hD c' 0 (by omega), hD 30000 r (by decide), hD 30001 r (by decide), RR _ _ hcc (by omega), k9.2.2.2.2.2.2, k9.1, RR _ _ (K _ (by omega)) (by decide), k8.2.2.2.2.2.2, k8.2.2.2.1, k8.2.2.1, U5.2.2.1]
    exact ⟨g1, g2, g3, g4, g5, g6, g7⟩
  · rw [hD _ _ (by decide), hD _ _ (by decide)] at hh
    exact h5.2.1 r c1 r' c2 g1 g2 hh
  · obtain ⟨m, g1, g2, g3, g4, g5⟩ := h5.2.2
    have k9 := T5 m (K _ (by omega))
    refine ⟨m, by rw [hD 0 0 (by decide), RR _ _ B (by decide)]; exact g1, by rw [k9.2.2.2.2.2.2]; exact g2, ?_, fun j => by rw [k9.2.2.1, U5.2.2.2]; exact g4 j, fun r c' hr => by rw [hD _ _ (by decide)]; exact g5 r c' hr⟩
    rw [k9.2.2.2.1, U1 60 (by decide) (by decide) (by decide)]; exact g3
/-- an order's lines -/
def pNL (i : Nat) (S : Ss) : Ss := pN 61 (zN S 61 + 1) (pN 62 (zN S 62 + 3) (pL 704 i [] 0 (pN 72 (zN S 72 + 1) S)))
theorem pNL_le (i : Nat) (S : Ss) : zle S (pNL i S) := by
  intro k
  show zN S k ≤ u1 61 (zN S 61 + 1) (u1 62 (zN S 62 + 3) (u1 72 (zN S 72 + 1) (zN S))) k
  rw [u1_at, u1_at, u1_at]
  split
  · rename_i q; rw [q]; omega
  · split
    · rename_i q; rw [q]; omega
    · split
      · rename_i q; rw [q]; omega
      · omega
theorem RC.nlist (h : RC D σ S) {i a q d0 : Nat} (hi : i = zN S 72) (A : AT D S 7 i a) (hq : sK σ q = 0) (hd : ∀ b, sC σ b % 2 = 1 ↔ b = d0) (e : s = setR 704 a (some q) (setR 1301 q (some d0) (setI 1300 q 0 (newO 30 q σ)))) : ∃ D', RC D' s (pNL i S) ∧ DX S D D' := by
  have haq : a ≠ q := fun r => by have := h.ob (by decide) A; rw [r, hq] at this; cases this
  subst e
  refine h.nlc hi A hq ((hd _).mp h.1.2.2.2.2.2.2.2) ?_ ?_ ?_ ?_ (fun b hb => ⟨fun f => ?_, fun f hf => ?_, rfl, rfl, rfl, rfl, ?_⟩) (fun k x y z => ?_) rfl (fun f i' r => ⟨if_neg r, if_neg r⟩) ⟨if_pos ⟨rfl, rfl⟩, if_pos ⟨rfl, rfl⟩⟩ ⟨rfl, rfl, rfl, rfl⟩ (pNL_le i S)
  · rw [sR_setR, u2_at, if_pos ⟨rfl, rfl⟩]
  · rw [sR_setR, u2_at, if_neg (fun w => absurd w.1 (by decide)), sR_setR, u2_at, if_pos ⟨rfl, rfl⟩]
  · show u2 1300 q 0 (u2r q 0 (sI σ)) 1302 q = 0
    rw [u2_at, if_neg (fun w => absurd w.1 (by decide)), u2r_at, if_pos rfl]
  · show u1 q 30 (sK σ) q = 30
    rw [u1_at, if_pos rfl]
  · show u2 1300 q 0 (u2r q 0 (sI σ)) f b = sI σ f b
    rw [u2_at, if_neg (fun w => hb w.2), u2r_at, if_neg hb]
  · rw [sR_setR, u2_at, if_neg hf, sR_setR, u2_at, if_neg (fun w => hb w.2)]
    show u2r q none (sR σ) f b = sR σ f b
    rw [u2r_at, if_neg hb]
  · show u1 q 30 (sK σ) b = sK σ b
    rw [u1_at, if_neg hb]
  · show u1 61 (zN S 61 + 1) (u1 62 (zN S 62 + 3) (u1 72 (zN S 72 + 1) (zN S))) k = _
    rw [u1_at, if_neg y, u1_at, if_neg z, u1_at, if_neg x]
end
