section
variable {D : Nat → Nat → Nat} {σ τ s : St} {S : Ss}
theorem RC.ob (h : RC D σ S) {c i a : Nat} (hc : c < 12) (A : AT D S c i a) : sK σ a = c + 1 := by
  rw [← A.2]; exact h.1.1 c i hc ((lv_o hc).mp A.1)
theorem RC.inj (h : RC D σ S) {c i j a : Nat} (hc : c < 12) (A : AT D S c i a) (B : AT D S c j a) : i = j := h.1.2.1 c i j hc ((lv_o hc).mp A.1) ((lv_o hc).mp B.1) (A.2.trans B.2.symm)
theorem RC.oa (h : RC D σ S) {c i a : Nat} {r o : Option Nat} (hc : c < 12) (B : ATo D S c r o) (A : AT D S c i a) : o = some a ↔ r = some i := by
  constructor
  · intro q
    obtain ⟨j, hj, B2⟩ := B.sa q
    rw [hj, h.inj hc B2 A]
  · intro q
    obtain ⟨b, hb, B2⟩ := B.so q
    rw [hb, ← A.2, ← B2.2]
theorem RC.oo (h : RC D σ S) {c : Nat} {r o r' o' : Option Nat} (hc : c < 12) (B : ATo D S c r o) (B' : ATo D S c r' o') : o = o' ↔ r = r' := by
  constructor
  · intro q
    cases hr : r' with
    | none => rw [hr] at B'; rw [B'.1] at q; exact B.no q
    | some j =>
      obtain ⟨b, hb, B2⟩ := B'.so hr
      rw [hb] at q
      exact (h.oa hc B B2).mp q
  · intro q
    rw [B.1, B'.1, q]
theorem RC.int (h : RC D σ S) (f c : Nat) (hf : f / 100 = c) (hc : c < 12) {i a : Nat} (A : AT D S c i a) : sI σ f a = zA S f i := by
  rw [← A.2]; exact h.2.1 f c i hc hf ((lv_o hc).mp A.1)
theorem RC.refr (h : RC D σ S) (f c t : Nat) (hf : rF f c t = true) {i a : Nat} (A : AT D S c i a) : ATo D S t (zO S f i) (sR σ f a) := by
  rw [← A.2]; exact h.2.2.1 f c t i hf ((lv_o (rF_c hf).2.1).mp A.1)
theorem RC.bok (h : RC D σ S) {a o : _} (A : AT D S 11 0 a) (e : o = sR σ 1109 a) : ∃ b, o = some b ∧ AT D S 0 0 b := ⟨D 0 0, by rw [e, ← A.2]; exact h.1.2.2.2.1, (lv_o (by decide)).mpr (by rw [h.1.2.2.1.1]; decide), rfl⟩
theorem RC.main (h : RC D σ S) : AT D S 11 0 (D 11 0) := ⟨(lv_o (by decide)).mpr (by rw [h.1.2.2.1.2.1]; decide), rfl⟩
theorem RC.arr (h : RC D σ S) (f t : Nat) (hf : aF f t = true) {a : Nat} {o : Option Nat} (A : AT D S 11 0 a) (e : o = sR σ f a) : ∃ b, o = some b ∧ AT D S 20000 f b := ⟨D 20000 f, by rw [e, ← A.2]; exact (h.1.2.2.2.2.1 f t hf).1, lv_t (by decide), rfl⟩
theorem RC.aln (h : RC D σ S) (f t : Nat) (hf : aF f t = true) {a : Nat} (A : AT D S 20000 f a) : sL σ a = aLn f := by
  rw [← A.2]; exact (h.1.2.2.2.2.1 f t hf).2.2.1
theorem RC.ael (h : RC D σ S) (f t : Nat) (hf : aF f t = true) {a : Nat} (A : AT D S 20000 f a) {x : Int32} (hx : vp_in x (aLn f)) : ATo D S t (some x.toNatClampNeg) (sQ σ a x.toNatClampNeg) := by
  have hj : x.toNatClampNeg < aLn f := by unfold vp_in at hx; omega
  refine ⟨by rw [← A.2]; exact (h.1.2.2.2.2.1 f t hf).2.2.2 _ hj, fun j q => ?_⟩
  cases q
  refine (lv_o (aF_c hf).2.2.2.1).mpr ?_
  rw [aF_n h.1 hf]; exact hj
theorem RC.lis (h : RC D σ S) (f c t : Nat) (hf : lF f c t = true) {i a : Nat} {o : Option Nat} (A : AT D S c i a) (hi : i < zN S (lC f)) (e : o = sR σ f a) : ∃ b, o = some b ∧ AT D S (10000 + f) i b := by
  refine ⟨D (10000 + f) i, by rw [e, ← A.2]; exact (h.2.2.2.1.1 f c t i hf hi).2.1, (lF_k hf S i).mpr hi, rfl⟩
theorem RC.cel (h : RC D σ S) (r c : Nat) (hr : cF r c = true) {a : Nat} {o : Option Nat} (A : AT D S c 0 a) (e : o = sR σ r a) : ∃ b, o = some b ∧ AT D S 30000 r b := ⟨D 30000 r, by rw [e, ← A.2]; exact (h.2.2.2.2.1 r c hr).1, lv_t (by decide), rfl⟩
/-- only the class's own cells matter -/
theorem RC.congr (h : RC D σ S) (hc : ∀ a, sK σ a ≠ 0 → kSide (sK σ a) = 1 → sK τ a = sK σ a ∧ cEq σ τ a) : RC D τ S := by
  have K : ∀ a, sK σ a ≠ 0 → (sK σ a < 13 ∨ sK σ a = 20 ∨ 24 ≤ sK σ a) → sK τ a = sK σ a ∧ cEq σ τ a := fun a h1 h2 => hc a h1 (by unfold kSide; rw [if_neg (by omega), if_neg (by omega)])
  have O : ∀ c i, c < 12 → i < zN S c → sK τ (D c i) = sK σ (D c i) ∧ cEq σ τ (D c i) := fun c i h1 h2 => K _ (by rw [h.1.1 c i h1 h2]; omega) (by rw [h.1.1 c i h1 h2]; omega)
  have M := O 11 0 (by decide) (by rw [h.1.2.2.1.2.1]; decide)
  have B := O 0 0 (by decide) (by rw [h.1.2.2.1.1]; decide)
  obtain ⟨h1, h2, h3, h4, h5⟩ := h
  refine ⟨⟨fun c i hc hi => ?_, h1.2.1, h1.2.2.1, ?_, fun f t hf => ?_, ?_⟩, fun f c i hc hf hi => ?_, fun f c t i hf hi => ?_, ⟨fun f c t i hf hi => ?_, h4.2.1, fun f c t i f' c' t' i' hf hf' hi hi' hh => ?_⟩, fun r c hr => ?_, h5.2.1, ?_⟩
  · rw [(O c i hc hi).1]; exact h1.1 c i hc hi
  · rw [M.2.2.1]; exact h1.2.2.2.1
  · obtain ⟨g1, g2, g3, g4⟩ := h1.2.2.2.2.1 f t hf
    obtain ⟨k1, k2⟩ := K (D 20000 f) (by omega) (by omega)
    exact ⟨by rw [M.2.2.1]; exact g1, by rw [k1]; exact g2, by rw [k2.2.2.2.1]; exact g3, fun j hj => by rw [k2.2.2.2.2.1]; exact g4 j hj⟩
  · obtain ⟨g1, g2, g3⟩ := h1.2.2.2.2.2
    obtain ⟨k1, k2⟩ := K (D 40000 0) (by omega) (by omega)
    exact ⟨by rw [k1]; exact g1, by rw [k2.2.2.2.1]; exact g2, by rw [k2.2.2.2.2.2]; exact g3⟩
  · rw [(O c i hc hi).2.1]; exact h2 f c i hc hf hi
  · rw [(O c i (rF_c hf).2.1 hi).2.2.1]; exact h3 f c t i hf hi
  · obtain ⟨g1, g2, ⟨e, g3, g4⟩, g5⟩ := h4.1 f c t i hf hi
    obtain ⟨k1, k2⟩ := K (D (10000 + f) i) (by rw [g3.2.2.2.2.2.2.1]; decide) (by rw [g3.2.2.2.2.2.2.1]; decide)
    obtain ⟨m1, m2⟩ := K e (by rw [g3.2.2.2.2.2.2.2]; decide) (by rw [g3.2.2.2.2.2.2.2]; decide)
    exact ⟨g1, by rw [(O c i (lF_c hf).2.1 g1).2.2.1]; exact g2, ⟨e, g3.congr (k2.2.1 _) (k2.1 _) m2.2.2.2.1 m2.2.2.2.2.1 m2.2.2.2.2.2 k1 m1, by rw [m2.2.2.2.1]; exact g4⟩, g5⟩
  · obtain ⟨g1, g2, ⟨e, g3, g4⟩, g5⟩ := h4.1 f c t i hf hi
    obtain ⟨p1, p2, ⟨e', p3, p4⟩, p5⟩ := h4.1 f' c' t' i' hf' hi'
    obtain ⟨k1, k2⟩ := K (D (10000 + f) i) (by rw [g3.2.2.2.2.2.2.1]; decide) (by rw [g3.2.2.2.2.2.2.1]; decide)
    obtain ⟨m1, m2⟩ := K (D (10000 + f') i') (by rw [p3.2.2.2.2.2.2.1]; decide) (by rw [p3.2.2.2.2.2.2.1]; decide)
    exact h4.2.2 f c t i f' c' t' i' hf hf' hi hi' (by rw [k2.2.1, m2.2.1] at hh; exact hh)
  · obtain ⟨g1, g2, g3, g4, g5, g6, g7⟩ := h5.1 r c hr
    obtain ⟨k1, k2⟩ := K (D 30000 r) (by omega) (by omega)
    obtain ⟨m1, m2⟩ := K (D 30001 r) (by omega) (by omega)
    have hcc : sR τ r (D c 0) = sR σ r (D c 0) := by
      rcases (cF_c hr).2.1 with q | q
      · rw [q]; exact B.2.2.1 _
      · rw [q]; exact M.2.2.1 _
    exact ⟨by rw [hcc]; exact g1, by rw [k1]; exact g2, by rw [k2.1]; exact g3, by rw [k2.2.1]; exact g4, by rw [m1]; exact g5, by rw [m2.2.2.2.1]; exact g6, fun j => by rw [m2.2.2.1]; exact g7 j⟩
  · obtain ⟨m, g1, g2, g3, g4, g5⟩ := h5.2.2
    obtain ⟨m1, m2⟩ := K m (by omega) (by omega)
    exact ⟨m, by rw [B.2.2.1]; exact g1, by rw [m1]; exact g2, by rw [m2.2.2.2.1]; exact g3, fun j => by rw [m2.2.2.1]; exact g4 j, g5⟩
theorem RC.wI (h : RC D σ S) {f c i a : Nat} {v : Int32} (hf : f / 100 = c) (hc : c < 12) (hc1 : c ≠ 1) (A : AT D S c i a) (e : s = setI f a v σ) : RC D s (pA f i v S) := by
  subst e
  have hf0 : f ≠ 100 ∧ f ≠ 1302 := by omega
  obtain ⟨h1, h2, h3, h4, h5⟩ := id h
  refine ⟨h1, fun f' c' i' hc' hf' hi' => ?_, h3, ⟨fun f' c' t' i' hf' hi' => ?_, h4.2.1, h4.2.2⟩, fun r c' hr => ?_, h5.2.1, h5.2.2⟩
  · show sI (setI f a v σ) f' (D c' i') = u2 f i v (zA S) f' i'
    rw [sI_setI, u2_at, u2_at]
    by_cases q : f' = f ∧ i' = i
    · rw [if_pos q, if_pos ⟨q.1, by rw [← A.2, q.2, ← hf', q.1, hf]⟩]
    · rw [if_neg q, if_neg (fun q9 => q ⟨q9.1, ?_⟩)]
      · exact h2 f' c' i' hc' hf' hi'
      · have hcc : c' = c := by rw [← hf', q9.1, hf]
        subst hcc
        exact h.inj hc ⟨(lv_o hc).mpr hi', rfl⟩ ⟨A.1, A.2.trans q9.2.symm⟩
  · obtain ⟨g1, g2, ⟨e, g3, g4⟩, g5⟩ := h4.1 f' c' t' i' hf' hi'
    exact ⟨g1, g2, ⟨e, g3.congr rfl (by rw [sI_setI, u2_at, if_neg (fun q => hf0.2 q.1.symm)]) rfl rfl rfl rfl rfl, g4⟩, g5⟩
  · obtain ⟨g1, g2, g3, g4, g5, g6, g7⟩ := h5.1 r c' hr
    exact ⟨g1, g2, by rw [sI_setI, u2_at, if_neg (fun q => hf0.1 q.1.symm)]; exact g3, g4, g5, g6, g7⟩
theorem RC.wR (h : RC D σ S) {f c t i a : Nat} {r o : Option Nat} (hf : rF f c t = true) (A : AT D S c i a) (B : ATo D S t r o) (e : s = setR f a o σ) : RC D s (pO f i r S) := by
  subst e
  obtain ⟨q1, q2, q3, q4, q5, q6, q7⟩ := rF_c hf
  obtain ⟨h1, h2, h3, h4, h5⟩ := id h
  have hne : ∀ f', rF f' c t = false → f' ≠ f := fun f' g q => by rw [q, hf] at g; cases g
  have ho : ∀ f' b, f' ≠ f → sR (setR f a o σ) f' b = sR σ f' b := fun f' b g => by rw [sR_setR, u2_at, if_neg (fun q => g q.1)]
  refine ⟨⟨h1.1, h1.2.1, h1.2.2.1, ?_, fun f' t' hf' => ?_, h1.2.2.2.2.2⟩, h2, fun f' c' t' i' hf' hi' => ?_, ⟨fun f' c' t' i' hf' hi' => ?_, h4.2.1, fun f1 c1 t1 i1 f2 c2 t2 i2 g1 g2 g3 g4 hh => ?_⟩, fun r' c' hr => ?_, h5.2.1, ?_⟩
  · rw [ho _ _ (by omega)]; exact h1.2.2.2.1
  · have := aF_c hf'
    rw [ho _ _ (by omega)]; exact h1.2.2.2.2.1 f' t' hf'
  · have key := h3 f' c' t' i' hf' hi'
    show ATo D S t' (u2 f i r (zO S) f' i') (sR (setR f a o σ) f' (D c' i'))
    rw [sR_setR, u2_at, u2_at]
    by_cases q : f' = f ∧ i' = i
    · have hu := rF_u (q.1 ▸ hf') hf
      rw [if_pos q, if_pos ⟨q.1, by rw [← A.2, q.2, hu.1]⟩, hu.2]
      exact B
    · rw [if_neg q, if_neg (fun q9 => q ⟨q9.1, ?_⟩)]
      · exact key
      · have hu := rF_u (q9.1 ▸ hf') hf
        have hcc := hu.1
        subst hcc
        exact h.inj q2 ⟨(lv_o q2).mpr hi', rfl⟩ ⟨A.1, A.2.trans q9.2.symm⟩
  · obtain ⟨g1, g2, ⟨e, g3, g4⟩, g5⟩ := h4.1 f' c' t' i' hf' hi'
    have hl := lF_c hf'
    have hff : f' ≠ f := by
      intro q; subst q
      unfold rF at hf; unfold lF at hf'
      split at hf <;> simp_all
    exact ⟨g1, by rw [ho _ _ hff]; exact g2, ⟨e, g3.congr (ho _ _ (fun q => q7 q.symm)) rfl rfl rfl rfl rfl rfl, g4⟩, g5⟩
  · rw [ho _ _ (fun q => q7 q.symm), ho _ _ (fun q => q7 q.symm)] at hh
    exact h4.2.2 f1 c1 t1 i1 f2 c2 t2 i2 g1 g2 g3 g4 hh
  · obtain ⟨g1, g2, g3, g4, g5, g6, g7⟩ := h5.1 r' c' hr
    have hl := cF_c hr
    exact ⟨by rw [ho _ _ (by omega)]; exact g1, g2, g3, by rw [ho _ _ (fun q => q6 q.symm)]; exact g4, g5, g6, g7⟩
  · obtain ⟨m, g1, g2, g3, g4, g5⟩ := h5.2.2
    exact ⟨m, by rw [ho _ _ (by omega)]; exact g1, g2, g3, g4, g5⟩
end
