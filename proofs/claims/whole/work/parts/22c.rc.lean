section
variable {D : Nat → Nat → Nat} {σ τ s : St} {S : Ss}
/-- the counters of what was used are no part of it -/
theorem RC.cost (h : RC D σ S) (k n : Nat) : RC D σ (pN 61 k (pN 62 n S)) := by
  have hz : ∀ c, c ≠ 61 → c ≠ 62 → zN (pN 61 k (pN 62 n S)) c = zN S c := fun c a b => by
    show u1 61 k (u1 62 n (zN S)) c = _
    rw [u1_at, if_neg a, u1_at, if_neg b]
  have hlc : ∀ f c t, lF f c t = true → zN (pN 61 k (pN 62 n S)) (lC f) = zN S (lC f) := fun f c t hf => by
    have := lF_c hf
    unfold lC
    split
    · exact hz _ (by decide) (by decide)
    · exact hz _ (by omega) (by omega)
  have hlv : ∀ c i, c < 12 → (lv (pN 61 k (pN 62 n S)) c i ↔ lv S c i) := fun c i hc => by rw [lv_o hc, lv_o hc, hz c (by omega) (by omega)]
  obtain ⟨h1, h2, h3, h4, h5⟩ := h
  refine ⟨⟨fun c i hc hi => h1.1 c i hc (by rw [hz c (by omega) (by omega)] at hi; exact hi), fun c i j hc hi hj => h1.2.1 c i j hc (by rw [hz c (by omega) (by omega)] at hi; exact hi) (by rw [hz c (by omega) (by omega)] at hj; exact hj), h1.2.2.1, h1.2.2.2⟩, fun f c i hc hf hi => h2 f c i hc hf (by rw [hz c (by omega) (by omega)] at hi; exact hi), fun f c t i hf hi => ?_, ⟨fun f c t i hf hi => ?_, fun f1 c1 t1 i1 f2 c2 t2 i2 g1 g2 g3 g4 => h4.2.1 f1 c1 t1 i1 f2 c2 t2 i2 g1 g2 (by rw [hlc _ _ _ g1] at g3; exact g3) (by rw [hlc _ _ _ g2] at g4; exact g4), fun f1 c1 t1 i1 f2 c2 t2 i2 g1 g2 g3 g4 => h4.2.2 f1 c1 t1 i1 f2 c2 t2 i2 g1 g2 (by rw [hlc _ _ _ g1] at g3; exact g3) (by rw [hlc _ _ _ g2] at g4; exact g4)⟩, h5⟩
  · have hl := rF_c hf
    have key := h3 f c t i hf (by rw [hz c (by omega) (by omega)] at hi; exact hi)
    exact ⟨key.1, fun j hj => (hlv t j hl.2.2.1).mpr (key.2 j hj)⟩
  · have hl := lF_c hf
    obtain ⟨g1, g2, g3, g4⟩ := h4.1 f c t i hf (by rw [hlc _ _ _ hf] at hi; exact hi)
    exact ⟨by rw [hz c (by omega) (by omega)]; exact g1, g2, g3, fun j hj => (hlv t j hl.2.2.1).mpr (g4 j hj)⟩
/-- one number of a table -/
theorem RC.setC (h : RC D σ S) {r c a j : Nat} {v : Int32} (hr : cF r c = true) (hj : D 30001 r = a) (e : s = setA a j v σ) : RC D s (pC r j v S) := by
  subst e
  obtain ⟨h1, h2, h3, h4, h5⟩ := id h
  refine ⟨h1, h2, h3, ⟨fun f c t i hf hi => ?_, h4.2.1, h4.2.2⟩, fun r' c' hr' => ?_, h5.2.1, ?_⟩
  · obtain ⟨g1, g2, ⟨e, g3, g4⟩, g5⟩ := h4.1 f c t i hf hi
    exact ⟨g1, g2, ⟨e, g3.congr rfl rfl rfl rfl rfl rfl rfl, g4⟩, g5⟩
  · obtain ⟨g1, g2, g3, g4, g5, g6, g7⟩ := h5.1 r' c' hr'
    refine ⟨g1, g2, g3, g4, g5, g6, fun j' => ?_⟩
    show sA (setA a j v σ) (D 30001 r') j' = u2 r j v (zC S) r' j'
    rw [sA_setA, u2_at, u2_at]
    by_cases q : r' = r ∧ j' = j
    · rw [if_pos q, if_pos ⟨by rw [← hj, q.1], q.2⟩]
    · rw [if_neg q, if_neg (fun q9 => q ⟨h5.2.1 r' c' r c hr' hr (q9.1.trans hj.symm), q9.2⟩)]
      exact g7 j'
  · obtain ⟨m, g1, g2, g3, g4, g5⟩ := h5.2.2
    refine ⟨m, g1, g2, g3, fun j' => ?_, g5⟩
    rw [sA_setA, u2_at, if_neg (fun q => g5 r c hr (q.1.trans hj.symm))]
    exact g4 j'
/-- one number of the moves -/
theorem RC.setM (h : RC D σ S) {a j : Nat} {v : Int32} (hm : sR σ 6 (D 0 0) = some a) (e : s = setA a j v σ) : RC D s (pM (u1 j v (zM S)) S) := by
  subst e
  obtain ⟨h1, h2, h3, h4, h5⟩ := id h
  obtain ⟨m, g1, g2, g3, g4, g5⟩ := h5.2.2
  have hma : m = a := Option.some.inj (g1.symm.trans hm)
  subst hma
  refine ⟨h1, h2, h3, ⟨fun f c t i hf hi => ?_, h4.2.1, h4.2.2⟩, fun r' c' hr' => ?_, h5.2.1, m, g1, g2, g3, fun j' => ?_, g5⟩
  · obtain ⟨g1, g2, ⟨e, g3, g4⟩, g5⟩ := h4.1 f c t i hf hi
    exact ⟨g1, g2, ⟨e, g3.congr rfl rfl rfl rfl rfl rfl rfl, g4⟩, g5⟩
  · obtain ⟨p1, p2, p3, p4, p5, p6, p7⟩ := h5.1 r' c' hr'
    refine ⟨p1, p2, p3, p4, p5, p6, fun j' => ?_⟩
    rw [sA_setA, u2_at, if_neg (fun q => g5 r' c' hr' q.1.symm)]
    exact p7 j'
  · show sA (setA m j v σ) m j' = u1 j v (zM S) j'
    rw [sA_setA, u2_at, u1_at]
    by_cases q : j' = j
    · rw [if_pos ⟨rfl, q⟩, if_pos q]
    · rw [if_neg (fun q9 => q q9.2), if_neg q]
      exact g4 j'
theorem RC.mov (h : RC D σ S) {a : Nat} {o : Option Nat} (A : AT D S 0 0 a) (e : o = sR σ 6 a) : ∃ m, o = some m ∧ sR σ 6 (D 0 0) = some m ∧ sL σ m = zN S 60 ∧ (∀ j, sA σ m j = zM S j) := by
  obtain ⟨m, g1, g2, g3, g4, g5⟩ := h.2.2.2.2.2.2
  exact ⟨m, by rw [e, ← A.2]; exact g1, g1, g3, g4⟩
/-- the moves' array is a new and longer one -/
def pGr (S : Ss) : Ss := pN 61 (zN S 61 + 1) (pN 62 (zN S 62 + 2 * zN S 60) (pM (fun j => if j < zN S 60 then zM S j else 0) (pN 60 (2 * zN S 60) S)))
theorem q_grow (h : RC D σ S) {m k n : Nat} (hm : sR σ 6 (D 0 0) = some m) (h0 : 0 < zN S 60) (h9 : zN S 60 ≤ 4096) (hk : zN (pGr S) 61 ≤ zN S 61 + k) (hn : zN (pGr S) 62 ≤ zN S 62 + n) {a : Nat} (A : AT D S 0 0 a) {Q : St → Prop} (hq : ∀ s, RC D s (pGr S) → Q s) : w_J7_copyOf_59c91 k n m (2 * nI (zN S 60)) σ (fun o s => ∀ s2 : St, s2 = setR 6 a o s → Q s2) := by
  obtain ⟨h1, h2, h3, h4, h5⟩ := id h
  obtain ⟨m', g1, g2, g3, g4, g5⟩ := h5.2.2
  have hma : m' = m := Option.some.inj (g1.symm.trans hm)
  subst hma
  have e2 : (2 : Int32) * nI (zN S 60) = nI (2 * zN S 60) := pk_mul 2 _
  have hk1 : zN (pGr S) 61 = zN S 61 + 1 := rfl
  have hn1 : zN (pGr S) 62 = zN S 62 + 2 * zN S 60 := rfl
  unfold w_J7_copyOf_59c91
  rw [e2]
  have ec : (nI (2 * zN S 60)).toNatClampNeg = 2 * zN S 60 := nI_clamp (by omega)
  rw [ec, g3]
  refine ⟨fun _ => ⟨nI_pos (by omega), by omega, k - 1, n - 2 * zN S 60, by omega, by omega, ?_⟩, fun q => absurd ((nI_eq (by omega) (by omega)).mp q) (by omega)⟩
  rintro q s hq0 rfl
  have hne : m' ≠ q := fun r => by rw [r, hq0] at g2; cases g2
  have l1 : sL (newA 20 q (2 * zN S 60) σ) m' = zN S 60 := by rw [sL_newA, u1_at, if_neg hne]; exact g3
  have l2 : sL (newA 20 q (2 * zN S 60) σ) q = 2 * zN S 60 := by rw [sL_newA, u1_at, if_pos rfl]
  have l3 : sA (newA 20 q (2 * zN S 60) σ) m' = sA σ m' := by funext j; rw [sA_newA, u2l_at, if_neg hne]
  have l4 : sA (newA 20 q (2 * zN S 60) σ) q = fun _ => 0 := by funext j; rw [sA_newA, u2l_at, if_pos rfl]
  rw [l1, l2, l3, l4, if_neg (nI_nlt (by omega) (by omega)), nI_clamp (by omega), show (0 : Int32).toNatClampNeg = 0 from nI_z]
  refine ⟨by decide, by decide, nI_pos (by omega), by omega, by omega, ?_⟩
  rintro s rfl
  rintro s2 rfl
  have hR : RC D (cpyA q (va_cpy (sA σ m') (fun _ => 0) 0 0 (zN S 60)) (newA 20 q (2 * zN S 60) σ)) S := by
    refine h.congr fun b hb _ => ?_
    have hbq : b ≠ q := fun r => hb (by rw [r]; exact hq0)
    refine ⟨?_, (cEq_newA 20 q _ σ hbq).tr (cEq_cpyA q _ _ hbq)⟩
    rw [sK_cpyA, sK_newA, u1_at, if_neg hbq]
  refine hq _ (RC.cost ?_ _ _)
  have ho : ∀ f' b, f' ≠ 6 → sR (setR 6 a (some q) (cpyA q (va_cpy (sA σ m') (fun _ => 0) 0 0 (zN S 60)) (newA 20 q (2 * zN S 60) σ))) f' b = sR (cpyA q (va_cpy (sA σ m') (fun _ => 0) 0 0 (zN S 60)) (newA 20 q (2 * zN S 60) σ)) f' b := fun f' b g => by rw [sR_setR, u2_at, if_neg (fun q => g q.1)]
  have hz : ∀ c, c ≠ 60 → zN (pM (fun j => if j < zN S 60 then zM S j else 0) (pN 60 (2 * zN S 60) S)) c = zN S c := fun c a => by
    show u1 60 (2 * zN S 60) (zN S) c = _
    rw [u1_at, if_neg a]
  have hlc : ∀ f c t, lF f c t = true → zN (pM (fun j => if j < zN S 60 then zM S j else 0) (pN 60 (2 * zN S 60) S)) (lC f) = zN S (lC f) := fun f c t hf => by
    have := lF_c hf
    unfold lC
    split
    · exact hz _ (by decide)
    · exact hz _ (by omega)
  have hlv : ∀ c i, c < 12 → (lv (pM (fun j => if j < zN S 60 then zM S j else 0) (pN 60 (2 * zN S 60) S)) c i ↔ lv S c i) := fun c i hc => by rw [lv_o hc, lv_o hc, hz c (by omega)]
  obtain ⟨i1, i2, i3, i4, i5⟩ := hR
  refine ⟨⟨fun c i hc hi => i1.1 c i hc (by rw [hz c (by omega)] at hi; exact hi), fun c i j hc hi hj => i1.2.1 c i j hc (by rw [hz c (by omega)] at hi; exact hi) (by rw [hz c (by omega)] at hj; exact hj), i1.2.2.1, ?_, fun f t hf => ?_, i1.2.2.2.2.2⟩, fun f c i hc hf hi => i2 f c i hc hf (by rw [hz c (by omega)] at hi; exact hi), fun f c t i hf hi => ?_, ⟨fun f c t i hf hi => ?_, fun f1 c1 t1 i1 f2 c2 t2 i2 g1 g2 g3 g4 => i4.2.1 f1 c1 t1 i1 f2 c2 t2 i2 g1 g2 (by rw [hlc _ _ _ g1] at g3; exact g3) (by rw [hlc _ _ _ g2] at g4; exact g4), fun f1 c1 t1 i1 f2 c2 t2 i2 g1 g2 g3 g4 hh => i4.2.2 f1 c1 t1 i1 f2 c2 t2 i2 g1 g2 (by rw [hlc _ _ _ g1] at g3; exact g3) (by rw [hlc _ _ _ g2] at g4; exact g4) (by rw [ho _ _ (by decide), ho _ _ (by decide)] at hh; exact hh)⟩, fun r c hr => ?_, i5.2.1, q, ?_, ?_, ?_, fun j => ?_, fun r c hr => ?_⟩
  · rw [ho _ _ (by decide)]; exact i1.2.2.2.1
  · have := aF_c hf
    rw [ho _ _ (by omega)]; exact i1.2.2.2.2.1 f t hf
  · have hl := rF_c hf
    have key := i3 f c t i hf (by rw [hz c (by omega)] at hi; exact hi)
    have hff : f ≠ 6 := by omega
    rw [ho _ _ hff]
    exact ⟨key.1, fun j hj => (hlv t j hl.2.2.1).mpr (key.2 j hj)⟩
  · have hl := lF_c hf
    obtain ⟨p1, p2, ⟨e, p3, p4⟩, p5⟩ := i4.1 f c t i hf (by rw [hlc _ _ _ hf] at hi; exact hi)
    have hff : f ≠ 6 := by intro q; subst q; revert hf; unfold lF; simp
    exact ⟨by rw [hz c (by omega)]; exact p1, by rw [ho _ _ hff]; exact p2, ⟨e, p3.congr (ho _ _ (by decide)) rfl rfl rfl rfl rfl rfl, p4⟩, fun j hj => (hlv t j hl.2.2.1).mpr (p5 j hj)⟩
  · have hl := cF_c hr
    obtain ⟨p1, p2, p3, p4, p5, p6, p7⟩ := i5.1 r c hr
    exact ⟨by rw [ho _ _ (by omega)]; exact p1, p2, p3, by rw [ho _ _ (by decide)]; exact p4, p5, p6, p7⟩
  · rw [sR_setR, u2_at, if_pos ⟨rfl, A.2⟩]
  · rw [sK_setR, sK_cpyA, sK_newA, u1_at, if_pos rfl]
  · show sL (cpyA q _ _) q = 2 * zN S 60
    rw [sL_cpyA]; exact l2
  · show sA (cpyA q _ _) q j = if j < zN S 60 then zM S j else 0
    rw [sA_cpyA, u2l_at, if_pos rfl]
    by_cases hj : j < zN S 60
    · rw [if_pos hj, pk_cpy_in (by omega) (by omega), ← g4]
      congr 1; omega
    · rw [if_neg hj, pk_cpy_out (by omega)]
  · intro hh
    have p5 := (h5.1 r c hr).2.2.2.2.1
    rw [← hh, hq0] at p5; cases p5
end
