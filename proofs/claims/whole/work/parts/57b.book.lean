section
variable {S T : Ss} {w v : MS}
def WR (S T : Ss) (a b : Option Nat) (l : Nat) (x : Int32) (k : Nat) : Prop := (∀ f, f ≠ 7 → zA T f = zA S f) ∧ zO T = zO S ∧ zL T = zL S ∧ zP T = zP S ∧ (∀ f, f ≠ 0 ∧ f ≠ 1 ∧ f ≠ 5 → zC T f = zC S f) ∧ (∀ f, f ≠ 60 ∧ f ≠ 61 ∧ f ≠ 62 → zN T f = zN S f) ∧ cst S T ∧ (∀ j, zC T 0 j = zC S 0 j + dd a b l x j) ∧ (∀ p i', i' < 6 → zC T 1 (6 * p + i') = zC S 1 (6 * p + i') + if i' = itS S l then dd a b l x (12 * p + l) else 0) ∧ (∀ p l', p < 18 → l' < 12 → zC T 5 (12 * p + l') = if ¬ x = 0 ∧ l' = l ∧ (a = some p ∨ b = some p) then 0 else zC S 5 (12 * p + l')) ∧ ∃ k', k' ≤ k + 1 ∧ mvA T k' ∧ ∀ p l', p < 28 → l' < 12 → mvS (zM T) k' p l' = mvS (zM S) k p l' + dd a b l x (12 * p + l')
theorem e_write {k : Nat} {a b : Option Nat} {l : Nat} (x : Int32) (hI : ∀ i, i < 6 → zA S 300 i = nI i) (h5 : zA S 500 l = nI l) (h51 : zO S 501 l = some (itS S l)) (h6 : itS S l < 6) (h : mvA S k) (hk : k < 1024) (ha : ∀ p, a = some p → p < 28) (hb : ∀ p, b = some p → p < 28) (hl : l < 12) : ∃ T, (f_X0_write (fcI a) (fcI b) l x).1 S = some ((), T) ∧ WR S T a b l x k := by
  by_cases hx : x = 0
  · subst hx
    refine ⟨S, ?_, fun _ _ => rfl, rfl, rfl, rfl, fun _ _ => rfl, fun _ _ => rfl, cst.rf S, fun j => ?_, fun p i' _ => ?_, fun p l' _ _ => ?_, k, Nat.le_succ _, h, fun p l' _ _ => ?_⟩
    · unfold f_X0_write; rw [r_mrd, if_pos rfl]; rfl
    · rw [dd_z, Int32.add_zero]
    · rw [dd_z]; split <;> rw [Int32.add_zero]
    · rw [if_neg (fun r => r.1 rfl)]
    · rw [dd_z, Int32.add_zero]
  · have l0 : ∀ o : Option Nat, (∀ p, o = some p → p < 28) → ∀ p, o = some p → p * cWd 0 + l < cLn 0 := fun o ho p hp => by
      have := ho p hp; show p * 12 + l < 336; omega
    have l1 : ∀ o : Option Nat, (∀ p, o = some p → p < 28) → ∀ p, o = some p → p * cWd 1 + itS S l < cLn 1 := fun o ho p hp => by
      have := ho p hp; show p * 6 + itS S l < 168; omega
    obtain ⟨S1, e1, c1, d1, a1, o1, q1, p1, m1, n1⟩ := e_add (S := S) (r := 0) (l := l) (o := a) (x := -x) hl (l0 a ha)
    obtain ⟨S2, e2, c2, d2, a2, o2, q2, p2, m2, n2⟩ := e_add (S := S1) (r := 0) (l := l) (o := b) (x := x) hl (l0 b hb)
    obtain ⟨S3, e3, c3, d3, a3, o3, q3, p3, m3, n3⟩ := e_add (S := S2) (r := 1) (l := itS S l) (o := a) (x := -x) h6 (l1 a ha)
    obtain ⟨S4, e4, c4, d4, a4, o4, q4, p4, m4, n4⟩ := e_add (S := S3) (r := 1) (l := itS S l) (o := b) (x := x) h6 (l1 b hb)
    obtain ⟨S5, e5, c5, d5, a5, o5, q5, p5, m5, n5⟩ := e_put5 (S := S4) (l := l) (o := a) hl ha
    obtain ⟨S6, e6, c6, d6, a6, o6, q6, p6, m6, n6⟩ := e_put5 (S := S5) (l := l) (o := b) hl hb
    have A6 : zA S6 = zA S := by rw [a6, a5, a4, a3, a2, a1]
    have N6 : zN S6 = zN S := by rw [n6, n5, n4, n3, n2, n1]
    have M6 : zM S6 = zM S := by rw [m6, m5, m4, m3, m2, m1]
    have O6 : zO S6 = zO S := by rw [o6, o5, o4, o3, o2, o1]
    have L6 : zL S6 = zL S := by rw [q6, q5, q4, q3, q2, q1]
    have P6 : zP S6 = zP S := by rw [p6, p5, p4, p3, p2, p1]
    have h' : mvA S6 k := by unfold mvA; rw [A6, N6]; exact h
    obtain ⟨T, t1, t2, t3, t4, t5, t6, t7, t8, t9, t10⟩ := e_note (x := x) h' hk ha hb hl
    have A2 : zA S2 = zA S := by rw [a2, a1]
    have A3 : zA S3 = zA S := by rw [a3, A2]
    have A4 : zA S4 = zA S := by rw [a4, A3]
    have A5 : zA S5 = zA S := by rw [a5, A4]
    have O2 : zO S2 = zO S := by rw [o2, o1]
    have O3 : zO S3 = zO S := by rw [o3, O2]
    refine ⟨T, ?_, fun f hf => by rw [t2 f hf, A6], by rw [t3, O6], by rw [t4, L6], by rw [t5, P6], fun f hf => ?_, fun f hf => by rw [t7 f hf, N6], ?_, fun j => ?_, fun p i' hi' => ?_, fun p l' hp hl' => ?_, k + 1, Nat.le_refl _, t9, fun p l' hp hl' => by rw [t10 p l' hp hl', M6]⟩
    · have h30 : zA S 300 (itS S l) = nI (itS S l) := hI _ h6
      simp only [f_X0_write, r_mrd, ite_f, if_neg hx, r_madd, h5, e1, a1, e2, r_mbo, O2, h51, r_mopt, A2, h30, e3, A3, O3, e4, r_mput, A4, e5, A5, e6, A6, r_mb, t1, bnd_s, r_mret]
    · rw [t6, d6 f hf.2.2, d5 f hf.2.2, d4 f hf.2.1, d3 f hf.2.1, d2 f hf.1, d1 f hf.1]
    · have : cst S6 T := t8
      unfold cst at this ⊢
      rw [N6] at this; exact this
    · rw [t6, d6 0 (by decide), d5 0 (by decide), d4 0 (by decide), d3 0 (by decide), c2, c1]
      show _ = _ + (dl 12 a l j (-x) + dl 12 b l j x)
      rw [Int32.add_assoc]; rfl
    · rw [t6, d6 1 (by decide), d5 1 (by decide), c4, c3, d2 1 (by decide), d1 1 (by decide)]
      show _ + dl 6 a (itS S l) (6 * p + i') (-x) + dl 6 b (itS S l) (6 * p + i') x = _
      rw [dl_6 h6 hi', dl_6 h6 hi', Int32.add_assoc]
      unfold dd
      split
      · rfl
      · rfl
    · rw [t6, c6 p l' hp hl', c5 p l' hp hl', d4 5 (by decide), d3 5 (by decide), d2 5 (by decide), d1 5 (by decide)]
      by_cases r1 : l' = l
      · by_cases r2 : b = some p
        · rw [if_pos ⟨r1, r2⟩, if_pos ⟨hx, r1, Or.inr r2⟩]
        · by_cases r3 : a = some p
          · rw [if_neg (fun r => r2 r.2), if_pos ⟨r1, r3⟩, if_pos ⟨hx, r1, Or.inl r3⟩]
          · rw [if_neg (fun r => r2 r.2), if_neg (fun r => r3 r.2), if_neg (fun r => by rcases r.2.2 with r | r; exact r3 r; exact r2 r)]
      · rw [if_neg (fun r => r1 r.1), if_neg (fun r => r1 r.1), if_neg (fun r => r1 r.2.1)]
/-- as many as there are -/
def rl (S : Ss) (a : Option Nat) (l : Nat) (x : Int32) : Int32 := match a with
  | none => x
  | some p => if zC S 2 (12 * p + l) < x then zC S 2 (12 * p + l) else x
def MVD (S T : Ss) (a b : Option Nat) (l : Nat) (x : Int32) (k : Nat) : Prop := (∀ f, f ≠ 7 → zA T f = zA S f) ∧ zO T = zO S ∧ zL T = zL S ∧ zP T = zP S ∧ (∀ f, f ≠ 0 ∧ f ≠ 1 ∧ f ≠ 5 ∧ f ≠ 2 → zC T f = zC S f) ∧ (∀ f, f ≠ 60 ∧ f ≠ 61 ∧ f ≠ 62 → zN T f = zN S f) ∧ cst S T ∧ (∀ j, zC T 0 j = zC S 0 j + dd a b l x j) ∧ (∀ p i', i' < 6 → zC T 1 (6 * p + i') = zC S 1 (6 * p + i') + if i' = itS S l then dd a b l x (12 * p + l) else 0) ∧ (∀ p l', p < 18 → l' < 12 → zC T 5 (12 * p + l') = if ¬ x = 0 ∧ l' = l ∧ (a = some p ∨ b = some p) then 0 else zC S 5 (12 * p + l')) ∧ (∀ j, zC T 2 j = zC S 2 j + dd a b l (rl S a l x) j) ∧ ∃ k', k' ≤ k + 1 ∧ mvA T k' ∧ ∀ p l', p < 28 → l' < 12 → mvS (zM T) k' p l' = mvS (zM S) k p l' + dd a b l x (12 * p + l')
theorem e_move {k : Nat} {a b : Option Nat} {l : Nat} (x : Int32) (hI : ∀ i, i < 6 → zA S 300 i = nI i) (h5 : zA S 500 l = nI l) (h51 : zO S 501 l = some (itS S l)) (h6 : itS S l < 6) (h : mvA S k) (hk : k < 1024) (ha : ∀ p, a = some p → p < 28) (hb : ∀ p, b = some p → p < 28) (hl : l < 12) : ∃ T, (f_X0_move (fcI a) (fcI b) l x).1 S = some ((), T) ∧ MVD S T a b l x k := by
  have l0 : ∀ o : Option Nat, (∀ p, o = some p → p < 28) → ∀ p, o = some p → p * cWd 2 + l < cLn 2 := fun o ho p hp => by
    have := ho p hp; show p * 12 + l < 336; omega
  obtain ⟨S1, e1, c1, d1, a1, o1, q1, p1, m1, n1⟩ := e_add (S := S) (r := 2) (l := l) (o := a) (x := -(rl S a l x)) hl (l0 a ha)
  obtain ⟨S2, e2, c2, d2, a2, o2, q2, p2, m2, n2⟩ := e_add (S := S1) (r := 2) (l := l) (o := b) (x := rl S a l x) hl (l0 b hb)
  have A2 : zA S2 = zA S := by rw [a2, a1]
  have O2 : zO S2 = zO S := by rw [o2, o1]
  have N2 : zN S2 = zN S := by rw [n2, n1]
  have M2 : zM S2 = zM S := by rw [m2, m1]
  have i2 : itS S2 l = itS S l := by unfold itS; rw [O2]
  obtain ⟨T, t1, t2, t3, t4, t5, t6, t7, t8, t9, t10, t11, k', t12, t13, t14⟩ := e_write (S := S2) (k := k) (a := a) (b := b) (l := l) x (by rw [A2]; exact hI) (by rw [A2]; exact h5) (by rw [O2, i2]; exact h51) (by rw [i2]; exact h6) (by unfold mvA; rw [A2, N2]; exact h) hk ha hb hl
  have e27 : (f_X0_move_27 (fcI a) (fcI b) l x (rl S a l x)).1 S = some ((), T) := by
    simp only [f_X0_move_27, r_mrd, r_madd, h5, e1, a1, e2, r_mb, t1, bnd_s, r_mret]
  refine ⟨T, ?_, fun f hf => by rw [t2 f hf, A2], by rw [t3, O2], by rw [t4, q2, q1], by rw [t5, p2, p1], fun f hf => by rw [t6 f ⟨hf.1, hf.2.1, hf.2.2.1⟩, d2 f hf.2.2.2, d1 f hf.2.2.2], fun f hf => by rw [t7 f hf, N2], ?_, fun j => by rw [t9, d2 0 (by decide), d1 0 (by decide)], fun p i' hi' => by rw [t10 p i' hi', d2 1 (by decide), d1 1 (by decide), i2], fun p l' hp hl' => by rw [t11 p l' hp hl', d2 5 (by decide), d1 5 (by decide)], fun j => ?_, k', t12, t13, fun p l' hp hl' => by rw [t14 p l' hp hl', M2]⟩
  · unfold f_X0_move
    rw [r_mrd, ite_f]
    cases a with
    | none =>
      rw [if_pos (show fcI none = -1 from rfl)]; exact e27
    | some p =>
      have hp := ha p rfl
      rw [if_neg (fun r => by have := (fcI_m1 (o := some p) (fun j hj => by cases hj; omega)).mp r; cases this)]
      have e9 : cAt S 2 (nI p) (nI l) = zC S 2 (12 * p + l) := cAt_in (S := S) (r := 2) (p := p) (l := l) hl (show p * 12 + l < 336 by omega)
      rw [r_mbo]
      show (f_X0_move_27 (nI p) (fcI b) l x (if cAt S 2 (nI p) (zA S 500 l) < x then cAt S 2 (nI p) (zA S 500 l) else x)).1 S = _
      rw [h5, e9]; exact e27
  · unfold cst at t8 ⊢
    rw [N2] at t8; exact t8
  · rw [t6 2 (by decide), c2, c1]
    show _ = _ + (dl 12 a l j (-(rl S a l x)) + dl 12 b l j (rl S a l x))
    rw [Int32.add_assoc]; rfl
/-- the reference's book -/
def bkV (w : MS) (p l : Nat) (x : Int32) : MS := if p < 18 ∧ ¬ x = 0 then mSA 21 (12 * p + l) (-1) (mSA 19 (12 * p + l) (mA w 19 (12 * p + l) + x) w) else mSA 19 (12 * p + l) (mA w 19 (12 * p + l) + x) w
theorem bkV_I {p l : Nat} {x : Int32} : mI (bkV w p l x) = mI w := by unfold bkV; split <;> rfl
theorem bkV_A {p l : Nat} {x : Int32} {f : Nat} (h : f ≠ 19 ∧ f ≠ 21) : mA (bkV w p l x) f = mA w f := by
  unfold bkV; split
  · rw [fBA h.2, fBA h.1]
  · rw [fBA h.1]
theorem bkV_19 {p l j : Nat} {x : Int32} : mA (bkV w p l x) 19 j = mA w 19 j + if j = 12 * p + l then x else 0 := by
  have e : mA (bkV w p l x) 19 j = if j = 12 * p + l then mA w 19 (12 * p + l) + x else mA w 19 j := by
    unfold bkV; split
    · rw [fBA (by decide), sBA]
    · rw [sBA]
  rw [e]; split
  · rename_i e2; rw [e2]
  · rw [Int32.add_zero]
theorem bkV_21 {p l j : Nat} {x : Int32} : mA (bkV w p l x) 21 j = if p < 18 ∧ ¬ x = 0 ∧ j = 12 * p + l then -1 else mA w 21 j := by
  unfold bkV
  by_cases q : p < 18 ∧ ¬ x = 0
  · rw [if_pos q, sBA]
    by_cases q2 : j = 12 * p + l
    · rw [if_pos q2, if_pos ⟨q.1, q.2, q2⟩]
    · rw [if_neg q2, if_neg (fun r => q2 r.2.2), fBA (by decide)]
  · rw [if_neg q, if_neg (fun r => q ⟨r.1, r.2.1⟩), fBA (by decide)]
theorem k_books {p l : Nat} (hp : p < 28) (hl : l < 12) (x : Int32) : g_X12_books (nI p) (nI l) x w = some ((), bkV w p l x) := by
  have e12 : (12 : Int32) * nI p + nI l = nI (12 * p + l) := by rw [show (12 : Int32) = nI 12 from rfl, pk_mul, nI_add]
  have j1 : 12 * p + l < mL 19 := show 12 * p + l < 336 by omega
  by_cases q1 : p < 18
  · have j2 : 12 * p + l < mL 21 := show 12 * p + l < 216 by omega
    have n1 : ¬ (18 : Int32) ≤ nI p := nI_ge (b := 18) q1 (by decide)
    by_cases q2 : x = 0
    · simp only [g_X12_books, kif, r_gb, gbn_s, r_grd, r_gbo, r_gret, r_gst, k_isIn, k_isSlot, k_isItem, k_isGroup, k_isRobot, k_are, k_holds0, k_holds1, k_holds2, k_holds3, k_bit, k_less, bI_t, bI_f, i10, i00, i01, i11, i20, i30, ↓reduceIte, e12, r_gnI j1 (show mL 19 < 2 ^ 31 by decide), nI_clamp (show 12 * p + l < 2 ^ 31 by omega), n1, q2]
      unfold bkV
      rw [if_neg (fun r => r.2 rfl)]
    · simp only [g_X12_books, kif, r_gb, gbn_s, r_grd, r_gbo, r_gret, r_gst, k_isIn, k_isSlot, k_isItem, k_isGroup, k_isRobot, k_are, k_holds0, k_holds1, k_holds2, k_holds3, k_bit, k_less, bI_t, bI_f, i10, i00, i01, i11, i20, i30, ↓reduceIte, e12, r_gnI j1 (show mL 19 < 2 ^ 31 by decide), nI_clamp (show 12 * p + l < 2 ^ 31 by omega), n1, q2, r_gnI j2 (show mL 21 < 2 ^ 31 by decide)]
      unfold bkV
      rw [if_pos ⟨q1, q2⟩]
  · have n1 : (18 : Int32) ≤ nI p := nI_le (a := 18) (by omega) (by omega)
    simp only [g_X12_books, kif, r_gb, gbn_s, r_grd, r_gbo, r_gret, r_gst, k_isIn, k_isSlot, k_isItem, k_isGroup, k_isRobot, k_are, k_holds0, k_holds1, k_holds2, k_holds3, k_bit, k_less, bI_t, bI_f, i10, i00, i01, i11, i20, i30, ↓reduceIte, e12, r_gnI j1 (show mL 19 < 2 ^ 31 by decide), nI_clamp (show 12 * p + l < 2 ^ 31 by omega), n1]
    unfold bkV
    rw [if_neg (fun r => q1 r.1)]
end
