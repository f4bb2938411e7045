/-! the book: writing, moving -/
/-- what is added at j, when v goes into place o of lot l -/
def dl (W : Nat) (o : Option Nat) (l j : Nat) (v : Int32) : Int32 := match o with
  | none => 0
  | some p => if j = W * p + l then v else 0
def dd (a b : Option Nat) (l : Nat) (v : Int32) (j : Nat) : Int32 := dl 12 a l j (-v) + dl 12 b l j v
theorem dl_z (W : Nat) (o : Option Nat) (l j : Nat) : dl W o l j 0 = 0 := by
  cases o with
  | none => rfl
  | some p => show (if _ then (0 : Int32) else 0) = 0; split <;> rfl
theorem dd_z (a b : Option Nat) (l j : Nat) : dd a b l 0 j = 0 := by
  unfold dd
  rw [show -(0 : Int32) = 0 by decide, dl_z, dl_z]; rfl
theorem dl_ne {o : Option Nat} {l p l' : Nat} {v : Int32} (hl : l < 12) (hl' : l' < 12) (h : l' ≠ l) : dl 12 o l (12 * p + l') v = 0 := by
  cases o with
  | none => rfl
  | some q => exact if_neg (by omega)
theorem dl_eq {o : Option Nat} {l p : Nat} {v : Int32} : dl 12 o l (12 * p + l) v = if o = some p then v else 0 := by
  cases o with
  | none => rfl
  | some q =>
    show (if _ then v else 0) = _
    by_cases e : q = p
    · subst e; rw [if_pos rfl, if_pos rfl]
    · rw [if_neg (by omega), if_neg (fun r => e (Option.some.inj r))]
theorem dl_6 {o : Option Nat} {l p i i' : Nat} {v : Int32} (hi : i < 6) (hi' : i' < 6) : dl 6 o i (6 * p + i') v = if i' = i then dl 12 o l (12 * p + l) v else 0 := by
  cases o with
  | none => split <;> rfl
  | some q =>
    rw [dl_eq]
    show (if _ then v else 0) = _
    by_cases e : i' = i
    · subst e
      rw [if_pos rfl]
      by_cases e2 : q = p
      · rw [if_pos (by omega), if_pos (by rw [e2])]
      · rw [if_neg (by omega), if_neg (fun r => e2 (Option.some.inj r))]
    · rw [if_neg e, if_neg (by omega)]
theorem fcI_n {N : Nat} {o : Option Nat} {p : Nat} (hN : N ≤ 1000) (ho : ∀ j, o = some j → j < N) (hp : p < N) : fcI o = nI p ↔ o = some p := by
  cases o with
  | none =>
    refine ⟨fun q => ?_, fun q => by cases q⟩
    have h : ∀ p, p < 1000 → ¬ (-1 : Int32) = nI p := by decide +kernel
    exact absurd q (h p (by omega))
  | some j =>
    have hj := ho j rfl
    show nI j = nI p ↔ _
    rw [nI_eq (by omega) (by omega), Option.some.injEq]
theorem fcI_m1 {o : Option Nat} (ho : ∀ j, o = some j → j < 1000) : fcI o = -1 ↔ o = none := by
  cases o with
  | none => exact ⟨fun _ => rfl, fun _ => rfl⟩
  | some j =>
    refine ⟨fun q => ?_, fun q => by cases q⟩
    have h : ∀ p, p < 1000 → ¬ nI p = (-1 : Int32) := by decide +kernel
    exact absurd q (h j (ho j rfl))
section
variable {S T : Ss} {w v : MS}
/-- adding in a table at a place that may be none -/
theorem e_add {r l : Nat} {o : Option Nat} {x : Int32} (hl : l < cWd r) (ho : ∀ p, o = some p → p * cWd r + l < cLn r) : ∃ T, cAdd r (fcI o) (nI l) x S = T ∧ (∀ j, zC T r j = zC S r j + dl (cWd r) o l j x) ∧ (∀ f, f ≠ r → zC T f = zC S f) ∧ zA T = zA S ∧ zO T = zO S ∧ zL T = zL S ∧ zP T = zP S ∧ zM T = zM S ∧ zN T = zN S := by
  cases o with
  | none =>
    refine ⟨S, (cNone hl).1, fun j => ?_, fun _ _ => rfl, rfl, rfl, rfl, rfl, rfl, rfl⟩
    show _ = _ + (0 : Int32)
    rw [Int32.add_zero]
  | some p =>
    refine ⟨_, cAdd_in hl (ho p rfl), fun j => ?_, fun f hf => fCC hf, rfl, rfl, rfl, rfl, rfl, rfl⟩
    rw [sCC]
    show _ = _ + (if j = cWd r * p + l then x else 0)
    split
    · rename_i e; rw [e]
    · rw [Int32.add_zero]
theorem e_put5 {l : Nat} {o : Option Nat} (hl : l < 12) (ho : ∀ p, o = some p → p < 28) : ∃ T, cPut 5 (fcI o) (nI l) 0 S = T ∧ (∀ p l', p < 18 → l' < 12 → zC T 5 (12 * p + l') = if l' = l ∧ o = some p then 0 else zC S 5 (12 * p + l')) ∧ (∀ f, f ≠ 5 → zC T f = zC S f) ∧ zA T = zA S ∧ zO T = zO S ∧ zL T = zL S ∧ zP T = zP S ∧ zM T = zM S ∧ zN T = zN S := by
  cases o with
  | none =>
    refine ⟨S, (cNone (r := 5) hl).2, fun p l' _ _ => by rw [if_neg (fun r => by cases r.2)], fun _ _ => rfl, rfl, rfl, rfl, rfl, rfl, rfl⟩
  | some q =>
    by_cases hq : q < 18
    · refine ⟨_, cPut_in (r := 5) (p := q) (l := l) hl (show q * 12 + l < 216 by omega), fun p l' hp hl' => ?_, fun f hf => fCC hf, rfl, rfl, rfl, rfl, rfl, rfl⟩
      rw [sCC]
      show (if 12 * p + l' = 12 * q + l then (0 : Int32) else _) = _
      by_cases e : l' = l ∧ q = p
      · rw [if_pos (by omega), if_pos ⟨e.1, by rw [e.2]⟩]
      · rw [if_neg (by omega), if_neg (fun r => e ⟨r.1, Option.some.inj r.2⟩)]
    · refine ⟨S, (cOut (r := 5) (p := q) (l := l) hl (show 216 ≤ q * 12 by omega) (by have := ho q rfl; omega)).2, fun p l' hp _ => ?_, fun _ _ => rfl, rfl, rfl, rfl, rfl, rfl, rfl⟩
      rw [if_neg (fun r => by have := Option.some.inj r.2; omega)]
/-- what is written behind the moves -/
def mvA (S : Ss) (k : Nat) : Prop := zA S 7 0 = nI (4 * k) ∧ 4 * k ≤ zN S 60 ∧ 128 ≤ zN S 60 ∧ zN S 60 ≤ 4096 ∧ ∃ e, zN S 60 = 2 ^ e
def cst (S T : Ss) : Prop := zN S 60 ≤ zN T 60 ∧ zN T 61 + zN S 60 ≤ zN S 61 + zN T 60 ∧ zN T 62 + 2 * zN S 60 ≤ zN S 62 + 2 * zN T 60
theorem cst.rf (S : Ss) : cst S S := ⟨Nat.le_refl _, Nat.le_refl _, Nat.le_refl _⟩
theorem cst.tr {S T U : Ss} (h : cst S T) (g : cst T U) : cst S U := by
  obtain ⟨a1, a2, a3⟩ := h
  obtain ⟨b1, b2, b3⟩ := g
  exact ⟨by omega, by omega, by omega⟩
theorem e_note47 {k : Nat} (x1 x2 x3 x4 : Int32) (h1 : zA S 7 0 = nI (4 * k)) (h2 : 4 * (k + 1) ≤ zN S 60) (h3 : zN S 60 ≤ 4096) : ∃ T, (f_X0_note_47 x1 x2 x3 x4 (nI (4 * (k + 1)))).1 S = some ((), T) ∧ (∀ f, f ≠ 7 → zA T f = zA S f) ∧ zA T 7 0 = nI (4 * (k + 1)) ∧ zO T = zO S ∧ zL T = zL S ∧ zP T = zP S ∧ zC T = zC S ∧ zN T = zN S ∧ zM T = u1 (4 * k + 3) x4 (u1 (4 * k + 2) x3 (u1 (4 * k + 1) x2 (u1 (4 * k) x1 (zM S)))) := by
  refine ⟨pA 7 0 (nI (4 * (k + 1))) (pM (u1 (4 * k + 3) x4 (u1 (4 * k + 2) x3 (u1 (4 * k + 1) x2 (u1 (4 * k) x1 (zM S))))) S), ?_, fun f hf => by rw [fAA hf, tAM], by rw [sAA, if_pos rfl], rfl, rfl, rfl, rfl, rfl, rfl⟩
  have e1 : nI (4 * k) + 1 = nI (4 * k + 1) := nI_1 _
  have e2 : nI (4 * k) + 2 = nI (4 * k + 2) := by rw [show (2 : Int32) = nI 2 from rfl, nI_add]
  have e3 : nI (4 * k) + 3 = nI (4 * k + 3) := by rw [show (3 : Int32) = nI 3 from rfl, nI_add]
  have r_wM : ∀ {R : Type} (x v : Int32) (K : MM R) (S : Ss), (wM x v K).1 S = K.1 (pM (u1 x.toNatClampNeg v (zM S)) S) := fun x v K S => rfl
  simp only [f_X0_note_47, r_mrd, ite_f, h1, if_neg (nI_pos (show 4 * k < 2 ^ 31 by omega)), nI_nlt h2 (show zN S 60 < 2 ^ 31 by omega), ↓reduceIte, r_wM, tAM, tNM, sMM, e1, e2, e3, r_mnI (show 4 * k < zN S 60 by omega) (show zN S 60 < 2 ^ 31 by omega), r_mnI (show 4 * k + 1 < zN S 60 by omega) (show zN S 60 < 2 ^ 31 by omega), r_mnI (show 4 * k + 2 < zN S 60 by omega) (show zN S 60 < 2 ^ 31 by omega), r_mnI (show 4 * k + 3 < zN S 60 by omega) (show zN S 60 < 2 ^ 31 by omega), nI_clamp (show 4 * k < 2 ^ 31 by omega), nI_clamp (show 4 * k + 1 < 2 ^ 31 by omega), nI_clamp (show 4 * k + 2 < 2 ^ 31 by omega), nI_clamp (show 4 * k + 3 < 2 ^ 31 by omega), r_wA, r_mret]
  rfl
theorem mv_row {M M' : Nat → Int32} {k : Nat} {a b : Option Nat} {l : Nat} {x : Int32} (hM : ∀ j, j < 4 * k → M' j = M j) (h0 : M' (4 * k) = fcI a) (h1 : M' (4 * k + 1) = fcI b) (h2 : M' (4 * k + 2) = nI l) (h3 : M' (4 * k + 3) = x) (ha : ∀ p, a = some p → p < 28) (hb : ∀ p, b = some p → p < 28) (hl : l < 12) {p l' : Nat} (hp : p < 28) (hl' : l' < 12) : mvS M' (k + 1) p l' = mvS M k p l' + dd a b l x (12 * p + l') := by
  unfold mvS
  rw [List.range_succ, sm_app]
  congr 1
  · refine sm_cg _ fun j hj => ?_
    have := List.mem_range.mp hj
    rw [hM _ (by omega), hM _ (by omega), hM _ (by omega), hM _ (by omega)]
  · rw [h0, h1, h2, h3]
    unfold dd
    by_cases e : l' = l
    · subst e
      rw [if_pos rfl, dl_eq, dl_eq, Int32.sub_eq_add_neg, Int32.add_comm]
      congr 1
      · by_cases q : a = some p
        · rw [if_pos q, if_pos ((fcI_n (by decide) ha hp).mpr q)]
        · rw [if_neg q, if_neg (fun r => q ((fcI_n (by decide) ha hp).mp r))]; rfl
      · by_cases q : b = some p
        · rw [if_pos q, if_pos ((fcI_n (by decide) hb hp).mpr q)]
        · rw [if_neg q, if_neg (fun r => q ((fcI_n (by decide) hb hp).mp r))]
    · rw [if_neg (fun r => e ((nI_eq (by omega) (by omega)).mp r).symm), dl_ne hl hl' e, dl_ne hl hl' e]; rfl
theorem e_note {k : Nat} {a b : Option Nat} {l : Nat} {x : Int32} (h : mvA S k) (hk : k < 1024) (ha : ∀ p, a = some p → p < 28) (hb : ∀ p, b = some p → p < 28) (hl : l < 12) : ∃ T, (f_X0_note (fcI a) (fcI b) (nI l) x).1 S = some ((), T) ∧ (∀ f, f ≠ 7 → zA T f = zA S f) ∧ zO T = zO S ∧ zL T = zL S ∧ zP T = zP S ∧ zC T = zC S ∧ (∀ f, f ≠ 60 ∧ f ≠ 61 ∧ f ≠ 62 → zN T f = zN S f) ∧ cst S T ∧ mvA T (k + 1) ∧ ∀ p l', p < 28 → l' < 12 → mvS (zM T) (k + 1) p l' = mvS (zM S) k p l' + dd a b l x (12 * p + l') := by
  obtain ⟨h1, h2, h3, h4, e, h5⟩ := h
  have e4 : nI (4 * k) + 4 = nI (4 * (k + 1)) := by rw [show (4 : Int32) = nI 4 from rfl, nI_add]; congr 1
  have row : ∀ M M' : Nat → Int32, (∀ j, j < 4 * k → M j = zM S j) → M' = u1 (4 * k + 3) x (u1 (4 * k + 2) (nI l) (u1 (4 * k + 1) (fcI b) (u1 (4 * k) (fcI a) M))) → ∀ p l', p < 28 → l' < 12 → mvS M' (k + 1) p l' = mvS (zM S) k p l' + dd a b l x (12 * p + l') := fun M M' hM e p l' hp hl' => by
    refine mv_row (fun j hj => ?_) ?_ ?_ ?_ ?_ ha hb hl hp hl'
    · rw [e, u1_at, if_neg (by omega), u1_at, if_neg (by omega), u1_at, if_neg (by omega), u1_at, if_neg (by omega), hM j hj]
    · rw [e, u1_at, if_neg (by omega), u1_at, if_neg (by omega), u1_at, if_neg (by omega), u1_at, if_pos rfl]
    · rw [e, u1_at, if_neg (by omega), u1_at, if_neg (by omega), u1_at, if_pos rfl]
    · rw [e, u1_at, if_neg (by omega), u1_at, if_pos rfl]
    · rw [e, u1_at, if_pos rfl]
  by_cases q : 4 * (k + 1) ≤ zN S 60
  · obtain ⟨T, t1, t2, t3, t4, t5, t6, t7, t8, t9⟩ := e_note47 (S := S) (fcI a) (fcI b) (nI l) x h1 q h4
    refine ⟨T, ?_, t2, t4, t5, t6, t7, fun f _ => by rw [t8], ?_, ⟨t3, by rw [t8]; exact q, by rw [t8]; exact h3, by rw [t8]; exact h4, e, by rw [t8]; exact h5⟩, row _ _ (fun _ _ => rfl) t9⟩
    · simp only [f_X0_note, r_mrd, r_mbo, ite_f, h1, e4, nI_le q (show zN S 60 < 2 ^ 31 by omega), ↓reduceIte, t1]
    · unfold cst; rw [t8]; exact ⟨Nat.le_refl _, Nat.le_refl _, Nat.le_refl _⟩
  · have hpow : 4 * (k + 1) ≤ 2 * zN S 60 := by omega
    have h60 : zN S 60 < 4096 := by omega
    have h60' : 2 * zN S 60 ≤ 4096 := by
      rw [h5] at h60 ⊢
      have e12 : e < 12 := by
        refine Classical.byContradiction fun r => ?_
        have : 2 ^ 12 ≤ 2 ^ e := Nat.pow_le_pow_right (by decide) (by omega)
        omega
      have : 2 ^ (e + 1) ≤ 2 ^ 12 := Nat.pow_le_pow_right (by decide) (by omega)
      rw [Nat.pow_succ] at this
      omega
    have g60 : zN (pGr S) 60 = 2 * zN S 60 := by unfold pGr; rw [fNN (by decide), fNN (by decide), tNM, sNN]
    have g7 : zA (pGr S) 7 0 = nI (4 * k) := h1
    obtain ⟨T, t1, t2, t3, t4, t5, t6, t7, t8, t9⟩ := e_note47 (S := pGr S) (fcI a) (fcI b) (nI l) x g7 (by rw [g60]; exact hpow) (by rw [g60]; exact h60')
    have g61 : zN (pGr S) 61 = zN S 61 + 1 := by unfold pGr; rw [sNN]
    have g62 : zN (pGr S) 62 = zN S 62 + 2 * zN S 60 := by unfold pGr; rw [fNN (by decide), sNN]
    have r_grow : ∀ {R : Type} (K : MM R), (mgrow K).1 S = K.1 (pGr S) := fun K => by
      show (if 0 < zN S 60 ∧ zN S 60 ≤ 4096 then mst pGr pGr_le K else mfail).1 S = _
      rw [if_pos ⟨by omega, h4⟩]; rfl
    refine ⟨T, ?_, t2, t4, t5, t6, t7, fun f hf => ?_, ?_, ⟨t3, by rw [t8, g60]; exact hpow, by rw [t8, g60]; omega, by rw [t8, g60]; exact h60', e + 1, by rw [t8, g60, h5, Nat.pow_succ]; omega⟩, row _ _ (fun j hj => ?_) t9⟩
    · simp only [f_X0_note, r_mrd, r_mbo, ite_f, h1, e4, nI_ge (show zN S 60 < 4 * (k + 1) by omega) (show 4 * (k + 1) < 2 ^ 31 by omega), show ¬ (4096 : Int32) ≤ nI (zN S 60) from nI_ge (b := 4096) h60 (by decide), ↓reduceIte, r_grow, t1]
    · rw [t8]; unfold pGr; rw [fNN hf.2.1, fNN hf.2.2, tNM, fNN hf.1]
    · unfold cst; rw [t8, g60, g61, g62]; omega
    · show (if j < zN S 60 then zM S j else 0) = _
      rw [if_pos (by omega)]
end
def WR (S T : Ss) (a b : Option Nat) (l : Nat) (x : Int32) (k : Nat) : Prop := (∀ f, f ≠ 7 → zA T f = zA S f) ∧ zO T = zO S ∧ zL T = zL S ∧ zP T = zP S ∧ (∀ f, f ≠ 0 ∧ f ≠ 1 ∧ f ≠ 5 → zC T f = zC S f) ∧ (∀ f, f ≠ 60 ∧ f ≠ 61 ∧ f ≠ 62 → zN T f = zN S f) ∧ cst S T ∧ (∀ j, zC T 0 j = zC S 0 j + dd a b l x j) ∧ (∀ p i', i' < 6 → zC T 1 (6 * p + i') = zC S 1 (6 * p + i') + if i' = itS S l then dd a b l x (12 * p + l) else 0) ∧ (∀ p l', p < 18 → l' < 12 → zC T 5 (12 * p + l') = if ¬ x = 0 ∧ l' = l ∧ (a = some p ∨ b = some p) then 0 else zC S 5 (12 * p + l')) ∧ ∃ k', k' ≤ k + 1 ∧ mvA T k' ∧ ∀ p l', p < 28 → l' < 12 → mvS (zM T) k' p l' = mvS (zM S) k p l' + dd a b l x (12 * p + l')
theorem e_write {k : Nat} {a b : Option Nat} {l : Nat} (x : Int32) (hI : ∀ i, i < 6 → zA S 300 i = nI i) (h5 : zA S 500 l = nI l) (h51 : zO S 501 l = some (itS S l)) (h6 : itS S l < 6) (h : mvA S k) (hk : k < 1024) (ha : ∀ p, a = some p → p < 28) (hb : ∀ p, b = some p → p < 28) (hl : l < 12) : ∃ T, (f_X0_write (fcI a) (fcI b) l x).1 S = some ((), T) ∧ WR S T a b l x k := by
  by_cases hx : x = 0
  · subst hx
    refine ⟨S, ?_, fun _ _ => rfl, rfl, rfl, rfl, fun _ _ => rfl, fun _ _ => rfl, cst.rf S, fun j => ?_, fun p i' _ => ?_, fun p l' _ _ => ?_, k, Nat.le_succ _, h, fun p l' _ _ => ?_⟩
    · unfold f_X0_write; rw [r_mrd, if_pos rfl]; rfl
    · rw [dd_z, Int32.add_zero]
    · rw [dd_z]; split <;> rw [Int32.add_zero]
    · rw [if_neg (fun r => r.1 rfl)]
    · rw [dd_z, Int32.add_zero]
  · have l0 : ∀ o : Option Nat, (∀ p, o = some p → p < 28) → ∀ p, o = some p → p * cWd 0 + l < cLn 0 := fun o ho p hp => by
      have := ho p hp; show p * 12 + l < 336; omega
    have l1 : ∀ o : Option Nat, (∀ p, o = some p → p < 28) → ∀ p, o = some p → p * cWd 1 + itS S l < cLn 1 := fun o ho p hp => by
      have := ho p hp; show p * 6 + itS S l < 168; omega
    obtain ⟨S1, e1, c1, d1, a1, o1, q1, p1, m1, n1⟩ := e_add (S := S) (r := 0) (l := l) (o := a) (x := -x) hl (l0 a ha)
    obtain ⟨S2, e2, c2, d2, a2, o2, q2, p2, m2, n2⟩ := e_add (S := S1) (r := 0) (l := l) (o := b) (x := x) hl (l0 b hb)
    obtain ⟨S3, e3, c3, d3, a3, o3, q3, p3, m3, n3⟩ := e_add (S := S2) (r := 1) (l := itS S l) (o := a) (x := -x) h6 (l1 a ha)
    obtain ⟨S4, e4, c4, d4, a4, o4, q4, p4, m4, n4⟩ := e_add (S := S3) (r := 1) (l := itS S l) (o := b) (x := x) h6 (l1 b hb)
    obtain ⟨S5, e5, c5, d5, a5, o5, q5, p5, m5, n5⟩ := e_put5 (S := S4) (l := l) (o := a) hl ha
    obtain ⟨S6, e6, c6, d6, a6, o6, q6, p6, m6, n6⟩ := e_put5 (S := S5) (l := l) (o := b) hl hb
    have A6 : zA S6 = zA S := by rw [a6, a5, a4, a3, a2, a1]
    have N6 : zN S6 = zN S := by rw [n6, n5, n4, n3, n2, n1]
    have M6 : zM S6 = zM S := by rw [m6, m5, m4, m3, m2, m1]
    have O6 : zO S6 = zO S := by rw [o6, o5, o4, o3, o2, o1]
    have L6 : zL S6 = zL S := by rw [q6, q5, q4, q3, q2, q1]
    have P6 : zP S6 = zP S := by rw [p6, p5, p4, p3, p2, p1]
    have h' : mvA S6 k := by unfold mvA; rw [A6, N6]; exact h
    obtain ⟨T, t1, t2, t3, t4, t5, t6, t7, t8, t9, t10⟩ := e_note (x := x) h' hk ha hb hl
    have A2 : zA S2 = zA S := by rw [a2, a1]
    have A3 : zA S3 = zA S := by rw [a3, A2]
    have A4 : zA S4 = zA S := by rw [a4, A3]
    have A5 : zA S5 = zA S := by rw [a5, A4]
    have O2 : zO S2 = zO S := by rw [o2, o1]
    have O3 : zO S3 = zO S := by rw [o3, O2]
    refine ⟨T, ?_, fun f hf => by rw [t2 f hf, A6], by rw [t3, O6], by rw [t4, L6], by rw [t5, P6], fun f hf => ?_, fun f hf => by rw [t7 f hf, N6], ?_, fun j => ?_, fun p i' hi' => ?_, fun p l' hp hl' => ?_, k + 1, Nat.le_refl _, t9, fun p l' hp hl' => by rw [t10 p l' hp hl', M6]⟩
    · have h30 : zA S 300 (itS S l) = nI (itS S l) := hI _ h6
      simp only [f_X0_write, r_mrd, ite_f, if_neg hx, r_madd, h5, e1, a1, e2, r_mbo, O2, h51, r_mopt, A2, h30, e3, A3, O3, e4, r_mput, A4, e5, A5, e6, A6, r_mb, t1, bnd_s, r_mret]
    · rw [t6, d6 f hf.2.2, d5 f hf.2.2, d4 f hf.2.1, d3 f hf.2.1, d2 f hf.1, d1 f hf.1]
    · have : cst S6 T := t8
      unfold cst at this ⊢
      rw [N6] at this; exact this
    · rw [t6, d6 0 (by decide), d5 0 (by decide), d4 0 (by decide), d3 0 (by decide), c2, c1]
      show _ = _ + (dl 12 a l j (-x) + dl 12 b l j x)
      rw [Int32.add_assoc]; rfl
    · rw [t6, d6 1 (by decide), d5 1 (by decide), c4, c3, d2 1 (by decide), d1 1 (by decide)]
      show _ + dl 6 a (itS S l) (6 * p + i') (-x) + dl 6 b (itS S l) (6 * p + i') x = _
      rw [dl_6 h6 hi', dl_6 h6 hi', Int32.add_assoc]
      unfold dd
      split
      · rfl
      · rfl
    · rw [t6, c6 p l' hp hl', c5 p l' hp hl', d4 5 (by decide), d3 5 (by decide), d2 5 (by decide), d1 5 (by decide)]
      by_cases r1 : l' = l
      · by_cases r2 : b = some p
        · rw [if_pos ⟨r1, r2⟩, if_pos ⟨hx, r1, Or.inr r2⟩]
        · by_cases r3 : a = some p
          · rw [if_neg (fun r => r2 r.2), if_pos ⟨r1, r3⟩, if_pos ⟨hx, r1, Or.inl r3⟩]
          · rw [if_neg (fun r => r2 r.2), if_neg (fun r => r3 r.2), if_neg (fun r => by rcases r.2.2 with r | r; exact r3 r; exact r2 r)]
      · rw [if_neg (fun r => r1 r.1), if_neg (fun r => r1 r.1), if_neg (fun r => r1 r.2.1)]
/-- as many as there are -/
def rl (S : Ss) (a : Option Nat) (l : Nat) (x : Int32) : Int32 := match a with
  | none => x
  | some p => if zC S 2 (12 * p + l) < x then zC S 2 (12 * p + l) else x
def MVD (S T : Ss) (a b : Option Nat) (l : Nat) (x : Int32) (k : Nat) : Prop := (∀ f, f ≠ 7 → zA T f = zA S f) ∧ zO T = zO S ∧ zL T = zL S ∧ zP T = zP S ∧ (∀ f, f ≠ 0 ∧ f ≠ 1 ∧ f ≠ 5 ∧ f ≠ 2 → zC T f = zC S f) ∧ (∀ f, f ≠ 60 ∧ f ≠ 61 ∧ f ≠ 62 → zN T f = zN S f) ∧ cst S T ∧ (∀ j, zC T 0 j = zC S 0 j + dd a b l x j) ∧ (∀ p i', i' < 6 → zC T 1 (6 * p + i') = zC S 1 (6 * p + i') + if i' = itS S l then dd a b l x (12 * p + l) else 0) ∧ (∀ p l', p < 18 → l' < 12 → zC T 5 (12 * p + l') = if ¬ x = 0 ∧ l' = l ∧ (a = some p ∨ b = some p) then 0 else zC S 5 (12 * p + l')) ∧ (∀ j, zC T 2 j = zC S 2 j + dd a b l (rl S a l x) j) ∧ ∃ k', k' ≤ k + 1 ∧ mvA T k' ∧ ∀ p l', p < 28 → l' < 12 → mvS (zM T) k' p l' = mvS (zM S) k p l' + dd a b l x (12 * p + l')
theorem e_move {k : Nat} {a b : Option Nat} {l : Nat} (x : Int32) (hI : ∀ i, i < 6 → zA S 300 i = nI i) (h5 : zA S 500 l = nI l) (h51 : zO S 501 l = some (itS S l)) (h6 : itS S l < 6) (h : mvA S k) (hk : k < 1024) (ha : ∀ p, a = some p → p < 28) (hb : ∀ p, b = some p → p < 28) (hl : l < 12) : ∃ T, (f_X0_move (fcI a) (fcI b) l x).1 S = some ((), T) ∧ MVD S T a b l x k := by
  have l0 : ∀ o : Option Nat, (∀ p, o = some p → p < 28) → ∀ p, o = some p → p * cWd 2 + l < cLn 2 := fun o ho p hp => by
    have := ho p hp; show p * 12 + l < 336; omega
  obtain ⟨S1, e1, c1, d1, a1, o1, q1, p1, m1, n1⟩ := e_add (S := S) (r := 2) (l := l) (o := a) (x := -(rl S a l x)) hl (l0 a ha)
  obtain ⟨S2, e2, c2, d2, a2, o2, q2, p2, m2, n2⟩ := e_add (S := S1) (r := 2) (l := l) (o := b) (x := rl S a l x) hl (l0 b hb)
  have A2 : zA S2 = zA S := by rw [a2, a1]
  have O2 : zO S2 = zO S := by rw [o2, o1]
  have N2 : zN S2 = zN S := by rw [n2, n1]
  have M2 : zM S2 = zM S := by rw [m2, m1]
  have i2 : itS S2 l = itS S l := by unfold itS; rw [O2]
  obtain ⟨T, t1, t2, t3, t4, t5, t6, t7, t8, t9, t10, t11, k', t12, t13, t14⟩ := e_write (S := S2) (k := k) (a := a) (b := b) (l := l) x (by rw [A2]; exact hI) (by rw [A2]; exact h5) (by rw [O2, i2]; exact h51) (by rw [i2]; exact h6) (by unfold mvA; rw [A2, N2]; exact h) hk ha hb hl
  have e27 : (f_X0_move_27 (fcI a) (fcI b) l x (rl S a l x)).1 S = some ((), T) := by
    simp only [f_X0_move_27, r_mrd, r_madd, h5, e1, a1, e2, r_mb, t1, bnd_s, r_mret]
  refine ⟨T, ?_, fun f hf => by rw [t2 f hf, A2], by rw [t3, O2], by rw [t4, q2, q1], by rw [t5, p2, p1], fun f hf => by rw [t6 f ⟨hf.1, hf.2.1, hf.2.2.1⟩, d2 f hf.2.2.2, d1 f hf.2.2.2], fun f hf => by rw [t7 f hf, N2], ?_, fun j => by rw [t9, d2 0 (by decide), d1 0 (by decide)], fun p i' hi' => by rw [t10 p i' hi', d2 1 (by decide), d1 1 (by decide), i2], fun p l' hp hl' => by rw [t11 p l' hp hl', d2 5 (by decide), d1 5 (by decide)], fun j => ?_, k', t12, t13, fun p l' hp hl' => by rw [t14 p l' hp hl', M2]⟩
  · unfold f_X0_move
    rw [r_mrd, ite_f]
    cases a with
    | none =>
      rw [if_pos (show fcI none = -1 from rfl)]; exact e27
    | some p =>
      have hp := ha p rfl
      rw [if_neg (fun r => by have := (fcI_m1 (o := some p) (fun j hj => by cases hj; omega)).mp r; cases this)]
      have e9 : cAt S 2 (nI p) (nI l) = zC S 2 (12 * p + l) := cAt_in (S := S) (r := 2) (p := p) (l := l) hl (show p * 12 + l < 336 by omega)
      rw [r_mbo]
      show (f_X0_move_27 (nI p) (fcI b) l x (if cAt S 2 (nI p) (zA S 500 l) < x then cAt S 2 (nI p) (zA S 500 l) else x)).1 S = _
      rw [h5, e9]; exact e27
  · unfold cst at t8 ⊢
    rw [N2] at t8; exact t8
  · rw [t6 2 (by decide), c2, c1]
    show _ = _ + (dl 12 a l j (-(rl S a l x)) + dl 12 b l j (rl S a l x))
    rw [Int32.add_assoc]; rfl
/-- the reference's book -/
def bkV (w : MS) (p l : Nat) (x : Int32) : MS := if p < 18 ∧ ¬ x = 0 then mSA 21 (12 * p + l) (-1) (mSA 19 (12 * p + l) (mA w 19 (12 * p + l) + x) w) else mSA 19 (12 * p + l) (mA w 19 (12 * p + l) + x) w
theorem bkV_I {p l : Nat} {x : Int32} : mI (bkV w p l x) = mI w := by unfold bkV; split <;> rfl
theorem bkV_A {p l : Nat} {x : Int32} {f : Nat} (h : f ≠ 19 ∧ f ≠ 21) : mA (bkV w p l x) f = mA w f := by
  unfold bkV; split
  · rw [fBA h.2, fBA h.1]
  · rw [fBA h.1]
theorem bkV_19 {p l j : Nat} {x : Int32} : mA (bkV w p l x) 19 j = mA w 19 j + if j = 12 * p + l then x else 0 := by
  have e : mA (bkV w p l x) 19 j = if j = 12 * p + l then mA w 19 (12 * p + l) + x else mA w 19 j := by
    unfold bkV; split
    · rw [fBA (by decide), sBA]
    · rw [sBA]
  rw [e]; split
  · rename_i e2; rw [e2]
  · rw [Int32.add_zero]
theorem bkV_21 {p l j : Nat} {x : Int32} : mA (bkV w p l x) 21 j = if p < 18 ∧ ¬ x = 0 ∧ j = 12 * p + l then -1 else mA w 21 j := by
  unfold bkV
  by_cases q : p < 18 ∧ ¬ x = 0
  · rw [if_pos q, sBA]
    by_cases q2 : j = 12 * p + l
    · rw [if_pos q2, if_pos ⟨q.1, q.2, q2⟩]
    · rw [if_neg q2, if_neg (fun r => q2 r.2.2), fBA (by decide)]
  · rw [if_neg q, if_neg (fun r => q ⟨r.1, r.2.1⟩), fBA (by decide)]
theorem k_books {p l : Nat} (hp : p < 28) (hl : l < 12) (x : Int32) : g_X12_books (nI p) (nI l) x w = some ((), bkV w p l x) := by
  have e12 : (12 : Int32) * nI p + nI l = nI (12 * p + l) := by rw [show (12 : Int32) = nI 12 from rfl, pk_mul, nI_add]
  have j1 : 12 * p + l < mL 19 := show 12 * p + l < 336 by omega
  by_cases q1 : p < 18
  · have j2 : 12 * p + l < mL 21 := show 12 * p + l < 216 by omega
    have n1 : ¬ (18 : Int32) ≤ nI p := nI_ge (b := 18) q1 (by decide)
    by_cases q2 : x = 0
    · simp only [g_X12_books, kif, r_gb, gbn_s, r_grd, r_gbo, r_gret, r_gst, k_isIn, k_isSlot, k_isItem, k_isGroup, k_isRobot, k_are, k_holds0, k_holds1, k_holds2, k_holds3, k_bit, k_less, bI_t, bI_f, i10, i00, i01, i11, i20, i30, ↓reduceIte, e12, r_gnI j1 (show mL 19 < 2 ^ 31 by decide), nI_clamp (show 12 * p + l < 2 ^ 31 by omega), n1, q2]
      unfold bkV
      rw [if_neg (fun r => r.2 rfl)]
    · simp only [g_X12_books, kif, r_gb, gbn_s, r_grd, r_gbo, r_gret, r_gst, k_isIn, k_isSlot, k_isItem, k_isGroup, k_isRobot, k_are, k_holds0, k_holds1, k_holds2, k_holds3, k_bit, k_less, bI_t, bI_f, i10, i00, i01, i11, i20, i30, ↓reduceIte, e12, r_gnI j1 (show mL 19 < 2 ^ 31 by decide), nI_clamp (show 12 * p + l < 2 ^ 31 by omega), n1, q2, r_gnI j2 (show mL 21 < 2 ^ 31 by decide)]
      unfold bkV
      rw [if_pos ⟨q1, q2⟩]
  · have n1 : (18 : Int32) ≤ nI p := nI_le (a := 18) (by omega) (by omega)
    simp only [g_X12_books, kif, r_gb, gbn_s, r_grd, r_gbo, r_gret, r_gst, k_isIn, k_isSlot, k_isItem, k_isGroup, k_isRobot, k_are, k_holds0, k_holds1, k_holds2, k_holds3, k_bit, k_less, bI_t, bI_f, i10, i00, i01, i11, i20, i30, ↓reduceIte, e12, r_gnI j1 (show mL 19 < 2 ^ 31 by decide), nI_clamp (show 12 * p + l < 2 ^ 31 by omega), n1]
    unfold bkV
    rw [if_neg (fun r => q1 r.1)]
end
section
variable {B k : Nat} {S T : Ss} {w v : MS}
/-- the book's group, when d is added to it at lot l -/
theorem bk_of (h : Rel B k S w) {l : Nat} {d : Nat → Int32} (hl : l < zN S 5) (h0 : ∀ j, j < 336 → zC T 0 j = zC S 0 j + d j) (h1 : ∀ p i', i' < 6 → zC T 1 (6 * p + i') = zC S 1 (6 * p + i') + if i' = itS S l then d (12 * p + l) else 0) (hd : ∀ p l', l' < 12 → l' ≠ l → d (12 * p + l') = 0) (hw : ∀ j, j < 336 → mA v 19 j = mA w 19 j + d j) (hN : zN T 5 = zN S 5) (hO : zO T 501 = zO S 501) : g_bk T v := by
  obtain ⟨b1, b2, b3⟩ := h.bk
  have h12 := h.lo.1
  have hi : ∀ x, itS T x = itS S x := fun x => by unfold itS; rw [hO]
  unfold g_bk
  rw [hN]
  refine ⟨fun j hj => by rw [h0 j hj, hw j hj, b1 j hj], fun p i hp hi6 => ?_, fun p x hp h1 h2 => ?_⟩
  · rw [h1 p i hi6, b2 p i hp hi6]
    have e : (if i = itS S l then d (12 * p + l) else 0) = sm (List.range (zN S 5)) (fun x => if l = x then (if itS S x = i then d (12 * p + x) else 0) else 0) := by
      rw [sm_one (f := fun x => if itS S x = i then d (12 * p + x) else 0) _ hl]
      by_cases q : i = itS S l
      · rw [if_pos q, if_pos q.symm]
      · rw [if_neg q, if_neg (fun r => q r.symm)]
    rw [e, ← sm_add]
    refine sm_cg _ fun x hx => ?_
    have := List.mem_range.mp hx
    rw [hi]
    by_cases q1 : itS S x = i
    · rw [if_pos q1, if_pos q1, if_pos q1, h0 _ (by omega)]
      by_cases q2 : l = x
      · rw [if_pos q2]
      · rw [if_neg q2, hd p x (by omega) (fun r => q2 r.symm)]
    · rw [if_neg q1, if_neg q1, if_neg q1]; split <;> rw [Int32.add_zero]
  · rw [h0 _ (by omega), b3 p x hp h1 h2, hd p x h2 (by omega)]; rfl
theorem db_of (h : Rel B k S w) {l : Nat} {P : Nat → Prop} (h5 : ∀ p l', p < 18 → l' < 12 → (P p ∧ l' = l → zC T 5 (12 * p + l') = 0 ∧ mA v 21 (12 * p + l') = -1) ∧ (¬ (P p ∧ l' = l) → zC T 5 (12 * p + l') = zC S 5 (12 * p + l') ∧ mA v 21 (12 * p + l') = mA w 21 (12 * p + l'))) : g_db T v := by
  intro j hj
  obtain ⟨p, l', e, h1, h2⟩ : ∃ p l', j = 12 * p + l' ∧ p < 18 ∧ l' < 12 := ⟨j / 12, j % 12, by omega, by omega, by omega⟩
  subst e
  obtain ⟨a1, a2⟩ := h5 p l' h1 h2
  by_cases q : P p ∧ l' = l
  · rw [(a1 q).1, (a1 q).2]; rfl
  · rw [(a2 q).1, (a2 q).2]; exact h.db _ hj
theorem mv_of (h : Rel B k S w) {k' : Nat} {d : Nat → Int32} (hk : k' ≤ 1024) (ha : mvA T k') (hm : ∀ p l', p < 28 → l' < 12 → mvS (zM T) k' p l' = mvS (zM S) k p l' + d (12 * p + l')) (h0 : ∀ j, j < 336 → zC T 0 j = zC S 0 j + d j) : g_mv T k' := by
  obtain ⟨a1, a2, a3, a4, a5⟩ := ha
  refine ⟨hk, a1, a2, a3, a4, a5, fun p l hp hl => ?_⟩
  rw [hm p l hp hl, h0 _ (by omega), h.mv.2.2.2.2.2.2 p l hp hl]
theorem Rel.mvAr (h : Rel B k S w) : mvA S k := ⟨h.mv.2.1, h.mv.2.2.1, h.mv.2.2.2.1, h.mv.2.2.2.2.1, h.mv.2.2.2.2.2.1⟩
end
