/-! the book: writing, moving -/
/-- what is added at j, when v goes into place o of lot l -/
def dl (W : Nat) (o : Option Nat) (l j : Nat) (v : Int32) : Int32 := match o with
  | none => 0
  | some p => if j = W * p + l then v else 0
def dd (a b : Option Nat) (l : Nat) (v : Int32) (j : Nat) : Int32 := dl 12 a l j (-v) + dl 12 b l j v
theorem dl_z (W : Nat) (o : Option Nat) (l j : Nat) : dl W o l j 0 = 0 := by
  cases o with
  | none => rfl
  | some p => show (if _ then (0 : Int32) else 0) = 0; split <;> rfl
theorem dd_z (a b : Option Nat) (l j : Nat) : dd a b l 0 j = 0 := by
  unfold dd
  rw [show -(0 : Int32) = 0 by decide, dl_z, dl_z]; rfl
theorem dl_ne {o : Option Nat} {l p l' : Nat} {v : Int32} (hl : l < 12) (hl' : l' < 12) (h : l' ≠ l) : dl 12 o l (12 * p + l') v = 0 := by
  cases o with
  | none => rfl
  | some q => exact if_neg (by omega)
theorem dl_eq {o : Option Nat} {l p : Nat} {v : Int32} : dl 12 o l (12 * p + l) v = if o = some p then v else 0 := by
  cases o with
  | none => rfl
  | some q =>
    show (if _ then v else 0) = _
    by_cases e : q = p
    · subst e; rw [if_pos rfl, if_pos rfl]
    · rw [if_neg (by omega), if_neg (fun r => e (Option.some.inj r))]
theorem dl_6 {o : Option Nat} {l p i i' : Nat} {v : Int32} (hi : i < 6) (hi' : i' < 6) : dl 6 o i (6 * p + i') v = if i' = i then dl 12 o l (12 * p + l) v else 0 := by
  cases o with
  | none => split <;> rfl
  | some q =>
    rw [dl_eq]
    show (if _ then v else 0) = _
    by_cases e : i' = i
    · subst e
      rw [if_pos rfl]
      by_cases e2 : q = p
      · rw [if_pos (by omega), if_pos (by rw [e2])]
      · rw [if_neg (by omega), if_neg (fun r => e2 (Option.some.inj r))]
    · rw [if_neg e, if_neg (by omega)]
theorem fcI_n {N : Nat} {o : Option Nat} {p : Nat} (hN : N ≤ 1000) (ho : ∀ j, o = some j → j < N) (hp : p < N) : fcI o = nI p ↔ o = some p := by
  cases o with
  | none =>
    refine ⟨fun q => ?_, fun q => by cases q⟩
    have h : ∀ p, p < 1000 → ¬ (-1 : Int32) = nI p := by decide +kernel
    exact absurd q (h p (by omega))
  | some j =>
    have hj := ho j rfl
    show nI j = nI p ↔ _
    rw [nI_eq (by omega) (by omega), Option.some.injEq]
theorem fcI_m1 {o : Option Nat} (ho : ∀ j, o = some j → j < 1000) : fcI o = -1 ↔ o = none := by
  cases o with
  | none => exact ⟨fun _ => rfl, fun _ => rfl⟩
  | some j =>
    refine ⟨fun q => ?_, fun q => by cases q⟩
    have h : ∀ p, p < 1000 → ¬ nI p = (-1 : Int32) := by decide +kernel
    exact absurd q (h j (ho j rfl))
section
variable {S T : Ss} {w v : MS}
/-- adding in a table at a place that may be none -/
theorem e_add {r l : Nat} {o : Option Nat} {x : Int32} (hl : l < cWd r) (ho : ∀ p, o = some p → p * cWd r + l < cLn r) : ∃ T, cAdd r (fcI o) (nI l) x S = T ∧ (∀ j, zC T r j = zC S r j + dl (cWd r) o l j x) ∧ (∀ f, f ≠ r → zC T f = zC S f) ∧ zA T = zA S ∧ zO T = zO S ∧ zL T = zL S ∧ zP T = zP S ∧ zM T = zM S ∧ zN T = zN S := by
  cases o with
  | none =>
    refine ⟨S, (cNone hl).1, fun j => ?_, fun _ _ => rfl, rfl, rfl, rfl, rfl, rfl, rfl⟩
    show _ = _ + (0 : Int32)
    rw [Int32.add_zero]
  | some p =>
    refine ⟨_, cAdd_in hl (ho p rfl), fun j => ?_, fun f hf => fCC hf, rfl, rfl, rfl, rfl, rfl, rfl⟩
    rw [sCC]
    show _ = _ + (if j = cWd r * p + l then x else 0)
    split
    · rename_i e; rw [e]
    · rw [Int32.add_zero]
theorem e_put5 {l : Nat} {o : Option Nat} (hl : l < 12) (ho : ∀ p, o = some p → p < 28) : ∃ T, cPut 5 (fcI o) (nI l) 0 S = T ∧ (∀ p l', p < 18 → l' < 12 → zC T 5 (12 * p + l') = if l' = l ∧ o = some p then 0 else zC S 5 (12 * p + l')) ∧ (∀ f, f ≠ 5 → zC T f = zC S f) ∧ zA T = zA S ∧ zO T = zO S ∧ zL T = zL S ∧ zP T = zP S ∧ zM T = zM S ∧ zN T = zN S := by
  cases o with
  | none =>
    refine ⟨S, (cNone (r := 5) hl).2, fun p l' _ _ => by rw [if_neg (fun r => by cases r.2)], fun _ _ => rfl, rfl, rfl, rfl, rfl, rfl, rfl⟩
  | some q =>
    by_cases hq : q < 18
    · refine ⟨_, cPut_in (r := 5) (p := q) (l := l) hl (show q * 12 + l < 216 by omega), fun p l' hp hl' => ?_, fun f hf => fCC hf, rfl, rfl, rfl, rfl, rfl, rfl⟩
      rw [sCC]
      show (if 12 * p + l' = 12 * q + l then (0 : Int32) else _) = _
      by_cases e : l' = l ∧ q = p
      · rw [if_pos (by omega), if_pos ⟨e.1, by rw [e.2]⟩]
      · rw [if_neg (by omega), if_neg (fun r => e ⟨r.1, Option.some.inj r.2⟩)]
    · refine ⟨S, (cOut (r := 5) (p := q) (l := l) hl (show 216 ≤ q * 12 by omega) (by have := ho q rfl; omega)).2, fun p l' hp _ => ?_, fun _ _ => rfl, rfl, rfl, rfl, rfl, rfl, rfl⟩
      rw [if_neg (fun r => by have := Option.some.inj r.2; omega)]
/-- what is written behind the moves -/
def mvA (S : Ss) (k : Nat) : Prop := zA S 7 0 = nI (4 * k) ∧ 4 * k ≤ zN S 60 ∧ 128 ≤ zN S 60 ∧ zN S 60 ≤ 4096 ∧ ∃ e, zN S 60 = 2 ^ e
def cst (S T : Ss) : Prop := zN S 60 ≤ zN T 60 ∧ zN T 61 + zN S 60 ≤ zN S 61 + zN T 60 ∧ zN T 62 + 2 * zN S 60 ≤ zN S 62 + 2 * zN T 60
theorem cst.rf (S : Ss) : cst S S := ⟨Nat.le_refl _, Nat.le_refl _, Nat.le_refl _⟩
theorem cst.tr {S T U : Ss} (h : cst S T) (g : cst T U) : cst S U := by
  obtain ⟨a1, a2, a3⟩ := h
  obtain ⟨b1, b2, b3⟩ := g
  exact ⟨by omega, by omega, by omega⟩
theorem e_note47 {k : Nat} (x1 x2 x3 x4 : Int32) (h1 : zA S 7 0 = nI (4 * k)) (h2 : 4 * (k + 1) ≤ zN S 60) (h3 : zN S 60 ≤ 4096) : ∃ T, (f_X0_note_47 x1 x2 x3 x4 (nI (4 * (k + 1)))).1 S = some ((), T) ∧ (∀ f, f ≠ 7 → zA T f = zA S f) ∧ zA T 7 0 = nI (4 * (k + 1)) ∧ zO T = zO S ∧ zL T = zL S ∧ zP T = zP S ∧ zC T = zC S ∧ zN T = zN S ∧ zM T = u1 (4 * k + 3) x4 (u1 (4 * k + 2) x3 (u1 (4 * k + 1) x2 (u1 (4 * k) x1 (zM S)))) := by
  refine ⟨pA 7 0 (nI (4 * (k + 1))) (pM (u1 (4 * k + 3) x4 (u1 (4 * k + 2) x3 (u1 (4 * k + 1) x2 (u1 (4 * k) x1 (zM S))))) S), ?_, fun f hf => by rw [fAA hf, tAM], by rw [sAA, if_pos rfl], rfl, rfl, rfl, rfl, rfl, rfl⟩
  have e1 : nI (4 * k) + 1 = nI (4 * k + 1) := nI_1 _
  have e2 : nI (4 * k) + 2 = nI (4 * k + 2) := by rw [show (2 : Int32) = nI 2 from rfl, nI_add]
  have e3 : nI (4 * k) + 3 = nI (4 * k + 3) := by rw [show (3 : Int32) = nI 3 from rfl, nI_add]
  have r_wM : ∀ {R : Type} (x v : Int32) (K : MM R) (S : Ss), (wM x v K).1 S = K.1 (pM (u1 x.toNatClampNeg v (zM S)) S) := fun x v K S => rfl
  simp only [f_X0_note_47, r_mrd, ite_f, h1, if_neg (nI_pos (show 4 * k < 2 ^ 31 by omega)), nI_nlt h2 (show zN S 60 < 2 ^ 31 by omega), ↓reduceIte, r_wM, tAM, tNM, sMM, e1, e2, e3, r_mnI (show 4 * k < zN S 60 by omega) (show zN S 60 < 2 ^ 31 by omega), r_mnI (show 4 * k + 1 < zN S 60 by omega) (show zN S 60 < 2 ^ 31 by omega), r_mnI (show 4 * k + 2 < zN S 60 by omega) (show zN S 60 < 2 ^ 31 by omega), r_mnI (show 4 * k + 3 < zN S 60 by omega) (show zN S 60 < 2 ^ 31 by omega), nI_clamp (show 4 * k < 2 ^ 31 by omega), nI_clamp (show 4 * k + 1 < 2 ^ 31 by omega), nI_clamp (show 4 * k + 2 < 2 ^ 31 by omega), nI_clamp (show 4 * k + 3 < 2 ^ 31 by omega), r_wA, r_mret]
  rfl
theorem mv_row {M M' : Nat → Int32} {k : Nat} {a b : Option Nat} {l : Nat} {x : Int32} (hM : ∀ j, j < 4 * k → M' j = M j) (h0 : M' (4 * k) = fcI a) (h1 : M' (4 * k + 1) = fcI b) (h2 : M' (4 * k + 2) = nI l) (h3 : M' (4 * k + 3) = x) (ha : ∀ p, a = some p → p < 28) (hb : ∀ p, b = some p → p < 28) (hl : l < 12) {p l' : Nat} (hp : p < 28) (hl' : l' < 12) : mvS M' (k + 1) p l' = mvS M k p l' + dd a b l x (12 * p + l') := by
  unfold mvS
  rw [List.range_succ, sm_app]
  congr 1
  · refine sm_cg _ fun j hj => ?_
    have := List.mem_range.mp hj
    rw [hM _ (by omega), hM _ (by omega), hM _ (by omega), hM _ (by omega)]
  · rw [h0, h1, h2, h3]
    unfold dd
    by_cases e : l' = l
    · subst e
      rw [if_pos rfl, dl_eq, dl_eq, Int32.sub_eq_add_neg, Int32.add_comm]
      congr 1
      · by_cases q : a = some p
        · rw [if_pos q, if_pos ((fcI_n (by decide) ha hp).mpr q)]
        · rw [if_neg q, if_neg (fun r => q ((fcI_n (by decide) ha hp).mp r))]; rfl
      · by_cases q : b = some p
        · rw [if_pos q, if_pos ((fcI_n (by decide) hb hp).mpr q)]
        · rw [if_neg q, if_neg (fun r => q ((fcI_n (by decide) hb hp).mp r))]
    · rw [if_neg (fun r => e ((nI_eq (by omega) (by omega)).mp r).symm), dl_ne hl hl' e, dl_ne hl hl' e]; rfl
theorem e_note {k : Nat} {a b : Option Nat} {l : Nat} {x : Int32} (h : mvA S k) (hk : k < 1024) (ha : ∀ p, a = some p → p < 28) (hb : ∀ p, b = some p → p < 28) (hl : l < 12) : ∃ T, (f_X0_note (fcI a) (fcI b) (nI l) x).1 S = some ((), T) ∧ (∀ f, f ≠ 7 → zA T f = zA S f) ∧ zO T = zO S ∧ zL T = zL S ∧ zP T = zP S ∧ zC T = zC S ∧ (∀ f, f ≠ 60 ∧ f ≠ 61 ∧ f ≠ 62 → zN T f = zN S f) ∧ cst S T ∧ mvA T (k + 1) ∧ ∀ p l', p < 28 → l' < 12 → mvS (zM T) (k + 1) p l' = mvS (zM S) k p l' + dd a b l x (12 * p + l') := by
  obtain ⟨h1, h2, h3, h4, e, h5⟩ := h
  have e4 : nI (4 * k) + 4 = nI (4 * (k + 1)) := by rw [show (4 : Int32) = nI 4 from rfl, nI_add]; congr 1
  have row : ∀ M M' : Nat → Int32, (∀ j, j < 4 * k → M j = zM S j) → M' = u1 (4 * k + 3) x (u1 (4 * k + 2) (nI l) (u1 (4 * k + 1) (fcI b) (u1 (4 * k) (fcI a) M))) → ∀ p l', p < 28 → l' < 12 → mvS M' (k + 1) p l' = mvS (zM S) k p l' + dd a b l x (12 * p + l') := fun M M' hM e p l' hp hl' => by
    refine mv_row (fun j hj => ?_) ?_ ?_ ?_ ?_ ha hb hl hp hl'
    · rw [e, u1_at, if_neg (by omega), u1_at, if_neg (by omega), u1_at, if_neg (by omega), u1_at, if_neg (by omega), hM j hj]
    · rw [e, u1_at, if_neg (by omega), u1_at, if_neg (by omega), u1_at, if_neg (by omega), u1_at, if_pos rfl]
    · rw [e, u1_at, if_neg (by omega), u1_at, if_neg (by omega), u1_at, if_pos rfl]
    · rw [e, u1_at, if_neg (by omega), u1_at, if_pos rfl]
    · rw [e, u1_at, if_pos rfl]
  by_cases q : 4 * (k + 1) ≤ zN S 60
  · obtain ⟨T, t1, t2, t3, t4, t5, t6, t7, t8, t9⟩ := e_note47 (S := S) (fcI a) (fcI b) (nI l) x h1 q h4
    refine ⟨T, ?_, t2, t4, t5, t6, t7, fun f _ => by rw [t8], ?_, ⟨t3, by rw [t8]; exact q, by rw [t8]; exact h3, by rw [t8]; exact h4, e, by rw [t8]; exact h5⟩, row _ _ (fun _ _ => rfl) t9⟩
    · simp only [f_X0_note, r_mrd, r_mbo, ite_f, h1, e4, nI_le q (show zN S 60 < 2 ^ 31 by omega), ↓reduceIte, t1]
    · unfold cst; rw [t8]; exact ⟨Nat.le_refl _, Nat.le_refl _, Nat.le_refl _⟩
  · have hpow : 4 * (k + 1) ≤ 2 * zN S 60 := by omega
    have h60 : zN S 60 < 4096 := by omega
    have h60' : 2 * zN S 60 ≤ 4096 := by
      rw [h5] at h60 ⊢
      have e12 : e < 12 := by
        refine Classical.byContradiction fun r => ?_
        have : 2 ^ 12 ≤ 2 ^ e := Nat.pow_le_pow_right (by decide) (by omega)
        omega
      have : 2 ^ (e + 1) ≤ 2 ^ 12 := Nat.pow_le_pow_right (by decide) (by omega)
      rw [Nat.pow_succ] at this
      omega
    have g60 : zN (pGr S) 60 = 2 * zN S 60 := by unfold pGr; rw [fNN (by decide), fNN (by decide), tNM, sNN]
    have g7 : zA (pGr S) 7 0 = nI (4 * k) := h1
    obtain ⟨T, t1, t2, t3, t4, t5, t6, t7, t8, t9⟩ := e_note47 (S := pGr S) (fcI a) (fcI b) (nI l) x g7 (by rw [g60]; exact hpow) (by rw [g60]; exact h60')
    have g61 : zN (pGr S) 61 = zN S 61 + 1 := by unfold pGr; rw [sNN]
    have g62 : zN (pGr S) 62 = zN S 62 + 2 * zN S 60 := by unfold pGr; rw [fNN (by decide), sNN]
    have r_grow : ∀ {R : Type} (K : MM R), (mgrow K).1 S = K.1 (pGr S) := fun K => by
      show (if 0 < zN S 60 ∧ zN S 60 ≤ 4096 then mst pGr pGr_le K else mfail).1 S = _
      rw [if_pos ⟨by omega, h4⟩]; rfl
    refine ⟨T, ?_, t2, t4, t5, t6, t7, fun f hf => ?_, ?_, ⟨t3, by rw [t8, g60]; exact hpow, by rw [t8, g60]; omega, by rw [t8, g60]; exact h60', e + 1, by rw [t8, g60, h5, Nat.pow_succ]; omega⟩, row _ _ (fun j hj => ?_) t9⟩
    · simp only [f_X0_note, r_mrd, r_mbo, ite_f, h1, e4, nI_ge (show zN S 60 < 4 * (k + 1) by omega) (show 4 * (k + 1) < 2 ^ 31 by omega), show ¬ (4096 : Int32) ≤ nI (zN S 60) from nI_ge (b := 4096) h60 (by decide), ↓reduceIte, r_grow, t1]
    · rw [t8]; unfold pGr; rw [fNN hf.2.1, fNN hf.2.2, tNM, fNN hf.1]
    · unfold cst; rw [t8, g60, g61, g62]; omega
    · show (if j < zN S 60 then zM S j else 0) = _
      rw [if_pos (by omega)]
end
