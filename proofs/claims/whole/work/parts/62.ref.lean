/-! what is held: the reference's side -/
section
variable {S T : Ss} {w v u : MS}
/-- a row of the reference's holdings -/
def RR (S : Ss) (w : MS) (k x : Nat) (y : Int32) : Prop := (∀ t, zO S 205 x = some t → t < 60) ∧ ∃ o j l, zO S 200 x = some o ∧ zO S 201 x = some j ∧ zO S 203 x = some l ∧ mA w 40 k = nI (lqS S o j) ∧ mA w 41 k = zA S 202 x ∧ mA w 42 k = nI l ∧ mA w 43 k = y ∧ mA w 44 k = fcI (zO S 205 x)
def RW (S : Ss) (w : MS) (M : List Nat) (f : Nat → Int32) : Prop := mI w 39 = nI M.length ∧ M.length ≤ 2400 ∧ M.Nodup ∧ ∀ k x, M[k]? = some x → RR S w k x (f x)
/-- the reference's rows of tasks -/
def RB (w : MS) (R : Nat → List Nat) : Prop := ∀ r, r < 3 → mA w 59 r = nI (R r).length ∧ (R r).length ≤ 60 ∧ (∀ t, t ∈ R r → t < 60) ∧ ∀ k t, (R r)[k]? = some t → mA w 58 (60 * r + k) = nI t
/-- what the reference's changing of what is held leaves as it is -/
def VF (w v : MS) : Prop := (∀ k, k ≠ 39 → mI v k = mI w k) ∧ ∀ k, k ≠ 40 ∧ k ≠ 41 ∧ k ≠ 42 ∧ k ≠ 43 ∧ k ≠ 44 ∧ k ≠ 51 ∧ k ≠ 52 ∧ k ≠ 58 ∧ k ≠ 59 → mA v k = mA w k
theorem VF.rf (w : MS) : VF w w := ⟨fun _ _ => rfl, fun _ _ => rfl⟩
theorem VF.tr (h : VF w v) (g : VF v u) : VF w u := ⟨fun k hk => (g.1 k hk).trans (h.1 k hk), fun k hk => (g.2 k hk).trans (h.2 k hk)⟩
theorem RW.cg {M : List Nat} {f g : Nat → Int32} (h : RW S w M f) (e : ∀ x, x ∈ M → f x = g x) : RW S w M g := ⟨h.1, h.2.1, h.2.2.1, fun k x hx => by rw [← e x (List.mem_of_getElem? hx)]; exact h.2.2.2 k x hx⟩
theorem RB.cg {R Q : Nat → List Nat} (h : RB w R) (e : ∀ r, r < 3 → R r = Q r) : RB w Q := fun r hr => by rw [← e r hr]; exact h r hr
theorem RR.wr {k x : Nat} {y : Int32} (h : RR S w k x y) (h0 : mA v 40 = mA w 40) (h1 : mA v 41 = mA w 41) (h2 : mA v 42 = mA w 42) (h3 : mA v 43 = mA w 43) (h4 : mA v 44 = mA w 44) : RR S v k x y := by
  unfold RR at h ⊢; rw [h0, h1, h2, h3, h4]; exact h
theorem RW.wr {M : List Nat} {f : Nat → Int32} (h : RW S w M f) (hi : mI v 39 = mI w 39) (h0 : mA v 40 = mA w 40) (h1 : mA v 41 = mA w 41) (h2 : mA v 42 = mA w 42) (h3 : mA v 43 = mA w 43) (h4 : mA v 44 = mA w 44) : RW S v M f := ⟨hi.trans h.1, h.2.1, h.2.2.1, fun k x hx => (h.2.2.2 k x hx).wr h0 h1 h2 h3 h4⟩
theorem RB.wr {R : Nat → List Nat} (h : RB w R) (h8 : mA v 58 = mA w 58) (h9 : mA v 59 = mA w 59) : RB v R := by unfold RB at h ⊢; rw [h8, h9]; exact h
theorem fil_take {α : Type} (p : α → Bool) (xs : List α) (i : Nat) (x : α) (h : xs[i]? = some x) : (xs.take (i + 1)).filter p = (xs.take i).filter p ++ if p x = true then [x] else [] := by
  have e : xs.take (i + 1) = xs.take i ++ [x] := by rw [List.take_add_one, h]; rfl
  rw [e, List.filter_append]
  congr 1
  cases hp : p x with
  | true => rw [List.filter_cons_of_pos hp]; rfl
  | false => rw [List.filter_cons_of_neg (by simp [hp])]; rfl
theorem get_app1 {α : Type} {xs : List α} {x y : α} {k : Nat} (h : (xs ++ [x])[k]? = some y) : (xs[k]? = some y ∧ k < xs.length) ∨ (k = xs.length ∧ y = x) := by
  by_cases e : k < xs.length
  · rw [List.getElem?_append_left e] at h; exact Or.inl ⟨h, e⟩
  · rw [List.getElem?_append_right (by omega)] at h
    have e3 : k - xs.length = 0 := by
      refine Classical.byContradiction fun r => ?_
      rw [List.getElem?_eq_none (by simp; omega)] at h; cases h
    rw [e3] at h
    exact Or.inr ⟨by omega, (Option.some.inj h).symm⟩
/-- holdings without pieces are no more -/
theorem k_tidies {M : List Nat} {f : Nat → Int32} (h : RW S w M f) : ∃ v, g_X12_tidies w = some ((), v) ∧ RW S v (M.filter fun x => decide (0 < f x)) f ∧ (∀ k, k ≠ 39 → mI v k = mI w k) ∧ ∀ k, k ≠ 40 ∧ k ≠ 41 ∧ k ≠ 42 ∧ k ≠ 43 ∧ k ≠ 44 → mA v k = mA w k := by
  obtain ⟨h1, h2, h3, h4⟩ := h
  obtain ⟨v, a, ⟨i1, i2, i3, i4, i5⟩, e⟩ := g_loop (α := Int32) (fun f a j => g_X12_tidies_4 f a j) M.length (fun i v a => a = nI ((M.take i).filter fun x => decide (0 < f x)).length ∧ (∀ k x, ((M.take i).filter fun x => decide (0 < f x))[k]? = some x → RR S v k x (f x)) ∧ (∀ k x, i ≤ k → M[k]? = some x → RR S v k x (f x)) ∧ mI v = mI w ∧ ∀ k, k ≠ 40 ∧ k ≠ 41 ∧ k ≠ 42 ∧ k ≠ 43 ∧ k ≠ 44 → mA v k = mA w k) (fun a v => some ((), mSI 39 a v)) (fun g i v a hi hI => by
    obtain ⟨i1, i2, i3, i4, i5⟩ := hI
    have hx : M[i]? = some (M[i]'hi) := List.getElem?_eq_getElem hi
    generalize M[i]'hi = X at hx
    have hft := fil_take (fun x => decide (0 < f x)) M i X hx
    have hr := i3 i X (Nat.le_refl _) hx
    have hr' := hr
    obtain ⟨r0, o, j, l, r1, r2, r3, r4, r5, r6, r7, r8⟩ := hr
    have hnl : ((M.take i).filter fun x => decide (0 < f x)).length ≤ i := by
      have := List.length_filter_le (fun x => decide (0 < f x)) (M.take i)
      rw [List.length_take] at this; omega
    have c39 : mI v 39 = nI M.length := by rw [i4]; exact h1
    by_cases q : 0 < f X
    · have q' : ¬ f X ≤ 0 := fun r => by have := I_le.mp r; have := I_lt.mp q; omega
      obtain ⟨n, hn⟩ : ∃ n, n = ((M.take i).filter fun x => decide (0 < f x)).length := ⟨_, rfl⟩
      rw [← hn] at hnl i1
      have g5 : ∀ k, k = 40 ∨ k = 41 ∨ k = 42 ∨ k = 43 ∨ k = 44 → ∀ j, j ≤ i → j < mL k := fun k hk j hj => by
        have : mL k = 2400 := by rcases hk with e | e | e | e | e <;> (rw [e]; rfl)
        omega
      refine ⟨mSA 44 n (mA v 44 i) (mSA 43 n (mA v 43 i) (mSA 42 n (mA v 42 i) (mSA 41 n (mA v 41 i) (mSA 40 n (mA v 40 i) v)))), nI (n + 1), ?_, ?_, fun k x hk => ?_, fun k x hk hkx => ?_, i4, fun k hk => ?_⟩
      · rw [i1]
        simp only [g_X12_tidies_4, kif, r_gb, gbn_s, r_grd, r_gbo, r_gret, r_gst, k_isIn, k_isSlot, k_isItem, k_isGroup, k_isRobot, k_are, k_holds0, k_holds1, k_holds2, k_holds3, k_bit, k_less, bI_t, bI_f, i10, i00, i01, i11, i20, i30, ↓reduceIte, mI_mSA, mI_mSI, mA_mSI, mA_mSA, Nat.reduceEqDiff, reduceCtorEq, Nat.reduceEqDiff, false_and, true_and, and_true, c39, nI_ge hi (show M.length < 2 ^ 31 by omega), r_gnI (g5 43 (by decide) i (by omega)) (show mL 43 < 2 ^ 31 by decide), r_gnI (g5 40 (by decide) i (by omega)) (show mL 40 < 2 ^ 31 by decide), r_gnI (g5 41 (by decide) i (by omega)) (show mL 41 < 2 ^ 31 by decide), r_gnI (g5 42 (by decide) i (by omega)) (show mL 42 < 2 ^ 31 by decide), r_gnI (g5 44 (by decide) i (by omega)) (show mL 44 < 2 ^ 31 by decide), r_gnI (g5 43 (by decide) n (by omega)) (show mL 43 < 2 ^ 31 by decide), r_gnI (g5 40 (by decide) n (by omega)) (show mL 40 < 2 ^ 31 by decide), r_gnI (g5 41 (by decide) n (by omega)) (show mL 41 < 2 ^ 31 by decide), r_gnI (g5 42 (by decide) n (by omega)) (show mL 42 < 2 ^ 31 by decide), r_gnI (g5 44 (by decide) n (by omega)) (show mL 44 < 2 ^ 31 by decide), nI_clamp (show i < 2 ^ 31 by omega), nI_clamp (show n < 2 ^ 31 by omega), r7, q', nI_1]
      · rw [hft, if_pos (by simp [q]), List.length_append, ← hn]; rfl
      · rw [hft, if_pos (by simp [q])] at hk
        rcases get_app1 hk with ⟨g1, g2⟩ | ⟨g1, g2⟩
        · obtain ⟨s0, o', j', l', s1, s2, s3, s4, s5, s6, s7, s8⟩ := i2 k x g1
          refine ⟨s0, o', j', l', s1, s2, s3, ?_, ?_, ?_, ?_, ?_⟩
          all_goals (simp only [tOA, tLA, tPA, tCA, tMA, tNA, tAO, tLO, tPO, tCO, tMO, tNO, tAL, tOL, tCL, tML, tNL, tAC, tOC, tLC, tPC, tMC, tNC, tAM, tOM, tLM, tPM, tCM, tNM, tAN, tON, tLN, tPN, tCN, tMN, fAA, fOO, fLL, fCC, fPL, fNN, sNN, sMM, fBA, tIB, tBI, fII, sII, sAA, sOO, sLL, sCC, sBA, ne_eq, Nat.reduceEqDiff, not_false_eq_true]; rw [if_neg (by omega)]; assumption)
        · rw [← hn] at g1
          subst g1; subst g2
          refine ⟨r0, o, j, l, r1, r2, r3, ?_, ?_, ?_, ?_, ?_⟩
          all_goals (simp only [tOA, tLA, tPA, tCA, tMA, tNA, tAO, tLO, tPO, tCO, tMO, tNO, tAL, tOL, tCL, tML, tNL, tAC, tOC, tLC, tPC, tMC, tNC, tAM, tOM, tLM, tPM, tCM, tNM, tAN, tON, tLN, tPN, tCN, tMN, fAA, fOO, fLL, fCC, fPL, fNN, sNN, sMM, fBA, tIB, tBI, fII, sII, sAA, sOO, sLL, sCC, sBA, ne_eq, Nat.reduceEqDiff, not_false_eq_true]; rw [if_pos trivial]; assumption)
      · obtain ⟨s0, o', j', l', s1, s2, s3, s4, s5, s6, s7, s8⟩ := i3 k x (by omega) hkx
        refine ⟨s0, o', j', l', s1, s2, s3, ?_, ?_, ?_, ?_, ?_⟩
        all_goals (simp only [tOA, tLA, tPA, tCA, tMA, tNA, tAO, tLO, tPO, tCO, tMO, tNO, tAL, tOL, tCL, tML, tNL, tAC, tOC, tLC, tPC, tMC, tNC, tAM, tOM, tLM, tPM, tCM, tNM, tAN, tON, tLN, tPN, tCN, tMN, fAA, fOO, fLL, fCC, fPL, fNN, sNN, sMM, fBA, tIB, tBI, fII, sII, sAA, sOO, sLL, sCC, sBA, ne_eq, Nat.reduceEqDiff, not_false_eq_true]; rw [if_neg (by omega)]; assumption)
      · rw [fBA hk.2.2.2.2, fBA hk.2.2.2.1, fBA hk.2.2.1, fBA hk.2.1, fBA hk.1]; exact i5 k hk
    · have q' : f X ≤ 0 := I_le.mpr (by have : ¬ _ := fun r => q (I_lt.mpr r); omega)
      refine ⟨v, a, ?_, ?_, fun k x hk => i2 k x ?_, fun k x hk hkx => i3 k x (by omega) hkx, i4, i5⟩
      · simp only [g_X12_tidies_4, kif, r_gb, gbn_s, r_grd, r_gbo, r_gret, r_gst, k_isIn, k_isSlot, k_isItem, k_isGroup, k_isRobot, k_are, k_holds0, k_holds1, k_holds2, k_holds3, k_bit, k_less, bI_t, bI_f, i10, i00, i01, i11, i20, i30, ↓reduceIte, mI_mSA, mI_mSI, mA_mSI, mA_mSA, Nat.reduceEqDiff, reduceCtorEq, Nat.reduceEqDiff, false_and, true_and, and_true, c39, nI_ge hi (show M.length < 2 ^ 31 by omega), r_gnI (show i < mL 43 from show i < 2400 by omega) (show mL 43 < 2 ^ 31 by decide), nI_clamp (show i < 2 ^ 31 by omega), r7, q', nI_1]
      · rw [hft, if_neg (by simp [q]), List.append_nil]; exact i1
      · rw [hft, if_neg (by simp [q]), List.append_nil] at hk; exact hk) (fun g v a hI => by
    have c39 : mI v 39 = nI M.length := by rw [hI.2.2.2.1]; exact h1
    simp only [g_X12_tidies_4, kif, r_gb, gbn_s, r_grd, r_gbo, r_gret, r_gst, k_isIn, k_isSlot, k_isItem, k_isGroup, k_isRobot, k_are, k_holds0, k_holds1, k_holds2, k_holds3, k_bit, k_less, bI_t, bI_f, i10, i00, i01, i11, i20, i30, ↓reduceIte, mI_mSA, mI_mSI, mA_mSI, mA_mSA, Nat.reduceEqDiff, reduceCtorEq, Nat.reduceEqDiff, false_and, true_and, and_true, c39, Int32.le_refl]) FU (FU_gt (by omega)) (w := w) (a := 0) ⟨by rw [List.take_zero]; rfl, fun k x hk => by rw [List.take_zero] at hk; simp at hk, fun k x _ hk => h4 k x hk, rfl, fun _ _ => rfl⟩
  rw [List.take_length] at i1 i2
  refine ⟨_, e, ⟨?_, ?_, h3.sublist List.filter_sublist, fun k x hk => (i2 k x hk).wr rfl rfl rfl rfl rfl⟩, fun k hk => ?_, fun k hk => i5 k hk⟩
  · rw [sII, i1]
  · exact Nat.le_trans (List.length_filter_le ..) h2
  · rw [fII hk, i4]
/-- setting pieces to 0 where something holds -/
theorem RW.set {M : List Nat} {f : Nat → Int32} (h : RW S w M f) {i X : Nat} (hx : M[i]? = some X) (y : Int32) : RW S (mSA 43 i y w) M (fun x => if x = X then y else f x) := by
  obtain ⟨h1, h2, h3, h4⟩ := h
  refine ⟨h1, h2, h3, fun k x hk => ?_⟩
  obtain ⟨s0, o', j', l', s1, s2, s3, s4, s5, s6, s7, s8⟩ := h4 k x hk
  refine ⟨s0, o', j', l', s1, s2, s3, ?_, ?_, ?_, ?_, ?_⟩
  · rw [fBA (by decide)]; exact s4
  · rw [fBA (by decide)]; exact s5
  · rw [fBA (by decide)]; exact s6
  · rw [sBA]
    dsimp only
    by_cases e : k = i
    · subst e
      have : X = x := Option.some.inj (hx.symm.trans hk)
      rw [if_pos rfl, if_pos this.symm]
    · rw [if_neg e, if_neg, s7]
      intro e2
      subst e2
      exact e (nd_inj h3 hk hx)
  · rw [fBA (by decide)]; exact s8
/-- a task leaves its row -/
theorem k_ends72 {R : Nat → List Nat} {r t : Nat} (hr : r < 3) (ht : t < 60) (h : RB w R) : ∃ v, g_X12_ends_72 FU (nI t) (nI r) 0 0 w = some ((), v) ∧ RB v (fun q => if q = r then (R r).filter fun x => decide (x ≠ t) else R q) ∧ mI v = mI w ∧ ∀ k, k ≠ 58 ∧ k ≠ 59 → mA v k = mA w k := by
  obtain ⟨b1, b2, b3, b4⟩ := h r hr
  obtain ⟨v, a, ⟨i1, i2, i3, i4, i5, i6, i7⟩, e⟩ := g_loop (α := Int32) (fun f a j => g_X12_ends_72 f (nI t) (nI r) a j) (R r).length (fun i v a => a = nI (((R r).take i).filter fun x => decide (x ≠ t)).length ∧ (∀ k x, (((R r).take i).filter fun x => decide (x ≠ t))[k]? = some x → mA v 58 (60 * r + k) = nI x) ∧ (∀ k x, i ≤ k → (R r)[k]? = some x → mA v 58 (60 * r + k) = nI x) ∧ (∀ j, j < 60 * r ∨ 60 * r + 60 ≤ j → mA v 58 j = mA w 58 j) ∧ mI v = mI w ∧ mA v 59 = mA w 59 ∧ ∀ k, k ≠ 58 ∧ k ≠ 59 → mA v k = mA w k) (fun a v => some ((), mSA 59 r a v)) (fun g i v a hi hI => by
    obtain ⟨i1, i2, i3, i4, i5, i6, i7⟩ := hI
    have hx : (R r)[i]? = some ((R r)[i]'hi) := List.getElem?_eq_getElem hi
    generalize (R r)[i]'hi = X at hx
    have hX := b3 X (List.mem_of_getElem? hx)
    have hft := fil_take (fun x => decide (x ≠ t)) (R r) i X hx
    have hv := i3 i X (Nat.le_refl _) hx
    have hnl : (((R r).take i).filter fun x => decide (x ≠ t)).length ≤ i := by
      have := List.length_filter_le (fun x => decide (x ≠ t)) ((R r).take i)
      rw [List.length_take] at this; omega
    have c59 : mA v 59 r = nI (R r).length := by rw [i6]; exact b1
    have e60 : ∀ n, (60 : Int32) * nI r + nI n = nI (60 * r + n) := fun n => by rw [show (60 : Int32) = nI 60 from rfl, pk_mul, nI_add]
    have j58 : ∀ n, n ≤ i → 60 * r + n < mL 58 := fun n hn => show 60 * r + n < 180 by omega
    by_cases q : X = t
    · refine ⟨v, a, ?_, ?_, fun k x hk => i2 k x ?_, fun k x hk hkx => i3 k x (by omega) hkx, i4, i5, i6, i7⟩
      · simp only [g_X12_ends_72, kif, r_gb, gbn_s, r_grd, r_gbo, r_gret, r_gst, k_isIn, k_isSlot, k_isItem, k_isGroup, k_isRobot, k_are, k_holds0, k_holds1, k_holds2, k_holds3, k_bit, k_less, bI_t, bI_f, i10, i00, i01, i11, i20, i30, ↓reduceIte, mI_mSA, mI_mSI, mA_mSI, mA_mSA, Nat.reduceEqDiff, reduceCtorEq, Nat.reduceEqDiff, false_and, true_and, and_true, r_gnI (show r < mL 59 from hr) (show mL 59 < 2 ^ 31 by decide), nI_clamp (show r < 2 ^ 31 by omega), c59, nI_ge hi (show (R r).length < 2 ^ 31 by omega), e60, r_gnI (j58 i (by omega)) (show mL 58 < 2 ^ 31 by decide), nI_clamp (show 60 * r + i < 2 ^ 31 by omega), hv, q, nI_1]
      · rw [hft, if_neg (by simp [q]), List.append_nil]; exact i1
      · rw [hft, if_neg (by simp [q]), List.append_nil] at hk; exact hk
    · have q' : ¬ nI X = nI t := fun r => q ((nI_eq (by omega) (by omega)).mp r)
      obtain ⟨n, hn⟩ : ∃ n, n = (((R r).take i).filter fun x => decide (x ≠ t)).length := ⟨_, rfl⟩
      rw [← hn] at hnl i1
      refine ⟨mSA 58 (60 * r + n) (nI X) v, nI (n + 1), ?_, ?_, fun k x hk => ?_, fun k x hk hkx => ?_, fun j hj => ?_, i5, ?_, fun k hk => ?_⟩
      · rw [i1]
        simp only [g_X12_ends_72, kif, r_gb, gbn_s, r_grd, r_gbo, r_gret, r_gst, k_isIn, k_isSlot, k_isItem, k_isGroup, k_isRobot, k_are, k_holds0, k_holds1, k_holds2, k_holds3, k_bit, k_less, bI_t, bI_f, i10, i00, i01, i11, i20, i30, ↓reduceIte, mI_mSA, mI_mSI, mA_mSI, mA_mSA, Nat.reduceEqDiff, reduceCtorEq, Nat.reduceEqDiff, false_and, true_and, and_true, r_gnI (show r < mL 59 from hr) (show mL 59 < 2 ^ 31 by decide), nI_clamp (show r < 2 ^ 31 by omega), c59, nI_ge hi (show (R r).length < 2 ^ 31 by omega), e60, r_gnI (j58 i (by omega)) (show mL 58 < 2 ^ 31 by decide), nI_clamp (show 60 * r + i < 2 ^ 31 by omega), r_gnI (j58 n (by omega)) (show mL 58 < 2 ^ 31 by decide), nI_clamp (show 60 * r + n < 2 ^ 31 by omega), hv, q', nI_1]
      · rw [hft, if_pos (by simp [q]), List.length_append, ← hn]; rfl
      · rw [hft, if_pos (by simp [q])] at hk
        rw [sBA]
        rcases get_app1 hk with ⟨g1, g2⟩ | ⟨g1, g2⟩
        · rw [if_neg (by omega)]; exact i2 k x g1
        · rw [if_pos (by omega), g2]
      · rw [sBA, if_neg (by omega)]; exact i3 k x (by omega) hkx
      · rw [sBA, if_neg (by omega)]; exact i4 j hj
      · rw [fBA (by decide)]; exact i6
      · rw [fBA hk.1]; exact i7 k hk) (fun g v a hI => by
    have c59 : mA v 59 r = nI (R r).length := by rw [hI.2.2.2.2.2.1]; exact b1
    simp only [g_X12_ends_72, kif, r_gb, gbn_s, r_grd, r_gbo, r_gret, r_gst, k_isIn, k_isSlot, k_isItem, k_isGroup, k_isRobot, k_are, k_holds0, k_holds1, k_holds2, k_holds3, k_bit, k_less, bI_t, bI_f, i10, i00, i01, i11, i20, i30, ↓reduceIte, mI_mSA, mI_mSI, mA_mSI, mA_mSA, Nat.reduceEqDiff, reduceCtorEq, Nat.reduceEqDiff, false_and, true_and, and_true, r_gnI (show r < mL 59 from hr) (show mL 59 < 2 ^ 31 by decide), nI_clamp (show r < 2 ^ 31 by omega), c59, Int32.le_refl]) FU (FU_gt (by omega)) (w := w) (a := 0) ⟨by rw [List.take_zero]; rfl, fun k x hk => by rw [List.take_zero] at hk; simp at hk, fun k x _ hk => b4 k x hk, fun _ _ => rfl, rfl, rfl, fun _ _ => rfl⟩
  rw [List.take_length] at i1 i2
  refine ⟨_, e, fun q hq => ?_, i5, fun k hk => by rw [fBA hk.2]; exact i7 k hk⟩
  obtain ⟨c1, c2, c3, c4⟩ := h q hq
  rw [sBA]
  dsimp only
  by_cases eq : q = r
  · subst eq
    rw [if_pos rfl, if_pos rfl, fBA (by decide)]
    exact ⟨i1, Nat.le_trans (List.length_filter_le ..) c2, fun x hx => c3 x (List.mem_filter.mp hx).1, i2⟩
  · rw [if_neg eq, if_neg eq, fBA (by decide), i6]
    refine ⟨c1, c2, c3, fun k x hk => ?_⟩
    have := (List.getElem?_eq_some_iff.mp hk).1
    rw [i4 _ (by omega)]; exact c4 k x hk
theorem k_ends {M : List Nat} {f : Nat → Int32} {R : Nat → List Nat} {t : Nat} {ρ : Option Nat} (a : Int32) (h : RW S w M f) (hb : RB w R) (ht : t < 60) (h53 : mA w 53 t = fcI ρ) (hρ : ∀ r, ρ = some r → r < 3) (hR : ∀ r, r < 3 → t ∈ R r → ρ = some r) : ∃ v, g_X12_ends (nI t) a w = some ((), v) ∧ RW S v M (fun x => if zO S 205 x = some t then 0 else f x) ∧ RB v (fun r => (R r).filter fun x => decide (x ≠ t)) ∧ (∀ j, mA v 52 j = if j = t then a else mA w 52 j) ∧ mI v = mI w ∧ ∀ k, k ≠ 43 ∧ k ≠ 52 ∧ k ≠ 58 ∧ k ≠ 59 → mA v k = mA w k := by
  have hw1 : RW S (mSA 52 t a w) M f := h.wr rfl (fBA (by decide)) (fBA (by decide)) (fBA (by decide)) (fBA (by decide)) (fBA (by decide))
  have hb1 : RB (mSA 52 t a w) R := hb.wr (fBA (by decide)) (fBA (by decide))
  obtain ⟨v1, -, ⟨i1, i2, i3⟩, e⟩ := g_loop (α := Unit) (fun g _ j => g_X12_ends_17 g (nI t) (fcI ρ) j) M.length (fun i v _ => RW S v M (fun x => if x ∈ M.take i ∧ zO S 205 x = some t then 0 else f x) ∧ mI v = mI w ∧ ∀ k, k ≠ 43 → mA v k = mA (mSA 52 t a w) k) (fun _ v => if fcI ρ = -1 then some ((), v) else g_X12_ends_72 FU (nI t) (fcI ρ) 0 0 v) (fun g i v _ hi hI => by
    obtain ⟨i1, i2, i3⟩ := hI
    have hx : M[i]? = some (M[i]'hi) := List.getElem?_eq_getElem hi
    generalize M[i]'hi = X at hx
    have c39 : mI v 39 = nI M.length := by rw [i2]; exact h.1
    have hn := nd_take h.2.2.1 hx
    obtain ⟨s0, o', j', l', s1, s2, s3, s4, s5, s6, s7, s8⟩ := i1.2.2.2 i X hx
    dsimp only at s7
    rw [if_neg (fun r => hn r.1)] at s7
    have l24 := h.2.1
    have hc : mA v 44 i = nI t ↔ zO S 205 X = some t := by rw [s8]; exact fcI_n (N := 60) (by decide) s0 ht
    by_cases q : zO S 205 X = some t
    · refine ⟨mSA 43 i 0 v, (), ?_, (i1.set hx 0).cg fun x hxm => ?_, i2, fun k hk => by rw [fBA hk]; exact i3 k hk⟩
      · simp only [g_X12_ends_17, g_X12_ends_54, kif, r_gb, gbn_s, r_grd, r_gbo, r_gret, r_gst, k_isIn, k_isSlot, k_isItem, k_isGroup, k_isRobot, k_are, k_holds0, k_holds1, k_holds2, k_holds3, k_bit, k_less, bI_t, bI_f, i10, i00, i01, i11, i20, i30, ↓reduceIte, mI_mSA, mI_mSI, mA_mSI, mA_mSA, Nat.reduceEqDiff, reduceCtorEq, Nat.reduceEqDiff, false_and, true_and, and_true, c39, nI_ge hi (show M.length < 2 ^ 31 by omega), r_gnI (show i < mL 44 from show i < 2400 by omega) (show mL 44 < 2 ^ 31 by decide), nI_clamp (show i < 2 ^ 31 by omega), hc.mpr q, r_gmd _ (show isA 43 = true by decide), r_gnI (show i < mL 43 from show i < 2400 by omega) (show mL 43 < 2 ^ 31 by decide), nI_1]
      · simp only [mem_take1 hx]
        by_cases e : x = X
        · subst e; rw [if_pos rfl, if_pos ⟨Or.inr rfl, q⟩]
        · rw [if_neg e]
          by_cases e2 : x ∈ M.take i ∧ zO S 205 x = some t
          · rw [if_pos e2, if_pos ⟨Or.inl e2.1, e2.2⟩]
          · rw [if_neg e2, if_neg (fun r => e2 ⟨r.1.resolve_right e, r.2⟩)]
    · have hc' : ¬ mA v 44 i = nI t := fun r => q (hc.mp r)
      refine ⟨mSA 43 i (f X) v, (), ?_, (i1.set hx (f X)).cg fun x hxm => ?_, i2, fun k hk => by rw [fBA hk]; exact i3 k hk⟩
      · simp only [g_X12_ends_17, g_X12_ends_54, kif, r_gb, gbn_s, r_grd, r_gbo, r_gret, r_gst, k_isIn, k_isSlot, k_isItem, k_isGroup, k_isRobot, k_are, k_holds0, k_holds1, k_holds2, k_holds3, k_bit, k_less, bI_t, bI_f, i10, i00, i01, i11, i20, i30, ↓reduceIte, mI_mSA, mI_mSI, mA_mSI, mA_mSA, Nat.reduceEqDiff, reduceCtorEq, Nat.reduceEqDiff, false_and, true_and, and_true, c39, nI_ge hi (show M.length < 2 ^ 31 by omega), r_gnI (show i < mL 44 from show i < 2400 by omega) (show mL 44 < 2 ^ 31 by decide), nI_clamp (show i < 2 ^ 31 by omega), hc', r_gmd _ (show isA 43 = true by decide), r_gnI (show i < mL 43 from show i < 2400 by omega) (show mL 43 < 2 ^ 31 by decide), nI_1, s7]
      · simp only [mem_take1 hx]
        by_cases e : x = X
        · subst e; rw [if_pos rfl, if_neg (fun r => q r.2)]
        · rw [if_neg e]
          by_cases e2 : x ∈ M.take i ∧ zO S 205 x = some t
          · rw [if_pos e2, if_pos ⟨Or.inl e2.1, e2.2⟩]
          · rw [if_neg e2, if_neg (fun r => e2 ⟨r.1.resolve_right e, r.2⟩)]) (fun g v _ hI => by
    have c39 : mI v 39 = nI M.length := by rw [hI.2.1]; exact h.1
    simp only [g_X12_ends_17, kif, r_gb, gbn_s, r_grd, r_gbo, r_gret, r_gst, k_isIn, k_isSlot, k_isItem, k_isGroup, k_isRobot, k_are, k_holds0, k_holds1, k_holds2, k_holds3, k_bit, k_less, bI_t, bI_f, i10, i00, i01, i11, i20, i30, ↓reduceIte, mI_mSA, mI_mSI, mA_mSI, mA_mSA, Nat.reduceEqDiff, reduceCtorEq, Nat.reduceEqDiff, false_and, true_and, and_true, c39, Int32.le_refl]) FU (FU_gt (by have := h.2.1; omega)) (w := mSA 52 t a w) (a := ()) ⟨hw1.cg fun x _ => by rw [List.take_zero, if_neg (by simp)], rfl, fun _ _ => rfl⟩
  have run : g_X12_ends (nI t) a w = if fcI ρ = -1 then some ((), v1) else g_X12_ends_72 FU (nI t) (fcI ρ) 0 0 v1 := by
    rw [← e]
    simp only [g_X12_ends, kif, r_gb, gbn_s, r_grd, r_gbo, r_gret, r_gst, k_isIn, k_isSlot, k_isItem, k_isGroup, k_isRobot, k_are, k_holds0, k_holds1, k_holds2, k_holds3, k_bit, k_less, bI_t, bI_f, i10, i00, i01, i11, i20, i30, ↓reduceIte, mI_mSA, mI_mSI, mA_mSI, mA_mSA, Nat.reduceEqDiff, reduceCtorEq, Nat.reduceEqDiff, false_and, true_and, and_true, r_gnI (show t < mL 53 from ht) (show mL 53 < 2 ^ 31 by decide), r_gnI (show t < mL 52 from ht) (show mL 52 < 2 ^ 31 by decide), nI_clamp (show t < 2 ^ 31 by omega), h53]
  have hw2 : RW S v1 M (fun x => if zO S 205 x = some t then 0 else f x) := i1.cg fun x hx => by
    rw [List.take_length]
    by_cases e : zO S 205 x = some t
    · rw [if_pos ⟨hx, e⟩, if_pos e]
    · rw [if_neg (fun r => e r.2), if_neg e]
  have hb2 : RB v1 R := hb1.wr (i3 58 (by decide)) (i3 59 (by decide))
  have h52 : ∀ j, mA v1 52 j = if j = t then a else mA w 52 j := fun j => by rw [i3 52 (by decide), sBA]
  have hfr : ∀ k, k ≠ 43 ∧ k ≠ 52 → mA v1 k = mA w k := fun k hk => by rw [i3 k hk.1, fBA hk.2]
  cases hq : ρ with
  | none =>
    rw [hq] at run hR
    rw [if_pos (show fcI none = -1 from rfl)] at run
    refine ⟨v1, run, hw2, hb2.cg fun r hr => ?_, h52, i2, fun k hk => hfr k ⟨hk.1, hk.2.1⟩⟩
    rw [List.filter_eq_self.mpr]
    intro x hx
    have : x ≠ t := fun e => by have := hR r hr (e ▸ hx); cases this
    simp [this]
  | some r =>
    have hr := hρ r hq
    rw [hq] at run hR
    have hne : ¬ fcI (some r) = -1 := fun e => by have := (fcI_m1 (o := some r) (fun j hj => by cases hj; omega)).mp e; cases this
    rw [if_neg hne] at run
    obtain ⟨v, e1, e2, e3, e4⟩ := k_ends72 hr ht hb2
    refine ⟨v, run.trans e1, hw2.wr (by rw [e3]) (e4 40 (by decide)) (e4 41 (by decide)) (e4 42 (by decide)) (e4 43 (by decide)) (e4 44 (by decide)), e2.cg fun q hq2 => ?_, fun j => by rw [e4 52 (by decide)]; exact h52 j, e3.trans i2, fun k hk => by rw [e4 k ⟨hk.2.2.1, hk.2.2.2⟩]; exact hfr k ⟨hk.1, hk.2.1⟩⟩
    split
    · rename_i e; rw [e]
    · rename_i e
      rw [List.filter_eq_self.mpr]
      intro x hx
      have : x ≠ t := fun e9 => e (Option.some.inj (hR q hq2 (e9 ▸ hx))).symm
      simp [this]
end
