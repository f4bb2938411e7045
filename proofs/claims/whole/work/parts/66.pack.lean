/-! packing, in the class -/
def BXc (S : Ss) (bs : List Bx) : Prop := zA S 1114 0 = nI bs.length ∧ ∀ k x, bs[k]? = some x → zC S 1113 (4 * k) = x.1 ∧ zC S 1113 (4 * k + 1) = x.2.1 ∧ zC S 1113 (4 * k + 2) = x.2.2.1 ∧ zC S 1113 (4 * k + 3) = x.2.2.2
def PFc (S T : Ss) : Prop := (∀ f, f ≠ 1114 → zA T f = zA S f) ∧ zO T = zO S ∧ zL T = zL S ∧ zP T = zP S ∧ zM T = zM S ∧ zN T = zN S ∧ ∀ f, f ≠ 1113 → zC T f = zC S f
theorem PFc.rf (S : Ss) : PFc S S := ⟨fun _ _ => rfl, rfl, rfl, rfl, rfl, rfl, fun _ _ => rfl⟩
theorem PFc.tr {S T U : Ss} (h : PFc S T) (g : PFc T U) : PFc S U := by
  obtain ⟨a1, a2, a3, a4, a5, a6, a7⟩ := h
  obtain ⟨b1, b2, b3, b4, b5, b6, b7⟩ := g
  exact ⟨fun f hf => (b1 f hf).trans (a1 f hf), b2.trans a2, b3.trans a3, b4.trans a4, b5.trans a5, b6.trans a6, fun f hf => (b7 f hf).trans (a7 f hf)⟩
theorem get_mid {α : Type} {A C : List α} {x y : α} {k : Nat} (h : (A ++ y :: C)[k]? = some x) : (k = A.length ∧ x = y) ∨ (k ≠ A.length ∧ ∀ z, (A ++ z :: C)[k]? = some x) := by
  by_cases e : k < A.length
  · rw [List.getElem?_append_left e] at h
    exact Or.inr ⟨by omega, fun z => by rw [List.getElem?_append_left e]; exact h⟩
  · rw [List.getElem?_append_right (by omega)] at h
    by_cases e2 : k = A.length
    · rw [e2, Nat.sub_self] at h
      exact Or.inl ⟨e2, (Option.some.inj h).symm⟩
    · obtain ⟨d, hd⟩ : ∃ d, k - A.length = d + 1 := ⟨k - A.length - 1, by omega⟩
      rw [hd, List.getElem?_cons_succ] at h
      exact Or.inr ⟨e2, fun z => by rw [List.getElem?_append_right (by omega), hd, List.getElem?_cons_succ]; exact h⟩
theorem get_at {α : Type} {A C : List α} {x : α} : (A ++ x :: C)[A.length]? = some x := by
  rw [List.getElem?_append_right (Nat.le_refl _), Nat.sub_self]; rfl
section
variable {S T : Ss}
theorem e_isBar (b x y : Int32) : (f_X11_isBarred b x y).1 S = some (bI (isBar b x y), S) := by
  unfold f_X11_isBarred isBar
  by_cases q : ((b >>> (((x * 4) + y) &&& 31)) &&& 1) = 1
  · rw [if_pos q, decide_eq_true q]; rfl
  · rw [if_neg q, decide_eq_false q]; rfl
theorem e_open {bs : List Bx} (h : BXc S bs) (hn : bs.length < 297) : ∃ T, (f_X11_openBox).1 S = some ((), T) ∧ BXc T (bs ++ [(0, 0, 0, 0)]) ∧ PFc S T := by
  obtain ⟨h1, h2⟩ := h
  obtain ⟨n, hn0⟩ : ∃ n, n = bs.length := ⟨_, rfl⟩
  rw [← hn0] at h1 hn
  obtain ⟨f, hf⟩ : ∃ f, FU = f + 5 := ⟨FU - 5, by have := FU_gt (n := 5) (by decide); omega⟩
  have e : ∀ S c, c < 4 → cPut 1113 (nI n) (nI c) 0 S = pC 1113 (4 * n + c) 0 S := fun S c hc => cPut_in (r := 1113) (p := n) (l := c) hc (show n * 4 + c < 1188 by omega)
  obtain ⟨T, hT⟩ : ∃ T, T = pA 1114 0 (nI (n + 1)) (pC 1113 (4 * n + 3) 0 (pC 1113 (4 * n + 2) 0 (pC 1113 (4 * n + 1) 0 (pC 1113 (4 * n) 0 S)))) := ⟨_, rfl⟩
  refine ⟨T, ?_, ⟨?_, fun k x hk => ?_⟩, ?_⟩
  · unfold f_X11_openBox
    rw [hf, show (0 : Int32) = nI 0 from rfl]
    have e0 := fun S => e S 0 (by decide)
    have e1 := fun S => e S 1 (by decide)
    have e2 := fun S => e S 2 (by decide)
    have e3 := fun S => e S 3 (by decide)
    simp only [f_X11_openBox_2, r_mrd, ite_f, nI_1, show ¬ (4 : Int32) ≤ nI 0 by decide, show ¬ (4 : Int32) ≤ nI (0 + 1) by decide, show ¬ (4 : Int32) ≤ nI (0 + 1 + 1) by decide, show ¬ (4 : Int32) ≤ nI (0 + 1 + 1 + 1) by decide, show (4 : Int32) ≤ nI (0 + 1 + 1 + 1 + 1) by decide, ↓reduceIte, r_mput, r_wA, r_mret, h1, e0, tAC]
    simp only [Nat.zero_add, Nat.reduceAdd, e1, e2, e3, tAC, h1, nI_1, r_mret, Nat.add_zero]
    rw [hT]
  · rw [hT, sAA, if_pos rfl, List.length_append, ← hn0]; rfl
  · rw [hT, tCA]
    simp only [sCC]
    rcases get_app1 hk with ⟨g1, g2⟩ | ⟨g1, g2⟩
    · rw [← hn0] at g2
      obtain ⟨a1, a2, a3, a4⟩ := h2 k x g1
      refine ⟨?_, ?_, ?_, ?_⟩
      all_goals (rw [if_neg (by omega), if_neg (by omega), if_neg (by omega), if_neg (by omega)]; assumption)
    · rw [← hn0] at g1
      subst g1
      subst g2
      refine ⟨?_, ?_, ?_, ?_⟩
      · rw [if_neg (by omega), if_neg (by omega), if_neg (by omega), if_pos rfl]
      · rw [if_neg (by omega), if_neg (by omega), if_pos rfl]
      · rw [if_neg (by omega), if_pos rfl]
      · rw [if_pos rfl]
  · rw [hT]
    exact ⟨fun f hf => by rw [fAA hf]; rfl, rfl, rfl, rfl, rfl, rfl, fun f hf => by rw [tCA, fCC hf, fCC hf, fCC hf, fCC hf]⟩
theorem e_put {A C : List Bx} {x : Bx} {i : Nat} (h : BXc S (A ++ x :: C)) (hA : A.length < 297) (hi : zA S 300 i = nI i) : ∃ T, (f_X11_putIntoBox (nI A.length) i).1 S = some ((), T) ∧ BXc T (A ++ bxP (zA S 302) (zA S 303) i x :: C) ∧ PFc S T := by
  obtain ⟨h1, h2⟩ := h
  obtain ⟨n, hn⟩ : ∃ n, n = A.length := ⟨_, rfl⟩
  obtain ⟨a1, a2, a3, a4⟩ := h2 A.length x get_at
  rw [← hn] at a1 a2 a3 a4 hA ⊢
  have e : ∀ S c v, c < 4 → cAdd 1113 (nI n) (nI c) v S = pC 1113 (4 * n + c) (zC S 1113 (4 * n + c) + v) S := fun S c v hc => cAdd_in (r := 1113) (p := n) (l := c) hc (show n * 4 + c < 1188 by omega)
  have e0 : ∀ S v, cAdd 1113 (nI n) 0 v S = pC 1113 (4 * n) (zC S 1113 (4 * n) + v) S := fun S v => e S 0 v (by decide)
  have e1 : ∀ S v, cAdd 1113 (nI n) 1 v S = pC 1113 (4 * n + 1) (zC S 1113 (4 * n + 1) + v) S := fun S v => e S 1 v (by decide)
  have e2 : ∀ S v, cAdd 1113 (nI n) 2 v S = pC 1113 (4 * n + 2) (zC S 1113 (4 * n + 2) + v) S := fun S v => e S 2 v (by decide)
  have e3 : ∀ S v, cPut 1113 (nI n) 3 v S = pC 1113 (4 * n + 3) v S := fun S v => cPut_in (r := 1113) (p := n) (l := 3) (by decide) (show n * 4 + 3 < 1188 by omega)
  have e4 : ∀ S, cAt S 1113 (nI n) 3 = zC S 1113 (4 * n + 3) := fun S => cAt_in (r := 1113) (p := n) (l := 3) (by decide) (show n * 4 + 3 < 1188 by omega)
  obtain ⟨T, hT⟩ : ∃ T, T = pC 1113 (4 * n + 3) (x.2.2.2 ||| (1 <<< (nI i &&& 31))) (pC 1113 (4 * n + 2) (x.2.2.1 + 1) (pC 1113 (4 * n + 1) (x.2.1 + zA S 303 i) (pC 1113 (4 * n) (x.1 + zA S 302 i) S))) := ⟨_, rfl⟩
  refine ⟨T, ?_, ⟨?_, fun k y hk => ?_⟩, ?_⟩
  · have z1 : zC (pC 1113 (4 * n) (x.1 + zA S 302 i) S) 1113 (4 * n + 1) = x.2.1 := by rw [sCC, if_neg (by omega)]; exact a2
    have z2 : zC (pC 1113 (4 * n + 1) (x.2.1 + zA S 303 i) (pC 1113 (4 * n) (x.1 + zA S 302 i) S)) 1113 (4 * n + 2) = x.2.2.1 := by rw [sCC, if_neg (by omega), sCC, if_neg (by omega)]; exact a3
    have z3 : zC (pC 1113 (4 * n + 2) (x.2.2.1 + 1) (pC 1113 (4 * n + 1) (x.2.1 + zA S 303 i) (pC 1113 (4 * n) (x.1 + zA S 302 i) S))) 1113 (4 * n + 3) = x.2.2.2 := by rw [sCC, if_neg (by omega), sCC, if_neg (by omega), sCC, if_neg (by omega)]; exact a4
    simp only [f_X11_putIntoBox, r_mrd, r_madd, e0, a1, tAC, e1, z1, e2, z2, r_mbo, e4, z3, r_mput, e3, hi, r_mret]
    rw [hT]
  · rw [hT, tAC, tAC, tAC, tAC, h1, List.length_append, List.length_append]; rfl
  · rw [hT]
    simp only [sCC]
    rcases get_mid hk with ⟨g1, g2⟩ | ⟨g1, g2⟩
    · rw [← hn] at g1
      subst g1
      subst g2
      refine ⟨?_, ?_, ?_, ?_⟩
      · rw [if_neg (by omega), if_neg (by omega), if_neg (by omega), if_pos rfl]; rfl
      · rw [if_neg (by omega), if_neg (by omega), if_pos rfl]; rfl
      · rw [if_neg (by omega), if_pos rfl]; rfl
      · rw [if_pos rfl]; rfl
    · rw [← hn] at g1
      obtain ⟨b1, b2, b3, b4⟩ := h2 k y (g2 x)
      refine ⟨?_, ?_, ?_, ?_⟩
      all_goals (rw [if_neg (by omega), if_neg (by omega), if_neg (by omega), if_neg (by omega)]; assumption)
  · rw [hT]
    exact ⟨fun f hf => rfl, rfl, rfl, rfl, rfl, rfl, fun f hf => by rw [fCC hf, fCC hf, fCC hf, fCC hf]⟩
theorem e_fits {bs : List Bx} {k : Nat} {x : Bx} {i : Nat} (h : BXc S bs) (hx : bs[k]? = some x) (hk : k < 297) (hI : ∀ i, i < 6 → zA S 300 i = nI i) (b : Int32) : (f_X11_fitsIntoBox (nI k) i b).1 S = some (bI (bxF (zA S 302) (zA S 303) (zA S 304) b i x), S) := by
  obtain ⟨h1, h2⟩ := h
  obtain ⟨a1, a2, a3, a4⟩ := h2 k x hx
  have e : ∀ c, c < 4 → cAt S 1113 (nI k) (nI c) = zC S 1113 (4 * k + c) := fun c hc => cAt_in (r := 1113) (p := k) (l := c) hc (show k * 4 + c < 1188 by omega)
  have e0 : cAt S 1113 (nI k) 0 = x.1 := (e 0 (by decide)).trans a1
  have e1 : cAt S 1113 (nI k) 1 = x.2.1 := (e 1 (by decide)).trans a2
  have e3 : cAt S 1113 (nI k) 3 = x.2.2.2 := (e 3 (by decide)).trans a4
  have loop := m_find (fun f j => f_X11_fitsIntoBox_54 f (nI k) i b (nI 6) j) S 6 (fun o => (x.2.2.2 >>> (nI o &&& 31)) &&& 1 = 1 ∧ o ≠ i ∧ isBar b (zA S 304 o) (zA S 304 i) = true) (fun _ => some (0, S)) (some (1, S)) (fun f o ho q => by
    obtain ⟨q1, q2, q3⟩ := q
    have q2' : ¬ (some o = some i) := fun r => q2 (Option.some.inj r)
    simp only [f_X11_fitsIntoBox_54, f_X11_fitsIntoBox_94, r_mb, bnd_s, r_mrd, r_mbo, r_mret, r_mthr, r_wA, r_wO, r_madd, r_mput, r_mopt, r_mcn, r_mcs, ite_f, e_isWithin, e_isSlot, e_isItem, e_isGroup, e_isRobot, e_isLot, e_isNotice, e_isOrder, e_isTask, bI_t, bI_f, i10, i00, i01, i11, i20, i30, ↓reduceIte, nI_ge ho (show 6 < 2 ^ 31 by decide), r_mnI (show o < aLn 1101 from ho) (show aLn 1101 < 2 ^ 31 by decide), nI_clamp (show o < 2 ^ 31 by omega), e3, hI o ho, q1, q2', e_isBar, q3]) (fun f o ho q => by
    by_cases q1 : (x.2.2.2 >>> (nI o &&& 31)) &&& 1 = 1
    · by_cases q2 : o = i
      · simp only [f_X11_fitsIntoBox_54, f_X11_fitsIntoBox_94, r_mb, bnd_s, r_mrd, r_mbo, r_mret, r_mthr, r_wA, r_wO, r_madd, r_mput, r_mopt, r_mcn, r_mcs, ite_f, e_isWithin, e_isSlot, e_isItem, e_isGroup, e_isRobot, e_isLot, e_isNotice, e_isOrder, e_isTask, bI_t, bI_f, i10, i00, i01, i11, i20, i30, ↓reduceIte, nI_ge ho (show 6 < 2 ^ 31 by decide), r_mnI (show o < aLn 1101 from ho) (show aLn 1101 < 2 ^ 31 by decide), nI_clamp (show o < 2 ^ 31 by omega), e3, hI o ho, q1, (eq_true (congrArg some q2) : (some o = some i) = True), nI_1]
      · have q2' : ¬ (some o = some i) := fun r => q2 (Option.some.inj r)
        have q3 : isBar b (zA S 304 o) (zA S 304 i) = false := by
          cases q4 : isBar b (zA S 304 o) (zA S 304 i) with
          | false => rfl
          | true => exact absurd ⟨q1, q2, q4⟩ q
        simp only [f_X11_fitsIntoBox_54, f_X11_fitsIntoBox_94, r_mb, bnd_s, r_mrd, r_mbo, r_mret, r_mthr, r_wA, r_wO, r_madd, r_mput, r_mopt, r_mcn, r_mcs, ite_f, e_isWithin, e_isSlot, e_isItem, e_isGroup, e_isRobot, e_isLot, e_isNotice, e_isOrder, e_isTask, bI_t, bI_f, i10, i00, i01, i11, i20, i30, ↓reduceIte, nI_ge ho (show 6 < 2 ^ 31 by decide), r_mnI (show o < aLn 1101 from ho) (show aLn 1101 < 2 ^ 31 by decide), nI_clamp (show o < 2 ^ 31 by omega), e3, hI o ho, q1, q2', e_isBar, q3, nI_1]
    · simp only [f_X11_fitsIntoBox_54, f_X11_fitsIntoBox_94, r_mb, bnd_s, r_mrd, r_mbo, r_mret, r_mthr, r_wA, r_wO, r_madd, r_mput, r_mopt, r_mcn, r_mcs, ite_f, e_isWithin, e_isSlot, e_isItem, e_isGroup, e_isRobot, e_isLot, e_isNotice, e_isOrder, e_isTask, bI_t, bI_f, i10, i00, i01, i11, i20, i30, ↓reduceIte, nI_ge ho (show 6 < 2 ^ 31 by decide), r_mnI (show o < aLn 1101 from ho) (show aLn 1101 < 2 ^ 31 by decide), nI_clamp (show o < 2 ^ 31 by omega), e3, hI o ho, q1, nI_1]) (fun f => by
    simp only [f_X11_fitsIntoBox_54, r_mb, bnd_s, r_mrd, r_mbo, r_mret, r_mthr, r_wA, r_wO, r_madd, r_mput, r_mopt, r_mcn, r_mcs, ite_f, e_isWithin, e_isSlot, e_isItem, e_isGroup, e_isRobot, e_isLot, e_isNotice, e_isOrder, e_isTask, bI_t, bI_f, i10, i00, i01, i11, i20, i30, ↓reduceIte, Int32.le_refl]) FU (FU_gt (by decide))
  have run : (f_X11_fitsIntoBox (nI k) i b).1 S = if 30 < x.1 + zA S 302 i then some (0, S) else if 50 < x.2.1 + zA S 303 i then some (0, S) else (f_X11_fitsIntoBox_54 FU (nI k) i b (nI 6) 0).1 S := by
    have hle : ∀ y : Int32, y ≤ 50 ↔ ¬ 50 < y := fun y => by rw [I_le, I_lt]; omega
    by_cases q : 30 < x.1 + zA S 302 i
    · simp only [f_X11_fitsIntoBox, r_mb, bnd_s, r_mrd, r_mbo, r_mret, r_mthr, r_wA, r_wO, r_madd, r_mput, r_mopt, r_mcn, r_mcs, ite_f, e_isWithin, e_isSlot, e_isItem, e_isGroup, e_isRobot, e_isLot, e_isNotice, e_isOrder, e_isTask, bI_t, bI_f, i10, i00, i01, i11, i20, i30, ↓reduceIte, e0, q]
    · by_cases q2 : 50 < x.2.1 + zA S 303 i
      · simp only [f_X11_fitsIntoBox, r_mb, bnd_s, r_mrd, r_mbo, r_mret, r_mthr, r_wA, r_wO, r_madd, r_mput, r_mopt, r_mcn, r_mcs, ite_f, e_isWithin, e_isSlot, e_isItem, e_isGroup, e_isRobot, e_isLot, e_isNotice, e_isOrder, e_isTask, bI_t, bI_f, i10, i00, i01, i11, i20, i30, ↓reduceIte, e0, q, e1, hle, q2, not_true_eq_false]
      · simp only [f_X11_fitsIntoBox, r_mb, bnd_s, r_mrd, r_mbo, r_mret, r_mthr, r_wA, r_wO, r_madd, r_mput, r_mopt, r_mcn, r_mcs, ite_f, e_isWithin, e_isSlot, e_isItem, e_isGroup, e_isRobot, e_isLot, e_isNotice, e_isOrder, e_isTask, bI_t, bI_f, i10, i00, i01, i11, i20, i30, ↓reduceIte, e0, q, e1, hle, q2, not_false_eq_true]; rfl
  rw [run]
  unfold bxF
  by_cases q : 30 < x.1 + zA S 302 i
  · rw [if_pos q, decide_eq_true q]; rfl
  · rw [if_neg q, decide_eq_false q]
    by_cases q2 : 50 < x.2.1 + zA S 303 i
    · rw [if_pos q2, decide_eq_true q2]; rfl
    · rw [if_neg q2, decide_eq_false q2]
      have el : f_X11_fitsIntoBox_54 FU (nI k) i b (nI 6) 0 = f_X11_fitsIntoBox_54 FU (nI k) i b (nI 6) 0 := rfl
      rcases loop with ⟨o, o1, o2, -, o3⟩ | ⟨o1, o2⟩
      · rw [o3]
        have : ((List.range 6).all fun o => !(decide ((x.2.2.2 >>> (nI o &&& 31)) &&& 1 = 1) && (decide (o ≠ i) && isBar b (zA S 304 o) (zA S 304 i)))) = false := by
          rw [List.all_eq_false]
          refine ⟨o, List.mem_range.mpr o1, ?_⟩
          rw [decide_eq_true o2.1, decide_eq_true o2.2.1, o2.2.2]; decide
        rw [this]; rfl
      · rw [o2]
        have : ((List.range 6).all fun o => !(decide ((x.2.2.2 >>> (nI o &&& 31)) &&& 1 = 1) && (decide (o ≠ i) && isBar b (zA S 304 o) (zA S 304 i)))) = true := by
          rw [List.all_eq_true]
          intro o ho
          have hq := o1 o (List.mem_range.mp ho)
          by_cases q1 : (x.2.2.2 >>> (nI o &&& 31)) &&& 1 = 1
          · by_cases q2 : o ≠ i
            · have q3 : isBar b (zA S 304 o) (zA S 304 i) = false := by
                cases q4 : isBar b (zA S 304 o) (zA S 304 i) with
                | false => rfl
                | true => exact absurd ⟨q1, q2, q4⟩ hq
              rw [q3, Bool.and_false, Bool.and_false]; rfl
            · rw [decide_eq_false q2, Bool.false_and, Bool.and_false]; rfl
          · rw [decide_eq_false q1]; rfl
        rw [this]; rfl
end
/-- filling a box as far as it goes -/
def wf (z t g : Nat → Int32) (b : Int32) (i n : Nat) (x : Bx) : Nat × Bx := match n with
  | 0 => (0, x)
  | m + 1 => if bxF z t g b i x = true then wf z t g b i m (bxP z t i x) else (m + 1, x)
section
variable {z t g : Nat → Int32} {b : Int32} {i : Nat}
theorem wf_le : ∀ n x, (wf z t g b i n x).1 ≤ n
  | 0, _ => Nat.le_refl _
  | n + 1, x => by
    rw [wf]; split
    · exact Nat.le_succ_of_le (wf_le n _)
    · exact Nat.le_refl _
theorem putN_no {x : Bx} (h : ¬ bxF z t g b i x = true) : ∀ n r, putN z t g b i n (x :: r) = x :: putN z t g b i n r
  | 0, _ => rfl
  | n + 1, r => by rw [putN, putN, put1, if_neg h, putN_no h n]
theorem putN_cons : ∀ n x r, putN z t g b i n (x :: r) = (wf z t g b i n x).2 :: putN z t g b i (wf z t g b i n x).1 r
  | 0, _, _ => rfl
  | n + 1, x, r => by
    rw [wf]
    by_cases q : bxF z t g b i x = true
    · rw [if_pos q, putN, put1, if_pos q, putN_cons n]
    · rw [if_neg q, putN_no q]
theorem put1_len : ∀ xs : List Bx, (put1 z t g b i xs).length ≤ xs.length + 1
  | [] => Nat.le_refl _
  | x :: r => by
    have := put1_len r
    rw [put1]; split
    · simp
    · simp; omega
theorem putN_len : ∀ n xs, (putN z t g b i n xs).length ≤ xs.length + n
  | 0, _ => Nat.le_refl _
  | n + 1, xs => by
    have h1 := putN_len n (put1 z t g b i xs)
    have h2 := put1_len (z := z) (t := t) (g := g) (b := b) (i := i) xs
    rw [putN]; omega
end
section
variable {S T : Ss}
theorem e_fill42 (b : Int32) (K : Nat → Int32 → Int32 → Int32 → MM Unit) {i : Nat} : ∀ (n : Nat) (f : Nat) (S : Ss) (A C : List Bx) (x : Bx), n < f → n < 1000 → (∀ i, i < 6 → zA S 300 i = nI i) → i < 6 → A.length < 297 → BXc S (A ++ x :: C) → ∃ T, (f_X11_fillBoxes_42 K f i b (nI n) (nI A.length)).1 S = (K i b (nI (wf (zA S 302) (zA S 303) (zA S 304) b i n x).1) (nI (A.length + 1))).1 T ∧ BXc T (A ++ (wf (zA S 302) (zA S 303) (zA S 304) b i n x).2 :: C) ∧ PFc S T := by
  intro n
  induction n with
  | zero =>
    intro f S A C x hf _ hI hi hA h
    obtain ⟨f, rfl⟩ : ∃ f', f = f' + 1 := ⟨f - 1, by omega⟩
    refine ⟨S, ?_, h, PFc.rf S⟩
    simp only [f_X11_fillBoxes_42, ite_f, show nI 0 ≤ (0 : Int32) by decide, ↓reduceIte, nI_1]
    rfl
  | succ n ih =>
    intro f S A C x hf hn hI hi hA h
    obtain ⟨f, rfl⟩ : ∃ f', f = f' + 1 := ⟨f - 1, by omega⟩
    have hneg : ¬ nI (n + 1) ≤ 0 := nI_nle (by omega) (by omega)
    have ef := e_fits (S := S) (k := A.length) (x := x) (i := i) h get_at hA hI b
    rw [wf]
    by_cases q : bxF (zA S 302) (zA S 303) (zA S 304) b i x = true
    · obtain ⟨U, u1, u2, u3⟩ := e_put h hA (hI i hi)
      obtain ⟨T, t1, t2, t3⟩ := ih f U A C _ (by omega) (by omega) (by rw [u3.1 300 (by decide)]; exact hI) hi hA u2
      rw [u3.1 302 (by decide), u3.1 303 (by decide), u3.1 304 (by decide)] at t1 t2
      refine ⟨T, ?_, ?_, u3.tr t3⟩
      · rw [if_pos q, ← t1]
        simp only [f_X11_fillBoxes_42, ite_f, hneg, ↓reduceIte, r_mb, ef, bnd_s, q, bI_t, i10, u1, pk_m1]
      · rw [if_pos q]; exact t2
    · have q' : bxF (zA S 302) (zA S 303) (zA S 304) b i x = false := by
        cases e : bxF (zA S 302) (zA S 303) (zA S 304) b i x with
        | false => rfl
        | true => exact absurd e q
      refine ⟨S, ?_, ?_, PFc.rf S⟩
      · rw [if_neg q]
        simp only [f_X11_fillBoxes_42, ite_f, hneg, ↓reduceIte, r_mb, ef, bnd_s, q', bI_f, i00, nI_1]
      · rw [if_neg q]; exact h
theorem e_fill6 (b : Int32) {i : Nat} : ∀ (N f n : Nat) (S : Ss) (A C : List Bx), n + C.length ≤ N → N < f → (∀ i, i < 6 → zA S 300 i = nI i) → i < 6 → A.length + C.length + n ≤ 297 → BXc S (A ++ C) → ∃ T, (f_X11_fillBoxes_6 f i b (nI n) (nI A.length)).1 S = some ((), T) ∧ BXc T (A ++ putN (zA S 302) (zA S 303) (zA S 304) b i n C) ∧ PFc S T := by
  intro N
  induction N with
  | zero =>
    intro f n S A C hN hf hI hi hl h
    obtain ⟨f, rfl⟩ : ∃ f', f = f' + 1 := ⟨f - 1, by omega⟩
    have hn0 : n = 0 := by omega
    subst hn0
    refine ⟨S, ?_, h, PFc.rf S⟩
    simp only [f_X11_fillBoxes_6, r_mrd, ite_f, show nI 0 ≤ (0 : Int32) by decide, ↓reduceIte, r_mret, ite_self]
  | succ N ih =>
    intro f n S A C hN hf hI hi hl h
    obtain ⟨f, rfl⟩ : ∃ f', f = f' + 1 := ⟨f - 1, by omega⟩
    cases n with
    | zero =>
      refine ⟨S, ?_, h, PFc.rf S⟩
      simp only [f_X11_fillBoxes_6, r_mrd, ite_f, show nI 0 ≤ (0 : Int32) by decide, ↓reduceIte, r_mret, ite_self]
    | succ n =>
      have hneg : ¬ nI (n + 1) ≤ 0 := nI_nle (by omega) (by omega)
      have hbox : ¬ (297 : Int32) ≤ nI A.length := nI_ge (b := 297) (show A.length < 297 by omega) (by decide)
      have hF := FU_gt (n := 1000) (by decide)
      cases C with
      | nil =>
        rw [List.append_nil] at h
        have hfull : nI A.length = zA S 1114 0 := h.1.symm
        obtain ⟨U, u1, u2, u3⟩ := e_open h (by omega)
        have hIU : ∀ i, i < 6 → zA U 300 i = nI i := by rw [u3.1 300 (by decide)]; exact hI
        obtain ⟨V, v1, v2, v3⟩ := e_put (A := A) (C := []) u2 (by omega) (hIU i hi)
        have hIV : ∀ i, i < 6 → zA V 300 i = nI i := by rw [v3.1 300 (by decide)]; exact hIU
        obtain ⟨W, w1, w2, w3⟩ := e_fill42 b (f_X11_fillBoxes_6 f) (i := i) n FU V A [] _ (by omega) (by omega) hIV hi (by omega) v2
        have hIW : ∀ i, i < 6 → zA W 300 i = nI i := by rw [w3.1 300 (by decide)]; exact hIV
        have fr : ∀ q, q ≠ 1114 → zA V q = zA S q := fun q hq => (v3.1 q hq).trans (u3.1 q hq)
        have fr2 : ∀ q, q ≠ 1114 → zA W q = zA S q := fun q hq => (w3.1 q hq).trans (fr q hq)
        rw [fr 302 (by decide), fr 303 (by decide), fr 304 (by decide), u3.1 302 (by decide), u3.1 303 (by decide)] at w1 w2
        have wl := wf_le (z := zA S 302) (t := zA S 303) (g := zA S 304) (b := b) (i := i) n (bxP (zA S 302) (zA S 303) i (0, 0, 0, 0))
        have lenA : (A ++ [(wf (zA S 302) (zA S 303) (zA S 304) b i n (bxP (zA S 302) (zA S 303) i (0, 0, 0, 0))).2]).length = A.length + 1 := by rw [List.length_append]; rfl
        obtain ⟨T, t1, t2, t3⟩ := ih f (wf (zA S 302) (zA S 303) (zA S 304) b i n (bxP (zA S 302) (zA S 303) i (0, 0, 0, 0))).1 W (A ++ [(wf (zA S 302) (zA S 303) (zA S 304) b i n (bxP (zA S 302) (zA S 303) i (0, 0, 0, 0))).2]) [] (by simp only [List.length_nil] at hN ⊢; omega) (by omega) hIW hi (by rw [lenA]; simp only [List.length_nil] at hl ⊢; omega) (by rw [List.append_nil]; exact w2)
        rw [fr2 302 (by decide), fr2 303 (by decide), fr2 304 (by decide)] at t2
        rw [lenA] at t1
        refine ⟨T, ?_, ?_, ((u3.tr v3).tr w3).tr t3⟩
        · have m1 : nI (n + 1) + (-1) = nI n := pk_m1 n
          rw [← t1, ← w1]
          simp only [f_X11_fillBoxes_6, r_mrd, ite_f, hbox, hneg, ↓reduceIte, if_pos hfull, r_mb, u1, bnd_s, v1, m1]
        · rw [putN, put1, putN_cons]
          rw [List.append_assoc] at t2; exact t2
      | cons x r =>
        have hnf : ¬ nI A.length = zA S 1114 0 := fun e => by
          rw [h.1, List.length_append] at e
          have := (nI_eq (by omega) (by simp only [List.length_cons] at hl ⊢; omega)).mp e
          simp only [List.length_cons] at this; omega
        obtain ⟨W, w1, w2, w3⟩ := e_fill42 b (f_X11_fillBoxes_6 f) (i := i) (n + 1) FU S A r x (by omega) (by omega) hI hi (by omega) h
        have hIW : ∀ i, i < 6 → zA W 300 i = nI i := by rw [w3.1 300 (by decide)]; exact hI
        have wl := wf_le (z := zA S 302) (t := zA S 303) (g := zA S 304) (b := b) (i := i) (n + 1) x
        have lenA : (A ++ [(wf (zA S 302) (zA S 303) (zA S 304) b i (n + 1) x).2]).length = A.length + 1 := by rw [List.length_append]; rfl
        obtain ⟨T, t1, t2, t3⟩ := ih f (wf (zA S 302) (zA S 303) (zA S 304) b i (n + 1) x).1 W (A ++ [(wf (zA S 302) (zA S 303) (zA S 304) b i (n + 1) x).2]) r (by simp only [List.length_cons] at hN; omega) (by omega) hIW hi (by rw [lenA]; simp only [List.length_cons] at hl; omega) (by rw [List.append_assoc]; exact w2)
        rw [w3.1 302 (by decide), w3.1 303 (by decide), w3.1 304 (by decide)] at t2
        rw [lenA] at t1
        refine ⟨T, ?_, ?_, w3.tr t3⟩
        · rw [← t1, ← w1]
          simp only [f_X11_fillBoxes_6, r_mrd, ite_f, hbox, hneg, ↓reduceIte, if_neg hnf]
        · rw [putN_cons]
          rw [List.append_assoc] at t2; exact t2
/-- how many boxes and pieces, up to an item of a size -/
def dk (z : Nat → Int32) (c : Nat → Nat) (k i : Nat) : Nat := if 6 * (9 - (z i).toNatClampNeg) + i < k then c i else 0
def dks (z : Nat → Int32) (c : Nat → Nat) (k : Nat) : Nat := dk z c k 0 + dk z c k 1 + dk z c k 2 + dk z c k 3 + dk z c k 4 + dk z c k 5
theorem dks_step {z : Nat → Int32} {c : Nat → Nat} {k : Nat} (hk : k < 54) (hz : ∀ i, i < 6 → tI (z i) 1 9) : (z (k % 6) = nI (9 - k / 6) → dks z c (k + 1) = dks z c k + c (k % 6)) ∧ dks z c k ≤ dks z c (k + 1) ∧ dks z c k ≤ c 0 + c 1 + c 2 + c 3 + c 4 + c 5 := by
  have one : ∀ i, dk z c k i ≤ c i := fun i => by unfold dk; split <;> omega
  have mono : ∀ i, dk z c k i ≤ dk z c (k + 1) i := fun i => by unfold dk; split <;> split <;> omega
  have o0 := one 0; have o1 := one 1; have o2 := one 2; have o3 := one 3; have o4 := one 4; have o5 := one 5
  have m0 := mono 0; have m1 := mono 1; have m2 := mono 2; have m3 := mono 3; have m4 := mono 4; have m5 := mono 5
  refine ⟨fun e => ?_, by unfold dks; omega, by unfold dks; omega⟩
  have h6 : k % 6 < 6 := Nat.mod_lt _ (by decide)
  have ez : (z (k % 6)).toNatClampNeg = 9 - k / 6 := by rw [e]; exact nI_clamp (by omega)
  have same : ∀ i, i < 6 → i ≠ k % 6 → dk z c (k + 1) i = dk z c k i := fun i hi hne => by
    unfold dk
    have hzi := tI_of (hz i hi)
    by_cases q : 6 * (9 - (z i).toNatClampNeg) + i < k
    · rw [if_pos q, if_pos (by omega)]
    · rw [if_neg q, if_neg]
      intro q2
      have : 6 * (9 - (z i).toNatClampNeg) + i = k := by omega
      omega
  have here : dk z c (k + 1) (k % 6) = c (k % 6) ∧ dk z c k (k % 6) = 0 := by
    unfold dk
    rw [ez]
    refine ⟨if_pos ?_, if_neg ?_⟩ <;> omega
  unfold dks
  rcases (show k % 6 = 0 ∨ k % 6 = 1 ∨ k % 6 = 2 ∨ k % 6 = 3 ∨ k % 6 = 4 ∨ k % 6 = 5 by omega) with r | r | r | r | r | r
  · rw [r] at here same ⊢
    have s1 := same 1 (by decide) (by decide)
    have s2 := same 2 (by decide) (by decide)
    have s3 := same 3 (by decide) (by decide)
    have s4 := same 4 (by decide) (by decide)
    have s5 := same 5 (by decide) (by decide)
    omega
  · rw [r] at here same ⊢
    have s0 := same 0 (by decide) (by decide)
    have s2 := same 2 (by decide) (by decide)
    have s3 := same 3 (by decide) (by decide)
    have s4 := same 4 (by decide) (by decide)
    have s5 := same 5 (by decide) (by decide)
    omega
  · rw [r] at here same ⊢
    have s0 := same 0 (by decide) (by decide)
    have s1 := same 1 (by decide) (by decide)
    have s3 := same 3 (by decide) (by decide)
    have s4 := same 4 (by decide) (by decide)
    have s5 := same 5 (by decide) (by decide)
    omega
  · rw [r] at here same ⊢
    have s0 := same 0 (by decide) (by decide)
    have s1 := same 1 (by decide) (by decide)
    have s2 := same 2 (by decide) (by decide)
    have s4 := same 4 (by decide) (by decide)
    have s5 := same 5 (by decide) (by decide)
    omega
  · rw [r] at here same ⊢
    have s0 := same 0 (by decide) (by decide)
    have s1 := same 1 (by decide) (by decide)
    have s2 := same 2 (by decide) (by decide)
    have s3 := same 3 (by decide) (by decide)
    have s5 := same 5 (by decide) (by decide)
    omega
  · rw [r] at here same ⊢
    have s0 := same 0 (by decide) (by decide)
    have s1 := same 1 (by decide) (by decide)
    have s2 := same 2 (by decide) (by decide)
    have s3 := same 3 (by decide) (by decide)
    have s4 := same 4 (by decide) (by decide)
    omega
theorem pk_len {z t g : Nat → Int32} {b : Int32} {c : Nat → Nat} (hz : ∀ i, i < 6 → tI (z i) 1 9) : ∀ k, k ≤ 54 → (pkS z t g b c k).length ≤ dks z c k
  | 0, _ => Nat.zero_le _
  | k + 1, hk => by
    have h1 := pk_len (t := t) (g := g) (b := b) (c := c) hz k (by omega)
    obtain ⟨a1, a2, a3⟩ := dks_step (c := c) (k := k) (by omega) hz
    rw [pkS]; split
    · rename_i e
      have := putN_len (z := z) (t := t) (g := g) (b := b) (i := k % 6) (c (k % 6)) (pkS z t g b c k)
      have := a1 e
      omega
    · omega
end
