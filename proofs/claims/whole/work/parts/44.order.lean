section
variable {m : Nat} {S T : Ss} {w v : MS} {R : Type}
theorem cS_lt {S T : Ss} : ∀ n, (∀ t, t < n → zA T 705 t = zA S 705 t) → cS T n = cS S n
  | 0, _ => rfl
  | t + 1, h => by unfold cS; rw [cS_lt t fun q hq => h q (by omega), h t (by omega)]
theorem r_mnl {i : Nat} {k : MM R} (h : i = zN S 72) : (mnl i k).1 S = k.1 (pNL i S) := by
  show (if i = zN S 72 then mst (pNL i) (pNL_le i) k else mfail).1 S = _
  rw [if_pos h]; rfl
/-- the class's numbers behind a new order, the reference's -/
def oT (S : Ss) (x y z : Int32) : Ss := pA 703 (zN S 7) z (pA 702 (zN S 7) y (pA 701 (zN S 7) x (pA 700 (zN S 7) (nI (zN S 7)) (pNL (zN S 7) (pNew 7 7 S)))))
def oV (S : Ss) (w : MS) (x y z : Int32) : MS := mSI 27 (nI (zN S 7 + 1)) (mSA 30 (zN S 7) z (mSA 29 (zN S 7) y (mSA 28 (zN S 7) x (mSI 0 0 w))))
def oL (S : Ss) (c : Nat) (x y z : Int32) : Ss := pL 1106 0 (List.range (zN S 7 + 1)) c (oT S x y z)
theorem oT_705 (S : Ss) (x y z : Int32) (o : Nat) : zA (oT S x y z) 705 o = if o = zN S 7 then 0 else zA S 705 o := by
  show (if 705 / 100 = 7 ∧ o = zN S 7 then (0 : Int32) else zA S 705 o) = _
  by_cases r : o = zN S 7 <;> simp [r]
theorem oL_704 (S : Ss) (c : Nat) (x y z : Int32) (o : Nat) : zL (oL S c x y z) 704 o = if o = zN S 7 then [] else zL S 704 o := by
  show u2 1106 0 (List.range (zN S 7 + 1)) (u2 704 (zN S 7) [] (zL S)) 704 o = _
  rw [u2_at, if_neg (fun r => absurd r.1 (by decide)), u2_at]
  by_cases r : o = zN S 7 <;> simp [r]
theorem oL_A (S : Ss) (c : Nat) (x y z : Int32) (f i : Nat) (hf : f / 100 ≠ 7) : zA (oL S c x y z) f i = zA S f i ∧ zO (oL S c x y z) f i = zO S f i := by
  constructor
  · show u2 703 (zN S 7) z (u2 702 (zN S 7) y (u2 701 (zN S 7) x (u2 700 (zN S 7) (nI (zN S 7)) (fun f i => if f / 100 = 7 ∧ i = zN S 7 then 0 else zA S f i)))) f i = _
    rw [u2_at, if_neg (fun r => by omega), u2_at, if_neg (fun r => by omega), u2_at, if_neg (fun r => by omega), u2_at, if_neg (fun r => by omega), if_neg (fun r => by omega)]
  · show (if f / 100 = 7 ∧ i = zN S 7 then none else zO S f i) = _
    rw [if_neg (fun r => by omega)]
theorem zA_pL (f i : Nat) (l : List Nat) (c : Nat) (S : Ss) : zA (pL f i l c S) = zA S := rfl
theorem oL_705 (S : Ss) (c : Nat) (x y z : Int32) (o : Nat) : zA (oL S c x y z) 705 o = if o = zN S 7 then 0 else zA S 705 o := by
  unfold oL
  rw [zA_pL, oT_705]
theorem oL_7 (S : Ss) (c : Nat) (x y z : Int32) (f i : Nat) (hf : f < 705) : zA (oL S c x y z) f i = u2 703 (zN S 7) z (u2 702 (zN S 7) y (u2 701 (zN S 7) x (u2 700 (zN S 7) (nI (zN S 7)) (fun f i => if f / 100 = 7 ∧ i = zN S 7 then 0 else zA S f i)))) f i := by
  unfold oL
  rw [zA_pL]
  rfl
theorem oL_700 (S : Ss) (c : Nat) (x y z : Int32) (i : Nat) : zA (oL S c x y z) 700 i = if i = zN S 7 then nI (zN S 7) else zA S 700 i := by
  rw [oL_7 S c x y z 700 i (by decide)]
  simp only [u2_at, Nat.reduceEqDiff, false_and, true_and, ↓reduceIte, Nat.reduceDiv]
  by_cases q : i = zN S 7 <;> simp only [q, ↓reduceIte]
theorem oL_701 (S : Ss) (c : Nat) (x y z : Int32) (i : Nat) : zA (oL S c x y z) 701 i = if i = zN S 7 then x else zA S 701 i := by
  rw [oL_7 S c x y z 701 i (by decide)]
  simp only [u2_at, Nat.reduceEqDiff, false_and, true_and, ↓reduceIte, Nat.reduceDiv]
  by_cases q : i = zN S 7 <;> simp only [q, ↓reduceIte]
theorem oL_702 (S : Ss) (c : Nat) (x y z : Int32) (i : Nat) : zA (oL S c x y z) 702 i = if i = zN S 7 then y else zA S 702 i := by
  rw [oL_7 S c x y z 702 i (by decide)]
  simp only [u2_at, Nat.reduceEqDiff, false_and, true_and, ↓reduceIte, Nat.reduceDiv]
  by_cases q : i = zN S 7 <;> simp only [q, ↓reduceIte]
theorem oL_703 (S : Ss) (c : Nat) (x y z : Int32) (i : Nat) : zA (oL S c x y z) 703 i = if i = zN S 7 then z else zA S 703 i := by
  rw [oL_7 S c x y z 703 i (by decide)]
  simp only [u2_at, Nat.reduceEqDiff, false_and, true_and, ↓reduceIte, Nat.reduceDiv]
  by_cases q : i = zN S 7 <;> simp only [q, ↓reduceIte]
theorem oL_72 (S : Ss) (c : Nat) (x y z : Int32) : zN (oL S c x y z) 72 = zN S 72 + 1 := rfl
theorem oL_L6 (S : Ss) (c : Nat) (x y z : Int32) : zL (oL S c x y z) 1106 0 = List.range (zN S 7 + 1) := by
  show u2 1106 0 (List.range (zN S 7 + 1)) (u2 704 (zN S 7) [] (zL S)) 1106 0 = _
  rw [u2_at, if_pos ⟨rfl, rfl⟩]
theorem oV_28 (S : Ss) (w : MS) (x y z : Int32) (q : Nat) : mA (oV S w x y z) 28 q = if q = zN S 7 then x else mA w 28 q := by
  show (if 28 = 30 ∧ q = zN S 7 then z else if 28 = 29 ∧ q = zN S 7 then y else if 28 = 28 ∧ q = zN S 7 then x else mA w 28 q) = _
  simp only [Nat.reduceEqDiff, false_and, true_and, ↓reduceIte]
theorem oV_29 (S : Ss) (w : MS) (x y z : Int32) (q : Nat) : mA (oV S w x y z) 29 q = if q = zN S 7 then y else mA w 29 q := by
  show (if 29 = 30 ∧ q = zN S 7 then z else if 29 = 29 ∧ q = zN S 7 then y else if 29 = 28 ∧ q = zN S 7 then x else mA w 29 q) = _
  simp only [Nat.reduceEqDiff, false_and, true_and, ↓reduceIte]
theorem oV_30 (S : Ss) (w : MS) (x y z : Int32) (q : Nat) : mA (oV S w x y z) 30 q = if q = zN S 7 then z else mA w 30 q := by
  show (if 30 = 30 ∧ q = zN S 7 then z else if 30 = 29 ∧ q = zN S 7 then y else if 30 = 28 ∧ q = zN S 7 then x else mA w 30 q) = _
  simp only [Nat.reduceEqDiff, false_and, true_and, ↓reduceIte]
theorem oV_B (S : Ss) (w : MS) (x y z : Int32) (k : Nat) (h : 31 ≤ k) : mA (oV S w x y z) k = mA w k := by
  funext q
  show (if k = 30 ∧ q = zN S 7 then z else if k = 29 ∧ q = zN S 7 then y else if k = 28 ∧ q = zN S 7 then x else mA w k q) = _
  rw [if_neg (fun r => by omega), if_neg (fun r => by omega), if_neg (fun r => by omega)]
theorem oV_27 (S : Ss) (w : MS) (x y z : Int32) : mI (oV S w x y z) 27 = nI (zN S 7 + 1) := rfl
theorem oL_N (S : Ss) (c : Nat) (x y z : Int32) (f : Nat) (h : f ≠ 61 ∧ f ≠ 62 ∧ f ≠ 72 ∧ f ≠ 7) : zN (oL S c x y z) f = zN S f := by
  show (if f = 61 then _ else if f = 62 then _ else if f = 72 then _ else if f = 7 then _ else _) = _
  rw [if_neg h.1, if_neg h.2.1, if_neg h.2.2.1, if_neg h.2.2.2, if_neg h.1, if_neg h.2.1]
theorem oL_N7 (S : Ss) (c : Nat) (x y z : Int32) : zN (oL S c x y z) 7 = zN S 7 + 1 := rfl
theorem oL_L (S : Ss) (c : Nat) (x y z : Int32) (f i : Nat) (h : f ≠ 1106) (h' : f ≠ 704) : zL (oL S c x y z) f i = zL S f i := by
  show u2 1106 0 (List.range (zN S 7 + 1)) (u2 704 (zN S 7) [] (zL S)) f i = _
  rw [u2_at, if_neg (fun r => h r.1), u2_at, if_neg (fun r => h' r.1)]
theorem oV_A (S : Ss) (w : MS) (x y z : Int32) (k : Nat) (h : 40 ≤ k) : mA (oV S w x y z) k = mA w k := by
  funext q
  show (if k = 30 ∧ q = zN S 7 then z else if k = 29 ∧ q = zN S 7 then y else if k = 28 ∧ q = zN S 7 then x else mA w k q) = _
  rw [if_neg (fun r => by omega), if_neg (fun r => by omega), if_neg (fun r => by omega)]
theorem oV_I (S : Ss) (w : MS) (x y z : Int32) (k : Nat) (h : 28 ≤ k) : mI (oV S w x y z) k = mI w k := by
  show (if k = 27 then _ else if k = 0 then _ else mI w k) = _
  rw [if_neg (by omega), if_neg (by omega)]
theorem o_ex {c : Nat} {x y z : Int32} : EX S (oL S c x y z) w (oV S w x y z) := by
  unfold EX hL
  refine And.intro (oL_L S c x y z 1107 0 (by decide) (by decide)) ?_
  refine And.intro (oL_N S c x y z 10 (by decide)) ?_
  refine And.intro (Nat.le_of_eq (oL_N S c x y z 2 (by decide)).symm) ?_
  refine And.intro (Nat.le_of_eq (oL_N S c x y z 5 (by decide)).symm) ?_
  refine And.intro (by rw [oL_N7]; exact Nat.le_succ _) ?_
  refine And.intro (fun f i hf => oL_A S c x y z f i (by omega)) ?_
  refine And.intro (oL_L S c x y z 1108 0 (by decide) (by decide)) ?_
  refine And.intro (fun o ho => ?_) ?_
  · refine And.intro ?_ (Exists.intro [] ?_)
    · rw [oL_705, if_neg (by omega)]
    · rw [List.append_nil, oL_704, if_neg (by omega)]
  refine And.intro (oV_I S w x y z 39 (by decide)) ?_
  refine And.intro (oV_I S w x y z 45 (by decide)) ?_
  exact fun k h1 _ => oV_A S w x y z k h1
theorem o_or {B k c : Nat} {x y z : Int32} (hR : Rel B k S w) (hn : zN S 7 < 8) (h1 : inI x 0 9 = true) (hy : y = 0 ∨ y = 1) : g_or (oL S c x y z) (oV S w x y z) := by
  obtain ⟨n1, n2, n3, n4, n5, n6⟩ := hR.or
  unfold g_or
  rw [oL_N7, oL_72, oL_L6, oV_27, oV_B S w x y z 31 (by decide), oV_B S w x y z 32 (by decide)]
  refine And.intro (by omega) (And.intro (by omega) (And.intro rfl (And.intro rfl (And.intro (fun q hq => ?_) fun q h1 h2 => n6 q (by omega) h2))))
  rw [oL_700, oL_701, oL_702, oL_703, oL_705, oV_28, oV_29, oV_30]
  by_cases q2 : q = zN S 7
  · subst q2
    simp only [↓reduceIte, true_and]
    exact ⟨hy, (n6 _ (Nat.le_refl _) hn).2, Or.inl rfl, inI_t h1⟩
  · simp only [q2, ↓reduceIte]
    exact n5 q (by omega)
theorem oL_Af (S : Ss) (c : Nat) (x y z : Int32) (f : Nat) (hf : f / 100 ≠ 7) : zA (oL S c x y z) f = zA S f := funext fun i => (oL_A S c x y z f i hf).1
theorem oL_Of (S : Ss) (c : Nat) (x y z : Int32) (f : Nat) (hf : f / 100 ≠ 7) : zO (oL S c x y z) f = zO S f := funext fun i => (oL_A S c x y z f i hf).2
theorem oL_C (S : Ss) (c : Nat) (x y z : Int32) : zC (oL S c x y z) = zC S := rfl
theorem o_li {B k c : Nat} {x y z : Int32} (hR : Rel B k S w) (hn : zN S 7 < 8) : g_li (oL S c x y z) (oV S w x y z) := by
  obtain ⟨n1, n2, n3⟩ := hR.li
  have hz : zL (oL S c x y z) 704 = fun o => if o = zN S 7 then [] else zL S 704 o := funext (oL_704 S c x y z)
  unfold g_li
  rw [hz, oL_N7, oL_N S c x y z 4 (by decide), oL_Of S c x y z 400 (by decide), oL_Af S c x y z 401 (by decide), oL_Af S c x y z 402 (by decide), oL_Af S c x y z 403 (by decide), oV_B S w x y z 31 (by decide), oV_B S w x y z 36 (by decide), oV_B S w x y z 37 (by decide), oV_B S w x y z 38 (by decide)]
  dsimp only
  refine And.intro (fun o ho => ?_) (And.intro (fun o o' p p' j ho ho' hj hj' => ?_) fun o p ho hp hl => ?_)
  · by_cases q : o = zN S 7
    · subst q
      simp only [↓reduceIte]
      exact ⟨Nat.zero_le _, (hR.or.2.2.2.2.2 _ (Nat.le_refl _) hn).1, fun p j hj => by cases hj⟩
    · simp only [if_neg q]
      exact n1 o (by omega)
  · by_cases q : o = zN S 7
    · rw [if_pos q] at hj; cases hj
    · by_cases q' : o' = zN S 7
      · rw [if_pos q'] at hj'; cases hj'
      · rw [if_neg q] at hj; rw [if_neg q'] at hj'
        exact n2 o o' p p' j (by omega) (by omega) hj hj'
  · refine n3 o p ho hp fun h9 => ?_
    have := hl (by omega)
    rw [if_neg (by omega)] at this
    exact this
theorem o_st {B k c : Nat} {x y z : Int32} (hR : Rel B k S w) (hn : zN S 7 < 8) : g_st (oL S c x y z) (oV S w x y z) := by
  obtain ⟨n1, n2⟩ := hR.st
  have hz : zL (oL S c x y z) 704 = fun o => if o = zN S 7 then [] else zL S 704 o := funext (oL_704 S c x y z)
  have hz5 : zA (oL S c x y z) 705 = fun o => if o = zN S 7 then 0 else zA S 705 o := funext (oL_705 S c x y z)
  unfold g_st
  rw [hz, hz5, oL_N7, oL_N S c x y z 5 (by decide), oL_Af S c x y z 403 (by decide), oL_C]
  dsimp only
  refine And.intro (fun o ho hs => ?_) fun o l ho hl hs => ?_
  · by_cases q : o = zN S 7
    · simp only [if_pos q]
      refine Int.le_of_eq ?_
      show sz (List.range (zN S 5)) (fun l => (zC S 0 (12 * (20 + o) + l)).toInt) = 0
      rw [sz_cg (y := fun _ => 0) _ fun l hl => ?_, sz_z]
      rw [n2 o l (by omega) (by have := List.mem_range.mp hl; have := hR.lo.1; omega) (fun r => by omega)]; rfl
    · simp only [if_neg q] at hs ⊢
      exact n1 o (by omega) hs
  · refine n2 o l ho hl fun h9 => ?_
    have := hs (by omega)
    rw [if_neg (show ¬ o = zN S 7 by omega)] at this
    exact this
end
