section
variable {m : Nat} {S T : Ss} {w v : MS}
theorem nA {c n f : Nat} (h : f / 100 ≠ c) : zA (pNew c n S) f = zA S f := funext fun i => if_neg fun r => h r.1
theorem nO {c n f : Nat} (h : f / 100 ≠ c) : zO (pNew c n S) f = zO S f := funext fun i => if_neg fun r => h r.1
theorem nA' {c n f i : Nat} : zA (pNew c n S) f i = if f / 100 = c ∧ i = zN S c then 0 else zA S f i := rfl
theorem nO' {c n f i : Nat} : zO (pNew c n S) f i = if f / 100 = c ∧ i = zN S c then none else zO S f i := rfl
theorem nL' {c n : Nat} : zL (pNew c n S) = zL S := rfl
theorem nP' {c n : Nat} : zP (pNew c n S) = zP S := rfl
theorem nC' {c n : Nat} : zC (pNew c n S) = zC S := rfl
theorem nM' {c n : Nat} : zM (pNew c n S) = zM S := rfl
theorem nN {c n f : Nat} (h : f ≠ c ∧ f ≠ 61 ∧ f ≠ 62) : zN (pNew c n S) f = zN S f := by
  show (if f = c then _ else if f = 61 then _ else if f = 62 then _ else zN S f) = _
  rw [if_neg h.1, if_neg h.2.1, if_neg h.2.2]
theorem nNc {c n : Nat} : zN (pNew c n S) c = zN S c + 1 := if_pos rfl
theorem nN1 {c n : Nat} (h : c ≠ 61) : zN (pNew c n S) 61 = zN S 61 + 1 := by
  show (if 61 = c then _ else if 61 = 61 then _ else _) = _
  rw [if_neg (fun r => h r.symm), if_pos rfl]
theorem nN2 {c n : Nat} (h : c ≠ 62) : zN (pNew c n S) 62 = zN S 62 + n := by
  show (if 62 = c then _ else if 62 = 61 then _ else if 62 = 62 then _ else _) = _
  rw [if_neg (fun r => h r.symm), if_neg (by decide), if_pos rfl]
def lnT (S : Ss) (o i : Nat) (y : Int32) (c : Nat) : Ss := pL 704 o (zL S 704 o ++ [zN S 4]) c (pA 401 (zN S 4) y (pO 400 (zN S 4) (some i) (pNew 4 4 S)))
def lnV (S : Ss) (w : MS) (o i : Nat) (y : Int32) : MS := mSA 31 o (nI ((zL S 704 o).length + 1)) (mSA 37 (3 * o + (zL S 704 o).length) y (mSA 36 (3 * o + (zL S 704 o).length) (nI i) w))
theorem Rel.line {B k : Nat} (h : Rel B k S w) {o i : Nat} (ho : o < zN S 7) (hi : i < 6) {y : Int32} (hy : tI y 1 99) (hl : (zL S 704 o).length < 3) (c : Nat) : Rel B k (lnT S o i y c) (lnV S w o i y) := by
  have h8 := h.or.1
  obtain ⟨l1, l2, l3⟩ := h.li
  have nlt : ∀ q p j, q < zN S 7 → (zL S 704 q)[p]? = some j → j < zN S 4 := fun q p j hq hj => ((l1 q hq).2.2 p j hj).1
  have nol : ∀ x, x ∈ hL S → ∀ j, zO S 201 x = some j → j < zN S 4 := fun x hx j hj => by
    obtain ⟨-, -, -, -, c5, -⟩ := h.ho.2.1 x hx
    rcases c5 with ⟨-, c5, -⟩ | ⟨o2, j2, p, c1, c2, c3, c4, -⟩
    · rw [c5] at hj; cases hj
    · have : j2 = j := Option.some.inj (c2.symm.trans hj)
      subst this
      obtain ⟨p, hp, hpj⟩ := List.mem_iff_getElem.mp c4
      exact nlt o2 p j2 c3 (List.getElem?_eq_some_iff.mpr ⟨hp, hpj⟩)
  have hA : ∀ f, f / 100 ≠ 4 → zA (lnT S o i y c) f = zA S f := fun f hf => by
    unfold lnT; rw [tAL, fAA (by intro e; subst e; exact hf rfl), tAO, nA hf]
  have hO : ∀ f, f / 100 ≠ 4 → zO (lnT S o i y c) f = zO S f := fun f hf => by
    unfold lnT; rw [tOL, tOA, fOO (by intro e; subst e; exact hf rfl), nO hf]
  have hL : ∀ f, f ≠ 704 → zL (lnT S o i y c) f = zL S f := fun f hf => by unfold lnT; rw [fLL hf]; rfl
  have hC : ∀ f, True → zC (lnT S o i y c) f = zC S f := fun f _ => rfl
  have hN : ∀ f, f ≠ 4 ∧ f ≠ 61 ∧ f ≠ 62 → zN (lnT S o i y c) f = zN S f := fun f hf => nN hf
  have hM : zM (lnT S o i y c) = zM S := rfl
  have hI : ∀ f, True → mI (lnV S w o i y) f = mI w f := fun f _ => rfl
  have hB : ∀ f, f ≠ 31 ∧ f ≠ 37 ∧ f ≠ 36 → mA (lnV S w o i y) f = mA w f := fun f hf => by unfold lnV; rw [fBA hf.1, fBA hf.2.1, fBA hf.2.2]
  have e4 : ∀ f j, f = 402 ∨ f = 403 → zA (lnT S o i y c) f j = if j = zN S 4 then 0 else zA S f j := fun f j hf => by
    unfold lnT; rw [tAL, fAA (by omega), tAO, nA']
    by_cases q : j = zN S 4
    · rw [if_pos q, if_pos ⟨by omega, q⟩]
    · rw [if_neg q, if_neg (fun r => q r.2)]
  have e401 : ∀ j, zA (lnT S o i y c) 401 j = if j = zN S 4 then y else zA S 401 j := fun j => by
    unfold lnT; rw [tAL, sAA, tAO, nA']
    by_cases q : j = zN S 4
    · rw [if_pos q, if_pos q]
    · rw [if_neg q, if_neg q, if_neg (fun r => q r.2)]
  have e400 : ∀ j, zO (lnT S o i y c) 400 j = if j = zN S 4 then some i else zO S 400 j := fun j => by
    unfold lnT; rw [tOL, tOA, sOO, nO']
    by_cases q : j = zN S 4
    · rw [if_pos q, if_pos q]
    · rw [if_neg q, if_neg q, if_neg (fun r => q r.2)]
  have eL : ∀ q, zL (lnT S o i y c) 704 q = if q = o then zL S 704 o ++ [zN S 4] else zL S 704 q := fun q => by unfold lnT; rw [sLL]; rfl
  have eN : zN (lnT S o i y c) 4 = zN S 4 + 1 := rfl
  have e31 : ∀ q, mA (lnV S w o i y) 31 q = if q = o then nI ((zL S 704 o).length + 1) else mA w 31 q := fun q => by
    unfold lnV; rw [sBA, fBA (by decide), fBA (by decide)]
  have e37 : ∀ q, mA (lnV S w o i y) 37 q = if q = 3 * o + (zL S 704 o).length then y else mA w 37 q := fun q => by
    unfold lnV; rw [fBA (by decide), sBA, fBA (by decide)]
  have e36 : ∀ q, mA (lnV S w o i y) 36 q = if q = 3 * o + (zL S 704 o).length then nI i else mA w 36 q := fun q => by
    unfold lnV; rw [fBA (by decide), fBA (by decide), sBA]
  have ex : EX S (lnT S o i y c) w (lnV S w o i y) := by
    unfold EX
    simp only [hL_eq]
    refine ⟨by rw [hL 1107 (by decide)], hN 10 (by decide), Nat.le_of_eq (hN 2 (by decide)).symm, Nat.le_of_eq (hN 5 (by decide)).symm, Nat.le_of_eq (hN 7 (by decide)).symm, fun f x hf => ⟨by rw [hA f (by omega)], by rw [hO f (by omega)]⟩, by rw [hL 1108 (by decide)], fun q hq => ⟨by rw [hA 705 (by decide)], ?_⟩, rfl, rfl, fun k h1 h2 => hB k (by omega)⟩
    rw [eL]
    split
    · rename_i e; subst e; exact ⟨_, rfl⟩
    · exact ⟨[], by rw [List.append_nil]⟩
  have gt : ∀ q p j, q < zN S 7 → (zL (lnT S o i y c) 704 q)[p]? = some j → ((zL S 704 q)[p]? = some j ∧ j < zN S 4) ∨ (q = o ∧ p = (zL S 704 o).length ∧ j = zN S 4) := fun q p j hq hj => by
    rw [eL] at hj
    by_cases e : q = o
    · rw [if_pos e] at hj
      by_cases e2 : p < (zL S 704 o).length
      · rw [List.getElem?_append_left e2] at hj
        rw [e]; exact Or.inl ⟨hj, nlt o p j ho hj⟩
      · rw [List.getElem?_append_right (by omega)] at hj
        have e3 : p - (zL S 704 o).length = 0 := by
          refine Classical.byContradiction fun r => ?_
          rw [List.getElem?_eq_none (by simp; omega)] at hj; cases hj
        rw [e3] at hj
        exact Or.inr ⟨e, by omega, (Option.some.inj hj).symm⟩
    · rw [if_neg e] at hj
      exact Or.inl ⟨hj, nlt q p j hq hj⟩
  have li : g_li (lnT S o i y c) (lnV S w o i y) := by
    unfold g_li
    rw [hN 7 (by decide), hB 38 (by decide), eN]
    refine ⟨fun q hq => ⟨?_, ?_, fun p j hj => ?_⟩, fun q q' p p' j hq hq' hj hj' => ?_, fun q p hq hp hr => ?_⟩
    · rw [eL]; split
      · rw [List.length_append]; show _ + 1 ≤ 3; omega
      · exact (l1 q hq).1
    · rw [eL, e31]; split
      · rw [List.length_append]; rfl
      · exact (l1 q hq).2.1
    · rw [e400, e401, e4 402 j (Or.inl rfl), e4 403 j (Or.inr rfl), e36, e37]
      rcases gt q p j hq hj with ⟨g1, g2⟩ | ⟨g1, g2, g3⟩
      · have hp := (List.getElem?_eq_some_iff.mp g1).1
        have := (l1 q hq).1
        have e9 : ¬ j = zN S 4 := by omega
        simp only [e9, ↓reduceIte]
        obtain ⟨b1, b2, b3, b4, b5⟩ := (l1 q hq).2.2 p j g1
        by_cases e : 3 * q + p = 3 * o + (zL S 704 o).length
        · have e1 : q = o := by omega
          have e2 : p = (zL S 704 o).length := by omega
          rw [e1, e2] at g1
          rw [List.getElem?_eq_none (Nat.le_refl _)] at g1; cases g1
        · simp only [e, ↓reduceIte]
          exact ⟨by omega, b2, b3, b4, b5⟩
      · have e9 : 3 * q + p = 3 * o + (zL S 704 o).length := by omega
        simp only [g3, e9, ↓reduceIte]
        have e38 := l3 o (zL S 704 o).length (by omega) hl (fun _ => Nat.le_refl _)
        have t := tI_of hy
        refine ⟨by omega, ⟨i, hi, rfl, rfl⟩, trivial, e38, hy, ⟨by decide, by decide⟩, ⟨by decide, by decide⟩, ?_⟩
        show (0 : Int) + 0 ≤ y.toInt
        omega
    · rcases gt q p j hq hj with ⟨g1, g2⟩ | ⟨g1, g2, g3⟩
      · rcases gt q' p' j hq' hj' with ⟨f1, f2⟩ | ⟨f1, f2, f3⟩
        · exact l2 q q' p p' j hq hq' g1 f1
        · omega
      · rcases gt q' p' j hq' hj' with ⟨f1, f2⟩ | ⟨f1, f2, f3⟩
        · omega
        · exact ⟨by omega, by omega⟩
    · refine l3 q p hq hp fun h9 => ?_
      have := hr h9
      rw [eL] at this
      split at this
      · rename_i e; subst e; rw [List.length_append] at this; have e2 : [zN S 4].length = 1 := rfl; omega
      · exact this
  have or : g_or (lnT S o i y c) (lnV S w o i y) := by
    obtain ⟨n1, n2, n3, n4, n5, n6⟩ := h.or
    unfold g_or
    rw [hN 7 (by decide), hN 72 (by decide), hL 1106 (by decide), hI 27 (by decide), hA 700 (by decide), hA 701 (by decide), hA 702 (by decide), hA 703 (by decide), hA 705 (by decide), hB 28 (by decide), hB 29 (by decide), hB 30 (by decide), hB 32 (by decide)]
    refine ⟨n1, n2, n3, n4, n5, fun q h1 h2 => ?_⟩
    rw [e31, if_neg (by omega)]; exact n6 q h1 h2
  have hs : g_hs (lnT S o i y c) (lnV S w o i y) := by
    obtain ⟨n1, n2⟩ := h.hs
    unfold g_hs hpc
    simp only [hL_eq]
    rw [hC 3 (by decide), hC 0 (by decide), hL 1107 (by decide), hA 202 (by decide), hO 203 (by decide), hA 204 (by decide), hO 201 (by decide), eN]
    refine ⟨n1, fun j hj => ?_⟩
    rw [e4 402 j (Or.inl rfl)]
    by_cases e : j = zN S 4
    · rw [if_pos e]
      have z : ∀ x, x ∈ zL S 1107 0 → ¬ zO S 201 x = some j := fun x hx r => by have := nol x hx j r; omega
      refine ⟨(sm_0 _ fun x hx => if_neg (z x hx)).symm, ?_⟩
      rw [sz_cg (y := fun _ => 0) _ fun x hx => if_neg (z x hx), sz_z]; rfl
    · rw [if_neg e]; exact n2 j (by omega)
  have st : g_st (lnT S o i y c) (lnV S w o i y) := by
    obtain ⟨n1, n2⟩ := h.st
    unfold g_st
    rw [hN 7 (by decide), hN 5 (by decide), hA 705 (by decide), hC 0 (by decide)]
    refine ⟨fun q hq h5s => ?_, n2⟩
    have e5 : sz (zL S 704 q) (fun j => (zA (lnT S o i y c) 403 j).toInt) = sz (zL S 704 q) (fun j => (zA S 403 j).toInt) := sz_cg _ fun j hj => by
      obtain ⟨p, hp, hpj⟩ := List.mem_iff_getElem.mp hj
      have := nlt q p j hq (List.getElem?_eq_some_iff.mpr ⟨hp, hpj⟩)
      rw [e4 403 j (Or.inr rfl), if_neg (by omega)]
    rw [eL]
    split
    · rename_i e
      subst e
      rw [sz_app, e5, e4 403 _ (Or.inr rfl), if_pos rfl]
      have := n1 q hq h5s
      show _ ≤ _ + (0 : Int)
      omega
    · rw [e5]; exact n1 q hq h5s
  exact ⟨(cg_sl (hA 900 (by decide)) (hA 901 (by decide)) (hA 903 (by decide)) (hA 904 (by decide)) (hO 902 (by decide)) (hB 4 (by decide)) (hB 5 (by decide)) (hB 6 (by decide)) (hB 7 (by decide)) (hB 8 (by decide)) h.sl), (cg_it (hA 300 (by decide)) (hA 301 (by decide)) (hA 302 (by decide)) (hA 303 (by decide)) (hA 304 (by decide)) (hA 305 (by decide)) (hB 9 (by decide)) (hB 10 (by decide)) (hB 11 (by decide)) (hB 12 (by decide)) (hB 13 (by decide)) h.it), (cg_ba (hA 1115 (by decide)) (hB 14 (by decide)) h.ba), (cg_sc (hA 1116 (by decide)) (hA 1118 (by decide)) (hA 1117 (by decide)) (hI 1 (by decide)) (hI 2 (by decide)) (hI 3 (by decide)) h.sc), (cg_lo (hN 5 (by decide)) (hL 1103 (by decide)) (hA 500 (by decide)) (hA 502 (by decide)) (hA 503 (by decide)) (hO 501 (by decide)) (hI 15 (by decide)) (hB 16 (by decide)) (hB 17 (by decide)) (hB 18 (by decide)) h.lo), (cg_be (hL 1104 (by decide)) (hN 5 (by decide)) (hA 502 (by decide)) h.be), (cg_no (hN 6 (by decide)) (hL 1105 (by decide)) (hO 600 (by decide)) (hA 601 (by decide)) (hA 602 (by decide)) (hI 22 (by decide)) (hB 23 (by decide)) (hB 24 (by decide)) (hB 25 (by decide)) h.no), (cg_ca (hC 1110 (by decide)) (hB 26 (by decide)) h.ca), (cg_aw (hC 1111 (by decide)) (hN 7 (by decide)) (hA 705 (by decide)) (hB 33 (by decide)) h.aw), or, li, (cg_bk (hC 0 (by decide)) (hC 1 (by decide)) (hN 5 (by decide)) (hO 501 (by decide)) (hB 19 (by decide)) h.bk), (cg_nn (hC 0 (by decide)) (hC 2 (by decide)) h.nn), (cg_tr (hC 2 (by decide)) (hC 0 (by decide)) (hB 20 (by decide)) h.tr), (cg_db (hC 5 (by decide)) (hB 21 (by decide)) h.db), (cg_mv (hA 7 (by decide)) (hN 60 (by decide)) hM (hC 0 (by decide)) h.mv), ex.ho h.ho, hs, ex.hm h.ho h.hm, ex.ta h.ta, (cg_ap (hC 4 (by decide)) (hN 10 (by decide)) (hA 1005 (by decide)) (hA 1001 (by decide)) (hA 1003 (by decide)) (hA 1004 (by decide)) (hO 501 (by decide)) (hO 203 (by decide)) (hO 1002 (by decide)) (hO 902 (by decide)) h.ap), (cg_ro (hA 801 (by decide)) (hA 802 (by decide)) (hL 800 (by decide)) (hA 1005 (by decide)) (hN 10 (by decide)) (hB 53 (by decide)) (hB 55 (by decide)) (hB 56 (by decide)) (hB 58 (by decide)) (hB 59 (by decide)) h.ro), st, (cg_bx (hN 7 (by decide)) (hA 705 (by decide)) (hA 706 (by decide)) (hC 1112 (by decide)) (hA 302 (by decide)) (hA 303 (by decide)) (hA 304 (by decide)) (hO 501 (by decide)) (hN 5 (by decide)) (hB 34 (by decide)) (hB 35 (by decide)) h.bx)⟩
theorem cap_704 {o c : Nat} (ho : o < 8) (h : ∀ f i, ¬ (f = 704 ∧ i = o) → zP T f i = zP S f i) (h2 : zP T 704 o = c) : capS T + zP S 704 o = capS S + c := by
  rcases (show o = 0 ∨ o = 1 ∨ o = 2 ∨ o = 3 ∨ o = 4 ∨ o = 5 ∨ o = 6 ∨ o = 7 by omega) with e | e | e | e | e | e | e | e
  · subst e; exact cap_704_0 h h2
  · subst e; exact cap_704_1 h h2
  · subst e; exact cap_704_2 h h2
  · subst e; exact cap_704_3 h h2
  · subst e; exact cap_704_4 h h2
  · subst e; exact cap_704_5 h h2
  · subst e; exact cap_704_6 h h2
  · subst e; exact cap_704_7 h h2
theorem ln_gg (g : GG m S w) (hm : m < 512) {o i : Nat} (ho : o < zN S 7) (hi : i < 6) {y : Int32} (hy : tI y 1 99) (hl : (zL S 704 o).length < 3) {a b c : Nat} (ha : a ≤ zN S 61 + 1 + 1) (hb : b + 4 * zP S 704 o ≤ zN S 62 + 4 + 4 * c) (hc9 : c ≤ 3900) : GG (m + 1) (pN 61 a (pN 62 b (lnT S o i y c))) (lnV S (mSI 0 0 w) o i y) := by
  obtain ⟨-, -, hcp, B, k, hB, -, h⟩ := id g
  have h8 := h.or.1
  have hP : ∀ f q, zP (pN 61 a (pN 62 b (lnT S o i y c))) f q = if f = 704 ∧ q = o then c else zP S f q := fun f q => by
    rw [tPN, tPN]; exact u2_at ..
  have hA : ∀ f, f / 100 ≠ 4 → zA (pN 61 a (pN 62 b (lnT S o i y c))) f = zA S f := fun f hf => by
    rw [tAN, tAN]; unfold lnT; rw [tAL, fAA (by intro e; subst e; exact hf rfl), tAO, nA hf]
  have hN : ∀ f, f ≠ 4 ∧ f ≠ 61 ∧ f ≠ 62 → zN (pN 61 a (pN 62 b (lnT S o i y c))) f = zN S f := fun f hf => by
    rw [fNN hf.2.1, fNN hf.2.2]; exact nN hf
  refine g.gen hm (hN 60 (by decide)) ?_ ?_ ?_ ?_ fun B k hB hR => ⟨B, by omega, Rel.cost ((hR.thr 0).line ho hi hy hl c) _ _⟩
  · rw [sNN]; omega
  · have e1 := cap_704 (S := S) (T := pN 61 a (pN 62 b (lnT S o i y c))) (c := c) (show o < 8 by omega) (fun f i q => by rw [hP, if_neg q]) (by rw [hP, if_pos ⟨rfl, rfl⟩])
    rw [fNN (by decide), sNN]
    omega
  · unfold g_cp
    rw [hN 7 (by decide)]
    refine ⟨fun f h1 h2 => ?_, fun q hq => ?_, fun q hq => ⟨?_, fun hq' => ?_⟩⟩
    · rw [hP, if_neg (by omega)]; exact hcp.1 f h1 h2
    · rw [hP, if_neg (by omega)]; exact hcp.2.1 q hq
    · rw [hP]; split
      · exact hc9
      · exact (hcp.2.2 q hq).1
    · rw [hP, if_neg (by omega)]; exact (hcp.2.2 q hq).2 hq'
  · have e1 := cT_eq (S := S) (T := pN 61 a (pN 62 b (lnT S o i y c))) (fun t => by rw [hA 1005 (by decide)]) (fun t => by rw [hA 1006 (by decide)]) (zN S 10)
    have e2 := cS_eq (S := S) (T := pN 61 a (pN 62 b (lnT S o i y c))) (fun t => by rw [hA 705 (by decide)]) (zN S 7)
    rw [hN 10 (by decide), hN 7 (by decide), e1, e2]
theorem lnT_eq (S : Ss) (o i : Nat) (y : Int32) (a b c : Nat) (h : pAdd 704 o (zN S 4) (pA 401 (zN S 4) y (pO 400 (zN S 4) (some i) (pNew 4 4 S))) = pN 61 a (pN 62 b (pL 704 o (zL (pA 401 (zN S 4) y (pO 400 (zN S 4) (some i) (pNew 4 4 S))) 704 o ++ [zN S 4]) c (pA 401 (zN S 4) y (pO 400 (zN S 4) (some i) (pNew 4 4 S)))))) : pAdd 704 o (zN S 4) (pA 401 (zN S 4) y (pO 400 (zN S 4) (some i) (pNew 4 4 S))) = pN 61 a (pN 62 b (lnT S o i y c)) := by
  rw [h, tLA, tLO, nL']; rfl
theorem s_line (g : GG m S w) (hm : m < 512) (x y z : Int32) : STi GG m S w (f_X11_line x y z) (g_X12_line x y z) [(1, 1), (2, 2), (3, 3)] := by
  obtain ⟨-, -, hcp, B, k, hB, -, h⟩ := id g
  have h8 := h.or.1
  cases h1 : okI x (zN S 7) with
  | false =>
    refine sti_th g hm (u := 1) (c := 1) (r := 0) ?_ ?_ (by simp) (by decide) (by decide)
    · simp only [f_X11_line, r_mb, bnd_s, r_mrd, r_mbo, r_mret, r_mthr, r_wA, r_wO, r_madd, r_mput, r_mopt, r_mcn, r_mcs, ite_f, e_isWithin, e_isSlot, e_isItem, e_isGroup, e_isRobot, e_isLot, e_isNotice, e_isOrder, e_isTask, bI_t, bI_f, i10, i00, i01, i11, i20, i30, ↓reduceIte, h.nor, h1]; try rfl
    · simp only [g_X12_line_67, g_X12_line_20, g_X12_line_19, g_X12_line, kif, r_gb, gbn_s, r_grd, r_gbo, r_gret, r_gst, k_isIn, k_isSlot, k_isItem, k_isGroup, k_isRobot, k_are, k_holds0, k_holds1, k_holds2, k_holds3, k_bit, k_less, bI_t, bI_f, i10, i00, i01, i11, i20, i30, ↓reduceIte, h.kOrd, h1]; try rfl
  | true =>
    cases h2 : okI y 6 with
    | false =>
      refine sti_th g hm (u := 1) (c := 1) (r := 0) ?_ ?_ (by simp) (by decide) (by decide)
      · simp only [f_X11_line, r_mb, bnd_s, r_mrd, r_mbo, r_mret, r_mthr, r_wA, r_wO, r_madd, r_mput, r_mopt, r_mcn, r_mcs, ite_f, e_isWithin, e_isSlot, e_isItem, e_isGroup, e_isRobot, e_isLot, e_isNotice, e_isOrder, e_isTask, bI_t, bI_f, i10, i00, i01, i11, i20, i30, ↓reduceIte, h.nor, h1, h2]; try rfl
      · simp only [g_X12_line_67, g_X12_line_20, g_X12_line_19, g_X12_line, kif, r_gb, gbn_s, r_grd, r_gbo, r_gret, r_gst, k_isIn, k_isSlot, k_isItem, k_isGroup, k_isRobot, k_are, k_holds0, k_holds1, k_holds2, k_holds3, k_bit, k_less, bI_t, bI_f, i10, i00, i01, i11, i20, i30, ↓reduceIte, h.kOrd, h1, h2]; try rfl
    | true =>
      cases h3 : inI z 1 99 with
      | false =>
        refine sti_th g hm (u := 2) (c := 2) (r := 0) ?_ ?_ (by simp) (by decide) (by decide)
        · simp only [f_X11_line, r_mb, bnd_s, r_mrd, r_mbo, r_mret, r_mthr, r_wA, r_wO, r_madd, r_mput, r_mopt, r_mcn, r_mcs, ite_f, e_isWithin, e_isSlot, e_isItem, e_isGroup, e_isRobot, e_isLot, e_isNotice, e_isOrder, e_isTask, bI_t, bI_f, i10, i00, i01, i11, i20, i30, ↓reduceIte, h.nor, h1, h2, h3]; try rfl
        · simp only [g_X12_line_67, g_X12_line_20, g_X12_line_19, g_X12_line, kif, r_gb, gbn_s, r_grd, r_gbo, r_gret, r_gst, k_isIn, k_isSlot, k_isItem, k_isGroup, k_isRobot, k_are, k_holds0, k_holds1, k_holds2, k_holds3, k_bit, k_less, bI_t, bI_f, i10, i00, i01, i11, i20, i30, ↓reduceIte, h.kOrd, h1, h2, h3]; try rfl
      | true =>
        obtain ⟨o, ho, rfl⟩ := okI_t (by omega) h1
        obtain ⟨i, hi, rfl⟩ := okI_t (by decide) h2
        obtain ⟨l1, l2, l3⟩ := h.li.1 o ho
        obtain ⟨-, -, -, -, -, o32, o5, -⟩ := h.or.2.2.2.2.1 o ho
        have h72 : decide (o < zN S 72) = true := decide_eq_true (by rw [h.or.2.1]; exact ho)
        have hr : (nI o).toNatClampNeg = o := nI_clamp (by omega)
        by_cases h4 : (zL S 704 o).length = 3
        · refine sti_th g hm (u := 3) (c := 3) (r := 0) ?_ ?_ (by simp) (by decide) (by decide)
          · simp only [f_X11_line, r_mb, bnd_s, r_mrd, r_mbo, r_mret, r_mthr, r_wA, r_wO, r_madd, r_mput, r_mopt, r_mcn, r_mcs, ite_f, e_isWithin, e_isSlot, e_isItem, e_isGroup, e_isRobot, e_isLot, e_isNotice, e_isOrder, e_isTask, bI_t, bI_f, i10, i00, i01, i11, i20, i30, ↓reduceIte, h.nor, h1, h2, h3, mlget, h.atO ho, mgd, h72, h4, show (3 : Int32) ≤ nI 3 by decide]; try rfl
          · simp only [g_X12_line_67, g_X12_line_20, g_X12_line_19, g_X12_line, kif, r_gb, gbn_s, r_grd, r_gbo, r_gret, r_gst, k_isIn, k_isSlot, k_isItem, k_isGroup, k_isRobot, k_are, k_holds0, k_holds1, k_holds2, k_holds3, k_bit, k_less, bI_t, bI_f, i10, i00, i01, i11, i20, i30, ↓reduceIte, h.kOrd, h1, h2, h3, r_gnI (show o < mL 31 from Nat.lt_of_lt_of_le ho h8) (show mL 31 < 2 ^ 31 by decide), hr, l2, h4, show nI 3 = (3 : Int32) from rfl]; try rfl
        · have h5 : (zL S 704 o).length < 3 := by omega
          have n3 : ¬ (3 : Int32) ≤ nI (zL S 704 o).length := nI_ge (b := 3) h5 (by decide)
          have e3 : ¬ nI (zL S 704 o).length = 3 := fun q => h4 ((nI_eq (b := 3) (by omega) (by decide)).mp q)
          by_cases h6 : zA S 705 o = 0
          · obtain ⟨a, b, c, ea, ha, hb, hc, hc2⟩ := pAdd_eq 704 o (zN S 4) (pA 401 (zN S 4) z (pO 400 (zN S 4) (some i) (pNew 4 4 S)))
            have hc9 : c ≤ 3900 := hc2 (hcp.2.2 o (by omega)).1 fun q => by
              have q' : (zL S 704 o).length = zP S 704 o := q
              show zP S 704 o < 2600
              omega
            have hz := inI_t h3
            have e9 : (3 : Int32) * nI o + nI (zL S 704 o).length = nI (3 * o + (zL S 704 o).length) := by rw [show (3 : Int32) = nI 3 from rfl, pk_mul, nI_add]
            have j24 : 3 * o + (zL S 704 o).length < 24 := by omega
            have hadd : ∀ (R : Type) (kk : MM R), (mladd 704 o (zN S 4) kk).1 (pA 401 (zN S 4) z (pO 400 (zN S 4) (some i) (pNew 4 4 S))) = kk.1 (pN 61 a (pN 62 b (lnT S o i z c))) := fun R kk => by
              rw [r_mladd (by show (zL S 704 o).length < 2600; omega), lnT_eq S o i z a b c ea]
            have hlen : (zL (pN 61 a (pN 62 b (lnT S o i z c))) 704 o).length = (zL S 704 o).length + 1 := by
              rw [tLN, tLN]; unfold lnT; rw [sLL, if_pos rfl, List.length_append]; rfl
            have h72' : decide (o < zN (pN 61 a (pN 62 b (lnT S o i z c))) 72) = true := by
              rw [fNN (by decide), fNN (by decide)]; exact h72
            refine sti_st (T := pN 61 a (pN 62 b (lnT S o i z c))) (v := lnV S (mSI 0 0 w) o i z) (r := nI ((zL S 704 o).length + 1)) (ln_gg g hm ho hi hz h5 ha hb hc9) ?_ ?_ rfl
            · simp only [f_X11_line, r_mb, bnd_s, r_mrd, r_mbo, r_mret, r_mthr, r_wA, r_wO, r_madd, r_mput, r_mopt, r_mcn, r_mcs, ite_f, e_isWithin, e_isSlot, e_isItem, e_isGroup, e_isRobot, e_isLot, e_isNotice, e_isOrder, e_isTask, bI_t, bI_f, i10, i00, i01, i11, i20, i30, ↓reduceIte, h.nor, h1, h2, h3, mlget, h.atO ho, mgd, h72, n3, h6, r_mnew, r_mnI (show i < aLn 1101 from hi) (show aLn 1101 < 2 ^ 31 by decide), nI_clamp (show i < 2 ^ 31 by omega), f_X4_init, hadd, h72', hlen]
            · simp only [g_X12_line_67, g_X12_line_20, g_X12_line_19, g_X12_line, kif, r_gb, gbn_s, r_grd, r_gbo, r_gret, r_gst, k_isIn, k_isSlot, k_isItem, k_isGroup, k_isRobot, k_are, k_holds0, k_holds1, k_holds2, k_holds3, k_bit, k_less, bI_t, bI_f, i10, i00, i01, i11, i20, i30, ↓reduceIte, mI_mSA, mI_mSI, mA_mSI, mA_mSA, Nat.reduceEqDiff, reduceCtorEq, Nat.reduceEqDiff, false_and, true_and, and_true, h.kOrd, h1, h2, h3, r_gnI (show o < mL 31 from Nat.lt_of_lt_of_le ho h8) (show mL 31 < 2 ^ 31 by decide), r_gnI (show o < mL 32 from Nat.lt_of_lt_of_le ho h8) (show mL 32 < 2 ^ 31 by decide), hr, l2, e3, o32, h6, e9, r_gnI (show 3 * o + (zL S 704 o).length < mL 36 from j24) (show mL 36 < 2 ^ 31 by decide), r_gnI (show 3 * o + (zL S 704 o).length < mL 37 from j24) (show mL 37 < 2 ^ 31 by decide), nI_clamp (show 3 * o + (zL S 704 o).length < 2 ^ 31 by omega), nI_1]
              rfl
          · refine sti_th g hm (u := 3) (c := 3) (r := 0) ?_ ?_ (by simp) (by decide) (by decide)
            · simp only [f_X11_line, r_mb, bnd_s, r_mrd, r_mbo, r_mret, r_mthr, r_wA, r_wO, r_madd, r_mput, r_mopt, r_mcn, r_mcs, ite_f, e_isWithin, e_isSlot, e_isItem, e_isGroup, e_isRobot, e_isLot, e_isNotice, e_isOrder, e_isTask, bI_t, bI_f, i10, i00, i01, i11, i20, i30, ↓reduceIte, h.nor, h1, h2, h3, mlget, h.atO ho, mgd, h72, n3, h6]; try rfl
            · simp only [g_X12_line_67, g_X12_line_20, g_X12_line_19, g_X12_line, kif, r_gb, gbn_s, r_grd, r_gbo, r_gret, r_gst, k_isIn, k_isSlot, k_isItem, k_isGroup, k_isRobot, k_are, k_holds0, k_holds1, k_holds2, k_holds3, k_bit, k_less, bI_t, bI_f, i10, i00, i01, i11, i20, i30, ↓reduceIte, mI_mSA, mI_mSI, mA_mSI, mA_mSA, Nat.reduceEqDiff, reduceCtorEq, Nat.reduceEqDiff, false_and, true_and, and_true, h.kOrd, h1, h2, h3, r_gnI (show o < mL 31 from Nat.lt_of_lt_of_le ho h8) (show mL 31 < 2 ^ 31 by decide), r_gnI (show o < mL 32 from Nat.lt_of_lt_of_le ho h8) (show mL 32 < 2 ^ 31 by decide), hr, l2, e3, o32, h6]; try rfl
end
