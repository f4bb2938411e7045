/-! what the reading methods answer -/
section
variable {B k : Nat} {S : Ss} {w : MS}
theorem Int32_sub_add (a b : Int32) : a - b = a + -b := Int32.sub_eq_add_neg ..
theorem k_isOn {t n : Nat} (ht : t < n) (hn : n ≤ 60) : g_X12_isOn (nI t) w = some (if mA w 52 t = 0 ∨ mA w 52 t = 1 then 1 else 0, w) := by
  simp only [g_X12_isOn, kif, r_gb, gbn_s, r_grd, r_gbo, r_gret, r_gst, k_isIn, k_isSlot, k_isItem, k_isGroup, k_isRobot, k_are, k_holds0, k_holds1, k_holds2, k_holds3, k_bit, k_less, bI_t, bI_f, i10, i00, i01, i11, i20, i30, ↓reduceIte, r_gnI (show t < mL 52 from Nat.lt_of_lt_of_le ht hn) (show mL 52 < 2 ^ 31 by decide), nI_clamp (show t < 2 ^ 31 by omega)]
  by_cases h1 : mA w 52 t = 0
  · simp only [h1, ↓reduceIte, r_gret, true_or]
  · by_cases h2 : mA w 52 t = 1
    · simp only [h1, h2, ↓reduceIte, r_gret, or_true, i10]
    · simp only [h1, h2, ↓reduceIte, r_gret, or_self]
def tpc (w : MS) (p l t : Nat) : Int32 := if (mA w 52 t = 0 ∨ mA w 52 t = 1) ∧ ¬ mA w 46 t = 2 ∧ mA w 48 t = nI p ∧ mA w 47 t = nI l then mA w 51 t else 0
def mpc (w : MS) (p l t : Nat) : Int32 := if mA w 41 t = nI p ∧ mA w 42 t = nI l then mA w 43 t else 0
theorem k_held2 {n p l : Nat} (hn : mI w 39 = nI n) (hn2 : n ≤ 2400) (acc : Int32) : g_X12_heldAt_79 FU (nI p) (nI l) acc 0 w = some (acc + sm (List.range n) (mpc w p l), w) := by
  refine g_sum (fun f a i => g_X12_heldAt_79 f (nI p) (nI l) a i) (fun a => some (a, w)) w n (mpc w p l) (fun f a i hi => ?_) (fun f a => ?_) acc FU (FU_gt (by omega))
  · simp only [g_X12_heldAt_79, kif, r_gb, gbn_s, r_grd, r_gbo, r_gret, r_gst, k_isIn, k_isSlot, k_isItem, k_isGroup, k_isRobot, k_are, k_holds0, k_holds1, k_holds2, k_holds3, k_bit, k_less, bI_t, bI_f, i10, i00, i01, i11, i20, i30, ↓reduceIte, hn, nI_ge hi (show n < 2 ^ 31 by omega), r_gnI (show i < mL 41 from Nat.lt_of_lt_of_le hi hn2) (show mL 41 < 2 ^ 31 by decide), r_gnI (show i < mL 42 from Nat.lt_of_lt_of_le hi hn2) (show mL 42 < 2 ^ 31 by decide), r_gnI (show i < mL 43 from Nat.lt_of_lt_of_le hi hn2) (show mL 43 < 2 ^ 31 by decide), nI_clamp (show i < 2 ^ 31 by omega), nI_1]
    unfold mpc
    by_cases h1 : mA w 41 i = nI p
    · by_cases h2 : mA w 42 i = nI l
      · simp only [h1, h2, ↓reduceIte, and_self]
      · simp only [h1, h2, ↓reduceIte, and_false]
    · simp only [h1, ↓reduceIte, false_and]
  · simp only [g_X12_heldAt_79, kif, r_gb, gbn_s, r_grd, r_gbo, r_gret, r_gst, k_isIn, k_isSlot, k_isItem, k_isGroup, k_isRobot, k_are, k_holds0, k_holds1, k_holds2, k_holds3, k_bit, k_less, bI_t, bI_f, i10, i00, i01, i11, i20, i30, ↓reduceIte, hn, Int32.le_refl]
theorem k_held1 {n m p l : Nat} (hm : mI w 45 = nI m) (hm2 : m ≤ 60) (hn : mI w 39 = nI n) (hn2 : n ≤ 2400) : g_X12_heldAt (nI p) (nI l) w = some (sm (List.range m) (tpc w p l) + sm (List.range n) (mpc w p l), w) := by
  unfold g_X12_heldAt
  have := g_sum (fun f a i => g_X12_heldAt_5 f (nI p) (nI l) a i) (fun a => some (a + sm (List.range n) (mpc w p l), w)) w m (tpc w p l) (fun f a i hi => ?_) (fun f a => ?_) 0 FU (FU_gt (by omega))
  · rw [Int32.zero_add] at this; exact this
  · simp only [g_X12_heldAt_5, kif, r_gb, gbn_s, r_grd, r_gbo, r_gret, r_gst, k_isIn, k_isSlot, k_isItem, k_isGroup, k_isRobot, k_are, k_holds0, k_holds1, k_holds2, k_holds3, k_bit, k_less, bI_t, bI_f, i10, i00, i01, i11, i20, i30, ↓reduceIte, hm, nI_ge hi (show m < 2 ^ 31 by omega), k_isOn hi hm2, r_gnI (show i < mL 46 from Nat.lt_of_lt_of_le hi hm2) (show mL 46 < 2 ^ 31 by decide), r_gnI (show i < mL 48 from Nat.lt_of_lt_of_le hi hm2) (show mL 48 < 2 ^ 31 by decide), r_gnI (show i < mL 47 from Nat.lt_of_lt_of_le hi hm2) (show mL 47 < 2 ^ 31 by decide), r_gnI (show i < mL 51 from Nat.lt_of_lt_of_le hi hm2) (show mL 51 < 2 ^ 31 by decide), nI_clamp (show i < 2 ^ 31 by omega), nI_1]
    unfold tpc
    by_cases h0 : mA w 52 i = 0 ∨ mA w 52 i = 1
    · by_cases h1 : mA w 46 i = 2
      · simp only [h0, h1, ↓reduceIte, not_true_eq_false, false_and, and_false, i10]
      · by_cases h2 : mA w 48 i = nI p
        · by_cases h3 : mA w 47 i = nI l
          · simp only [h0, h1, h2, h3, ↓reduceIte, and_self, not_false_eq_true, i10]
          · simp only [h0, h1, h2, h3, ↓reduceIte, and_false, i10]
        · simp only [h0, h1, h2, ↓reduceIte, and_false, false_and, i10]
    · simp only [h0, ↓reduceIte, false_and, i00]
  · simp only [g_X12_heldAt_5, kif, r_gb, gbn_s, r_grd, r_gbo, r_gret, r_gst, k_isIn, k_isSlot, k_isItem, k_isGroup, k_isRobot, k_are, k_holds0, k_holds1, k_holds2, k_holds3, k_bit, k_less, bI_t, bI_f, i10, i00, i01, i11, i20, i30, ↓reduceIte, hm, Int32.le_refl]
    exact k_held2 hn hn2 a
/-- on tasks that are no PICKs are the holdings without orders, in their order -/
theorem Rel.nul (h : Rel B k S w) : ((hL S).filter (fun x => !hasO S x)).map (fun x => (zO S 205 x).getD 0) = (List.range (zN S 10)).filter (fun t => decide ((zA S 1005 t = 0 ∨ zA S 1005 t = 1) ∧ ¬ zA S 1001 t = 2)) := by
  obtain ⟨a1, a2, a3⟩ := h.ho
  obtain ⟨b1, b2, b3, b4⟩ := h.ta
  refine srt_ext _ _ ?_ ?_ fun t => ?_
  · rw [List.pairwise_map]; exact a3
  · exact List.Pairwise.filter _ List.pairwise_lt_range
  · rw [List.mem_map, List.mem_filter, List.mem_range, decide_eq_true_iff]
    constructor
    · rintro ⟨x, hx, rfl⟩
      rw [List.mem_filter] at hx
      obtain ⟨c1, c2, c3, c4, c5, c6⟩ := a2 x hx.1
      have hno : zO S 200 x = none := by
        have := hx.2
        unfold hasO at this
        cases q : zO S 200 x with
        | none => rfl
        | some o => rw [q] at this; cases this
      rcases c5 with ⟨-, -, t, c5⟩ | ⟨o, j, p, c5, -⟩
      · obtain ⟨d1, d2, d3, d4⟩ := c6 t c5
        rw [c5]
        refine ⟨d1, d3, fun q => ?_⟩
        obtain ⟨-, -, -, -, -, -, -, x', l, e1, e2, e3, e4, e5, e6, e7, e8⟩ := b4 t d1
        have : x' = x := Option.some.inj (e1.symm.trans d2)
        subst this
        rcases e8 with e8 | e8 | ⟨-, -, -, o, j, e8, -⟩
        · exact absurd (e8.1.symm.trans q) (by decide)
        · exact absurd (e8.1.symm.trans q) (by decide)
        · rw [hno] at e8; cases e8
      · rw [hno] at c5; cases c5
    · rintro ⟨d1, d2, d3⟩
      obtain ⟨-, -, -, -, -, -, -, x, l, e1, e2, e3, e4, e5, e6, e7, e8⟩ := b4 t d1
      obtain ⟨f1, f2, -⟩ := e7 d2
      refine ⟨x, List.mem_filter.mpr ⟨f1, ?_⟩, by rw [f2]; rfl⟩
      have hno : zO S 200 x = none := by
        rcases e8 with e8 | e8 | e8
        · exact e8.2.1
        · exact e8.2.1
        · exact absurd e8.1 d3
      unfold hasO; rw [hno]; rfl
theorem Rel.hk (h : Rel B k S w) {p l : Nat} (hl : l < 12) : sm (List.range (zN S 10)) (tpc w p l) + sm (List.range ((hL S).filter (hasO S)).length) (mpc w p l) = sm (hL S) (hpc S p l) := by
  obtain ⟨a1, a2, a3⟩ := h.ho
  obtain ⟨b1, b2, b3, b4⟩ := h.ta
  obtain ⟨c1, c2⟩ := h.hm
  have h12 := h.lo.1
  have key : ∀ l2 (z : Option Nat), z = some l2 → l2 < zN S 5 → ((nI l2 = nI l) ↔ z = some l) := fun l2 z hz h2 => by
    rw [nI_eq (by omega) (by omega), hz]
    exact ⟨fun q => by rw [q], fun q => Option.some.inj q⟩
  rw [sm_split (xs := hL S) (hasO S), Int32.add_comm]
  congr 1
  · refine sm_idx rfl fun i x hx => ?_
    obtain ⟨o, j, l', d1, d2, d3, d4, d5, d6, d7, d8⟩ := c2 i x hx
    obtain ⟨-, -, ⟨l2, g1, g2⟩, -⟩ := a2 x (List.mem_filter.mp (List.mem_of_getElem? hx)).1
    have hll : l2 = l' := Option.some.inj (g2.symm.trans d3)
    subst hll
    unfold mpc hpc
    rw [d5, d6, d7]
    by_cases q : zA S 202 x = nI p
    · by_cases q2 : nI l2 = nI l
      · rw [if_pos ⟨q, q2⟩, if_pos ⟨q, (key l2 _ d3 g1).mp q2⟩]
      · rw [if_neg (fun r => q2 r.2), if_neg (fun r => q2 ((key l2 _ d3 g1).mpr r.2))]
    · rw [if_neg (fun r => q r.1), if_neg (fun r => q r.1)]
  · have e1 : sm ((hL S).filter fun a => !hasO S a) (hpc S p l) = sm (((hL S).filter (fun x => !hasO S x)).map (fun x => (zO S 205 x).getD 0)) (tpc w p l) := by
      rw [sm_map]
      refine sm_cg _ fun x hx => ?_
      rw [List.mem_filter] at hx
      obtain ⟨f1, f2, ⟨l2, g1, g2⟩, f4, f5, f6⟩ := a2 x hx.1
      have hno : zO S 200 x = none := by
        have := hx.2
        unfold hasO at this
        cases q : zO S 200 x with
        | none => rfl
        | some o => rw [q] at this; cases this
      rcases f5 with ⟨-, -, t, f5⟩ | ⟨o, j, p, f5, -⟩
      · obtain ⟨e1, e2, e3, e4⟩ := f6 t f5
        obtain ⟨i1, i2, i3, i4, i5, i6, i7, x', l', j1, j2, j3, j4, j5, j6, j7, j8⟩ := b4 t e1
        have : x' = x := Option.some.inj (j1.symm.trans e2)
        subst this
        have hll : l2 = l' := Option.some.inj (g2.symm.trans j3)
        subst hll
        rw [f5]
        show hpc S p l x' = tpc w p l t
        have hk2 : ¬ mA w 46 t = 2 := by
          rw [i2]
          rcases j8 with j8 | j8 | ⟨-, -, -, o, j, j8, -⟩
          · rw [j8.1]; decide
          · rw [j8.1]; decide
          · rw [hno] at j8; cases j8
        unfold hpc tpc
        rw [i4, i5, j5, j6, e4]
        by_cases q : zA S 202 x' = nI p
        · by_cases q2 : nI l2 = nI l
          · rw [if_pos ⟨q, (key l2 _ g2 g1).mp q2⟩, if_pos ⟨e3, hk2, q, q2⟩]
          · rw [if_neg (fun r => q2 ((key l2 _ g2 g1).mpr r.2)), if_neg (fun r => q2 r.2.2.2)]
        · rw [if_neg (fun r => q r.1), if_neg (fun r => q r.2.2.1)]
      · rw [hno] at f5; cases f5
    rw [e1, h.nul, sm_fil]
    refine sm_cg _ fun t ht => ?_
    have ht := List.mem_range.mp ht
    obtain ⟨i1, i2, i3, i4, i5, i6, -⟩ := b4 t ht
    by_cases q : (zA S 1005 t = 0 ∨ zA S 1005 t = 1) ∧ ¬ zA S 1001 t = 2
    · rw [if_pos (decide_eq_true q)]
    · rw [if_neg (by rw [decide_eq_true_iff]; exact q)]
      unfold tpc
      rw [if_neg]
      rintro ⟨r1, r2, -⟩
      rw [i5] at r1; rw [i2] at r2
      exact q ⟨r1, r2⟩
/-- at most so many holdings -/
theorem Rel.nlines (h : Rel B k S w) : ∀ n, n ≤ zN S 7 → ((List.range n).flatMap (fun o => zL S 704 o)).length ≤ 3 * n := by
  intro n
  induction n with
  | zero => intro _; simp
  | succ n ih =>
    intro hn
    have := (h.li.1 n (by omega)).1
    have := ih (by omega)
    rw [List.range_succ, List.flatMap_append, List.length_append]
    simp only [List.flatMap_cons, List.flatMap_nil, List.append_nil]
    omega
theorem Rel.hcount (h : Rel B k S w) : ((hL S).filter (hasO S)).length ≤ 2376 := by
  have h8 := h.or.1
  have hl := h.nlines (zN S 7) (Nat.le_refl _)
  have hmem : ∀ j, j ∈ (List.range (zN S 7)).flatMap (fun o => zL S 704 o) → j < zN S 4 ∧ (zA S 402 j).toInt ≤ 99 := fun j hj => by
    obtain ⟨o, ho, hj⟩ := List.mem_flatMap.mp hj
    obtain ⟨p, hp, hpj⟩ := List.mem_iff_getElem.mp hj
    obtain ⟨q1, q2⟩ := ((h.li.1 o (List.mem_range.mp ho)).2.2 p j (List.getElem?_eq_some_iff.mpr ⟨hp, hpj⟩))
    exact ⟨q1, q2.2.2.2.2.1.2⟩
  have key : ∀ x, x ∈ (hL S).filter (hasO S) → (1 : Int) ≤ sz ((List.range (zN S 7)).flatMap (fun o => zL S 704 o)) (fun j => if zO S 201 x = some j then (zA S 204 x).toInt else 0) := fun x hx => by
    rw [List.mem_filter] at hx
    obtain ⟨a1, a2, a3, a4, a5, a6⟩ := h.ho.2.1 x hx.1
    rcases a5 with ⟨a5, -⟩ | ⟨o, j, p, b1, b2, b3, b4, -⟩
    · have := hx.2
      unfold hasO at this
      rw [a5] at this; cases this
    · have hj : j ∈ (List.range (zN S 7)).flatMap (fun o => zL S 704 o) := List.mem_flatMap.mpr ⟨o, List.mem_range.mpr b3, b4⟩
      have hnn : ∀ j', j' ∈ (List.range (zN S 7)).flatMap (fun o => zL S 704 o) → (0 : Int) ≤ (if zO S 201 x = some j' then (zA S 204 x).toInt else 0) := fun j' _ => by
        have := a2.1
        split <;> omega
      have := sz_mem (z := fun j => if zO S 201 x = some j then (zA S 204 x).toInt else 0) _ hnn hj
      rw [if_pos b2] at this
      have := a2.1
      omega
  have h1 := sz_len _ key
  rw [sz_comm] at h1
  have h2 : sz ((List.range (zN S 7)).flatMap (fun o => zL S 704 o)) (fun j => sz ((hL S).filter (hasO S)) (fun x => if zO S 201 x = some j then (zA S 204 x).toInt else 0)) ≤ ((List.range (zN S 7)).flatMap (fun o => zL S 704 o)).length * (99 : Nat) := by
    refine sz_ub _ fun j hj => ?_
    obtain ⟨c1, c2⟩ := hmem j hj
    rw [sz_fil]
    have h3 := (h.hs.2 j c1).2
    refine Int.le_trans (sz_le _ (y := fun x => if zO S 201 x = some j then (zA S 204 x).toInt else 0) fun x hx => ?_) (by rw [h3]; exact c2)
    have := (h.ho.2.1 x hx).2.1.1
    split
    · exact Int.le_refl _
    · split <;> omega
  have h4 : (((hL S).filter (hasO S)).length : Int) ≤ (((List.range (zN S 7)).flatMap (fun o => zL S 704 o)).length : Int) * 99 := Int.le_trans h1 h2
  omega
theorem Rel.kHeld (h : Rel B k S w) {p l : Nat} (hp : p < 19) (hl : l < 12) : g_X12_heldAt (nI p) (nI l) w = some (zC S 3 (12 * p + l), w) := by
  have := h.hcount
  rw [k_held1 (p := p) (l := l) h.ta.2.2.1 h.ta.1 h.hm.1 (by omega), h.hk hl, (h.hs.1 p l hp hl).1]
theorem Rel.kFree (h : Rel B k S w) {p l : Nat} (hp : p < 19) (hl : l < 12) : g_X12_freeAt (nI p) (nI l) w = some (zC S 0 (12 * p + l) - zC S 3 (12 * p + l), w) := by
  have e12 : (12 : Int32) * nI p + nI l = nI (12 * p + l) := by rw [show (12 : Int32) = nI 12 from rfl, pk_mul, nI_add]
  have hj : 12 * p + l < 336 := by omega
  simp only [g_X12_freeAt, kif, r_gb, gbn_s, r_grd, r_gbo, r_gret, r_gst, k_isIn, k_isSlot, k_isItem, k_isGroup, k_isRobot, k_are, k_holds0, k_holds1, k_holds2, k_holds3, k_bit, k_less, bI_t, bI_f, i10, i00, i01, i11, i20, i30, ↓reduceIte, e12, r_gnI (show 12 * p + l < mL 19 from hj) (show mL 19 < 2 ^ 31 by decide), h.kHeld hp hl, nI_clamp (show 12 * p + l < 2 ^ 31 by omega), h.bk.1 _ hj]
theorem e_free {p l : Nat} (hp : p < 28) (hl : l < 12) : (f_X0_freePieces (nI p) (nI l)).1 S = some (zC S 0 (12 * p + l) - zC S 3 (12 * p + l), S) := by
  simp only [f_X0_freePieces, r_mb, bnd_s, r_mrd, r_mbo, r_mret, r_mthr, r_wA, r_wO, r_madd, r_mput, r_mopt, r_mcn, r_mcs, ite_f, e_isWithin, e_isSlot, e_isItem, e_isGroup, e_isRobot, e_isLot, e_isNotice, e_isOrder, e_isTask, bI_t, bI_f, i10, i00, i01, i11, i20, i30, ↓reduceIte, cAt_in (S := S) (r := 0) (p := p) (l := l) (show l < 12 by omega) (show p * 12 + l < 336 by omega), cAt_in (S := S) (r := 3) (p := p) (l := l) (show l < 12 by omega) (show p * 12 + l < 336 by omega)]; rfl
end
