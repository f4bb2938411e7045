/-! putAway -/
section
variable {m : Nat} {S T : Ss} {w v : MS}
theorem len_fil (p : Nat → Bool) : ∀ xs : List Nat, xs.length = (xs.filter p).length + (xs.filter fun x => !p x).length
  | [] => rfl
  | a :: t => by
    have := len_fil p t
    cases q : p a
    · rw [List.filter_cons_of_neg (by simp [q]), List.filter_cons_of_pos (by simp [q])]
      simp only [List.length_cons]; omega
    · rw [List.filter_cons_of_pos (by simp [q]), List.filter_cons_of_neg (by simp [q])]
      simp only [List.length_cons]; omega
theorem Rel.c3B {B k : Nat} (h : Rel B k S w) {p l : Nat} (hp : p < 19) (hl : l < 12) : 0 ≤ (zC S 3 (12 * p + l)).toInt ∧ (zC S 3 (12 * p + l)).toInt ≤ (zC S 0 (12 * p + l)).toInt ∧ (zC S 0 (12 * p + l)).toInt ≤ 8000000 := by
  obtain ⟨g1, g2⟩ := h.hs.1 p l hp hl
  have h0 : ∀ x, x ∈ hL S → 0 ≤ (hpc S p l x).toInt := fun x hx => by
    have := tI_of (h.ho.2.1 x hx).2.1
    unfold hpc
    split
    · omega
    · decide
  have hb := tI_of (h.nn.2.1 (12 * p + l) (by omega))
  have hB := h.nn.1
  have e := sm_toInt (f := hpc S p l) (hL S) h0 (by omega)
  have f := sz_0 (z := fun x => (hpc S p l x).toInt) (hL S) h0
  rw [g1, e]
  omega
theorem Rel.subB {B k : Nat} (h : Rel B k S w) {p l : Nat} (hp : p < 19) (hl : l < 12) : (zC S 0 (12 * p + l) - zC S 3 (12 * p + l)).toInt = (zC S 0 (12 * p + l)).toInt - (zC S 3 (12 * p + l)).toInt := by
  obtain ⟨a, b, c⟩ := h.c3B hp hl
  exact sub_toInt (by omega) (by omega)
theorem AD.kc {kd n : Int32} {p l s i : Nat} (e : AD S T w v kd p l n s i) : cT T (zN T 10) + 12 * cS T (zN T 7) = cT S (zN S 10) + 12 * cS S (zN S 7) := by
  obtain ⟨hA, hA2, hA10, -, hO, hO2, hO10, ⟨c1, c2, c3, c4, c5, c6, c7⟩, hL1, hL7, hL8, hC, hC3, hC4, hM, hNN, hN2, hN10, -⟩ := e
  have e1 := cT_lt (S := S) (T := T) (zN S 10) fun t ht => by rw [hA10 1005 t (by decide) (by omega), hA10 1006 t (by decide) (by omega)]
  have e2 := cS_eq (S := S) (T := T) (fun t => by rw [hA 705 (by decide)]) (zN S 7)
  rw [hN10, hNN 7 (by decide), e2]
  show cT T (zN S 10) + (if zA T 1005 (zN S 10) = 2 then 2 else if zA T 1006 (zN S 10) = 1 then 1 else 0) + _ = _
  rw [e1, c5, c6, if_neg (by decide), if_neg (by decide)]
  rfl
theorem GG.ics (g : GG m S w) (hm : m < 512) {a b : Nat} (h : CS S T a b) (ha : a ≤ 900) (hb : b ≤ 11000) (hc : cT T (zN T 10) + 12 * cS T (zN T 7) = cT S (zN S 10) + 12 * cS S (zN S 7)) {B k : Nat} (hB : B ≤ 15000 * m + 1) (hk : k ≤ m + cT S (zN S 10) + 12 * cS S (zN S 7)) (hR : Rel B k T v) : GG (m + 1) T v := by
  obtain ⟨h1, h2, h3, h4⟩ := h
  exact g.inn hm (by omega) (by omega) (h4 g.2.2.1) hB hk (Nat.le_add_right _ _) (by omega) hR
noncomputable def paK (x1 x2 x59 : Int32) : MM (Nat × Int32) :=
  mrd fun S60 => if x59 < x2 then mthr 3 else mbo (nI (zL S60 1108 0).length) fun x64 => if x64 < 60 then mlget 1103 0 x1 fun i69 => mb (f_X11_slotToPutInto i69 x2) fun x73 => if x73 = (-1) then mret (0, x73) else mb (f_X11_hold none none 18 i69 x2) fun r76 => mopt r76 fun i84 => mb (f_X11_makeTask 0 i84 x73) fun r85 => mret (0, x73) else mthr 3
theorem pa_eq (x1 x2 : Int32) : f_X11_putAway x1 x2 = mb (f_X11_isLot x1) fun x51 => if x51 = 0 then mthr 1 else mb (f_X11_isWithin x2 1 99) fun x54 => if x54 = 0 then mthr 2 else mb (f_X0_freePieces 18 x1) fun x59 => paK x1 x2 x59 := rfl
theorem pa_1 {y : Int32} {l : Nat} {F : Int32} {B k : Nat} (h : Rel B k S w) (h1 : okI (nI l) (zN S 5) = true) (h2 : inI y 1 99 = true) (ef : (f_X0_freePieces 18 (nI l)).1 S = some (F, S)) : (f_X11_putAway (nI l) y).1 S = (paK (nI l) y F).1 S := by
  rw [pa_eq]
  generalize f_X0_freePieces 18 (nI l) = P at *
  simp only [r_mb, bnd_s, ite_f, e_isLot, h.nl, h1, bI_t, i10, ↓reduceIte, e_isWithin, h2, ef]
theorem pa_2 {x y F : Int32} (q : F < y) : (paK x y F).1 S = some ((3, 0), thS S) := by
  unfold paK
  rw [r_mrd, if_pos q, r_mthr]; rfl
theorem pa_3 {x y F : Int32} (q : ¬ F < y) (hN : ¬ nI (zL S 1108 0).length < 60) : (paK x y F).1 S = some ((3, 0), thS S) := by
  unfold paK
  rw [r_mrd, if_neg q, r_mbo, if_neg hN, r_mthr]; rfl
theorem pa_4 {B k : Nat} (h : Rel B k S w) {l : Nat} (hl : l < zN S 5) {y F : Int32} (q : ¬ F < y) (hN : nI (zL S 1108 0).length < 60) (es : (f_X11_slotToPutInto l y).1 S = some (-1, S)) : (paK (nI l) y F).1 S = some ((0, -1), S) := by
  unfold paK
  rw [r_mrd, if_neg q, r_mbo, if_pos hN]
  simp only [mlget, r_mrd, h.atL hl, r_mopt, r_mb, es, bnd_s, ite_f, ↓reduceIte, r_mret]
theorem pa_5 {B k : Nat} (h : Rel B k S w) {l : Nat} (hl : l < zN S 5) {y F r : Int32} (q : ¬ F < y) (hN : nI (zL S 1108 0).length < 60) (es : (f_X11_slotToPutInto l y).1 S = some (r, S)) (hr : ¬ r = -1) : (paK (nI l) y F).1 S = (mb (f_X11_hold none none 18 l y) fun r76 => mopt r76 fun i84 => mb (f_X11_makeTask 0 i84 r) fun _ => (mret (0, r) : MM (Nat × Int32))).1 S := by
  unfold paK
  rw [r_mrd, if_neg q, r_mbo, if_pos hN]
  simp only [mlget, r_mrd, h.atL hl, r_mopt, r_mb, es, bnd_s, ite_f, if_neg hr]
theorem s_putAway (g : GG m S w) (hm : m < 512) (x y : Int32) : STi GG m S w (f_X11_putAway x y) (g_X12_putAway x y) [(1, 1), (2, 2), (3, 3)] := by
  obtain ⟨B, k, hB, hk, -, -, -, h⟩ := g.out
  have h12 := h.lo.1
  have h60 := h.ta.1
  cases h1 : okI x (zN S 5) with
  | false =>
    refine sti_th g hm (u := 1) (c := 1) (r := 0) ?_ ?_ (by simp) (by decide) (by decide)
    · simp only [f_X11_putAway, r_mb, bnd_s, r_mrd, r_mbo, r_mret, r_mthr, r_wA, r_wO, r_madd, r_mput, r_mopt, r_mcn, r_mcs, ite_f, e_isWithin, e_isSlot, e_isItem, e_isGroup, e_isRobot, e_isLot, e_isNotice, e_isOrder, e_isTask, bI_t, bI_f, i10, i00, i01, i11, i20, i30, ↓reduceIte, h.nl, h1]; try rfl
    · simp only [g_X12_putAway, g_X12_putAway_51, kif, r_gb, gbn_s, r_grd, r_gbo, r_gret, r_gst, k_isIn, k_isSlot, k_isItem, k_isGroup, k_isRobot, k_are, k_holds0, k_holds1, k_holds2, k_holds3, k_bit, k_less, bI_t, bI_f, i10, i00, i01, i11, i20, i30, ↓reduceIte, h.kLot, h1]; try rfl
  | true =>
    cases h2 : inI y 1 99 with
    | false =>
      refine sti_th g hm (u := 2) (c := 2) (r := 0) ?_ ?_ (by simp) (by decide) (by decide)
      · simp only [f_X11_putAway, r_mb, bnd_s, r_mrd, r_mbo, r_mret, r_mthr, r_wA, r_wO, r_madd, r_mput, r_mopt, r_mcn, r_mcs, ite_f, e_isWithin, e_isSlot, e_isItem, e_isGroup, e_isRobot, e_isLot, e_isNotice, e_isOrder, e_isTask, bI_t, bI_f, i10, i00, i01, i11, i20, i30, ↓reduceIte, h.nl, h1, h2]; try rfl
      · simp only [g_X12_putAway, g_X12_putAway_51, kif, r_gb, gbn_s, r_grd, r_gbo, r_gret, r_gst, k_isIn, k_isSlot, k_isItem, k_isGroup, k_isRobot, k_are, k_holds0, k_holds1, k_holds2, k_holds3, k_bit, k_less, bI_t, bI_f, i10, i00, i01, i11, i20, i30, ↓reduceIte, h.kLot, h1, h2]; try rfl
    | true =>
      obtain ⟨l, hl, rfl⟩ := okI_t (by omega) h1
      have hn : tI y 1 99 := inI_t h2
      have e18 : nI 18 = (18 : Int32) := rfl
      have ef := e_free (S := S) (p := 18) (l := l) (by decide) (by omega)
      have kf := h.kFree (p := 18) (l := l) (by decide) (by omega)
      rw [e18] at ef kf
      generalize hF : zC S 0 (12 * 18 + l) - zC S 3 (12 * 18 + l) = F at ef kf
      by_cases q : F < y
      · refine sti_th g hm (u := 3) (c := 3) (r := 0) ?_ ?_ (by simp) (by decide) (by decide)
        · rw [pa_1 h h1 h2 ef, pa_2 q]
        · simp only [g_X12_putAway, g_X12_putAway_51, kif, r_gb, gbn_s, r_grd, r_gbo, r_gret, r_gst, k_isIn, k_isSlot, k_isItem, k_isGroup, k_isRobot, k_are, k_holds0, k_holds1, k_holds2, k_holds3, k_bit, k_less, bI_t, bI_f, i10, i00, i01, i11, i20, i30, ↓reduceIte, h.kLot, h1, h2, kf, q]; try rfl
      · by_cases q2 : zN S 10 = 60
        · refine sti_th g hm (u := 3) (c := 3) (r := 0) ?_ ?_ (by simp) (by decide) (by decide)
          · rw [pa_1 h h1 h2 ef, pa_3 q (by rw [h.nt, q2]; decide)]
          · simp only [g_X12_putAway, g_X12_putAway_51, kif, r_gb, gbn_s, r_grd, r_gbo, r_gret, r_gst, k_isIn, k_isSlot, k_isItem, k_isGroup, k_isRobot, k_are, k_holds0, k_holds1, k_holds2, k_holds3, k_bit, k_less, bI_t, bI_f, i10, i00, i01, i11, i20, i30, ↓reduceIte, h.kLot, h1, h2, kf, q, h.ta.2.2.1, q2, show nI 60 = (60 : Int32) from rfl]; try rfl
        · have hN : zN S 10 < 60 := by omega
          have hlt : nI (zN S 10) < 60 := nI_lt (b := 60) hN (by decide)
          have hne : ¬ nI (zN S 10) = 60 := fun r => q2 ((nI_eq (b := 60) (by omega) (by decide)).mp r)
          have h0 := h.thr 0
          obtain ⟨r, r1, r2, r3⟩ := h0.putL hl hn 18 0 rfl FU FU (-1) 0 0 (FU_gt (by decide)) (FU_gt (by decide)) (Or.inl rfl)
          have z0 : nI 0 = (0 : Int32) := rfl
          rw [z0] at r1 r2
          have es : (f_X11_slotToPutInto l y).1 S = some (r, S) := by
            unfold f_X11_slotToPutInto; exact r1
          have ks : g_X12_slotFor (nI l) y (mSI 0 0 w) = some (r, mSI 0 0 w) := by
            obtain ⟨-, -, -, -, -, b6, b7⟩ := h0.lo.2.2.2.1 l hl
            simp only [g_X12_slotFor, kif, r_gb, gbn_s, r_grd, r_gbo, r_gret, r_gst, k_isIn, k_isSlot, k_isItem, k_isGroup, k_isRobot, k_are, k_holds0, k_holds1, k_holds2, k_holds3, k_bit, k_less, bI_t, bI_f, i10, i00, i01, i11, i20, i30, ↓reduceIte, r_gnI (show l < mL 16 from Nat.lt_of_lt_of_le hl h12) (show mL 16 < 2 ^ 31 by decide), nI_clamp (show l < 2 ^ 31 by omega), b7]
            exact r2
          rcases r3 with r3 | ⟨s, hs, r3, r4⟩
          · subst r3
            refine sti_ok g hm (v := -1) ?_ ?_
            · rw [pa_1 h h1 h2 ef, pa_4 h hl q (by rw [h.nt]; exact hlt) es]
            · simp only [g_X12_putAway, g_X12_putAway_51, kif, r_gb, gbn_s, r_grd, r_gbo, r_gret, r_gst, k_isIn, k_isSlot, k_isItem, k_isGroup, k_isRobot, k_are, k_holds0, k_holds1, k_holds2, k_holds3, k_bit, k_less, bI_t, bI_f, i10, i00, i01, i11, i20, i30, ↓reduceIte, h.kLot, h1, h2, kf, q, h.ta.2.2.1, hne, ks]; try rfl
          · subst r3
            have hm1 : ¬ nI s = -1 := fun e => nI_ne1 s hs e.symm
            obtain ⟨T, -, t2, t3, t4, t5⟩ := h0.add (kd := 0) (n := y) (p := 18) (l := l) (s := s) (i := itS S l) hN hl rfl hs hn (Or.inl ⟨rfl, rfl, r4.1⟩) (by
              have e := h.subB (p := 18) (l := l) (by decide) (by omega)
              have q9 := Int32.not_lt.mp q
              rw [← hF, Int32.le_iff_toInt_le, e] at q9
              omega) (by have := h.hlen; rw [hL_eq] at this; omega)
            rw [e18] at t2 t3 t4
            have t2' := t2 (mret (0, nI s))
            rw [r_mret] at t2'
            have gg : GG (m + 1) T (mkV (mSI 0 0 w) (zN S 10) 0 (nI l) 18 (nI s) (-1) y) := g.ics hm t5 (by decide) (by decide) t3.kc hB hk t4
            refine sti_st gg (r := nI s) ?_ ?_ ?_
            · rw [pa_1 h h1 h2 ef, pa_5 h hl q (by rw [h.nt]; exact hlt) es hm1, t2']
            · have km := k_makes (w := mSI 0 0 w) hN (show mI (mSI 0 0 w) 45 = nI (zN S 10) from h.ta.2.2.1) 0 (nI l) 18 (nI s) (-1) y
              simp only [g_X12_putAway, g_X12_putAway_51, kif, r_gb, gbn_s, r_grd, r_gbo, r_gret, r_gst, k_isIn, k_isSlot, k_isItem, k_isGroup, k_isRobot, k_are, k_holds0, k_holds1, k_holds2, k_holds3, k_bit, k_less, bI_t, bI_f, i10, i00, i01, i11, i20, i30, ↓reduceIte, h.kLot, h1, h2, kf, q, h.ta.2.2.1, hne, ks, hm1, km]
            · unfold mkV; simp only [kif, r_gb, gbn_s, r_grd, r_gbo, r_gret, r_gst, k_isIn, k_isSlot, k_isItem, k_isGroup, k_isRobot, k_are, k_holds0, k_holds1, k_holds2, k_holds3, k_bit, k_less, bI_t, bI_f, i10, i00, i01, i11, i20, i30, ↓reduceIte, mI_mSA, mI_mSI, mA_mSI, mA_mSA, Nat.reduceEqDiff, reduceCtorEq, Nat.reduceEqDiff, false_and, true_and, and_true]
end
