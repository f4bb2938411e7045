/-! allocate: one line -/
abbrev gd (S : Ss) (o i l : Nat) : Prop := l < zN S 5 ∧ itS S l = i ∧ zA S 503 l = 0 ∧ ¬ zA S 502 l < zA S 1116 0 + zA S 703 o
def nE (S : Ss) (i : Nat) (pre : List Nat) : Nat := (pre.filter fun l => decide (itS S l = i ∧ zA S 503 l = 0)).length
section
variable {B k : Nat} {S T : Ss} {w v : MS}
theorem AQ.it (h : AQ S T) (l : Nat) : itS T l = itS S l := by unfold itS; rw [h.2.1 501 (by decide)]
theorem AQ.eBy (h : AQ S T) (i : Nat) : byE T i = byE S i := by
  unfold byE
  rw [h.2.2.1 1104 (by decide), h.1 503 (by decide)]
  simp only [h.it]
theorem AQ.eNE (h : AQ S T) (i : Nat) (pre : List Nat) : nE T i pre = nE S i pre := by
  unfold nE
  rw [h.1 503 (by decide)]
  simp only [h.it]
theorem AQ.eGd (h : AQ S T) (o i l : Nat) : gd T o i l ↔ gd S o i l := by
  unfold gd
  rw [h.1 503 (by decide), h.1 502 (by decide), h.1 1116 (by decide), h.1 703 (by decide), h.2.2.2.2.2 5 (by decide), h.it]
theorem e_good {o i l : Nat} (h5 : l < zN S 5) (h501 : zO S 501 l = some (itS S l)) : (f_X11_isGoodFor o i l).1 S = some (if gd S o i l then 1 else 0, S) := by
  by_cases q1 : itS S l = i
  · by_cases q2 : zA S 503 l = 0
    · by_cases q3 : zA S 502 l < zA S 1116 0 + zA S 703 o
      · rw [if_neg (show ¬ gd S o i l from fun e => e.2.2.2 q3)]
        simp only [f_X11_isGoodFor, r_mb, bnd_s, r_mrd, r_mbo, r_mret, r_mthr, r_wA, r_wO, r_madd, r_mput, r_mopt, r_mcn, r_mcs, ite_f, e_isWithin, e_isSlot, e_isItem, e_isGroup, e_isRobot, e_isLot, e_isNotice, e_isOrder, e_isTask, bI_t, bI_f, i10, i00, i01, i11, i20, i30, ↓reduceIte, h501, q1, q2, q3]
      · rw [if_pos (show gd S o i l from ⟨h5, q1, q2, q3⟩)]
        simp only [f_X11_isGoodFor, r_mb, bnd_s, r_mrd, r_mbo, r_mret, r_mthr, r_wA, r_wO, r_madd, r_mput, r_mopt, r_mcn, r_mcs, ite_f, e_isWithin, e_isSlot, e_isItem, e_isGroup, e_isRobot, e_isLot, e_isNotice, e_isOrder, e_isTask, bI_t, bI_f, i10, i00, i01, i11, i20, i30, ↓reduceIte, h501, q1, q2, q3]
    · rw [if_neg (show ¬ gd S o i l from fun e => q2 e.2.2.1)]
      simp only [f_X11_isGoodFor, r_mb, bnd_s, r_mrd, r_mbo, r_mret, r_mthr, r_wA, r_wO, r_madd, r_mput, r_mopt, r_mcn, r_mcs, ite_f, e_isWithin, e_isSlot, e_isItem, e_isGroup, e_isRobot, e_isLot, e_isNotice, e_isOrder, e_isTask, bI_t, bI_f, i10, i00, i01, i11, i20, i30, ↓reduceIte, h501, q1, q2]
  · have q : ¬ some (itS S l) = some i := fun e => q1 (Option.some.inj e)
    rw [if_neg (show ¬ gd S o i l from fun e => q1 e.2.1)]
    simp only [f_X11_isGoodFor, r_mb, bnd_s, r_mrd, r_mbo, r_mret, r_mthr, r_wA, r_wO, r_madd, r_mput, r_mopt, r_mcn, r_mcs, ite_f, e_isWithin, e_isSlot, e_isItem, e_isGroup, e_isRobot, e_isLot, e_isNotice, e_isOrder, e_isTask, bI_t, bI_f, i10, i00, i01, i11, i20, i30, ↓reduceIte, h501, q]
theorem Rel.k33 (h : Rel B k S w) {o l : Nat} (o7 : o < zN S 7) (hl : l < zN S 5) (g : Nat) (x3 x4 x5 x6 : Int32) : g_X12_holdsFor_33 (g + 1) (nI o) x3 x4 x5 x6 (nI l) w = g_X12_holdsFor_70 (g_X12_holdsFor_33 g) FU (nI o) x3 x4 x5 x6 (nI l) (if zA S 502 l < zA S 1116 0 + zA S 703 o then 0 else 1) 0 w := by
  have h12 := h.lo.1
  have h8 := h.or.1
  obtain ⟨-, b2, -⟩ := h.lo.2.2.2.1 l hl
  obtain ⟨-, -, -, -, c5, -⟩ := h.or.2.2.2.2.1 o o7
  have hm1 : ¬ nI l = -1 := fun e => nI_ne1 l (by omega) e.symm
  have e1 := h.sc.1
  by_cases q : zA S 502 l < zA S 1116 0 + zA S 703 o
  · rw [if_pos q]
    simp only [g_X12_holdsFor_33, kif, r_gb, gbn_s, r_grd, r_gbo, r_gret, r_gst, k_isIn, k_isSlot, k_isItem, k_isGroup, k_isRobot, k_are, k_holds0, k_holds1, k_holds2, k_holds3, k_bit, k_less, bI_t, bI_f, i10, i00, i01, i11, i20, i30, ↓reduceIte, if_neg hm1, r_gnI (show l < mL 17 from show l < 12 by omega) (show mL 17 < 2 ^ 31 by decide), r_gnI (show o < mL 30 from show o < 8 by omega) (show mL 30 < 2 ^ 31 by decide), nI_clamp (show l < 2 ^ 31 by omega), nI_clamp (show o < 2 ^ 31 by omega), b2, c5, e1, if_pos q]
  · rw [if_neg q]
    simp only [g_X12_holdsFor_33, kif, r_gb, gbn_s, r_grd, r_gbo, r_gret, r_gst, k_isIn, k_isSlot, k_isItem, k_isGroup, k_isRobot, k_are, k_holds0, k_holds1, k_holds2, k_holds3, k_bit, k_less, bI_t, bI_f, i10, i00, i01, i11, i20, i30, ↓reduceIte, if_neg hm1, r_gnI (show l < mL 17 from show l < 12 by omega) (show mL 17 < 2 ^ 31 by decide), r_gnI (show o < mL 30 from show o < 8 by omega) (show mL 30 < 2 ^ 31 by decide), nI_clamp (show l < 2 ^ 31 by omega), nI_clamp (show o < 2 ^ 31 by omega), b2, c5, e1, if_neg q]
end
theorem lineL {B k o p j i H0 : Nat} (x3 x5 : Int32) (hi : i < 6) : ∀ (suf pre : List Nat) (S : Ss) (w : MS) (x6 : Int32), Rel B k S w → zL S 1104 0 = pre ++ suf → o < zN S 7 → (zL S 704 o)[p]? = some j → zA S 705 o = 0 → zO S 400 j = some i → x3 = nI (lqS S o j) → (x5 - x6).toInt = lk S j → H0 ≤ ((hL S).filter (hasO S)).length → ∃ T v x6', (∀ f c, suf.length < f → (f_X11_allocateLine_8 f o j c (nI pre.length)).1 S = some (c - lck T j, T)) ∧ (∀ g, suf.length < g → g_X12_holdsFor_33 g (nI o) x3 (nI i) x5 x6 (fcI (byE S i)[nE S i pre]?) w = some (x6', v)) ∧ Rel B k T v ∧ (x5 - x6').toInt = lk T j ∧ AQ S T ∧ AV H0 w v ∧ AL S T ∧ LPj S T j (gd S o i) ∧ H0 ≤ ((hL T).filter (hasO T)).length ∧ (lk T j = 0 ∨ ∀ l, l ∈ suf → gd S o i l → ∀ s, s < 18 → fre T s l = 0)
  | [], pre, S, w, x6, h, hL1, o7, hp, h705, h400, h3, hx, hH => by
    rw [List.append_nil] at hL1
    have e2 : (byE S i)[nE S i pre]? = none := by
      refine List.getElem?_eq_none_iff.mpr ?_
      unfold byE nE
      rw [hL1]; exact Nat.le_refl _
    have z : fcI none = (-1 : Int32) := rfl
    refine ⟨S, w, x6, fun f c hf => ?_, fun g hg => ?_, h, hx, AQ.rf S, AV.rf H0 w, AL.rf S, LPj.rf S j _, hH, Or.inr fun l hl => by cases hl⟩
    · obtain ⟨f, rfl⟩ : ∃ f', f = f' + 1 := ⟨f - 1, by omega⟩
      simp only [f_X11_allocateLine_8, r_mb, bnd_s, r_mrd, r_mbo, r_mret, r_mthr, r_wA, r_wO, r_madd, r_mput, r_mopt, r_mcn, r_mcs, ite_f, e_isWithin, e_isSlot, e_isItem, e_isGroup, e_isRobot, e_isLot, e_isNotice, e_isOrder, e_isTask, bI_t, bI_f, i10, i00, i01, i11, i20, i30, ↓reduceIte, hL1, Int32.le_refl, e_lack]
    · obtain ⟨g, rfl⟩ : ∃ g', g = g' + 1 := ⟨g - 1, by omega⟩
      rw [e2, z]
      simp only [g_X12_holdsFor_33, kif, r_gb, gbn_s, r_grd, r_gbo, r_gret, r_gst, k_isIn, k_isSlot, k_isItem, k_isGroup, k_isRobot, k_are, k_holds0, k_holds1, k_holds2, k_holds3, k_bit, k_less, bI_t, bI_f, i10, i00, i01, i11, i20, i30, ↓reduceIte]
  | l :: t, pre, S, w, x6, h, hL1, o7, hp, h705, h400, h3, hx, hH => by
    have h12 := h.lo.1
    have h8 := h.or.1
    have hlen : (zL S 1104 0).length = zN S 5 := by rw [h.be.1.length_eq, List.length_range]
    have hl : l < zN S 5 := List.mem_range.mp (h.be.1.mem_iff.mp (by rw [hL1]; simp))
    have hpl : pre.length < (zL S 1104 0).length := by rw [hL1]; simp
    have hge : ¬ nI (zL S 1104 0).length ≤ nI pre.length := nI_ge hpl (by omega)
    have hat : lAt (zL S 1104 0) (nI pre.length) = some l := lAt_n (by omega) (by rw [hL1]; simp)
    obtain ⟨-, -, -, -, b5, b6, -⟩ := h.lo.2.2.2.1 l hl
    have hL2 : zL S 1104 0 = (pre ++ [l]) ++ t := by rw [hL1]; simp
    have elen : (pre ++ [l]).length = pre.length + 1 := by rw [List.length_append]; rfl
    have eg := e_good (S := S) (o := o) (i := i) hl b5
    have n10 : ¬ (1 : Int32) = 0 := by decide
    by_cases q : itS S l = i ∧ zA S 503 l = 0
    · have e1 : nE S i (pre ++ [l]) = nE S i pre + 1 := by
        unfold nE
        rw [List.filter_append, List.length_append, List.filter_cons_of_pos (by simp [q])]; rfl
      have e2 : (byE S i)[nE S i pre]? = some l := by
        unfold byE nE
        rw [hL1, List.filter_append, List.getElem?_append_right (Nat.le_refl _), Nat.sub_self, List.filter_cons_of_pos (by simp [q])]; rfl
      have e3 := (List.getElem?_eq_some_iff.mp e2).1
      have z : fcI (some l) = nI l := rfl
      have nx := h.kNextE (n := nE S i pre + 1) hi (some l) ⟨e2.symm, e3⟩
      rw [z] at nx
      by_cases qg : zA S 502 l < zA S 1116 0 + zA S 703 o
      · -- too old
        have ng : ¬ gd S o i l := fun e => e.2.2.2 qg
        obtain ⟨T, v, x6', c1, c2, c3, c4, c5, c6, c7, c8, c9, c10⟩ := lineL (B := B) (k := k) (o := o) (p := p) (j := j) (H0 := H0) x3 x5 hi t (pre ++ [l]) S w x6 h hL2 o7 hp h705 h400 h3 hx hH
        refine ⟨T, v, x6', fun f c hf => ?_, fun g hg => ?_, c3, c4, c5, c6, c7, c8, c9, ?_⟩
        · obtain ⟨f, rfl⟩ : ∃ f', f = f' + 1 := ⟨f - 1, by omega⟩
          have := c1 f c (by simp at hf; omega)
          rw [elen] at this
          rw [← this]
          simp only [f_X11_allocateLine_8, r_mb, bnd_s, r_mrd, r_mbo, r_mret, r_mthr, r_wA, r_wO, r_madd, r_mput, r_mopt, r_mcn, r_mcs, ite_f, e_isWithin, e_isSlot, e_isItem, e_isGroup, e_isRobot, e_isLot, e_isNotice, e_isOrder, e_isTask, bI_t, bI_f, i10, i00, i01, i11, i20, i30, ↓reduceIte, if_neg hge, mlget, hat, h400, eg, if_neg ng, nI_1]
        · obtain ⟨g, rfl⟩ : ∃ g', g = g' + 1 := ⟨g - 1, by omega⟩
          have hF : 1 < FU := FU_gt (by omega)
          obtain ⟨G, hG⟩ : ∃ G, FU = G + 1 := ⟨FU - 1, by omega⟩
          have := c2 g (by simp at hg; omega)
          rw [e1] at this
          rw [e2, z, h.k33 o7 hl, if_pos qg, hG]
          have n36 : ¬ (36 : Int32) ≤ 0 := by decide
          simp only [g_X12_holdsFor_70, g_X12_holdsFor_219, kif, r_gb, gbn_s, r_grd, r_gbo, r_gret, r_gst, k_isIn, k_isSlot, k_isItem, k_isGroup, k_isRobot, k_are, k_holds0, k_holds1, k_holds2, k_holds3, k_bit, k_less, bI_t, bI_f, i10, i00, i01, i11, i20, i30, ↓reduceIte, n36, nx, this]
        · rcases c10 with y | y
          · exact Or.inl y
          · right
            intro l' hl' gl s hs
            rcases List.mem_cons.mp hl' with e | e
            · exact absurd (e ▸ gl) ng
            · exact y l' e gl s hs
      · have pg : gd S o i l := ⟨hl, q.1, q.2, qg⟩
        obtain ⟨S1, w1, y1, a1, a2, a3, a4, a5, a6, a7, a8, a9, a10⟩ := slotsL (B := B) (k := k) (o := o) (p := p) (j := j) (l := l) (H0 := H0) (b := true) (off := 0) (Or.inl ⟨rfl, rfl⟩) (nI o) x3 (nI i) x5 18 0 (by omega) S w x6 h o7 hp h705 hl h3 hx hH
        obtain ⟨q1, q2, q3, q4, q5, q6⟩ := a5
        have elq : lqS S1 o j = lqS S o j := by unfold lqS; rw [q3 704 (by decide)]
        have o71 : o < zN S1 7 := by rw [q6 7 (by decide)]; exact o7
        have hp1 : (zL S1 704 o)[p]? = some j := by rw [q3 704 (by decide)]; exact hp
        have h7051 : zA S1 705 o = 0 := by rw [q1 705 (by decide)]; exact h705
        have hl1 : l < zN S1 5 := by rw [q6 5 (by decide)]; exact hl
        obtain ⟨S2, w2, y2, d1, d2, d3, d4, d5, d6, d7, d8, d9, d10⟩ := slotsL (B := B) (k := k) (o := o) (p := p) (j := j) (l := l) (H0 := H0) (b := false) (off := 18) (Or.inr ⟨rfl, rfl⟩) (nI o) x3 (nI i) x5 18 0 (by omega) S1 w1 y1 a3 o71 hp1 h7051 hl1 (by rw [elq]; exact h3) a4 a9
        have aq2 : AQ S S2 := AQ.tr ⟨q1, q2, q3, q4, q5, q6⟩ d5
        have elq2 : lqS S2 o j = lqS S o j := by unfold lqS; rw [aq2.2.2.1 704 (by decide)]
        obtain ⟨T, v, x6', c1, c2, c3, c4, c5, c6, c7, c8, c9, c10⟩ := lineL (B := B) (k := k) (o := o) (p := p) (j := j) (H0 := H0) x3 x5 hi t (pre ++ [l]) S2 w2 y2 d3 (by rw [aq2.2.2.1 1104 (by decide)]; exact hL2) (by rw [aq2.2.2.2.2.2 7 (by decide)]; exact o7) (by rw [aq2.2.2.1 704 (by decide)]; exact hp) (by rw [aq2.1 705 (by decide)]; exact h705) (by rw [aq2.2.1 400 (by decide)]; exact h400) (by rw [elq2]; exact h3) d4 d9
        have lp2 : LPj S S2 j (gd S o i) := (a8.tr d8).mo fun q e => by rw [e]; exact pg
        have lp3 : LPj S2 T j (gd S o i) := c8.mo fun q e => (aq2.eGd o i q).mp e
        have aqT : AQ S T := aq2.tr c5
        refine ⟨T, v, x6', fun f c hf => ?_, fun g hg => ?_, c3, c4, aqT, (a6.tr d6).tr c6, (a7.tr d7).tr c7, lp2.tr lp3, c9, ?_⟩
        · obtain ⟨f, rfl⟩ : ∃ f', f = f' + 1 := ⟨f - 1, by omega⟩
          have := c1 f c (by simp at hf; omega)
          rw [elen] at this
          rw [← this]
          have hF : 18 < FU := FU_gt (by omega)
          have hat1 : lAt (zL S1 1104 0) (nI pre.length) = some l := by rw [q3 1104 (by decide)]; exact hat
          have s1 : (f_X11_holdInSlots o j l 1).1 S = some ((), S1) := a1 FU hF
          have s2 : (f_X11_holdInSlots o j l 0).1 S1 = some ((), S2) := d1 FU hF
          simp only [f_X11_allocateLine_8, r_mb, bnd_s, r_mrd, r_mbo, r_mret, r_mthr, r_wA, r_wO, r_madd, r_mput, r_mopt, r_mcn, r_mcs, ite_f, e_isWithin, e_isSlot, e_isItem, e_isGroup, e_isRobot, e_isLot, e_isNotice, e_isOrder, e_isTask, bI_t, bI_f, i10, i00, i01, i11, i20, i30, ↓reduceIte, if_neg hge, mlget, hat, hat1, h400, eg, if_pos pg, n10, s1, s2, nI_1]
        · obtain ⟨g, rfl⟩ : ∃ g', g = g' + 1 := ⟨g - 1, by omega⟩
          have hF : 37 < FU := FU_gt (by omega)
          obtain ⟨G, hG⟩ : ∃ G, FU = G + 1 + 18 + 18 := ⟨FU - 37, by omega⟩
          have := c2 g (by simp at hg; omega)
          rw [aq2.eNE, aq2.eBy, e1] at this
          rw [e2, z, h.k33 o7 hl, if_neg qg, hG, show (0 : Int32) = nI (0 + 0) from rfl, a2, show nI (18 + 0) = nI (0 + 18) from rfl, d2]
          have n36 : (36 : Int32) ≤ nI (18 + 18) := by decide
          have nx2 := d3.kNextE (n := nE S2 i pre + 1) hi (some l) ⟨by rw [aq2.eNE, aq2.eBy]; exact e2.symm, by rw [aq2.eNE, aq2.eBy]; exact e3⟩
          rw [aq2.eNE, aq2.eBy] at nx2
          rw [z] at nx2
          simp only [g_X12_holdsFor_70, g_X12_holdsFor_219, kif, r_gb, gbn_s, r_grd, r_gbo, r_gret, r_gst, k_isIn, k_isSlot, k_isItem, k_isGroup, k_isRobot, k_are, k_holds0, k_holds1, k_holds2, k_holds3, k_bit, k_less, bI_t, bI_f, i10, i00, i01, i11, i20, i30, ↓reduceIte, n36, nx2, this]
        · rcases c10 with y | y
          · exact Or.inl y
          · by_cases y0 : lk T j = 0
            · exact Or.inl y0
            right
            intro l' hl' gl s hs
            rcases List.mem_cons.mp hl' with e | e
            · subst e
              have l2 := d3.lkB (by rw [aq2.2.2.2.2.2 7 (by decide)]; exact o7) (by rw [aq2.2.2.1 704 (by decide)]; exact hp)
              have lT := c3.lkB (by rw [aqT.2.2.2.2.2 7 (by decide)]; exact o7) (by rw [aqT.2.2.1 704 (by decide)]; exact hp)
              have m1 := d8.2.1
              have m2 := c8.2.1
              by_cases z2 : lk S2 j = 0
              · exact absurd (show lk T j = 0 by omega) y0
              have z1 : ¬ lk S1 j = 0 := by omega
              have f1 := d8.2.2.1 s l' hs (by omega)
              have f2 := c8.2.2.1 s l' hs (by omega)
              have f3 := (c3.frB0 (s := s) (l := l') hs (by omega)).1
              cases hb : fcS S s with
              | true =>
                have := a10.resolve_left z1 s (by omega) hs hb
                omega
              | false =>
                have := d10.resolve_left z2 s (by omega) hs (by unfold fcS at hb ⊢; rw [q2 902 (by decide)]; exact hb)
                omega
            · exact y l' e ((aq2.eGd o i l').mpr gl) s hs
    · have e1 : nE S i (pre ++ [l]) = nE S i pre := by
        unfold nE
        rw [List.filter_append, List.length_append, List.filter_cons_of_neg (by simpa using q)]; rfl
      have ng : ¬ gd S o i l := fun e => q ⟨e.2.1, e.2.2.1⟩
      obtain ⟨T, v, x6', c1, c2, c3, c4, c5, c6, c7, c8, c9, c10⟩ := lineL (B := B) (k := k) (o := o) (p := p) (j := j) (H0 := H0) x3 x5 hi t (pre ++ [l]) S w x6 h hL2 o7 hp h705 h400 h3 hx hH
      refine ⟨T, v, x6', fun f c hf => ?_, fun g hg => ?_, c3, c4, c5, c6, c7, c8, c9, ?_⟩
      · obtain ⟨f, rfl⟩ : ∃ f', f = f' + 1 := ⟨f - 1, by omega⟩
        have := c1 f c (by simp at hf; omega)
        rw [elen] at this
        rw [← this]
        simp only [f_X11_allocateLine_8, r_mb, bnd_s, r_mrd, r_mbo, r_mret, r_mthr, r_wA, r_wO, r_madd, r_mput, r_mopt, r_mcn, r_mcs, ite_f, e_isWithin, e_isSlot, e_isItem, e_isGroup, e_isRobot, e_isLot, e_isNotice, e_isOrder, e_isTask, bI_t, bI_f, i10, i00, i01, i11, i20, i30, ↓reduceIte, if_neg hge, mlget, hat, h400, eg, if_neg ng, nI_1]
      · have := c2 g (by simp at hg; omega)
        rw [e1] at this
        exact this
      · rcases c10 with y | y
        · exact Or.inl y
        · right
          intro l' hl' gl s hs
          rcases List.mem_cons.mp hl' with e | e
          · exact absurd (e ▸ gl) ng
          · exact y l' e gl s hs
