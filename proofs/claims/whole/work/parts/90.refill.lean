/-! refill: all faces -/
section
variable {B k : Nat} {S : Ss} {w : MS}
theorem Rel.rf60 (h : Rel B k S w) {s i : Nat} (hs : s < 18) (hf : zO S 902 s = some i) (h60 : zN S 10 = 60) : g_X12_refills (nI s) w = some (0, w) := by
  obtain ⟨-, -, s3, -, -, s6, -⟩ := h.sl s hs
  have hi : i < 6 := s6 i hf
  have z : fcI (some i) = nI i := rfl
  rw [hf, z] at s3
  have k17 := h.kRef17 hs hi hf (zC S 1 (6 * s + i))
  rw [if_pos (show nI (zN S 10) = 60 by rw [h60]; rfl), ite_self] at k17
  simp only [g_X12_refills, kif, r_gb, gbn_s, r_grd, r_gbo, r_gret, r_gst, k_isIn, k_isSlot, k_isItem, k_isGroup, k_isRobot, k_are, k_holds0, k_holds1, k_holds2, k_holds3, k_bit, k_less, bI_t, bI_f, i10, i00, i01, i11, i20, i30, ↓reduceIte, r_gnI (show s < mL 6 from hs) (show mL 6 < 2 ^ 31 by decide), nI_clamp (show s < 2 ^ 31 by omega), s3, h.kItem (show s < 28 by omega) hi, k17]
theorem Rel.rf60L (h : Rel B k S w) (h60 : zN S 10 = 60) : ∀ d s, s + d = 18 → ∀ g acc, d < g → g_X12_refill_9 g acc (nI s) w = some (acc, w)
  | 0, s, hsd, g, acc, hg => by
    obtain ⟨g, rfl⟩ : ∃ f', g = f' + 1 := ⟨g - 1, by omega⟩
    have e : s = 18 := by omega
    subst e
    simp only [g_X12_refill_9, kif, r_gb, gbn_s, r_grd, r_gbo, r_gret, r_gst, k_isIn, k_isSlot, k_isItem, k_isGroup, k_isRobot, k_are, k_holds0, k_holds1, k_holds2, k_holds3, k_bit, k_less, bI_t, bI_f, i10, i00, i01, i11, i20, i30, ↓reduceIte, show (18 : Int32) ≤ nI 18 by decide]
  | d + 1, s, hsd, g, acc, hg => by
    obtain ⟨g, rfl⟩ : ∃ f', g = f' + 1 := ⟨g - 1, by omega⟩
    have hs : s < 18 := by omega
    have hlt : ¬ (18 : Int32) ≤ nI s := nI_ge hs (by decide)
    have ih := h.rf60L h60 d (s + 1) (by omega) g acc (by omega)
    obtain ⟨-, -, s3, -, -, s6, -⟩ := h.sl s hs
    cases ho : zO S 902 s with
    | none =>
      have s3' : mA w 6 s = -1 := by rw [s3, ho]; rfl
      simp only [g_X12_refill_9, kif, r_gb, gbn_s, r_grd, r_gbo, r_gret, r_gst, k_isIn, k_isSlot, k_isItem, k_isGroup, k_isRobot, k_are, k_holds0, k_holds1, k_holds2, k_holds3, k_bit, k_less, bI_t, bI_f, i10, i00, i01, i11, i20, i30, ↓reduceIte, hlt, r_gnI (show s < mL 6 from hs) (show mL 6 < 2 ^ 31 by decide), nI_clamp (show s < 2 ^ 31 by omega), s3', Int32.add_zero, nI_1]
      exact ih
    | some i =>
      have hi : i < 6 := s6 i ho
      have hm1 : ¬ nI i = -1 := fun e => nI_ne1 i (by omega) e.symm
      have s3' : mA w 6 s = nI i := by rw [s3, ho]; rfl
      simp only [g_X12_refill_9, kif, r_gb, gbn_s, r_grd, r_gbo, r_gret, r_gst, k_isIn, k_isSlot, k_isItem, k_isGroup, k_isRobot, k_are, k_holds0, k_holds1, k_holds2, k_holds3, k_bit, k_less, bI_t, bI_f, i10, i00, i01, i11, i20, i30, ↓reduceIte, hlt, r_gnI (show s < mL 6 from hs) (show mL 6 < 2 ^ 31 by decide), nI_clamp (show s < 2 ^ 31 by omega), s3', hm1, h.rf60 hs ho h60, Int32.add_zero, nI_1]
      exact ih
theorem Rel.amtB (h : Rel B k S w) {s i : Nat} (hs : s < 18) (hi : i < 6) {c F : Int32} (hc : 0 ≤ c.toInt) (hc2 : c.toInt ≤ 200000000) (q : ¬ amt S s i c F / zA S 305 i ≤ 0) : tI (amt S s i c F / zA S 305 i * zA S 305 i) 1 99 ∧ (amt S s i c F / zA S 305 i * zA S 305 i).toInt ≤ F.toInt := by
  obtain ⟨-, -, -, -, -, -, -, -, t904⟩ := h.sl s hs
  obtain ⟨-, -, -, -, -, -, -, -, -, t3⟩ := h.it i hi
  obtain ⟨d1, d2⟩ := dvm (x := amt S s i c F) t3
  have e0 : (0 : Int32).toInt = 0 := by decide
  have t9 := tI_of t904
  have es : (zA S 904 s - c).toInt = (zA S 904 s).toInt - c.toInt := sub_toInt (by omega) (by omega)
  have m1 : (amt S s i c F).toInt ≤ F.toInt ∧ (amt S s i c F).toInt ≤ (zA S 904 s - c).toInt := by
    unfold amt
    by_cases a : F < zA S 904 s - c
    · rw [if_pos a]
      have a2 := Int32.lt_iff_toInt_lt.mp a
      by_cases b : frR S s / zA S 302 i < F
      · rw [if_pos b]
        have b2 := Int32.lt_iff_toInt_lt.mp b
        omega
      · rw [if_neg b]; omega
    · rw [if_neg a]
      have a2 := mt Int32.lt_iff_toInt_lt.mpr a
      by_cases b : frR S s / zA S 302 i < zA S 904 s - c
      · rw [if_pos b]
        have b2 := Int32.lt_iff_toInt_lt.mp b
        omega
      · rw [if_neg b]; omega
  have hM : 0 ≤ amt S s i c F := Classical.byContradiction fun r => q (d2 r)
  obtain ⟨-, d3, d4, d5⟩ := d1 hM
  have d6 := mt d3.mp q
  rw [Int32.le_iff_toInt_le, e0] at d6
  refine ⟨⟨by omega, by omega⟩, by omega⟩
theorem Rel.rfO1 (h : Rel B k S w) (hN : zN S 10 < 60) {s i : Nat} (hs : s < 18) (hf : zO S 902 s = some i) {c : Int32} (hc : 0 ≤ c.toInt) (hc2 : c.toInt ≤ 200000000) {X : Option (Int32 × Ss)} {Y : Option (Int32 × MS)} (ho : rfO S w s i c X Y) : (X = some (0, S) ∧ Y = some (0, w)) ∨ ∃ T v, X = some (1, T) ∧ Y = some (1, v) ∧ Rel B k T v ∧ CS S T 4 13 ∧ cT T (zN T 10) + 12 * cS T (zN T 7) = cT S (zN S 10) + 12 * cS S (zN S 7) := by
  obtain ⟨-, -, -, -, -, s6, -⟩ := h.sl s hs
  have hi : i < 6 := s6 i hf
  have h12 := h.lo.1
  rcases ho with ho | ⟨p, l, hp, hl, hil, hF, hq, hX, hY⟩
  · exact Or.inl ho
  · right
    obtain ⟨b1, b2⟩ := h.amtB hs hi hc hc2 hq
    have e := h.subB (p := p) (l := l) (by omega) (by omega)
    generalize amt S s i c (zC S 0 (12 * p + l) - zC S 3 (12 * p + l)) / zA S 305 i * zA S 305 i = n at b1 b2 hX hY
    obtain ⟨T, t1, -, t3, t4, t5⟩ := h.add (kd := 1) (n := n) (p := p) (l := l) (s := s) (i := i) hN hl hil hs b1 (Or.inr ⟨rfl, hp, hf⟩) (by omega) (by have := h.hlen; rw [hL_eq] at this; omega)
    refine ⟨T, _, hX.trans ((t1 (mret 1)).trans (r_mret 1)), ?_, t4, t5, t3.kc⟩
    rw [hY, k_makes hN h.ta.2.2.1, gbn_s]
end
theorem rfAll : ∀ d s, s + d = 18 → ∀ (B k : Nat) (S : Ss) (w : MS), Rel B k S w → ∀ f g acc, d < f → d < g → ∃ T v r, (f_X11_refill_4 f acc (nI s)).1 S = some (r, T) ∧ g_X12_refill_9 g acc (nI s) w = some (r, v) ∧ Rel B k T v ∧ CS S T (4 * d) (13 * d) ∧ cT T (zN T 10) + 12 * cS T (zN T 7) = cT S (zN S 10) + 12 * cS S (zN S 7)
  | 0, s, hsd, B, k, S, w, h, f, g, acc, hf, hg => by
    obtain ⟨f, rfl⟩ : ∃ f', f = f' + 1 := ⟨f - 1, by omega⟩
    obtain ⟨g, rfl⟩ : ∃ f', g = f' + 1 := ⟨g - 1, by omega⟩
    have e : s = 18 := by omega
    subst e
    refine ⟨S, w, acc, ?_, ?_, h, CS.rf, rfl⟩
    · simp only [f_X11_refill_4, r_mb, bnd_s, r_mrd, r_mbo, r_mret, r_mthr, r_wA, r_wO, r_madd, r_mput, r_mopt, r_mcn, r_mcs, ite_f, e_isWithin, e_isSlot, e_isItem, e_isGroup, e_isRobot, e_isLot, e_isNotice, e_isOrder, e_isTask, bI_t, bI_f, i10, i00, i01, i11, i20, i30, ↓reduceIte, show nI (aLn 1100) ≤ nI 18 by decide]
    · simp only [g_X12_refill_9, kif, r_gb, gbn_s, r_grd, r_gbo, r_gret, r_gst, k_isIn, k_isSlot, k_isItem, k_isGroup, k_isRobot, k_are, k_holds0, k_holds1, k_holds2, k_holds3, k_bit, k_less, bI_t, bI_f, i10, i00, i01, i11, i20, i30, ↓reduceIte, show (18 : Int32) ≤ nI 18 by decide]
  | d + 1, s, hsd, B, k, S, w, h, f, g, acc, hf, hg => by
    have h60 := h.ta.1
    have hs : s < 18 := by omega
    have hlt : ¬ nI (aLn 1100) ≤ nI s := nI_ge hs (by decide)
    have hlt2 : ¬ (18 : Int32) ≤ nI s := nI_ge hs (by decide)
    by_cases q60 : zN S 10 = 60
    · have e := h.rf60L q60 (d + 1) s hsd g acc hg
      obtain ⟨f, rfl⟩ : ∃ f', f = f' + 1 := ⟨f - 1, by omega⟩
      refine ⟨S, w, acc, ?_, e, h, CS.rf.mo (by omega) (by omega), rfl⟩
      simp only [f_X11_refill_4, r_mb, bnd_s, r_mrd, r_mbo, r_mret, r_mthr, r_wA, r_wO, r_madd, r_mput, r_mopt, r_mcn, r_mcs, ite_f, e_isWithin, e_isSlot, e_isItem, e_isGroup, e_isRobot, e_isLot, e_isNotice, e_isOrder, e_isTask, bI_t, bI_f, i10, i00, i01, i11, i20, i30, ↓reduceIte, hlt, h.nt, q60, show (60 : Int32) ≤ nI 60 by decide]
    · have hN : zN S 10 < 60 := by omega
      have hn60 : ¬ (60 : Int32) ≤ nI (zN S 10) := nI_ge (b := 60) hN (by decide)
      obtain ⟨f, rfl⟩ : ∃ f', f = f' + 1 := ⟨f - 1, by omega⟩
      obtain ⟨g, rfl⟩ : ∃ f', g = f' + 1 := ⟨g - 1, by omega⟩
      obtain ⟨-, -, s3, -, -, s6, -⟩ := h.sl s hs
      have ih0 := rfAll d (s + 1) (by omega) B k S w h f g acc (by omega) (by omega)
      have up : (∃ T v r, (f_X11_refill_4 f acc (nI (s + 1))).1 S = some (r, T) ∧ g_X12_refill_9 g acc (nI (s + 1)) w = some (r, v) ∧ Rel B k T v ∧ CS S T (4 * d) (13 * d) ∧ cT T (zN T 10) + 12 * cS T (zN T 7) = cT S (zN S 10) + 12 * cS S (zN S 7)) → ∃ T v r, (f_X11_refill_4 f acc (nI (s + 1))).1 S = some (r, T) ∧ g_X12_refill_9 g acc (nI (s + 1)) w = some (r, v) ∧ Rel B k T v ∧ CS S T (4 * (d + 1)) (13 * (d + 1)) ∧ cT T (zN T 10) + 12 * cS T (zN T 7) = cT S (zN S 10) + 12 * cS S (zN S 7) := fun ⟨T, v, r, p1, p2, p3, p4, p5⟩ => ⟨T, v, r, p1, p2, p3, p4.mo (by omega) (by omega), p5⟩
      cases ho : zO S 902 s with
      | none =>
        have s3' : mA w 6 s = -1 := by rw [s3, ho]; rfl
        have e1 : (f_X11_refill_4 (f + 1) acc (nI s)).1 S = (f_X11_refill_4 f acc (nI (s + 1))).1 S := by
          simp only [f_X11_refill_4, r_mb, bnd_s, r_mrd, r_mbo, r_mret, r_mthr, r_wA, r_wO, r_madd, r_mput, r_mopt, r_mcn, r_mcs, ite_f, e_isWithin, e_isSlot, e_isItem, e_isGroup, e_isRobot, e_isLot, e_isNotice, e_isOrder, e_isTask, bI_t, bI_f, i10, i00, i01, i11, i20, i30, ↓reduceIte, hlt, h.nt, hn60, r_mnI (show s < aLn 1100 from hs) (show aLn 1100 < 2 ^ 31 by decide), nI_clamp (show s < 2 ^ 31 by omega), ho, nI_1]
        have e2 : g_X12_refill_9 (g + 1) acc (nI s) w = g_X12_refill_9 g acc (nI (s + 1)) w := by
          simp only [g_X12_refill_9, kif, r_gb, gbn_s, r_grd, r_gbo, r_gret, r_gst, k_isIn, k_isSlot, k_isItem, k_isGroup, k_isRobot, k_are, k_holds0, k_holds1, k_holds2, k_holds3, k_bit, k_less, bI_t, bI_f, i10, i00, i01, i11, i20, i30, ↓reduceIte, hlt2, r_gnI (show s < mL 6 from hs) (show mL 6 < 2 ^ 31 by decide), nI_clamp (show s < 2 ^ 31 by omega), s3', Int32.add_zero, nI_1]
        rw [e1, e2]
        exact up ih0
      | some i =>
        have hi : i < 6 := s6 i ho
        have hm1 : ¬ nI i = -1 := fun e => nI_ne1 i (by omega) e.symm
        have s3' : mA w 6 s = nI i := by rw [s3, ho]; rfl
        have res : ((f_X11_refillFace (nI s) s).1 S = some (0, S) ∧ g_X12_refills (nI s) w = some (0, w)) ∨ ∃ T v, (f_X11_refillFace (nI s) s).1 S = some (1, T) ∧ g_X12_refills (nI s) w = some (1, v) ∧ Rel B k T v ∧ CS S T 4 13 ∧ cT T (zN T 10) + 12 * cS T (zN T 7) = cT S (zN S 10) + 12 * cS S (zN S 7) := by
          rcases h.rfW hs ho with ⟨c, c1, c2, c3⟩ | q | q
          · have t0 := h.there0 hs hi
            have t1 := h.n1 (show s < 28 by omega) hi
            have t2 := h.n1u (show s < 28 by omega) hi
            have t3 := h.n4 hs hi
            have t4 := h.n4u hs hi
            have t5 : (zC S 1 (6 * s + i) + zC S 4 (6 * s + i)).toInt = (zC S 1 (6 * s + i)).toInt + (zC S 4 (6 * s + i)).toInt := add_toInt (by omega) (by omega)
            rw [← c2] at t0 t5
            exact h.rfO1 hN hs ho t0 (by omega) c1
          · exact Or.inl q
          · exact absurd q q60
        rcases res with ⟨r1, r2⟩ | ⟨T, v, r1, r2, r3, r4, r5⟩
        · have e1 : (f_X11_refill_4 (f + 1) acc (nI s)).1 S = (f_X11_refill_4 f acc (nI (s + 1))).1 S := by
            simp only [f_X11_refill_4, r_mb, bnd_s, r_mrd, r_mbo, r_mret, r_mthr, r_wA, r_wO, r_madd, r_mput, r_mopt, r_mcn, r_mcs, ite_f, e_isWithin, e_isSlot, e_isItem, e_isGroup, e_isRobot, e_isLot, e_isNotice, e_isOrder, e_isTask, bI_t, bI_f, i10, i00, i01, i11, i20, i30, ↓reduceIte, hlt, h.nt, hn60, r_mnI (show s < aLn 1100 from hs) (show aLn 1100 < 2 ^ 31 by decide), nI_clamp (show s < 2 ^ 31 by omega), ho, r1, nI_1]
          have e2 : g_X12_refill_9 (g + 1) acc (nI s) w = g_X12_refill_9 g acc (nI (s + 1)) w := by
            simp only [g_X12_refill_9, kif, r_gb, gbn_s, r_grd, r_gbo, r_gret, r_gst, k_isIn, k_isSlot, k_isItem, k_isGroup, k_isRobot, k_are, k_holds0, k_holds1, k_holds2, k_holds3, k_bit, k_less, bI_t, bI_f, i10, i00, i01, i11, i20, i30, ↓reduceIte, hlt2, r_gnI (show s < mL 6 from hs) (show mL 6 < 2 ^ 31 by decide), nI_clamp (show s < 2 ^ 31 by omega), s3', hm1, r2, Int32.add_zero, nI_1]
          rw [e1, e2]
          exact up ih0
        · have e1 : (f_X11_refill_4 (f + 1) acc (nI s)).1 S = (f_X11_refill_4 f (acc + 1) (nI (s + 1))).1 T := by
            simp only [f_X11_refill_4, r_mb, bnd_s, r_mrd, r_mbo, r_mret, r_mthr, r_wA, r_wO, r_madd, r_mput, r_mopt, r_mcn, r_mcs, ite_f, e_isWithin, e_isSlot, e_isItem, e_isGroup, e_isRobot, e_isLot, e_isNotice, e_isOrder, e_isTask, bI_t, bI_f, i10, i00, i01, i11, i20, i30, ↓reduceIte, hlt, h.nt, hn60, r_mnI (show s < aLn 1100 from hs) (show aLn 1100 < 2 ^ 31 by decide), nI_clamp (show s < 2 ^ 31 by omega), ho, r1, nI_1]
          have e2 : g_X12_refill_9 (g + 1) acc (nI s) w = g_X12_refill_9 g (acc + 1) (nI (s + 1)) v := by
            simp only [g_X12_refill_9, kif, r_gb, gbn_s, r_grd, r_gbo, r_gret, r_gst, k_isIn, k_isSlot, k_isItem, k_isGroup, k_isRobot, k_are, k_holds0, k_holds1, k_holds2, k_holds3, k_bit, k_less, bI_t, bI_f, i10, i00, i01, i11, i20, i30, ↓reduceIte, hlt2, r_gnI (show s < mL 6 from hs) (show mL 6 < 2 ^ 31 by decide), nI_clamp (show s < 2 ^ 31 by omega), s3', hm1, r2, nI_1]
          rw [e1, e2]
          obtain ⟨U, u, r, p1, p2, p3, p4, p5⟩ := rfAll d (s + 1) (by omega) B k T v r3 f g (acc + 1) (by omega) (by omega)
          exact ⟨U, u, r, p1, p2, p3, (r4.tr p4).mo (by omega) (by omega), p5.trans r5⟩
section
variable {m : Nat} {S : Ss} {w : MS}
theorem s_refill (g : GG m S w) (hm : m < 512) : STn GG m S w f_X11_refill g_X12_refill := by
  obtain ⟨B, k, hB, hk, -, -, -, h⟩ := g.out
  obtain ⟨T, v, r, e1, e2, e3, e4, e5⟩ := rfAll 18 0 rfl B k S (mSI 0 0 w) (h.thr 0) FU FU 0 (FU_gt (by decide)) (FU_gt (by decide))
  have z0 : nI 0 = (0 : Int32) := rfl
  rw [z0] at e1 e2
  refine ⟨r, T, v, ?_, ?_, g.ics hm e4 (by decide) (by decide) e5 hB hk e3⟩
  · unfold f_X11_refill; exact e1
  · simp only [g_X12_refill, r_gst]; exact e2
end
