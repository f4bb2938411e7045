/-! count, whole -/
section
variable {m : Nat} {S T S1 : Ss} {w v : MS}
theorem Rel.dbt {B k : Nat} (h : Rel B k S w) {j : Nat} (y : Int32) : Rel B k (pC 5 j (y + 1) S) (mSA 21 j y w) := by
  have db : g_db (pC 5 j (y + 1) S) (mSA 21 j y w) := fun i hi => by
    rw [sCC, sBA]
    by_cases e : i = j
    · rw [if_pos e, if_pos e]
    · rw [if_neg e, if_neg e]; exact h.db i hi
  exact ⟨h.sl, h.it, h.ba, h.sc, h.lo, h.be, h.no, h.ca, h.aw, h.or, h.li, h.bk, h.nn, h.tr, db, h.mv, h.ho, h.hs, h.hm, h.ta, h.ap, h.ro, h.st, h.bx⟩
/-- the book becomes what is there, where that is more -/
theorem Rel.cntM {B k : Nat} (h : Rel B k S w) (hk : k < 1024) {s l : Nat} (hs : s < 18) (hl : l < zN S 5) (hlt : (zC S 0 (12 * s + l)).toInt < (zC S 2 (12 * s + l)).toInt) : ∃ T k', (f_X0_believeTruth (nI s) l).1 S = some ((), T) ∧ k' ≤ k + 1 ∧ Rel B k' (pA 1118 0 (zA S 1118 0 + 6) T) (bkV (cntW S w s l) s l (zC S 2 (12 * s + l) - zC S 0 (12 * s + l))) ∧ (∀ f, f ≠ 7 → zA T f = zA S f) ∧ zP T = zP S ∧ (∀ f, f ≠ 60 ∧ f ≠ 61 ∧ f ≠ 62 → zN T f = zN S f) ∧ cst S T := by
  have h12 := h.lo.1
  obtain ⟨S1, e0, e1⟩ := h.eBel hk hs hl
  have e1' := e1
  obtain ⟨wA, wO, wL, wP, wC, wN, wc, w0, -⟩ := e1
  have hj : 12 * s + l < 240 := by omega
  have hj2 : 12 * s + l < 336 := by omega
  obtain ⟨x, hx⟩ : ∃ x, x = zC S 2 (12 * s + l) - zC S 0 (12 * s + l) := ⟨_, rfl⟩
  have tb := tI_of (h.nn.2.1 _ hj2)
  have tt := tI_of (h.nn.2.2 _ hj)
  have B8 := h.nn.1
  have xt : x.toInt = (zC S 2 (12 * s + l)).toInt - (zC S 0 (12 * s + l)).toInt := by rw [hx]; exact sub_toInt (by omega) (by omega)
  have x0 : ¬ x = 0 := fun r => by
    rw [r] at xt
    have e0 : (0 : Int32).toInt = 0 := rfl
    omega
  rw [← hx] at e1' ⊢
  obtain ⟨v, hv⟩ : ∃ v, v = bkV (cntW S w s l) s l x := ⟨_, rfl⟩
  obtain ⟨T, hT⟩ : ∃ T, T = pA 1118 0 (zA S 1118 0 + 6) S1 := ⟨_, rfl⟩
  have TA : ∀ f, f ≠ 1118 → zA T f = zA S1 f := fun f hf => by rw [hT, fAA hf]
  have TO : zO T = zO S := by rw [hT]; exact wO
  have TL : zL T = zL S := by rw [hT]; exact wL
  have TC : zC T = zC S1 := by rw [hT]; rfl
  have TM : zM T = zM S1 := by rw [hT]; rfl
  have TN : zN T = zN S1 := by rw [hT]; rfl
  have coT : CO T := co_cg (S := S) (fun f hf => by rw [TA f (by omega), wA f (by omega)]) TO (by rw [TL]) ⟨by rw [TC, wC 3 (by decide)], by rw [TC, wC 4 (by decide)]⟩ (fun f hf => by rw [TN, wN f (by omega)]) h.co
  have c0 : ∀ j, zC T 0 j = zC S 0 j + if j = 12 * s + l then x else 0 := fun j => by
    rw [TC, w0, ← hx, dd_p (by omega)]
  have cs : zC T 0 (12 * s + l) = zC S 2 (12 * s + l) := by
    rw [c0, if_pos rfl]
    apply Int32.toInt_inj.mp
    rw [add_toInt (by omega) (by omega)]; omega
  have vA : ∀ f, f ≠ 19 ∧ f ≠ 21 → mA v f = mA w f := fun f hf => by rw [hv, bkV_A hf, cw_A hf.2]
  obtain ⟨k', k1, g1, g2, g3, g4, g5, g6⟩ := h.wrB (T := T) (v := v) hk hs hl x0 e1' (by rw [← TC, cs]; exact h.nn.2.2 _ hj) (fun f hf => by rw [TC]) TM (TA 7 (by decide)) (fun f hf => by rw [TA f (by omega), wA f (by omega)]) TO (by rw [TL]) (fun f hf => by rw [TN, wN f (by omega)]) (by rw [TN]) (fun j _ => by rw [hv, bkV_19, cw_A (by decide)]) (vA 20 (by decide)) (fun j => by
    rw [hv, bkV_21, cw_21]
    by_cases e : j = 12 * s + l
    · rw [if_pos e, if_pos ⟨hs, x0, e⟩]
    · rw [if_neg e, if_neg (fun r => e r.2.2)])
  have pf := h.pfS
  have T4 : ∀ y, y ∈ hL S → ¬ zA S 204 y = 0 → zA T 204 y = zA S 204 y := fun y _ _ => by rw [TA 204 (by decide), wA 204 (by decide)]
  have TH : hL T = (hL S).filter fun y => decide (0 < zA S 204 y) := by
    have e : hL T = hL S := by unfold hL; rw [TL]
    rw [e, List.filter_eq_self.mpr fun y hy => ?_]
    have t := tI_of (h.ho.2.1 y hy).2.1
    have e0 : (0 : Int32).toInt = 0 := rfl
    exact decide_eq_true (Int32.lt_iff_toInt_lt.mpr (by omega))
  refine ⟨S1, k', e0, k1, ?_, wA, wP, wN, wc⟩
  rw [← hT, ← hv]
  refine h.fin pf (h.kx.wr (fun f hf => vA f (by omega)) (by rw [hv, bkV_I, cw_I (by decide)])) (fun f hf => by rw [TA f hf.2.2.2.2.2.2, wA f hf.1]) TO (fun f _ => by rw [TL]) (fun f hf => by rw [TC, wC f ⟨hf.1, hf.2.1, hf.2.2.2.2.2⟩]) (fun f hf => by rw [TN, wN f hf]) (fun f hf => by rw [hv, bkV_I, cw_I hf.2.1]) (by rw [hv, bkV_I, cw_2, hT, sAA, if_pos rfl]) (fun f hf => vA f (by omega)) TH T4 (fun t _ => ⟨by rw [TA 1004 (by decide), wA 1004 (by decide)], by rw [TA 1005 (by decide), wA 1005 (by decide)]⟩) coT.2.2.2.2.2 (fun a l' ha hl' => ?_) (h.liF (T := T) pf.1 TH T4 (fun f hf => by rw [TA f (by omega), wA f (by omega)]) TO (by rw [TL]) ⟨by rw [TN, wN 7 (by decide)], by rw [TN, wN 4 (by decide)]⟩ (fun f hf => vA f (by omega)) coT.2.2.2.2.2) g1 g2 g3 g4 g5 g6
  refine h.hbk3 pf.1 TH T4 (by rw [TA 202 (by decide), wA 202 (by decide)]) TO ha hl' ?_
  by_cases e : a = s ∧ l' = l
  · rw [e.1, e.2, cs]; omega
  · rw [c0, if_neg (by omega), Int32.add_zero]
    exact Int.le_refl _
theorem s_count (g : GG m S w) (hm : m < 512) (x y : Int32) : STi GG m S w (f_X11_count x y) (g_X12_count x y) [(1, 1)] := by
  obtain ⟨B, k, hB, hk, hk2, hc1, hc2, h⟩ := g.out
  have h12 := h.lo.1
  cases h1 : okI x 18 with
  | false =>
    refine sti_th g hm (u := 1) (c := 1) (r := 0) ?_ ?_ (by simp) (by decide) (by decide)
    · simp only [f_X11_count, r_mb, bnd_s, r_mrd, r_mbo, r_mret, r_mthr, r_wA, r_wO, r_madd, r_mput, r_mopt, r_mcn, r_mcs, ite_f, e_isWithin, e_isSlot, e_isItem, e_isGroup, e_isRobot, e_isLot, e_isNotice, e_isOrder, e_isTask, bI_t, bI_f, i10, i00, i01, i11, i20, i30, ↓reduceIte, h1]; try rfl
    · simp only [g_X12_count, g_X12_count_20, g_X12_count_21, kif, r_gb, gbn_s, r_grd, r_gbo, r_gret, r_gst, k_isIn, k_isSlot, k_isItem, k_isGroup, k_isRobot, k_are, k_holds0, k_holds1, k_holds2, k_holds3, k_bit, k_less, bI_t, bI_f, i10, i00, i01, i11, i20, i30, ↓reduceIte, h1]; try rfl
  | true =>
    cases h2 : okI y (zN S 5) with
    | false =>
      refine sti_th g hm (u := 1) (c := 1) (r := 0) ?_ ?_ (by simp) (by decide) (by decide)
      · simp only [f_X11_count, r_mb, bnd_s, r_mrd, r_mbo, r_mret, r_mthr, r_wA, r_wO, r_madd, r_mput, r_mopt, r_mcn, r_mcs, ite_f, e_isWithin, e_isSlot, e_isItem, e_isGroup, e_isRobot, e_isLot, e_isNotice, e_isOrder, e_isTask, bI_t, bI_f, i10, i00, i01, i11, i20, i30, ↓reduceIte, h1, h.nl, h2]; try rfl
      · simp only [g_X12_count, g_X12_count_20, g_X12_count_21, kif, r_gb, gbn_s, r_grd, r_gbo, r_gret, r_gst, k_isIn, k_isSlot, k_isItem, k_isGroup, k_isRobot, k_are, k_holds0, k_holds1, k_holds2, k_holds3, k_bit, k_less, bI_t, bI_f, i10, i00, i01, i11, i20, i30, ↓reduceIte, h1, h.kLot, h2]; try rfl
    | true =>
      obtain ⟨s, hs, rfl⟩ := okI_t (by decide) h1
      obtain ⟨l, hl, rfl⟩ := okI_t (by omega) h2
      have h0 := h.thr 0
      obtain ⟨w0, hw0⟩ : ∃ w0, w0 = mSI 0 0 w := ⟨_, rfl⟩
      rw [← hw0] at h0
      have w00 : mI w0 0 = 0 := by rw [hw0]; rfl
      have e12 : (12 : Int32) * nI s + nI l = nI (12 * s + l) := by rw [show (12 : Int32) = nI 12 from rfl, pk_mul, nI_add]
      have cl := nI_clamp (show 12 * s + l < 2 ^ 31 by omega)
      have j19 : 12 * s + l < mL 19 := show 12 * s + l < 336 by omega
      have j20 : 12 * s + l < mL 20 := show 12 * s + l < 216 by omega
      have j21 : 12 * s + l < mL 21 := show 12 * s + l < 216 by omega
      have L31 : ∀ n, mL n < 2 ^ 31 → True := fun _ _ => trivial
      have t20 : mA w0 20 (12 * s + l) = zC S 2 (12 * s + l) := (h0.tr.1 _ j20).symm
      have t19 : mA w0 19 (12 * s + l) = zC S 0 (12 * s + l) := (h0.bk.1 _ j19).symm
      have t21 : zC S 5 (12 * s + l) = mA w0 21 (12 * s + l) + 1 := h0.db _ j21
      have b2 : mI w0 2 = zA S 1118 0 := h0.sc.2.1
      have a2 : cAt S 2 (nI s) (nI l) = zC S 2 (12 * s + l) := cAt_in (S := S) (r := 2) (p := s) (l := l) (show l < 12 by omega) (show s * 12 + l < 336 by omega)
      have a0 : cAt S 0 (nI s) (nI l) = zC S 0 (12 * s + l) := cAt_in (S := S) (r := 0) (p := s) (l := l) (show l < 12 by omega) (show s * 12 + l < 336 by omega)
      have a5 : cAt S 5 (nI s) (nI l) = zC S 5 (12 * s + l) := cAt_in (S := S) (r := 5) (p := s) (l := l) (show l < 12 by omega) (show s * 12 + l < 216 by omega)
      have p5 : ∀ z, cPut 5 (nI s) (nI l) z S = pC 5 (12 * s + l) z S := fun z => cPut_in (r := 5) (p := s) (l := l) (show l < 12 by omega) (show s * 12 + l < 216 by omega)
      obtain ⟨w1, hw1⟩ : ∃ w1, w1 = mSI 2 (zA S 1118 0 + 6) w0 := ⟨_, rfl⟩
      have w1A : mA w1 = mA w0 := by rw [hw1]; rfl
      have w1t19 : mA w1 19 (12 * s + l) = zC S 0 (12 * s + l) := by rw [w1A]; exact t19
      have hcw : cntW S w0 s l = mSA 21 (12 * s + l) (-1) w1 := by rw [hw1]; rfl
      have hsum : ∀ a b : Int32, a + 1 = b + 1 → a = b := fun a b r => by
        have := congrArg (fun z => z - 1) r
        simpa [Int32.add_sub_cancel] using this
      -- what is noted as a doubt
      have keep : ∀ z : Int32, STi GG m S w (f_X11_count (nI s) (nI l)) (g_X12_count (nI s) (nI l)) [(1, 1)] → True := fun _ _ => trivial
      have dn : ∀ z : Int32, (f_X11_count (nI s) (nI l)).1 S = some ((0, zC S 2 (12 * s + l)), pA 1118 0 (zA S 1118 0 + 6) (pC 5 (12 * s + l) (z + 1) S)) → g_X12_count (nI s) (nI l) w = some (zC S 2 (12 * s + l), mSA 21 (12 * s + l) z w1) → STi GG m S w (f_X11_count (nI s) (nI l)) (g_X12_count (nI s) (nI l)) [(1, 1)] := fun z r1 r2 => by
        refine sti_st ?_ r1 r2 (by rw [tIB, hw1, fII (by decide)]; exact w00)
        refine g.st hm rfl rfl (fun t => by rw [fAA (by decide)]; rfl) (fun t => by rw [fAA (by decide)]; rfl) (fun t => by rw [fAA (by decide)]; rfl) fun B k _ hR => ⟨B, by omega, ?_⟩
        have q := ((hR.thr 0).bil (zA S 1118 0 + 6)).dbt (j := 12 * s + l) z
        rw [← hw0, ← hw1] at q
        exact q
      by_cases q1 : zC S 2 (12 * s + l) = zC S 0 (12 * s + l)
      · refine dn (-1) ?_ ?_
        · simp only [f_X11_count, f_X11_count_73, f_X11_count_74, f_X11_count_107, f_X11_count_144, f_X0_keepDoubt, f_X0_keepDoubt_26, r_mb, bnd_s, r_mrd, r_mbo, r_mret, r_mthr, r_wA, r_wO, r_madd, r_mput, r_mopt, r_mcn, r_mcs, ite_f, e_isWithin, e_isSlot, e_isItem, e_isGroup, e_isRobot, e_isLot, e_isNotice, e_isOrder, e_isTask, bI_t, bI_f, i10, i00, i01, i11, i20, i30, ↓reduceIte, h1, h.nl, h2, a2, a0, q1, p5]
          rfl
        · simp only [g_X12_count, g_X12_count_20, g_X12_count_21, g_X12_count_81, g_X12_count_82, g_X12_count_111, g_X12_count_144, kif, r_gb, gbn_s, r_grd, r_gbo, r_gret, r_gst, k_isIn, k_isSlot, k_isItem, k_isGroup, k_isRobot, k_are, k_holds0, k_holds1, k_holds2, k_holds3, k_bit, k_less, bI_t, bI_f, i10, i00, i01, i11, i20, i30, ↓reduceIte, h1, h.kLot, h2, ← hw0, e12, cl, r_gnI j20 (show mL 20 < 2 ^ 31 by decide), r_gnI j19 (show mL 19 < 2 ^ 31 by decide), r_gnI j21 (show mL 21 < 2 ^ 31 by decide), t20, b2, ← hw1, w1t19, q1, gmd, show isA 21 = true from rfl]
      · by_cases q2 : zC S 5 (12 * s + l) = zC S 2 (12 * s + l) + 1
        · have q3 : mA w1 21 (12 * s + l) = zC S 2 (12 * s + l) := by rw [w1A]; exact hsum _ _ (t21.symm.trans q2)
          obtain ⟨w2, hw2⟩ : ∃ w2, w2 = mSA 21 (12 * s + l) (-1) w1 := ⟨_, rfl⟩
          have w2t19 : mA w2 19 (12 * s + l) = zC S 0 (12 * s + l) := by rw [hw2, fBA (by decide)]; exact w1t19
          by_cases q4 : zC S 0 (12 * s + l) ≤ zC S 2 (12 * s + l)
          · obtain ⟨T, k', r1, r2, r3, r4, r5, r6, r7⟩ := h0.cntM (by omega) hs hl (by
              have := Int32.le_iff_toInt_le.mp q4
              have : ¬ (zC S 2 (12 * s + l)).toInt = (zC S 0 (12 * s + l)).toInt := fun r => q1 (Int32.toInt_inj.mp r)
              omega)
            rw [hcw, ← hw2] at r3
            have kb := k_books (w := w2) (show s < 28 by omega) (show l < 12 by omega) (zC S 2 (12 * s + l) - zC S 0 (12 * s + l))
            unfold cst at r7
            refine sti_st (T := pA 1118 0 (zA S 1118 0 + 6) T) (g.inm hm (fun f hf => by rw [fAA (by omega), r4 f (by omega)]) (by rw [tPA, r5]) ⟨by rw [tNA, r6 10 (by decide)], by rw [tNA, r6 7 (by decide)]⟩ (by rw [tNA]; omega) (by rw [tNA]; omega) hB hk (Nat.le_add_right _ _) r2 r3) (r := zC S 2 (12 * s + l)) ?_ ?_ (by rw [bkV_I, hw2, tIB, hw1, fII (by decide)]; exact w00)
            · simp only [f_X11_count, f_X11_count_73, f_X11_count_74, f_X11_count_107, f_X11_count_144, f_X0_isDoubted, r_mb, bnd_s, r_mrd, r_mbo, r_mret, r_mthr, r_wA, r_wO, r_madd, r_mput, r_mopt, r_mcn, r_mcs, ite_f, e_isWithin, e_isSlot, e_isItem, e_isGroup, e_isRobot, e_isLot, e_isNotice, e_isOrder, e_isTask, bI_t, bI_f, i10, i00, i01, i11, i20, i30, ↓reduceIte, h1, h.nl, h2, a2, a0, q1, a5, q2, q4, mlget, h.atL hl, r1, r4 1118 (by decide)]
            · simp only [g_X12_count, g_X12_count_20, g_X12_count_21, g_X12_count_81, g_X12_count_82, g_X12_count_111, g_X12_count_144, kif, r_gb, gbn_s, r_grd, r_gbo, r_gret, r_gst, k_isIn, k_isSlot, k_isItem, k_isGroup, k_isRobot, k_are, k_holds0, k_holds1, k_holds2, k_holds3, k_bit, k_less, bI_t, bI_f, i10, i00, i01, i11, i20, i30, ↓reduceIte, h1, h.kLot, h2, ← hw0, e12, cl, r_gnI j20 (show mL 20 < 2 ^ 31 by decide), r_gnI j19 (show mL 19 < 2 ^ 31 by decide), r_gnI j21 (show mL 21 < 2 ^ 31 by decide), t20, b2, ← hw1, w1t19, q1, q3, gmd, show isA 21 = true from rfl, ← hw2, w2t19, q4, kb]
          · obtain ⟨T, v1, v, k', r1, r2, r3, r4, r5, r6, r7, r8, r9, r10, r11, r12⟩ := h0.cnt (by omega) hs hl (by
              have := mt Int32.le_iff_toInt_le.mpr q4
              omega)
            rw [hcw, ← hw2] at r2
            unfold cst at r9
            have e1 : cT (pA 1118 0 (zA S 1118 0 + 6) T) (zN S 10) = cT T (zN S 10) := cT_eq (fun t => by rw [fAA (by decide)]) (fun t => by rw [fAA (by decide)]) _
            have e2 : cS (pA 1118 0 (zA S 1118 0 + 6) T) (zN S 7) = cS S (zN S 7) := cS_eq (fun t => by rw [fAA (by decide), r11]) _
            have ecap : capS (pA 1118 0 (zA S 1118 0 + 6) T) = capS S := by unfold capS; rw [tPA, r7]
            refine sti_st (T := pA 1118 0 (zA S 1118 0 + 6) T) (v := v) (g.inn hm (by rw [tNA]; omega) (by rw [ecap, tNA]; omega) (by unfold g_cp; rw [tPA, r7, tNA, r8 7 (by decide)]; exact g.2.2.1) hB hk (Nat.le_add_right _ _) (by rw [tNA, r8 10 (by decide), r8 7 (by decide), e1, e2, r10]; omega) r5) (r := zC S 2 (12 * s + l)) ?_ ?_ (by rw [r6]; exact w00)
            · simp only [f_X11_count, f_X11_count_73, f_X11_count_74, f_X11_count_107, f_X11_count_144, f_X0_isDoubted, r_mb, bnd_s, r_mrd, r_mbo, r_mret, r_mthr, r_wA, r_wO, r_madd, r_mput, r_mopt, r_mcn, r_mcs, ite_f, e_isWithin, e_isSlot, e_isItem, e_isGroup, e_isRobot, e_isLot, e_isNotice, e_isOrder, e_isTask, bI_t, bI_f, i10, i00, i01, i11, i20, i30, ↓reduceIte, h1, h.nl, h2, a2, a0, q1, a5, q2, q4, mlget, h.atL hl, r1, r12]
            · simp only [g_X12_count, g_X12_count_20, g_X12_count_21, g_X12_count_81, g_X12_count_82, g_X12_count_111, g_X12_count_144, kif, r_gb, gbn_s, r_grd, r_gbo, r_gret, r_gst, k_isIn, k_isSlot, k_isItem, k_isGroup, k_isRobot, k_are, k_holds0, k_holds1, k_holds2, k_holds3, k_bit, k_less, bI_t, bI_f, i10, i00, i01, i11, i20, i30, ↓reduceIte, h1, h.kLot, h2, ← hw0, e12, cl, r_gnI j20 (show mL 20 < 2 ^ 31 by decide), r_gnI j19 (show mL 19 < 2 ^ 31 by decide), r_gnI j21 (show mL 21 < 2 ^ 31 by decide), t20, b2, ← hw1, w1t19, q1, q3, gmd, show isA 21 = true from rfl, ← hw2, w2t19, q4, r2, r3]
        · have q3 : ¬ mA w1 21 (12 * s + l) = zC S 2 (12 * s + l) := fun r => q2 (by rw [t21, ← r, w1A])
          refine dn (zC S 2 (12 * s + l)) ?_ ?_
          · simp only [f_X11_count, f_X11_count_73, f_X11_count_74, f_X11_count_107, f_X11_count_144, f_X0_keepDoubt, f_X0_keepDoubt_26, f_X0_isDoubted, r_mb, bnd_s, r_mrd, r_mbo, r_mret, r_mthr, r_wA, r_wO, r_madd, r_mput, r_mopt, r_mcn, r_mcs, ite_f, e_isWithin, e_isSlot, e_isItem, e_isGroup, e_isRobot, e_isLot, e_isNotice, e_isOrder, e_isTask, bI_t, bI_f, i10, i00, i01, i11, i20, i30, ↓reduceIte, h1, h.nl, h2, a2, a0, q1, a5, q2, p5]
            rfl
          · simp only [g_X12_count, g_X12_count_20, g_X12_count_21, g_X12_count_81, g_X12_count_82, g_X12_count_111, g_X12_count_144, kif, r_gb, gbn_s, r_grd, r_gbo, r_gret, r_gst, k_isIn, k_isSlot, k_isItem, k_isGroup, k_isRobot, k_are, k_holds0, k_holds1, k_holds2, k_holds3, k_bit, k_less, bI_t, bI_f, i10, i00, i01, i11, i20, i30, ↓reduceIte, h1, h.kLot, h2, ← hw0, e12, cl, r_gnI j20 (show mL 20 < 2 ^ 31 by decide), r_gnI j19 (show mL 19 < 2 ^ 31 by decide), r_gnI j21 (show mL 21 < 2 ^ 31 by decide), t20, b2, ← hw1, w1t19, q1, q3, gmd, show isA 21 = true from rfl]
end
