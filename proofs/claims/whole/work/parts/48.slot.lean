section
variable {m : Nat} {S T : Ss} {w v : MS}
theorem nI_m1 {i : Nat} (h : i < 6) : ¬ nI i = -1 := by
  have : ∀ i, i < 6 → ¬ nI i = -1 := by decide
  exact this i h
theorem Rel.slot {B k : Nat} (h : Rel B k S w) {s : Nat} (hs : s < 18) {x y : Int32} (hy : tI y 1 200) : Rel B k (pA 901 s y (pA 900 s x S)) (mSA 5 s y (mSA 4 s x w)) := by
  have sl : g_sl (pA 901 s y (pA 900 s x S)) (mSA 5 s y (mSA 4 s x w)) := by
    intro q hq
    obtain ⟨b1, b2, b3, b4, b5, b6, b7, b8, b9⟩ := h.sl q hq
    show (if 4 = 5 ∧ q = s then y else if 4 = 4 ∧ q = s then x else mA w 4 q) = u2 901 s y (u2 900 s x (zA S)) 900 q ∧ (if 5 = 5 ∧ q = s then y else if 5 = 4 ∧ q = s then x else mA w 5 q) = u2 901 s y (u2 900 s x (zA S)) 901 q ∧ mA w 6 q = fcI (zO S 902 q) ∧ mA w 7 q = zA S 903 q ∧ mA w 8 q = zA S 904 q ∧ (∀ i, zO S 902 q = some i → i < 6) ∧ tI (u2 901 s y (u2 900 s x (zA S)) 901 q) 1 200 ∧ tI (zA S 903 q) 0 99 ∧ tI (zA S 904 q) 0 99
    simp only [u2_at, Nat.reduceEqDiff, false_and, true_and, ↓reduceIte]
    by_cases r : q = s
    · simp only [r, ↓reduceIte]
      exact ⟨trivial, trivial, r ▸ b3, r ▸ b4, r ▸ b5, r ▸ b6, hy, r ▸ b8, r ▸ b9⟩
    · simp only [r, ↓reduceIte]
      exact ⟨b1, b2, b3, b4, b5, b6, b7, b8, b9⟩
  exact ⟨sl, h.it, h.ba, h.sc, h.lo, h.be, h.no, h.ca, h.aw, h.or, h.li, h.bk, h.nn, h.tr, h.db, h.mv, h.ho, h.hs, h.hm, h.ta, h.ap, h.ro, h.st, h.bx⟩
theorem s_slot (g : GG m S w) (hm : m < 512) (x y z : Int32) : STv GG m S w (f_X11_slot x y z) (g_X12_slot x y z) [(1, 1), (2, 2), (3, 3)] := by
  obtain ⟨-, -, -, B, k, hB, -, h⟩ := id g
  cases h1 : okI x 18 with
  | false =>
    refine stv_th g hm (u := 1) (c := 1) ?_ ?_ (by simp) (by decide) (by decide)
    · simp only [f_X11_slot, r_mb, bnd_s, r_mrd, r_mbo, r_mret, r_mthr, r_wA, r_wO, r_madd, r_mput, r_mopt, r_mcn, r_mcs, ite_f, e_isWithin, e_isSlot, e_isItem, e_isGroup, e_isRobot, e_isLot, e_isNotice, e_isOrder, e_isTask, bI_t, bI_f, i10, i00, i01, i11, i20, i30, ↓reduceIte, h1]; try rfl
    · simp only [g_X12_slot_63, g_X12_slot, kif, r_gb, gbn_s, r_grd, r_gbo, r_gret, r_gst, k_isIn, k_isSlot, k_isItem, k_isGroup, k_isRobot, k_are, k_holds0, k_holds1, k_holds2, k_holds3, k_bit, k_less, bI_t, bI_f, i10, i00, i01, i11, i20, i30, ↓reduceIte, h1]; try rfl
  | true =>
    cases h2 : inI y 0 2 with
    | false =>
      refine stv_th g hm (u := 2) (c := 2) ?_ ?_ (by simp) (by decide) (by decide)
      · simp only [f_X11_slot, r_mb, bnd_s, r_mrd, r_mbo, r_mret, r_mthr, r_wA, r_wO, r_madd, r_mput, r_mopt, r_mcn, r_mcs, ite_f, e_isWithin, e_isSlot, e_isItem, e_isGroup, e_isRobot, e_isLot, e_isNotice, e_isOrder, e_isTask, bI_t, bI_f, i10, i00, i01, i11, i20, i30, ↓reduceIte, h1, h2]; try rfl
      · simp only [g_X12_slot_63, g_X12_slot, kif, r_gb, gbn_s, r_grd, r_gbo, r_gret, r_gst, k_isIn, k_isSlot, k_isItem, k_isGroup, k_isRobot, k_are, k_holds0, k_holds1, k_holds2, k_holds3, k_bit, k_less, bI_t, bI_f, i10, i00, i01, i11, i20, i30, ↓reduceIte, h1, h2]; try rfl
    | true =>
      cases h3 : inI z 1 200 with
      | false =>
        refine stv_th g hm (u := 2) (c := 2) ?_ ?_ (by simp) (by decide) (by decide)
        · simp only [f_X11_slot, r_mb, bnd_s, r_mrd, r_mbo, r_mret, r_mthr, r_wA, r_wO, r_madd, r_mput, r_mopt, r_mcn, r_mcs, ite_f, e_isWithin, e_isSlot, e_isItem, e_isGroup, e_isRobot, e_isLot, e_isNotice, e_isOrder, e_isTask, bI_t, bI_f, i10, i00, i01, i11, i20, i30, ↓reduceIte, h1, h2, h3]; try rfl
        · simp only [g_X12_slot_63, g_X12_slot, kif, r_gb, gbn_s, r_grd, r_gbo, r_gret, r_gst, k_isIn, k_isSlot, k_isItem, k_isGroup, k_isRobot, k_are, k_holds0, k_holds1, k_holds2, k_holds3, k_bit, k_less, bI_t, bI_f, i10, i00, i01, i11, i20, i30, ↓reduceIte, h1, h2, h3]; try rfl
      | true =>
        obtain ⟨s, hs, rfl⟩ := okI_t (by decide) h1
        have hz := inI_t h3
        obtain ⟨b1, b2, b3, b4, b5, b6, b7, b8, b9⟩ := h.sl s hs
        by_cases qe : emp S s
        · cases qo : zO S 902 s with
          | none =>
            have k6 : mA w 6 s = -1 := by rw [b3, qo]; rfl
            refine stv_st (T := pA 901 s z (pA 900 s y S)) (v := mSA 5 s z (mSA 4 s y (mSI 0 0 w))) (r := 0) ?_ ?_ ?_ rfl
            · exact g.st hm rfl rfl (fun t => by rw [zA_pA (by decide), zA_pA (by decide)]) (fun t => by rw [zA_pA (by decide), zA_pA (by decide)]) (fun t => by rw [zA_pA (by decide), zA_pA (by decide)]) fun B k hB hR => ⟨B, by omega, (hR.thr 0).slot hs hz⟩
            · simp only [f_X11_slot, r_mb, bnd_s, r_mrd, r_mbo, r_mret, r_mthr, r_wA, r_wO, r_madd, r_mput, r_mopt, r_mcn, r_mcs, ite_f, e_isWithin, e_isSlot, e_isItem, e_isGroup, e_isRobot, e_isLot, e_isNotice, e_isOrder, e_isTask, bI_t, bI_f, i10, i00, i01, i11, i20, i30, ↓reduceIte, h1, h2, h3, r_mnI (show s < aLn 1100 from hs) (show aLn 1100 < 2 ^ 31 by decide), nI_clamp (show s < 2 ^ 31 by omega), qo, mcase, (h.eUsed hs).1 qe]
            · simp only [g_X12_slot_63, g_X12_slot, kif, r_gb, gbn_s, r_grd, r_gbo, r_gret, r_gst, k_isIn, k_isSlot, k_isItem, k_isGroup, k_isRobot, k_are, k_holds0, k_holds1, k_holds2, k_holds3, k_bit, k_less, bI_t, bI_f, i10, i00, i01, i11, i20, i30, ↓reduceIte, mI_mSA, mI_mSI, mA_mSI, mA_mSA, Nat.reduceEqDiff, reduceCtorEq, Nat.reduceEqDiff, false_and, true_and, and_true, h1, h2, h3, r_gnI (show s < mL 4 from hs) (show mL 4 < 2 ^ 31 by decide), r_gnI (show s < mL 5 from hs) (show mL 5 < 2 ^ 31 by decide), r_gnI (show s < mL 6 from hs) (show mL 6 < 2 ^ 31 by decide), nI_clamp (show s < 2 ^ 31 by omega), k6, (h.kEmpty hs).1 qe]
          | some i =>
            have k6 : ¬ mA w 6 s = -1 := by rw [b3, qo]; show ¬ nI i = -1; exact nI_m1 (b6 i qo)
            refine stv_th g hm (u := 3) (c := 3) ?_ ?_ (by simp) (by decide) (by decide)
            · simp only [f_X11_slot, r_mb, bnd_s, r_mrd, r_mbo, r_mret, r_mthr, r_wA, r_wO, r_madd, r_mput, r_mopt, r_mcn, r_mcs, ite_f, e_isWithin, e_isSlot, e_isItem, e_isGroup, e_isRobot, e_isLot, e_isNotice, e_isOrder, e_isTask, bI_t, bI_f, i10, i00, i01, i11, i20, i30, ↓reduceIte, h1, h2, h3, r_mnI (show s < aLn 1100 from hs) (show aLn 1100 < 2 ^ 31 by decide), nI_clamp (show s < 2 ^ 31 by omega), qo, mcase]; try rfl
            · simp only [g_X12_slot_63, g_X12_slot, kif, r_gb, gbn_s, r_grd, r_gbo, r_gret, r_gst, k_isIn, k_isSlot, k_isItem, k_isGroup, k_isRobot, k_are, k_holds0, k_holds1, k_holds2, k_holds3, k_bit, k_less, bI_t, bI_f, i10, i00, i01, i11, i20, i30, ↓reduceIte, mI_mSA, mI_mSI, mA_mSI, mA_mSA, Nat.reduceEqDiff, reduceCtorEq, Nat.reduceEqDiff, false_and, true_and, and_true, h1, h2, h3, r_gnI (show s < mL 6 from hs) (show mL 6 < 2 ^ 31 by decide), nI_clamp (show s < 2 ^ 31 by omega), k6, (h.kEmpty hs).1 qe]; try rfl
        · refine stv_th g hm (u := 3) (c := 3) ?_ ?_ (by simp) (by decide) (by decide)
          · cases qo : zO S 902 s with
            | none => simp only [f_X11_slot, r_mb, bnd_s, r_mrd, r_mbo, r_mret, r_mthr, r_wA, r_wO, r_madd, r_mput, r_mopt, r_mcn, r_mcs, ite_f, e_isWithin, e_isSlot, e_isItem, e_isGroup, e_isRobot, e_isLot, e_isNotice, e_isOrder, e_isTask, bI_t, bI_f, i10, i00, i01, i11, i20, i30, ↓reduceIte, h1, h2, h3, r_mnI (show s < aLn 1100 from hs) (show aLn 1100 < 2 ^ 31 by decide), nI_clamp (show s < 2 ^ 31 by omega), qo, mcase, (h.eUsed hs).2 qe]; try rfl
            | some i => simp only [f_X11_slot, r_mb, bnd_s, r_mrd, r_mbo, r_mret, r_mthr, r_wA, r_wO, r_madd, r_mput, r_mopt, r_mcn, r_mcs, ite_f, e_isWithin, e_isSlot, e_isItem, e_isGroup, e_isRobot, e_isLot, e_isNotice, e_isOrder, e_isTask, bI_t, bI_f, i10, i00, i01, i11, i20, i30, ↓reduceIte, h1, h2, h3, r_mnI (show s < aLn 1100 from hs) (show aLn 1100 < 2 ^ 31 by decide), nI_clamp (show s < 2 ^ 31 by omega), qo, mcase]; try rfl
          · simp only [g_X12_slot_63, g_X12_slot, kif, r_gb, gbn_s, r_grd, r_gbo, r_gret, r_gst, k_isIn, k_isSlot, k_isItem, k_isGroup, k_isRobot, k_are, k_holds0, k_holds1, k_holds2, k_holds3, k_bit, k_less, bI_t, bI_f, i10, i00, i01, i11, i20, i30, ↓reduceIte, mI_mSA, mI_mSI, mA_mSI, mA_mSA, Nat.reduceEqDiff, reduceCtorEq, Nat.reduceEqDiff, false_and, true_and, and_true, h1, h2, h3, (h.kEmpty hs).2 qe]; try rfl
end
