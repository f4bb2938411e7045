section
variable {m : Nat} {S T : Ss} {w v : MS}
theorem zL_pN (k a : Nat) (S : Ss) : zL (pN k a S) = zL S := rfl
theorem zN_pNew72 (S : Ss) : zN (pNew 7 7 S) 72 = zN S 72 := rfl
theorem zL_pNew (c n : Nat) (S : Ss) : zL (pNew c n S) = zL S := rfl
theorem oT_eq (S : Ss) (x y z : Int32) : pA 703 (zN S 7) z (pA 702 (zN S 7) y (pA 701 (zN S 7) x (pA 700 (zN S 7) (nI (zN S 7)) (pNL (zN S 7) (pNew 7 7 S))))) = oT S x y z := rfl
theorem oV_eq (S : Ss) (w : MS) (x y z : Int32) : mSI 27 (nI (zN S 7 + 1)) (mSA 30 (zN S 7) z (mSA 29 (zN S 7) y (mSA 28 (zN S 7) x (mSI 0 0 w)))) = oV S w x y z := rfl
theorem oV_0 (S : Ss) (w : MS) (x y z : Int32) : mI (oV S w x y z) 0 = 0 := rfl
theorem s_order (g : GG m S w) (hm : m < 512) (x y z : Int32) (hy : y = 0 ∨ y = 1) : STi GG m S w (f_X11_order x y z) (g_X12_order x y z) [(2, 1), (3, 2)] := by
  obtain ⟨-, -, hcp, B, k, hB, -, h⟩ := id g
  have h8 := h.or.1
  cases h1 : inI x 0 9 with
  | false =>
    refine sti_th g hm (u := 2) (c := 1) (r := 0) ?_ ?_ (by simp) (by decide) (by decide)
    · simp only [f_X11_order, r_mb, bnd_s, r_mrd, r_mbo, r_mret, r_mthr, r_wA, r_wO, r_madd, r_mput, r_mopt, r_mcn, r_mcs, ite_f, e_isWithin, e_isSlot, e_isItem, e_isGroup, e_isRobot, e_isLot, e_isNotice, e_isOrder, e_isTask, bI_t, bI_f, i10, i00, i01, i11, i20, i30, ↓reduceIte, h1]; try rfl
    · simp only [g_X12_order_40, g_X12_order, kif, r_gb, gbn_s, r_grd, r_gbo, r_gret, r_gst, k_isIn, k_isSlot, k_isItem, k_isGroup, k_isRobot, k_are, k_holds0, k_holds1, k_holds2, k_holds3, k_bit, k_less, bI_t, bI_f, i10, i00, i01, i11, i20, i30, ↓reduceIte, h1]; try rfl
  | true =>
    cases h2 : inI z 0 999 with
    | false =>
      refine sti_th g hm (u := 2) (c := 1) (r := 0) ?_ ?_ (by simp) (by decide) (by decide)
      · simp only [f_X11_order, r_mb, bnd_s, r_mrd, r_mbo, r_mret, r_mthr, r_wA, r_wO, r_madd, r_mput, r_mopt, r_mcn, r_mcs, ite_f, e_isWithin, e_isSlot, e_isItem, e_isGroup, e_isRobot, e_isLot, e_isNotice, e_isOrder, e_isTask, bI_t, bI_f, i10, i00, i01, i11, i20, i30, ↓reduceIte, h1, h2]; try rfl
      · simp only [g_X12_order_40, g_X12_order, kif, r_gb, gbn_s, r_grd, r_gbo, r_gret, r_gst, k_isIn, k_isSlot, k_isItem, k_isGroup, k_isRobot, k_are, k_holds0, k_holds1, k_holds2, k_holds3, k_bit, k_less, bI_t, bI_f, i10, i00, i01, i11, i20, i30, ↓reduceIte, h1, h2]; try rfl
    | true =>
      by_cases h3 : zN S 7 = 8
      · refine sti_th g hm (u := 3) (c := 2) (r := 0) ?_ ?_ (by simp) (by decide) (by decide)
        · simp only [f_X11_order, r_mb, bnd_s, r_mrd, r_mbo, r_mret, r_mthr, r_wA, r_wO, r_madd, r_mput, r_mopt, r_mcn, r_mcs, ite_f, e_isWithin, e_isSlot, e_isItem, e_isGroup, e_isRobot, e_isLot, e_isNotice, e_isOrder, e_isTask, bI_t, bI_f, i10, i00, i01, i11, i20, i30, ↓reduceIte, h1, h2, h.nor, h3, show ¬ nI 8 < (8 : Int32) by decide]; try rfl
        · simp only [g_X12_order_40, g_X12_order, kif, r_gb, gbn_s, r_grd, r_gbo, r_gret, r_gst, k_isIn, k_isSlot, k_isItem, k_isGroup, k_isRobot, k_are, k_holds0, k_holds1, k_holds2, k_holds3, k_bit, k_less, bI_t, bI_f, i10, i00, i01, i11, i20, i30, ↓reduceIte, h1, h2, h.or.2.2.2.1, h3, show nI 8 = (8 : Int32) from rfl]; try rfl
      · have hn : zN S 7 < 8 := by omega
        have hlt : nI (zN S 7) < 8 := nI_lt (b := 8) hn (by decide)
        have hne : ¬ nI (zN S 7) = 8 := fun q => h3 ((nI_eq (b := 8) (by omega) (by decide)).mp q)
        have hL : zL S 1106 0 = List.range (zN S 7) := h.or.2.2.1
        obtain ⟨a, b, c, ea, ha, hb, hc, hc2⟩ := pAdd_eq 1106 0 (zN S 7) (oT S x y z)
        have hL1 : zL (oT S x y z) 1106 0 = List.range (zN S 7) := by
          rw [oT_L, u2_at, if_neg (fun r => absurd r.1 (by decide))]; exact hL
        have hlen : (zL (oT S x y z) 1106 0).length < 2600 := by rw [hL1, List.length_range]; omega
        have hbit : decide (y = 0 ∨ y = 1) = true := decide_eq_true hy
        rw [hL1, ← List.range_succ] at ea
        have ea' : pAdd 1106 0 (zN S 7) (oT S x y z) = pN 61 a (pN 62 b (oL S c x y z)) := by unfold oL; exact ea
        have h72 : zN S 7 = zN (pNew 7 7 S) 72 := by rw [zN_pNew72]; exact h.or.2.1.symm
        have hLn : zL (pN 61 a (pN 62 b (oL S c x y z))) 1106 0 = List.range (zN S 7 + 1) := by rw [zL_pN, zL_pN, oL_L6]
        refine sti_st (T := pN 61 a (pN 62 b (oL S c x y z))) (v := oV S w x y z) (r := nI (zN S 7)) (o_gg g hm hn h1 hy ha hb hc2) ?_ ?_ (oV_0 S w x y z)
        · simp only [f_X11_order, r_mb, bnd_s, r_mrd, r_mbo, r_mret, r_mthr, r_wA, r_wO, r_madd, r_mput, r_mopt, r_mcn, r_mcs, ite_f, e_isWithin, e_isSlot, e_isItem, e_isGroup, e_isRobot, e_isLot, e_isNotice, e_isOrder, e_isTask, bI_t, bI_f, i10, i00, i01, i11, i20, i30, ↓reduceIte, h1, h2, h.nor, hlt, r_mnew, f_X7_init, zL_pNew 7 7 S, r_mnl h72, mgd, hbit]
          rw [oT_eq]
          simp only [r_mb, bnd_s, r_mrd, r_mbo, r_mret, r_mthr, r_wA, r_wO, r_madd, r_mput, r_mopt, r_mcn, r_mcs, ite_f, e_isWithin, e_isSlot, e_isItem, e_isGroup, e_isRobot, e_isLot, e_isNotice, e_isOrder, e_isTask, bI_t, bI_f, i10, i00, i01, i11, i20, i30, ↓reduceIte, r_mladd hlen, ea', hLn, List.length_range, nI_pred]
        · simp only [g_X12_order_40, g_X12_order, kif, r_gb, gbn_s, r_grd, r_gbo, r_gret, r_gst, k_isIn, k_isSlot, k_isItem, k_isGroup, k_isRobot, k_are, k_holds0, k_holds1, k_holds2, k_holds3, k_bit, k_less, bI_t, bI_f, i10, i00, i01, i11, i20, i30, ↓reduceIte, mI_mSA, mI_mSI, mA_mSI, mA_mSA, Nat.reduceEqDiff, reduceCtorEq, Nat.reduceEqDiff, false_and, true_and, and_true, h1, h2, h.or.2.2.2.1, hne, r_gnI (show zN S 7 < mL 28 from hn) (show mL 28 < 2 ^ 31 by decide), r_gnI (show zN S 7 < mL 29 from hn) (show mL 29 < 2 ^ 31 by decide), r_gnI (show zN S 7 < mL 30 from hn) (show mL 30 < 2 ^ 31 by decide), gmd, hbit, nI_clamp (show zN S 7 < 2 ^ 31 by omega), nI_1, oV_eq, oV_27, nI_pred]
end
