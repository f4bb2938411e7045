section
variable {m : Nat} {S T : Ss} {w v : MS}
theorem lt_less (t z : Int32) : (if t ≤ z then t else z) = if t < z then t else z := by
  by_cases q : t < z
  · rw [if_pos q, if_pos (Int32.le_iff_toInt_le.mpr (by have := Int32.lt_iff_toInt_lt.mp q; omega))]
  · rw [if_neg q]
    by_cases q' : t ≤ z
    · rw [if_pos q']
      apply Int32.toInt_inj.mp
      have h1 := Int32.le_iff_toInt_le.mp q'
      have h2 : ¬ t.toInt < z.toInt := fun r => q (Int32.lt_iff_toInt_lt.mpr r)
      omega
    · rw [if_neg q']
theorem s_lose (g : GG m S w) (hm : m < 512) (x y z : Int32) : STi GG m S w (f_X11_lose x y z) (g_X12_lose x y z) [(1, 1), (2, 2)] := by
  obtain ⟨-, -, -, B, k, hB, -, h⟩ := id g
  have h12 := h.lo.1
  cases h1 : okI x 18 with
  | false =>
    refine sti_th g hm (u := 1) (c := 1) (r := 0) ?_ ?_ (by simp) (by decide) (by decide)
    · simp only [f_X11_lose, r_mb, bnd_s, r_mrd, r_mbo, r_mret, r_mthr, r_wA, r_wO, r_madd, r_mput, r_mopt, r_mcn, r_mcs, ite_f, e_isWithin, e_isSlot, e_isItem, e_isGroup, e_isRobot, e_isLot, e_isNotice, e_isOrder, e_isTask, bI_t, bI_f, i10, i00, i01, i11, i20, i30, ↓reduceIte, h1]; try rfl
    · simp only [g_X12_lose_44, g_X12_lose_20, g_X12_lose_19, g_X12_lose, kif, r_gb, gbn_s, r_grd, r_gbo, r_gret, r_gst, k_isIn, k_isSlot, k_isItem, k_isGroup, k_isRobot, k_are, k_holds0, k_holds1, k_holds2, k_holds3, k_bit, k_less, bI_t, bI_f, i10, i00, i01, i11, i20, i30, ↓reduceIte, h1]; try rfl
  | true =>
    cases h2 : okI y (zN S 5) with
    | false =>
      refine sti_th g hm (u := 1) (c := 1) (r := 0) ?_ ?_ (by simp) (by decide) (by decide)
      · simp only [f_X11_lose, r_mb, bnd_s, r_mrd, r_mbo, r_mret, r_mthr, r_wA, r_wO, r_madd, r_mput, r_mopt, r_mcn, r_mcs, ite_f, e_isWithin, e_isSlot, e_isItem, e_isGroup, e_isRobot, e_isLot, e_isNotice, e_isOrder, e_isTask, bI_t, bI_f, i10, i00, i01, i11, i20, i30, ↓reduceIte, h1, h.nl, h2]; try rfl
      · simp only [g_X12_lose_44, g_X12_lose_20, g_X12_lose_19, g_X12_lose, kif, r_gb, gbn_s, r_grd, r_gbo, r_gret, r_gst, k_isIn, k_isSlot, k_isItem, k_isGroup, k_isRobot, k_are, k_holds0, k_holds1, k_holds2, k_holds3, k_bit, k_less, bI_t, bI_f, i10, i00, i01, i11, i20, i30, ↓reduceIte, h1, h.kLot, h2]; try rfl
    | true =>
      cases h3 : inI z 1 99 with
      | false =>
        refine sti_th g hm (u := 2) (c := 2) (r := 0) ?_ ?_ (by simp) (by decide) (by decide)
        · simp only [f_X11_lose, r_mb, bnd_s, r_mrd, r_mbo, r_mret, r_mthr, r_wA, r_wO, r_madd, r_mput, r_mopt, r_mcn, r_mcs, ite_f, e_isWithin, e_isSlot, e_isItem, e_isGroup, e_isRobot, e_isLot, e_isNotice, e_isOrder, e_isTask, bI_t, bI_f, i10, i00, i01, i11, i20, i30, ↓reduceIte, h1, h.nl, h2, h3]; try rfl
        · simp only [g_X12_lose_44, g_X12_lose_20, g_X12_lose_19, g_X12_lose, kif, r_gb, gbn_s, r_grd, r_gbo, r_gret, r_gst, k_isIn, k_isSlot, k_isItem, k_isGroup, k_isRobot, k_are, k_holds0, k_holds1, k_holds2, k_holds3, k_bit, k_less, bI_t, bI_f, i10, i00, i01, i11, i20, i30, ↓reduceIte, h1, h.kLot, h2, h3]; try rfl
      | true =>
        obtain ⟨s, hs, rfl⟩ := okI_t (by decide) h1
        obtain ⟨l, hl, rfl⟩ := okI_t (by omega) h2
        have hz := inI_t h3
        have hz1 : (1 : Int) ≤ z.toInt ∧ z.toInt ≤ 99 := hz
        have e12 : (12 : Int32) * nI s + nI l = nI (12 * s + l) := by rw [show (12 : Int32) = nI 12 from rfl, pk_mul, nI_add]
        have hj : 12 * s + l < 216 := by omega
        obtain ⟨d, hd⟩ : ∃ d, d = if zC S 2 (12 * s + l) < z then zC S 2 (12 * s + l) else z := ⟨_, rfl⟩
        have hv : ∀ B k, Rel B k S w → tI (zC S 2 (12 * s + l) + -d) 0 (B : Int) := fun B k hR => by
          obtain ⟨n1, n2, n3⟩ := hR.nn
          have n5 := tI_of (n3 (12 * s + l) (by omega))
          have n6 : 0 ≤ d.toInt ∧ d.toInt ≤ (zC S 2 (12 * s + l)).toInt := by
            rw [hd]
            split
            · omega
            · rename_i q
              have : ¬ (zC S 2 (12 * s + l)).toInt < z.toInt := fun r => q (Int32.lt_iff_toInt_lt.mpr r)
              omega
          have e : (zC S 2 (12 * s + l) - d).toInt = (zC S 2 (12 * s + l)).toInt - d.toInt := sub_toInt (by omega) (by omega)
          rw [← Int32.sub_eq_add_neg]
          unfold tI; rw [e]; omega
        refine sti_st (T := pC 2 (12 * s + l) (zC S 2 (12 * s + l) + -d) S) (v := mSA 20 (12 * s + l) (zC S 2 (12 * s + l) + -d) (mSI 0 0 w)) (r := zC S 2 (12 * s + l) + -d) ?_ ?_ ?_ rfl
        · refine g.st hm rfl rfl (fun _ => rfl) (fun _ => rfl) (fun _ => rfl) fun B k hB hR => ⟨B, by omega, (hR.thr 0).truth hj (by omega) hR.nn.1 (hv B k hR)⟩
        · simp only [f_X11_lose, r_mb, bnd_s, r_mrd, r_mbo, r_mret, r_mthr, r_wA, r_wO, r_madd, r_mput, r_mopt, r_mcn, r_mcs, ite_f, e_isWithin, e_isSlot, e_isItem, e_isGroup, e_isRobot, e_isLot, e_isNotice, e_isOrder, e_isTask, bI_t, bI_f, i10, i00, i01, i11, i20, i30, ↓reduceIte, h1, h.nl, h2, h3, cAdd_in (S := S) (r := 2) (p := s) (l := l) (show l < 12 by omega) (show s * 12 + l < 336 by omega), cAt_in (S := S) (r := 2) (p := s) (l := l) (show l < 12 by omega) (show s * 12 + l < 336 by omega), show cWd 2 * s + l = 12 * s + l from rfl, ← hd, cAt_in (S := pC 2 (12 * s + l) (zC S 2 (12 * s + l) + -d) S) (r := 2) (p := s) (l := l) (show l < 12 by omega) (show s * 12 + l < 336 by omega)]
          show some ((0, u2 2 (12 * s + l) (zC S 2 (12 * s + l) + -d) (zC S) 2 (12 * s + l)), _) = _
          rw [u2_s]
        · simp only [g_X12_lose_44, g_X12_lose_20, g_X12_lose_19, g_X12_lose, kif, r_gb, gbn_s, r_grd, r_gbo, r_gret, r_gst, k_isIn, k_isSlot, k_isItem, k_isGroup, k_isRobot, k_are, k_holds0, k_holds1, k_holds2, k_holds3, k_bit, k_less, bI_t, bI_f, i10, i00, i01, i11, i20, i30, ↓reduceIte, h1, h.kLot, h2, h3, e12, r_gnI (show 12 * s + l < mL 20 from hj) (show mL 20 < 2 ^ 31 by decide), nI_clamp (show 12 * s + l < 2 ^ 31 by omega), k_less, lt_less]
          have e9 : mA (mSI 0 0 w) 20 (12 * s + l) = zC S 2 (12 * s + l) := (h.tr.1 _ hj).symm
          rw [e9, ← hd, Int32.sub_eq_add_neg]
          show some ((if 20 = 20 ∧ 12 * s + l = 12 * s + l then zC S 2 (12 * s + l) + -d else _), mSA 20 (12 * s + l) (zC S 2 (12 * s + l) + -d) (mSI 0 0 w)) = _
          rw [if_pos ⟨rfl, rfl⟩]
end
