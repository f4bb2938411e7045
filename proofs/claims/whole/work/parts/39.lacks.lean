section
variable {m : Nat} {S : Ss} {w : MS}
theorem s_lacks (g : GG m S w) (hm : m < 512) (x y : Int32) : STi GG m S w (f_X11_lacks x y) (g_X12_lacks x y) [(1, 1)] := by
  obtain ⟨-, -, -, B, k, -, -, h⟩ := id g
  have h8 := h.or.1
  cases h1 : okI x (zN S 7) with
  | false =>
    refine sti_th g hm (u := 1) (c := 1) (r := 0) ?_ ?_ (by simp) (by decide) (by decide)
    · simp only [f_X11_lacks, r_mb, bnd_s, r_mrd, r_mbo, r_mret, r_mthr, r_wA, r_wO, r_madd, r_mput, r_mopt, r_mcn, r_mcs, ite_f, e_isWithin, e_isSlot, e_isItem, e_isGroup, e_isRobot, e_isLot, e_isNotice, e_isOrder, e_isTask, bI_t, bI_f, i10, i00, i01, i11, i20, i30, ↓reduceIte, h.nor, h1]; try rfl
    · simp only [g_X12_lacks_40, g_X12_lacks_29, g_X12_lacks_28, g_X12_lacks, kif, r_gb, gbn_s, r_grd, r_gbo, r_gret, r_gst, k_isIn, k_isSlot, k_isItem, k_isGroup, k_isRobot, k_are, k_holds0, k_holds1, k_holds2, k_holds3, k_bit, k_less, bI_t, bI_f, i10, i00, i01, i11, i20, i30, ↓reduceIte, h.kOrd, h1]; try rfl
  | true =>
    obtain ⟨o, ho, rfl⟩ := okI_t (by omega) h1
    obtain ⟨a1, a2, a3⟩ := h.li.1 o ho
    have hr : (nI o).toNatClampNeg = o := nI_clamp (by omega)
    have h72 : decide (o < zN S 72) = true := decide_eq_true (by rw [h.or.2.1]; exact ho)
    cases h2 : okI y (zL S 704 o).length with
    | false =>
      refine sti_th g hm (u := 1) (c := 1) (r := 0) ?_ ?_ (by simp) (by decide) (by decide)
      · simp only [f_X11_lacks, r_mb, bnd_s, r_mrd, r_mbo, r_mret, r_mthr, r_wA, r_wO, r_madd, r_mput, r_mopt, r_mcn, r_mcs, ite_f, e_isWithin, e_isSlot, e_isItem, e_isGroup, e_isRobot, e_isLot, e_isNotice, e_isOrder, e_isTask, bI_t, bI_f, i10, i00, i01, i11, i20, i30, ↓reduceIte, h.nor, h1, mlget, h.atO ho, mgd, h72]
        rcases okI_f h2 with q | q
        · rw [if_pos q]; rfl
        · by_cases q2 : y < 0
          · rw [if_pos q2]; rfl
          · rw [if_neg q2, if_neg (fun r => by have := I_lt.mp r; have := I_le.mp q; omega)]; rfl
      · simp only [g_X12_lacks_40, g_X12_lacks_29, g_X12_lacks_28, g_X12_lacks, kif, r_gb, gbn_s, r_grd, r_gbo, r_gret, r_gst, k_isIn, k_isSlot, k_isItem, k_isGroup, k_isRobot, k_are, k_holds0, k_holds1, k_holds2, k_holds3, k_bit, k_less, bI_t, bI_f, i10, i00, i01, i11, i20, i30, ↓reduceIte, h.kOrd, h1, r_gnI (show o < mL 31 from Nat.lt_of_lt_of_le ho h8) (show mL 31 < 2 ^ 31 by decide), hr, a2, in_ok (show (zL S 704 o).length < 2 ^ 31 by omega), h2]; try rfl
    | true =>
      have h2' := of_decide_eq_true h2
      obtain ⟨p, hp, rfl⟩ := okI_t (by omega) h2
      have hx : (zL S 704 o)[p]? = some ((zL S 704 o)[p]'hp) := List.getElem?_eq_getElem hp
      have e3 : (3 : Int32) * nI o + nI p = nI (3 * o + p) := by rw [show (3 : Int32) = nI 3 from rfl, pk_mul, nI_add]
      refine sti_ok g hm (v := lck S ((zL S 704 o)[p]'hp)) ?_ ?_
      · simp only [f_X11_lacks, r_mb, bnd_s, r_mrd, r_mbo, r_mret, r_mthr, r_wA, r_wO, r_madd, r_mput, r_mopt, r_mcn, r_mcs, ite_f, e_isWithin, e_isSlot, e_isItem, e_isGroup, e_isRobot, e_isLot, e_isNotice, e_isOrder, e_isTask, bI_t, bI_f, i10, i00, i01, i11, i20, i30, ↓reduceIte, h.nor, h1, mlget, h.atO ho, mgd, h72, h2'.1, h2'.2, lAt_n (show p < 2 ^ 31 by omega) hx, e_lack]
      · simp only [g_X12_lacks_40, g_X12_lacks_29, g_X12_lacks_28, g_X12_lacks, kif, r_gb, gbn_s, r_grd, r_gbo, r_gret, r_gst, k_isIn, k_isSlot, k_isItem, k_isGroup, k_isRobot, k_are, k_holds0, k_holds1, k_holds2, k_holds3, k_bit, k_less, bI_t, bI_f, i10, i00, i01, i11, i20, i30, ↓reduceIte, h.kOrd, h1, r_gnI (show o < mL 31 from Nat.lt_of_lt_of_le ho h8) (show mL 31 < 2 ^ 31 by decide), hr, a2, in_ok (show (zL S 704 o).length < 2 ^ 31 by omega), h2, e3, (h.thr 0).kLack ho hx]
end
