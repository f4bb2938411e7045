section
variable {m : Nat} {S T : Ss} {w v : MS}
theorem zA_pA {f i f' i' : Nat} {x : Int32} (h : f' ≠ f) : zA (pA f i x S) f' i' = zA S f' i' := if_neg fun r => h r.1
theorem Rel.bar {B k : Nat} (h : Rel B k S w) {g o : Nat} (hg : g < 4) (ho : o < 4) {x : Int32} (hx : bit x) : Rel B k (pA 1115 0 (bars (zA S 1115 0) g o x) S) (mSA 14 (4 * o + g) x (mSA 14 (4 * g + o) x w)) := by
  have ba : g_ba (pA 1115 0 (bars (zA S 1115 0) g o x) S) (mSA 14 (4 * o + g) x (mSA 14 (4 * g + o) x w)) := by
    intro g' o' hg' ho'
    show bit (if 14 = 14 ∧ 4 * g' + o' = 4 * o + g then x else if 14 = 14 ∧ 4 * g' + o' = 4 * g + o then x else mA w 14 (4 * g' + o')) ∧ ((if 14 = 14 ∧ 4 * g' + o' = 4 * o + g then x else if 14 = 14 ∧ 4 * g' + o' = 4 * g + o then x else mA w 14 (4 * g' + o')) = 1 ↔ isB (u2 1115 0 (bars (zA S 1115 0) g o x) (zA S) 1115 0) g' o')
    rw [u2_s, bars_b _ _ hx _ _ _ _ hg ho hg' ho']
    obtain ⟨b1, b2⟩ := h.ba g' o' hg' ho'
    by_cases q2 : 4 * g' + o' = 4 * o + g
    · rw [if_pos ⟨rfl, q2⟩, if_pos (Or.inr q2)]; exact ⟨hx, Iff.rfl⟩
    · rw [if_neg (fun r => q2 r.2)]
      by_cases q1 : 4 * g' + o' = 4 * g + o
      · rw [if_pos ⟨rfl, q1⟩, if_pos (Or.inl q1)]; exact ⟨hx, Iff.rfl⟩
      · rw [if_neg (fun r => q1 r.2), if_neg (by omega)]; exact ⟨b1, b2⟩
  exact ⟨h.sl, h.it, ba, h.sc, h.lo, h.be, h.no, h.ca, h.aw, h.or, h.li, h.bk, h.nn, h.tr, h.db, h.mv, h.ho, h.hs, h.hm, h.ta, h.ap, h.ro, h.st, h.bx⟩
theorem Rel.eBar {B k : Nat} (h : Rel B k S w) {g o : Nat} (hg : g < 4) (ho : o < 4) : (f_X11_isBarred (zA S 1115 0) (nI g) (nI o)).1 S = some (mA w 14 (4 * g + o), S) := by
  obtain ⟨b1, b2⟩ := h.ba g o hg ho
  unfold f_X11_isBarred
  by_cases q : isB (zA S 1115 0) g o
  · rw [b2.mpr q]
    unfold isB at q
    rw [if_pos q]; rfl
  · have q' := q
    unfold isB at q'
    rw [if_neg q']
    rcases b1 with b1 | b1
    · rw [b1]; rfl
    · exact absurd (b2.mp b1) q
theorem s_bar (g : GG m S w) (hm : m < 512) (x y z : Int32) (hz : z = 0 ∨ z = 1) : STi GG m S w (f_X11_bar x y z) (g_X12_bar x y z) [(1, 1)] := by
  obtain ⟨-, -, -, B, k, hB, -, h⟩ := id g
  cases h1 : okI x 4 with
  | false =>
    refine sti_th g hm (u := 1) (c := 1) (r := 0) ?_ ?_ (by simp) (by decide) (by decide)
    · simp only [f_X11_bar, r_mb, bnd_s, r_mrd, r_mbo, r_mret, r_mthr, r_wA, r_wO, r_madd, r_mput, r_mopt, r_mcn, r_mcs, ite_f, e_isWithin, e_isSlot, e_isItem, e_isGroup, e_isRobot, e_isLot, e_isNotice, e_isOrder, e_isTask, bI_t, bI_f, i10, i00, i01, i11, i20, i30, ↓reduceIte, h1]; try rfl
    · simp only [g_X12_bar_20, g_X12_bar_19, g_X12_bar, kif, r_gb, gbn_s, r_grd, r_gbo, r_gret, r_gst, k_isIn, k_isSlot, k_isItem, k_isGroup, k_isRobot, k_are, k_holds0, k_holds1, k_holds2, k_holds3, k_bit, k_less, bI_t, bI_f, i10, i00, i01, i11, i20, i30, ↓reduceIte, h1]; try rfl
  | true =>
    cases h2 : okI y 4 with
    | false =>
      refine sti_th g hm (u := 1) (c := 1) (r := 0) ?_ ?_ (by simp) (by decide) (by decide)
      · simp only [f_X11_bar, r_mb, bnd_s, r_mrd, r_mbo, r_mret, r_mthr, r_wA, r_wO, r_madd, r_mput, r_mopt, r_mcn, r_mcs, ite_f, e_isWithin, e_isSlot, e_isItem, e_isGroup, e_isRobot, e_isLot, e_isNotice, e_isOrder, e_isTask, bI_t, bI_f, i10, i00, i01, i11, i20, i30, ↓reduceIte, h1, h2]; try rfl
      · simp only [g_X12_bar_20, g_X12_bar_19, g_X12_bar, kif, r_gb, gbn_s, r_grd, r_gbo, r_gret, r_gst, k_isIn, k_isSlot, k_isItem, k_isGroup, k_isRobot, k_are, k_holds0, k_holds1, k_holds2, k_holds3, k_bit, k_less, bI_t, bI_f, i10, i00, i01, i11, i20, i30, ↓reduceIte, h1, h2]; try rfl
    | true =>
      obtain ⟨a, ha, rfl⟩ := okI_t (by decide) h1
      obtain ⟨o, ho, rfl⟩ := okI_t (by decide) h2
      have e1 : (4 : Int32) * nI a + nI o = nI (4 * a + o) := by rw [show (4 : Int32) = nI 4 from rfl, pk_mul, nI_add]
      have e2 : (4 : Int32) * nI o + nI a = nI (4 * o + a) := by rw [show (4 : Int32) = nI 4 from rfl, pk_mul, nI_add]
      have j1 : 4 * a + o < mL 14 := show 4 * a + o < 16 by omega
      have j2 : 4 * o + a < mL 14 := show 4 * o + a < 16 by omega
      have hd : decide (z = 0 ∨ z = 1) = true := decide_eq_true hz
      have hb : decide (mA w 14 (4 * a + o) = 0 ∨ mA w 14 (4 * a + o) = 1) = true := decide_eq_true (h.ba a o ha ho).1
      refine sti_st (T := pA 1115 0 (bars (zA S 1115 0) a o z) S) (v := mSA 14 (4 * o + a) z (mSA 14 (4 * a + o) z (mSI 0 0 w))) (r := mA w 14 (4 * a + o)) ?_ ?_ ?_ rfl
      · exact g.st hm rfl rfl (fun _ => zA_pA (by decide)) (fun _ => zA_pA (by decide)) (fun _ => zA_pA (by decide)) fun B k hB hR => ⟨B, by omega, (hR.thr 0).bar ha ho hz⟩
      · unfold bars
        rcases hz with rfl | rfl
        · simp only [f_X11_bar, f_X11_bar_74, r_mb, bnd_s, r_mrd, r_mbo, r_mret, r_mthr, r_wA, r_wO, r_madd, r_mput, r_mopt, r_mcn, r_mcs, ite_f, e_isWithin, e_isSlot, e_isItem, e_isGroup, e_isRobot, e_isLot, e_isNotice, e_isOrder, e_isTask, bI_t, bI_f, i10, i00, i01, i11, i20, i30, ↓reduceIte, h1, h2, h.eBar ha ho, bt_pos a ha o ho, bt_pos o ho a ha, mgd, hb]
          try rfl
        · simp only [f_X11_bar, f_X11_bar_74, r_mb, bnd_s, r_mrd, r_mbo, r_mret, r_mthr, r_wA, r_wO, r_madd, r_mput, r_mopt, r_mcn, r_mcs, ite_f, e_isWithin, e_isSlot, e_isItem, e_isGroup, e_isRobot, e_isLot, e_isNotice, e_isOrder, e_isTask, bI_t, bI_f, i10, i00, i01, i11, i20, i30, ↓reduceIte, h1, h2, h.eBar ha ho, bt_pos a ha o ho, bt_pos o ho a ha, mgd, hb]
          try rfl
      · simp only [g_X12_bar_20, g_X12_bar_19, g_X12_bar, kif, r_gb, gbn_s, r_grd, r_gbo, r_gret, r_gst, k_isIn, k_isSlot, k_isItem, k_isGroup, k_isRobot, k_are, k_holds0, k_holds1, k_holds2, k_holds3, k_bit, k_less, bI_t, bI_f, i10, i00, i01, i11, i20, i30, ↓reduceIte, mI_mSA, mI_mSI, mA_mSI, mA_mSA, Nat.reduceEqDiff, reduceCtorEq, Nat.reduceEqDiff, false_and, true_and, and_true, h1, h2, e1, e2, r_gnI j1 (show mL 14 < 2 ^ 31 by decide), r_gnI j2 (show mL 14 < 2 ^ 31 by decide), nI_clamp (show 4 * a + o < 2 ^ 31 by omega), nI_clamp (show 4 * o + a < 2 ^ 31 by omega), gmd, hd, hb]
        exact if_pos hb
end
