/-! refill: one face, both sides whole -/
section
variable {B k : Nat} {S : Ss} {w : MS}
theorem Rel.rfW (h : Rel B k S w) {s i : Nat} (hs : s < 18) (hf : zO S 902 s = some i) : (∃ c, rfO S w s i c ((f_X11_refillFace (nI s) s).1 S) (g_X12_refills (nI s) w) ∧ c = zC S 1 (6 * s + i) + zC S 4 (6 * s + i) ∧ c < zA S 903 s) ∨ ((f_X11_refillFace (nI s) s).1 S = some (0, S) ∧ g_X12_refills (nI s) w = some (0, w)) ∨ zN S 10 = 60 := by
  have h12 := h.lo.1
  obtain ⟨-, -, s3, -, -, s6, -⟩ := h.sl s hs
  have hi : i < 6 := s6 i hf
  obtain ⟨i0, -, -, -, -, -, t1, t2, -, t3⟩ := h.it i hi
  have e0 : (0 : Int32).toInt = 0 := by decide
  have z1 : ¬ zA S 302 i ≤ 0 := fun r => by have := Int32.le_iff_toInt_le.mp r; have := t1.1; omega
  have z2 : 0 < zA S 305 i := Int32.lt_iff_toInt_lt.mpr (by have := t3.1; omega)
  by_cases q60 : zN S 10 = 60
  · exact Or.inr (Or.inr q60)
  · have hne : ¬ nI (zN S 10) = 60 := fun r => q60 ((nI_eq (b := 60) (by have := h.ta.1; omega) (by decide)).mp r)
    have ex : (f_X11_refillFace (nI s) s).1 S = if zC S 1 (6 * s + i) + zC S 4 (6 * s + i) < zA S 903 s then (f_X11_refillFace_72 FU (nI s) s (some i) (zC S 1 (6 * s + i) + zC S 4 (6 * s + i)) 0).1 S else some (0, S) := by
      simp only [f_X11_refillFace, r_mb, bnd_s, r_mrd, r_mbo, r_mret, r_mthr, r_wA, r_wO, r_madd, r_mput, r_mopt, r_mcn, r_mcs, ite_f, e_isWithin, e_isSlot, e_isItem, e_isGroup, e_isRobot, e_isLot, e_isNotice, e_isOrder, e_isTask, bI_t, bI_f, i10, i00, i01, i11, i20, i30, ↓reduceIte, hf, z1, z2, i0, cAt_in (S := S) (r := 1) (p := s) (l := i) hi (show s * 6 + i < 168 by omega), cAt_in (S := S) (r := 4) (p := s) (l := i) hi (show s * 6 + i < 108 by omega), show cWd 1 * s + i = 6 * s + i from rfl, show cWd 4 * s + i = 6 * s + i from rfl]
    have ky : g_X12_refills (nI s) w = if zA S 903 s ≤ zC S 1 (6 * s + i) + zC S 4 (6 * s + i) then some (0, w) else g_X12_refills_106 FU (nI s) (nI i) (zC S 1 (6 * s + i) + zC S 4 (6 * s + i)) (fcI (byE S i)[0]?) w := by
      have z : fcI (some i) = nI i := rfl
      rw [hf, z] at s3
      have k17 := h.kRef17 hs hi hf (zC S 1 (6 * s + i))
      rw [if_neg hne] at k17
      simp only [g_X12_refills, kif, r_gb, gbn_s, r_grd, r_gbo, r_gret, r_gst, k_isIn, k_isSlot, k_isItem, k_isGroup, k_isRobot, k_are, k_holds0, k_holds1, k_holds2, k_holds3, k_bit, k_less, bI_t, bI_f, i10, i00, i01, i11, i20, i30, ↓reduceIte, r_gnI (show s < mL 6 from hs) (show mL 6 < 2 ^ 31 by decide), nI_clamp (show s < 2 ^ 31 by omega), s3, h.kItem (show s < 28 by omega) hi, k17]
    by_cases q : zC S 1 (6 * s + i) + zC S 4 (6 * s + i) < zA S 903 s
    · left
      refine ⟨_, ?_, rfl, q⟩
      rw [ex, ky, if_pos q, if_neg (Int32.not_le.mpr q)]
      have hlen : (zL S 1104 0).length = zN S 5 := by rw [h.be.1.length_eq, List.length_range]
      exact h.rfL hs hi (zC S 1 (6 * s + i) + zC S 4 (6 * s + i)) (zL S 1104 0) [] rfl FU FU (FU_gt (by omega)) (FU_gt (by omega))
    · right; left
      rw [ex, ky, if_neg q, if_pos (Int32.not_lt.mp q)]
      exact ⟨rfl, rfl⟩
end
