/-! refill: the reference's source -/
section
variable {B k : Nat} {S : Ss} {w : MS}
theorem Rel.k115 (h : Rel B k S w) {s i l : Nat} (hl : l < zN S 5) (K : Int32 → Int32 → Int32 → Int32 → GM (Int32)) (c : Int32) {o : Option Nat} (o1 : o = none → ∀ q, q < 18 → ¬ srP S l q) (o2 : ∀ p, o = some p → p < 18 ∧ srP S l p ∧ ∀ q, q < p → ¬ srP S l q) : (o = none → g_X12_refills_115 K FU (nI s) (nI i) c (nI l) 0 w = gbn (g_X12_nextLot (nI i) (nI l) w) fun x w1 => K (nI s) (nI i) c x w1) ∧ ∀ p, o = some p → g_X12_refills_115 K FU (nI s) (nI i) c (nI l) 0 w = g_X12_refills_145 K (fun _ _ _ _ _ => gret 0) (nI s) (nI i) c (nI l) (nI p) (zC S 0 (12 * p + l) - zC S 3 (12 * p + l)) w := by
  have h12 := h.lo.1
  have fc : ∀ q, q < 18 → (fcI (zO S 902 q) = -1 ↔ zO S 902 q = none) := fun q hq => by
    obtain ⟨-, -, -, -, -, s6, -⟩ := h.sl q hq
    exact fcI_m1 fun i hi => Nat.lt_trans (s6 i hi) (by decide : 6 < 1000)
  have key := g_find (fun f j => g_X12_refills_115 K f (nI s) (nI i) c (nI l) j) w 18 (srP S l) (fun q => g_X12_refills_145 K (fun _ _ _ _ _ => gret 0) (nI s) (nI i) c (nI l) (nI q) (zC S 0 (12 * q + l) - zC S 3 (12 * q + l)) w) (gbn (g_X12_nextLot (nI i) (nI l) w) fun x w1 => K (nI s) (nI i) c x w1) (fun f q hq r => ?_) (fun f q hq r => ?_) (fun f => ?_) FU (FU_gt (by omega))
  · rcases key with ⟨q, q1, q2, q3, q4⟩ | ⟨q1, q2⟩
    · refine ⟨fun e => absurd q2 (o1 e q q1), fun p e => ?_⟩
      obtain ⟨p1, p2, p3⟩ := o2 p e
      have : p = q := by
        rcases Nat.lt_trichotomy p q with z | z | z
        · exact absurd p2 (q3 p z)
        · exact z
        · exact absurd q2 (p3 q z)
      subst this
      exact q4
    · refine ⟨fun _ => q2, fun p e => ?_⟩
      obtain ⟨p1, p2, p3⟩ := o2 p e
      exact absurd p2 (q1 p p1)
  · obtain ⟨r1, r2⟩ := r
    obtain ⟨-, -, s3, -⟩ := h.sl q hq
    have hlt : ¬ (18 : Int32) ≤ nI q := nI_ge hq (by decide)
    simp only [g_X12_refills_115, kif, r_gb, gbn_s, r_grd, r_gbo, r_gret, r_gst, k_isIn, k_isSlot, k_isItem, k_isGroup, k_isRobot, k_are, k_holds0, k_holds1, k_holds2, k_holds3, k_bit, k_less, bI_t, bI_f, i10, i00, i01, i11, i20, i30, ↓reduceIte, hlt, r_gnI (show q < mL 6 from hq) (show mL 6 < 2 ^ 31 by decide), nI_clamp (show q < 2 ^ 31 by omega), s3, (fc q hq).mpr r1, h.kFree (show q < 19 by omega) (show l < 12 by omega), g_X12_refills_145, if_neg r2]
  · obtain ⟨-, -, s3, -⟩ := h.sl q hq
    have hlt : ¬ (18 : Int32) ≤ nI q := nI_ge hq (by decide)
    by_cases r1 : zO S 902 q = none
    · have r2 : zC S 0 (12 * q + l) - zC S 3 (12 * q + l) ≤ 0 := Classical.byContradiction fun c => r ⟨r1, c⟩
      simp only [g_X12_refills_115, kif, r_gb, gbn_s, r_grd, r_gbo, r_gret, r_gst, k_isIn, k_isSlot, k_isItem, k_isGroup, k_isRobot, k_are, k_holds0, k_holds1, k_holds2, k_holds3, k_bit, k_less, bI_t, bI_f, i10, i00, i01, i11, i20, i30, ↓reduceIte, hlt, r_gnI (show q < mL 6 from hq) (show mL 6 < 2 ^ 31 by decide), nI_clamp (show q < 2 ^ 31 by omega), s3, (fc q hq).mpr r1, h.kFree (show q < 19 by omega) (show l < 12 by omega), g_X12_refills_145, if_pos r2, nI_1]
    · have r3 := mt (fc q hq).mp r1
      simp only [g_X12_refills_115, kif, r_gb, gbn_s, r_grd, r_gbo, r_gret, r_gst, k_isIn, k_isSlot, k_isItem, k_isGroup, k_isRobot, k_are, k_holds0, k_holds1, k_holds2, k_holds3, k_bit, k_less, bI_t, bI_f, i10, i00, i01, i11, i20, i30, ↓reduceIte, hlt, r_gnI (show q < mL 6 from hq) (show mL 6 < 2 ^ 31 by decide), nI_clamp (show q < 2 ^ 31 by omega), s3, r3, g_X12_refills_145, Int32.le_refl, nI_1]
  · simp only [g_X12_refills_115, kif, r_gb, gbn_s, r_grd, r_gbo, r_gret, r_gst, k_isIn, k_isSlot, k_isItem, k_isGroup, k_isRobot, k_are, k_holds0, k_holds1, k_holds2, k_holds3, k_bit, k_less, bI_t, bI_f, i10, i00, i01, i11, i20, i30, ↓reduceIte, show (18 : Int32) ≤ nI 18 by decide]
end
