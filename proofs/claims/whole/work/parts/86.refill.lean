/-! refill: how many -/
theorem mnm2 (x y : Int32) : (if x < y then x else y) = (if x ≤ y then x else y) := by
  by_cases h : x < y
  · rw [if_pos h, if_pos (Int32.le_of_lt h)]
  · rw [if_neg h]
    by_cases h2 : x ≤ y
    · rw [if_pos h2]
      have a := Int32.not_lt.mp h
      exact Int32.le_antisymm a h2
    · rw [if_neg h2]
section
variable {B k : Nat} {S : Ss} {w : MS}
def amt (S : Ss) (s i : Nat) (c F : Int32) : Int32 := if frR S s / zA S 302 i < (if F < zA S 904 s - c then F else zA S 904 s - c) then frR S s / zA S 302 i else (if F < zA S 904 s - c then F else zA S 904 s - c)
theorem Rel.e125 (h : Rel B k S w) {s i p l : Nat} (hs : s < 18) (hi : i < 6) (hp : p < 18) (hl : l < zN S 5) (K : Int32 → Nat → Option Nat → Int32 → Int32 → MM (Int32)) (c x5 : Int32) {F : Int32} (hF : zC S 0 (12 * p + l) - zC S 3 (12 * p + l) = F) : (f_X11_refillFace_125 K (nI s) s (some i) c x5 l (nI p)).1 S = if amt S s i c F / zA S 305 i ≤ 0 then some (0, S) else (mb (f_X11_hold none none (nI p) l (amt S s i c F / zA S 305 i * zA S 305 i)) fun r97 => mopt r97 fun i105 => mb (f_X11_makeTask 1 i105 (nI s)) fun _ => (mret 1 : MM Int32)).1 S := by
  have h12 := h.lo.1
  have b1 := (h.lo.2.2.2.1 l hl).1
  obtain ⟨-, -, -, -, -, -, t1, t2, -, t3⟩ := h.it i hi
  have z1 : decide (¬ zA S 302 i = 0) = true := decide_eq_true fun r => by rw [r] at t1; exact absurd t1.1 (by decide)
  have z2 : decide (¬ zA S 305 i = 0) = true := decide_eq_true fun r => by rw [r] at t3; exact absurd t3.1 (by decide)
  have hm1 : ¬ nI p = -1 := fun e => nI_ne1 p hp e.symm
  have ef := e_free (S := S) (p := p) (l := l) (by omega) (by omega)
  rw [hF] at ef
  unfold amt
  simp only [f_X11_refillFace_125, f_X11_refillFace_210, r_mb, bnd_s, r_mrd, r_mbo, r_mret, r_mthr, r_wA, r_wO, r_madd, r_mput, r_mopt, r_mcn, r_mcs, ite_f, e_isWithin, e_isSlot, e_isItem, e_isGroup, e_isRobot, e_isLot, e_isNotice, e_isOrder, e_isTask, bI_t, bI_f, i10, i00, i01, i11, i20, i30, ↓reduceIte, hm1, b1, ef, e_room h.hI hs, mgd, z1, z2]
  generalize (if frR S s / zA S 302 i < (if F < zA S 904 s - c then F else zA S 904 s - c) then frR S s / zA S 302 i else (if F < zA S 904 s - c then F else zA S 904 s - c)) / zA S 305 i = A
  by_cases q : A ≤ 0
  · simp only [if_pos q]
  · simp only [if_neg q]
theorem Rel.k145 (h : Rel B k S w) {s i p l : Nat} (hs : s < 18) (hi : i < 6) (K : Int32 → Int32 → Int32 → Int32 → GM (Int32)) (K' : Int32 → Int32 → Int32 → Int32 → Int32 → GM (Int32)) (c : Int32) {F : Int32} (hF : ¬ F ≤ 0) : g_X12_refills_145 K K' (nI s) (nI i) c (nI l) (nI p) F w = if amt S s i c F / zA S 305 i ≤ 0 then some (0, w) else gbn (g_X12_makes 1 (nI l) (nI p) (nI s) (-1) (amt S s i c F / zA S 305 i * zA S 305 i) w) fun _ w1 => some (1, w1) := by
  obtain ⟨-, -, i10', -, -, i13, t1, t2, -, t3⟩ := h.it i hi
  obtain ⟨-, -, -, -, s8, -⟩ := h.sl s hs
  have z1 : decide (¬ zA S 302 i = 0) = true := decide_eq_true fun r => by rw [r] at t1; exact absurd t1.1 (by decide)
  have z2 : decide (¬ zA S 305 i = 0) = true := decide_eq_true fun r => by rw [r] at t3; exact absurd t3.1 (by decide)
  have ea : amt S s i c F = if frR S s / zA S 302 i ≤ (if zA S 904 s - c ≤ F then zA S 904 s - c else F) then frR S s / zA S 302 i else (if zA S 904 s - c ≤ F then zA S 904 s - c else F) := by
    unfold amt; rw [mnm2, mnm F]
  simp only [g_X12_refills_145, kif, r_gb, gbn_s, r_grd, r_gbo, r_gret, r_gst, k_isIn, k_isSlot, k_isItem, k_isGroup, k_isRobot, k_are, k_holds0, k_holds1, k_holds2, k_holds3, k_bit, k_less, bI_t, bI_f, i10, i00, i01, i11, i20, i30, ↓reduceIte, hF, r_gnI (show s < mL 8 from hs) (show mL 8 < 2 ^ 31 by decide), nI_clamp (show s < 2 ^ 31 by omega), s8, h.kRoom hs, r_gnI (show i < mL 10 from hi) (show mL 10 < 2 ^ 31 by decide), r_gnI (show i < mL 13 from hi) (show mL 13 < 2 ^ 31 by decide), nI_clamp (show i < 2 ^ 31 by omega), i10', i13, gmd, z1, z2, ← ea]
  generalize amt S s i c F = M
  obtain ⟨d1, d2⟩ := dvm (x := M) t3
  by_cases q : 0 ≤ M
  · obtain ⟨d3, d4, -⟩ := d1 q
    rw [if_pos q, d3]
    by_cases q2 : M / zA S 305 i ≤ 0
    · have q3 := d4.mpr q2
      rw [if_pos q2]
      simp only [g_X12_refills_203, g_X12_refills_225, kif, r_gb, gbn_s, r_grd, r_gbo, r_gret, r_gst, k_isIn, k_isSlot, k_isItem, k_isGroup, k_isRobot, k_are, k_holds0, k_holds1, k_holds2, k_holds3, k_bit, k_less, bI_t, bI_f, i10, i00, i01, i11, i20, i30, ↓reduceIte, if_pos q3]
    · have q3 := mt d4.mp q2
      rw [if_neg q2]
      simp only [g_X12_refills_203, g_X12_refills_225, kif, r_gb, gbn_s, r_grd, r_gbo, r_gret, r_gst, k_isIn, k_isSlot, k_isItem, k_isGroup, k_isRobot, k_are, k_holds0, k_holds1, k_holds2, k_holds3, k_bit, k_less, bI_t, bI_f, i10, i00, i01, i11, i20, i30, ↓reduceIte, if_neg q3]
  · rw [if_neg q, if_pos (d2 q)]
    simp only [g_X12_refills_203, g_X12_refills_225, kif, r_gb, gbn_s, r_grd, r_gbo, r_gret, r_gst, k_isIn, k_isSlot, k_isItem, k_isGroup, k_isRobot, k_are, k_holds0, k_holds1, k_holds2, k_holds3, k_bit, k_less, bI_t, bI_f, i10, i00, i01, i11, i20, i30, ↓reduceIte, Int32.le_refl]
end
