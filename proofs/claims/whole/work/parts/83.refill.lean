/-! refill: what is there, where it comes from -/
section
variable {B k : Nat} {S : Ss} {w : MS}
theorem Rel.kRef17 (h : Rel B k S w) {s i : Nat} (hs : s < 18) (hi : i < 6) (hf : zO S 902 s = some i) (c : Int32) : g_X12_refills_17 FU (nI s) (nI i) c 0 w = if zA S 903 s ≤ c + zC S 4 (6 * s + i) then some (0, w) else if nI (zN S 10) = 60 then some (0, w) else g_X12_refills_106 FU (nI s) (nI i) (c + zC S 4 (6 * s + i)) (fcI (byE S i)[0]?) w := by
  have h60 := h.ta.1
  have key := g_sum (fun f a j => g_X12_refills_17 f (nI s) (nI i) a j) (fun a => if zA S 903 s ≤ a then some (0, w) else if nI (zN S 10) = 60 then some (0, w) else g_X12_refills_106 FU (nI s) (nI i) a (fcI (byE S i)[0]?) w) w (zN S 10) (apc S s i) (fun f a t ht => ?_) (fun f a => ?_) c FU (FU_gt (by omega))
  · rw [key, ← h.ap.1 s i hs hi]
  · obtain ⟨i1, i2, i3, i4, i5, i6, -⟩ := h.ta.2.2.2 t ht
    have ap := h.ap.2 t s i ht hs
    simp only [g_X12_refills_17, kif, r_gb, gbn_s, r_grd, r_gbo, r_gret, r_gst, k_isIn, k_isSlot, k_isItem, k_isGroup, k_isRobot, k_are, k_holds0, k_holds1, k_holds2, k_holds3, k_bit, k_less, bI_t, bI_f, i10, i00, i01, i11, i20, i30, ↓reduceIte, h.ta.2.2.1, nI_ge ht (show zN S 10 < 2 ^ 31 by omega), k_isOn ht h60, r_gnI (show t < mL 46 from Nat.lt_of_lt_of_le ht h60) (show mL 46 < 2 ^ 31 by decide), r_gnI (show t < mL 49 from Nat.lt_of_lt_of_le ht h60) (show mL 49 < 2 ^ 31 by decide), r_gnI (show t < mL 51 from Nat.lt_of_lt_of_le ht h60) (show mL 51 < 2 ^ 31 by decide), nI_clamp (show t < 2 ^ 31 by omega), nI_1, i2, i3, i4, i5]
    by_cases q0 : zA S 1005 t = 0 ∨ zA S 1005 t = 1
    · by_cases q2 : zA S 1003 t = nI s
      · by_cases q1 : zA S 1001 t = 2
        · have q1' : ¬ zA S 1001 t = 1 := by rw [q1]; decide
          have ea : apc S s i t = 0 := by unfold apc; exact if_neg fun r => r.2.1 q1
          rw [ea]
          simp only [q0, if_neg q1', ↓reduceIte, i10]
        · obtain ⟨a1, a2⟩ := (ap q0 q2 q1).1 hf
          have ea : apc S s i t = zA S 1004 t := by unfold apc; exact if_pos ⟨q0, q1, q2, a2⟩
          rw [ea]
          simp only [q0, if_pos a1, if_pos q2, ↓reduceIte, i10]
      · have ea : apc S s i t = 0 := by unfold apc; exact if_neg fun r => q2 r.2.2.1
        rw [ea]
        by_cases q1 : zA S 1001 t = 1
        · simp only [q0, if_pos q1, if_neg q2, ↓reduceIte, i10]
        · simp only [q0, if_neg q1, ↓reduceIte, i10]
    · have ea : apc S s i t = 0 := by unfold apc; exact if_neg fun r => q0 r.1
      rw [ea]
      simp only [q0, ↓reduceIte, i00]
  · have e := h.kNextE (n := 0) hi none rfl
    have z : fcI none = (-1 : Int32) := rfl
    rw [z] at e
    obtain ⟨-, -, -, s7, -⟩ := h.sl s hs
    simp only [g_X12_refills_17, kif, r_gb, gbn_s, r_grd, r_gbo, r_gret, r_gst, k_isIn, k_isSlot, k_isItem, k_isGroup, k_isRobot, k_are, k_holds0, k_holds1, k_holds2, k_holds3, k_bit, k_less, bI_t, bI_f, i10, i00, i01, i11, i20, i30, ↓reduceIte, h.ta.2.2.1, Int32.le_refl, r_gnI (show s < mL 7 from hs) (show mL 7 < 2 ^ 31 by decide), nI_clamp (show s < 2 ^ 31 by omega), s7, e]
/-- a slot that a face can be refilled from -/
def srP (S : Ss) (l q : Nat) : Prop := zO S 902 q = none ∧ ¬ zC S 0 (12 * q + l) - zC S 3 (12 * q + l) ≤ 0
theorem Rel.eSrc (h : Rel B k S w) {l : Nat} (hl : l < zN S 5) : ∃ o : Option Nat, (f_X11_slotToRefillFrom l).1 S = some (fcI o, S) ∧ (o = none → ∀ q, q < 18 → ¬ srP S l q) ∧ ∀ p, o = some p → p < 18 ∧ srP S l p ∧ ∀ q, q < p → ¬ srP S l q := by
  have h12 := h.lo.1
  have b1 := (h.lo.2.2.2.1 l hl).1
  have key := m_find (fun f j => f_X11_slotToRefillFrom_2 f l j) S 18 (srP S l) (fun q => some (nI q, S)) (some (-1, S)) (fun f q hq r => ?_) (fun f q hq r => ?_) (fun f => ?_) FU (FU_gt (by omega))
  · have e : (f_X11_slotToRefillFrom l).1 S = (f_X11_slotToRefillFrom_2 FU l 0).1 S := rfl
    rw [e]
    rcases key with ⟨q, q1, q2, q3, q4⟩ | ⟨q1, q2⟩
    · refine ⟨some q, q4, fun e => (by cases e), fun p e => ?_⟩
      have : q = p := Option.some.inj e
      subst this
      exact ⟨q1, q2, q3⟩
    · exact ⟨none, q2, fun _ => q1, fun p e => (by cases e)⟩
  · obtain ⟨r1, r2⟩ := r
    simp only [f_X11_slotToRefillFrom_2, r_mb, bnd_s, r_mrd, r_mbo, r_mret, r_mthr, r_wA, r_wO, r_madd, r_mput, r_mopt, r_mcn, r_mcs, ite_f, e_isWithin, e_isSlot, e_isItem, e_isGroup, e_isRobot, e_isLot, e_isNotice, e_isOrder, e_isTask, bI_t, bI_f, i10, i00, i01, i11, i20, i30, ↓reduceIte, nI_ge (show q < aLn 1100 from hq) (show aLn 1100 < 2 ^ 31 by decide), r_mnI (show q < aLn 1100 from hq) (show aLn 1100 < 2 ^ 31 by decide), nI_clamp (show q < 2 ^ 31 by omega), r1, b1, e_free (S := S) (show q < 28 by omega) (show l < 12 by omega), r2]
  · unfold srP at r
    cases ho : zO S 902 q with
    | some j => simp only [f_X11_slotToRefillFrom_2, r_mb, bnd_s, r_mrd, r_mbo, r_mret, r_mthr, r_wA, r_wO, r_madd, r_mput, r_mopt, r_mcn, r_mcs, ite_f, e_isWithin, e_isSlot, e_isItem, e_isGroup, e_isRobot, e_isLot, e_isNotice, e_isOrder, e_isTask, bI_t, bI_f, i10, i00, i01, i11, i20, i30, ↓reduceIte, nI_ge (show q < aLn 1100 from hq) (show aLn 1100 < 2 ^ 31 by decide), r_mnI (show q < aLn 1100 from hq) (show aLn 1100 < 2 ^ 31 by decide), nI_clamp (show q < 2 ^ 31 by omega), ho, nI_1]
    | none =>
      have r2 : zC S 0 (12 * q + l) - zC S 3 (12 * q + l) ≤ 0 := Classical.byContradiction fun c => r ⟨ho, c⟩
      simp only [f_X11_slotToRefillFrom_2, r_mb, bnd_s, r_mrd, r_mbo, r_mret, r_mthr, r_wA, r_wO, r_madd, r_mput, r_mopt, r_mcn, r_mcs, ite_f, e_isWithin, e_isSlot, e_isItem, e_isGroup, e_isRobot, e_isLot, e_isNotice, e_isOrder, e_isTask, bI_t, bI_f, i10, i00, i01, i11, i20, i30, ↓reduceIte, nI_ge (show q < aLn 1100 from hq) (show aLn 1100 < 2 ^ 31 by decide), r_mnI (show q < aLn 1100 from hq) (show aLn 1100 < 2 ^ 31 by decide), nI_clamp (show q < 2 ^ 31 by omega), ho, b1, e_free (S := S) (show q < 28 by omega) (show l < 12 by omega), r2, nI_1]
  · simp only [f_X11_slotToRefillFrom_2, r_mb, bnd_s, r_mrd, r_mbo, r_mret, r_mthr, r_wA, r_wO, r_madd, r_mput, r_mopt, r_mcn, r_mcs, ite_f, e_isWithin, e_isSlot, e_isItem, e_isGroup, e_isRobot, e_isLot, e_isNotice, e_isOrder, e_isTask, bI_t, bI_f, i10, i00, i01, i11, i20, i30, ↓reduceIte, show nI (aLn 1100) ≤ nI 18 by decide]
end
