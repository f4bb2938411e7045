section
variable {B k : Nat} {S : Ss} {w : MS}
theorem pos_0 {x : Int32} (h : 0 ≤ x.toInt) : (0 < x ↔ ¬ x = 0) ∧ (x ≤ 0 ↔ x = 0) := by
  have e0 : (0 : Int32).toInt = 0 := rfl
  rw [Int32.lt_iff_toInt_lt, Int32.le_iff_toInt_le, ← Int32.toInt_inj, e0]
  constructor <;> omega
theorem Rel.eHas (h : Rel B k S w) {s i : Nat} (hs : s < 18) (hi : i < 6) : (f_X0_hasOrAwaits (nI s) (nI i)).1 S = some (if zC S 1 (6 * s + i) = 0 ∧ zC S 4 (6 * s + i) = 0 then 0 else 1, S) := by
  simp only [f_X0_hasOrAwaits, r_mb, bnd_s, r_mrd, r_mbo, r_mret, r_mthr, r_wA, r_wO, r_madd, r_mput, r_mopt, r_mcn, r_mcs, ite_f, e_isWithin, e_isSlot, e_isItem, e_isGroup, e_isRobot, e_isLot, e_isNotice, e_isOrder, e_isTask, bI_t, bI_f, i10, i00, i01, i11, i20, i30, ↓reduceIte, cAt_in (S := S) (r := 1) (p := s) (l := i) hi (show s * 6 + i < 168 by omega), cAt_in (S := S) (r := 4) (p := s) (l := i) hi (show s * 6 + i < 108 by omega), show cWd 1 * s + i = 6 * s + i from rfl, show cWd 4 * s + i = 6 * s + i from rfl, (pos_0 (h.n1 (show s < 28 by omega) hi)).1, (pos_0 (h.n4 hs hi)).2]
  by_cases q1 : zC S 1 (6 * s + i) = 0
  · by_cases q2 : zC S 4 (6 * s + i) = 0
    · simp only [q1, q2, not_true_eq_false, and_self, ↓reduceIte]
    · simp only [q1, q2, not_true_eq_false, and_false, ↓reduceIte]
  · simp only [q1, not_false_eq_true, false_and, ↓reduceIte]
theorem Rel.eUsed2 (h : Rel B k S w) {s : Nat} (hs : s < 18) : ∀ i, i ≤ 6 → ∀ f, 6 < f + i → ((∀ j, i ≤ j → j < 6 → zC S 1 (6 * s + j) = 0 ∧ zC S 4 (6 * s + j) = 0) → (f_X11_isUsed_2 f (nI s) (nI i)).1 S = some (0, S)) ∧ (¬ (∀ j, i ≤ j → j < 6 → zC S 1 (6 * s + j) = 0 ∧ zC S 4 (6 * s + j) = 0) → (f_X11_isUsed_2 f (nI s) (nI i)).1 S = some (1, S)) := by
  intro i
  induction hn : 6 - i generalizing i with
  | zero =>
    intro hi f hf
    have e : i = 6 := by omega
    subst e
    obtain ⟨f, rfl⟩ : ∃ f', f = f' + 1 := ⟨f - 1, by omega⟩
    refine ⟨fun _ => ?_, fun q => absurd (fun j h1 h2 => absurd h2 (by omega)) q⟩
    simp only [f_X11_isUsed_2, show (6 : Int32) ≤ nI 6 by decide, r_mb, bnd_s, r_mrd, r_mbo, r_mret, r_mthr, r_wA, r_wO, r_madd, r_mput, r_mopt, r_mcn, r_mcs, ite_f, e_isWithin, e_isSlot, e_isItem, e_isGroup, e_isRobot, e_isLot, e_isNotice, e_isOrder, e_isTask, bI_t, bI_f, i10, i00, i01, i11, i20, i30, ↓reduceIte]
  | succ n ih =>
    intro hi f hf
    obtain ⟨f, rfl⟩ : ∃ f', f = f' + 1 := ⟨f - 1, by omega⟩
    have hi' : i < 6 := by omega
    obtain ⟨a1, a2⟩ := ih (i + 1) (by omega) (by omega) f (by omega)
    have hlt : ¬ (6 : Int32) ≤ nI i := nI_ge hi' (by decide)
    by_cases q : zC S 1 (6 * s + i) = 0 ∧ zC S 4 (6 * s + i) = 0
    · have e : (f_X11_isUsed_2 (f + 1) (nI s) (nI i)).1 S = (f_X11_isUsed_2 f (nI s) (nI (i + 1))).1 S := by
        simp only [f_X11_isUsed_2, hlt, r_mb, bnd_s, r_mrd, r_mbo, r_mret, r_mthr, r_wA, r_wO, r_madd, r_mput, r_mopt, r_mcn, r_mcs, ite_f, e_isWithin, e_isSlot, e_isItem, e_isGroup, e_isRobot, e_isLot, e_isNotice, e_isOrder, e_isTask, bI_t, bI_f, i10, i00, i01, i11, i20, i30, ↓reduceIte, h.eHas hs hi', if_pos q, nI_1]
      rw [e]
      refine ⟨fun r => a1 fun j h1 h2 => r j (by omega) h2, fun r => a2 fun t => r fun j h1 h2 => ?_⟩
      by_cases c : j = i
      · subst c; exact q
      · exact t j (by omega) h2
    · refine ⟨fun r => absurd (r i (Nat.le_refl _) hi') q, fun _ => ?_⟩
      simp only [f_X11_isUsed_2, hlt, r_mb, bnd_s, r_mrd, r_mbo, r_mret, r_mthr, r_wA, r_wO, r_madd, r_mput, r_mopt, r_mcn, r_mcs, ite_f, e_isWithin, e_isSlot, e_isItem, e_isGroup, e_isRobot, e_isLot, e_isNotice, e_isOrder, e_isTask, bI_t, bI_f, i10, i00, i01, i11, i20, i30, ↓reduceIte, h.eHas hs hi', if_neg q]
theorem Rel.eUsed (h : Rel B k S w) {s : Nat} (hs : s < 18) : (emp S s → (f_X11_isUsed (nI s)).1 S = some (0, S)) ∧ (¬ emp S s → (f_X11_isUsed (nI s)).1 S = some (1, S)) := by
  obtain ⟨a1, a2⟩ := h.eUsed2 hs 0 (by decide) FU (by have := FU_gt (n := 6) (by decide); omega)
  refine ⟨fun q => a1 fun j _ hj => q j hj, fun q => a2 fun r => q fun j hj => r j (Nat.zero_le _) hj⟩
theorem Rel.kEmpty0 (h : Rel B k S w) {s : Nat} (hs : s < 18) : ∀ i, i ≤ 6 → ∀ f, 6 < f + i → g_X12_isEmpty_16 f (nI s) 0 (nI i) w = some (0, w) := by
  intro i
  induction hn : 6 - i generalizing i with
  | zero =>
    intro hi f hf
    have e : i = 6 := by omega
    subst e
    obtain ⟨f, rfl⟩ : ∃ f', f = f' + 1 := ⟨f - 1, by omega⟩
    simp only [g_X12_isEmpty_16, show (6 : Int32) ≤ nI 6 by decide, kif, r_gb, gbn_s, r_grd, r_gbo, r_gret, r_gst, k_isIn, k_isSlot, k_isItem, k_isGroup, k_isRobot, k_are, k_holds0, k_holds1, k_holds2, k_holds3, k_bit, k_less, bI_t, bI_f, i10, i00, i01, i11, i20, i30, ↓reduceIte, gmd]
    rfl
  | succ n ih =>
    intro hi f hf
    obtain ⟨f, rfl⟩ : ∃ f', f = f' + 1 := ⟨f - 1, by omega⟩
    have hlt : ¬ (6 : Int32) ≤ nI i := nI_ge (show i < 6 by omega) (by decide)
    simp only [g_X12_isEmpty_16, hlt, kif, r_gb, gbn_s, r_grd, r_gbo, r_gret, r_gst, k_isIn, k_isSlot, k_isItem, k_isGroup, k_isRobot, k_are, k_holds0, k_holds1, k_holds2, k_holds3, k_bit, k_less, bI_t, bI_f, i10, i00, i01, i11, i20, i30, ↓reduceIte, nI_1]
    exact ih (i + 1) (by omega) (by omega) f (by omega)
theorem Rel.kEmpty1 (h : Rel B k S w) {s : Nat} (hs : s < 18) : ∀ i, i ≤ 6 → ∀ f, 6 < f + i → ((∀ j, i ≤ j → j < 6 → zC S 1 (6 * s + j) = 0) → g_X12_isEmpty_16 f (nI s) 1 (nI i) w = some (1, w)) ∧ (¬ (∀ j, i ≤ j → j < 6 → zC S 1 (6 * s + j) = 0) → g_X12_isEmpty_16 f (nI s) 1 (nI i) w = some (0, w)) := by
  intro i
  induction hn : 6 - i generalizing i with
  | zero =>
    intro hi f hf
    have e : i = 6 := by omega
    subst e
    obtain ⟨f, rfl⟩ : ∃ f', f = f' + 1 := ⟨f - 1, by omega⟩
    refine ⟨fun _ => ?_, fun q => absurd (fun j h1 h2 => absurd h2 (by omega)) q⟩
    simp only [g_X12_isEmpty_16, show (6 : Int32) ≤ nI 6 by decide, kif, r_gb, gbn_s, r_grd, r_gbo, r_gret, r_gst, k_isIn, k_isSlot, k_isItem, k_isGroup, k_isRobot, k_are, k_holds0, k_holds1, k_holds2, k_holds3, k_bit, k_less, bI_t, bI_f, i10, i00, i01, i11, i20, i30, ↓reduceIte, gmd]
    rfl
  | succ n ih =>
    intro hi f hf
    obtain ⟨f, rfl⟩ : ∃ f', f = f' + 1 := ⟨f - 1, by omega⟩
    have hi' : i < 6 := by omega
    obtain ⟨a1, a2⟩ := ih (i + 1) (by omega) (by omega) f (by omega)
    have hlt : ¬ (6 : Int32) ≤ nI i := nI_ge hi' (by decide)
    by_cases q : zC S 1 (6 * s + i) = 0
    · have e : g_X12_isEmpty_16 (f + 1) (nI s) 1 (nI i) w = g_X12_isEmpty_16 f (nI s) 1 (nI (i + 1)) w := by
        simp only [g_X12_isEmpty_16, hlt, kif, r_gb, gbn_s, r_grd, r_gbo, r_gret, r_gst, k_isIn, k_isSlot, k_isItem, k_isGroup, k_isRobot, k_are, k_holds0, k_holds1, k_holds2, k_holds3, k_bit, k_less, bI_t, bI_f, i10, i00, i01, i11, i20, i30, ↓reduceIte, h.kItem (show s < 28 by omega) hi', q, nI_1]
      rw [e]
      refine ⟨fun r => a1 fun j h1 h2 => r j (by omega) h2, fun r => a2 fun t => r fun j h1 h2 => ?_⟩
      by_cases c : j = i
      · subst c; exact q
      · exact t j (by omega) h2
    · refine ⟨fun r => absurd (r i (Nat.le_refl _) hi') q, fun _ => ?_⟩
      simp only [g_X12_isEmpty_16, hlt, kif, r_gb, gbn_s, r_grd, r_gbo, r_gret, r_gst, k_isIn, k_isSlot, k_isItem, k_isGroup, k_isRobot, k_are, k_holds0, k_holds1, k_holds2, k_holds3, k_bit, k_less, bI_t, bI_f, i10, i00, i01, i11, i20, i30, ↓reduceIte, h.kItem (show s < 28 by omega) hi', q, nI_1]
      exact h.kEmpty0 hs (i + 1) (by omega) f (by omega)
theorem Rel.kEmpty (h : Rel B k S w) {s : Nat} (hs : s < 18) : (emp S s → g_X12_isEmpty (nI s) w = some (1, w)) ∧ (¬ emp S s → g_X12_isEmpty (nI s) w = some (0, w)) := by
  have hF : 6 < FU + 0 := by have := FU_gt (n := 6) (by decide); omega
  obtain ⟨a1, a2⟩ := h.kEmpty1 hs 0 (by decide) FU hF
  have a0 := h.kEmpty0 hs 0 (by decide) FU hF
  have zr := h.zR hs
  have e : g_X12_isEmpty (nI s) w = if sm (List.range (zN S 10)) (rpc S s) = 0 then g_X12_isEmpty_16 FU (nI s) 1 0 w else g_X12_isEmpty_16 FU (nI s) 0 0 w := by
    unfold g_X12_isEmpty
    simp only [kif, r_gb, gbn_s, r_grd, r_gbo, r_gret, r_gst, k_isIn, k_isSlot, k_isItem, k_isGroup, k_isRobot, k_are, k_holds0, k_holds1, k_holds2, k_holds3, k_bit, k_less, bI_t, bI_f, i10, i00, i01, i11, i20, i30, ↓reduceIte, h.kRoomH]
    try (split <;> rfl)
  rw [e]
  by_cases q : sm (List.range (zN S 10)) (rpc S s) = 0
  · rw [if_pos q]
    refine ⟨fun r => a1 fun j _ hj => (r j hj).1, fun r => a2 fun t => r fun j hj => ⟨t j (Nat.zero_le _) hj, zr.mp q j hj⟩⟩
  · rw [if_neg q]
    exact ⟨fun r => absurd (zr.mpr fun j hj => (r j hj).2) q, fun _ => a0⟩
end
