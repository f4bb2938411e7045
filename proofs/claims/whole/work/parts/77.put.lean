/-! which slot takes what is put away -/
section
variable {B k : Nat} {S : Ss} {w : MS}
def apq (S : Ss) (s i t : Nat) : Prop := (zA S 1005 t = 0 ∨ zA S 1005 t = 1) ∧ ¬ zA S 1001 t = 2 ∧ zA S 1003 t = nI s ∧ itS S (lotT S t) = i
theorem Rel.apq0 (h : Rel B k S w) {s i t : Nat} (ht : t < zN S 10) : apc S s i t = 0 ↔ ¬ apq S s i t := by
  unfold apc apq
  by_cases q : (zA S 1005 t = 0 ∨ zA S 1005 t = 1) ∧ ¬ zA S 1001 t = 2 ∧ zA S 1003 t = nI s ∧ itS S (lotT S t) = i
  · rw [if_pos q]
    obtain ⟨-, -, -, -, -, -, -, x, l, e1, e2, e3, e4, e5, e6, e7, e8⟩ := h.ta.2.2.2 t ht
    obtain ⟨g1, g2, -⟩ := e7 q.1
    obtain ⟨-, a2, -, -, -, a6⟩ := h.ho.2.1 x g1
    obtain ⟨-, -, -, a7⟩ := a6 t g2
    refine ⟨fun r => ?_, fun r => absurd q r⟩
    rw [a7] at r
    rw [r] at a2
    exact absurd a2.1 (by decide)
  · rw [if_neg q]
    exact ⟨fun _ => q, fun _ => rfl⟩
theorem Rel.kStands (h : Rel B k S w) {s i : Nat} (hs : s < 18) (hi : i < 6) : g_X12_standsIn (nI s) (nI i) w = some (if zC S 1 (6 * s + i) = 0 ∧ zC S 4 (6 * s + i) = 0 then 0 else 1, w) := by
  have h60 := h.ta.1
  have h12 := h.lo.1
  have key := g_flag (fun f a j => g_X12_standsIn_18 f (nI s) (nI i) a j) w (zN S 10) (apq S s i) 0 1 (fun a => some (a, w)) (fun f t ht q => ?_) (fun f t ht q => ?_) (fun f t ht => ?_) (fun f a ha => ?_) FU (FU_gt (by omega))
  · obtain ⟨f1, f2, f3⟩ := key
    simp only [g_X12_standsIn, kif, r_gb, gbn_s, r_grd, r_gbo, r_gret, r_gst, k_isIn, k_isSlot, k_isItem, k_isGroup, k_isRobot, k_are, k_holds0, k_holds1, k_holds2, k_holds3, k_bit, k_less, bI_t, bI_f, i10, i00, i01, i11, i20, i30, ↓reduceIte, h.kItem (show s < 28 by omega) hi, (pos_0 (h.n1 (show s < 28 by omega) hi)).2]
    by_cases q1 : zC S 1 (6 * s + i) = 0
    · by_cases q2 : zC S 4 (6 * s + i) = 0
      · simp only [q1, q2, and_self, ↓reduceIte]
        exact f2 fun t ht => (h.apq0 ht).mp ((h.z4 hs hi).mp q2 t ht)
      · simp only [q1, q2, and_false, ↓reduceIte]
        refine f1 (Classical.byContradiction fun r => q2 ((h.z4 hs hi).mpr fun t ht => (h.apq0 ht).mpr fun r2 => r ⟨t, ht, r2⟩))
    · simp only [q1, false_and, ↓reduceIte]
      exact f3
  · obtain ⟨l1, l2⟩ := h.lotI ht
    obtain ⟨i1, i2, i3, i4, i5, i6, -⟩ := h.ta.2.2.2 t ht
    obtain ⟨-, -, -, -, -, b6, b7⟩ := h.lo.2.2.2.1 _ l1
    obtain ⟨q1, q2, q3, q4⟩ := q
    simp only [g_X12_standsIn_18, kif, r_gb, gbn_s, r_grd, r_gbo, r_gret, r_gst, k_isIn, k_isSlot, k_isItem, k_isGroup, k_isRobot, k_are, k_holds0, k_holds1, k_holds2, k_holds3, k_bit, k_less, bI_t, bI_f, i10, i00, i01, i11, i20, i30, ↓reduceIte, h.ta.2.2.1, nI_ge ht (show zN S 10 < 2 ^ 31 by omega), k_isOn ht h60, r_gnI (show t < mL 46 from Nat.lt_of_lt_of_le ht h60) (show mL 46 < 2 ^ 31 by decide), r_gnI (show t < mL 49 from Nat.lt_of_lt_of_le ht h60) (show mL 49 < 2 ^ 31 by decide), r_gnI (show t < mL 47 from Nat.lt_of_lt_of_le ht h60) (show mL 47 < 2 ^ 31 by decide), nI_clamp (show t < 2 ^ 31 by omega), nI_1, l2, r_gnI (show lotT S t < mL 16 from Nat.lt_of_lt_of_le l1 h12) (show mL 16 < 2 ^ 31 by decide), nI_clamp (show lotT S t < 2 ^ 31 by omega), b7, i2, i3, i5, q1, q2, q3, q4]
  · obtain ⟨l1, l2⟩ := h.lotI ht
    obtain ⟨i1, i2, i3, i4, i5, i6, -⟩ := h.ta.2.2.2 t ht
    obtain ⟨-, -, -, -, -, b6, b7⟩ := h.lo.2.2.2.1 _ l1
    simp only [g_X12_standsIn_18, kif, r_gb, gbn_s, r_grd, r_gbo, r_gret, r_gst, k_isIn, k_isSlot, k_isItem, k_isGroup, k_isRobot, k_are, k_holds0, k_holds1, k_holds2, k_holds3, k_bit, k_less, bI_t, bI_f, i10, i00, i01, i11, i20, i30, ↓reduceIte, h.ta.2.2.1, nI_ge ht (show zN S 10 < 2 ^ 31 by omega), k_isOn ht h60, r_gnI (show t < mL 46 from Nat.lt_of_lt_of_le ht h60) (show mL 46 < 2 ^ 31 by decide), r_gnI (show t < mL 49 from Nat.lt_of_lt_of_le ht h60) (show mL 49 < 2 ^ 31 by decide), r_gnI (show t < mL 47 from Nat.lt_of_lt_of_le ht h60) (show mL 47 < 2 ^ 31 by decide), nI_clamp (show t < 2 ^ 31 by omega), nI_1, l2, r_gnI (show lotT S t < mL 16 from Nat.lt_of_lt_of_le l1 h12) (show mL 16 < 2 ^ 31 by decide), nI_clamp (show lotT S t < 2 ^ 31 by omega), b7, i2, i3, i5, nI_eq (show itS S (lotT S t) < 2 ^ 31 by omega) (show i < 2 ^ 31 by omega)]
    unfold apq at q
    by_cases q0 : zA S 1005 t = 0 ∨ zA S 1005 t = 1
    · by_cases q1 : zA S 1001 t = 2
      · simp only [q0, q1, ↓reduceIte, i10]
      · by_cases q2 : zA S 1003 t = nI s
        · by_cases q3 : itS S (lotT S t) = i
          · exact absurd ⟨q0, q1, q2, q3⟩ q
          · simp only [q0, q1, q2, q3, ↓reduceIte, i10]
        · simp only [q0, q1, q2, ↓reduceIte, i10]
    · simp only [q0, ↓reduceIte, i00]
  · simp only [g_X12_standsIn_18, kif, r_gb, gbn_s, r_grd, r_gbo, r_gret, r_gst, k_isIn, k_isSlot, k_isItem, k_isGroup, k_isRobot, k_are, k_holds0, k_holds1, k_holds2, k_holds3, k_bit, k_less, bI_t, bI_f, i10, i00, i01, i11, i20, i30, ↓reduceIte, h.ta.2.2.1, nI_ge ht (show zN S 10 < 2 ^ 31 by omega), nI_1]
  · simp only [g_X12_standsIn_18, kif, r_gb, gbn_s, r_grd, r_gbo, r_gret, r_gst, k_isIn, k_isSlot, k_isItem, k_isGroup, k_isRobot, k_are, k_holds0, k_holds1, k_holds2, k_holds3, k_bit, k_less, bI_t, bI_f, i10, i00, i01, i11, i20, i30, ↓reduceIte, h.ta.2.2.1, Int32.le_refl, gmd, decide_eq_true ha]
    try rfl
/-- what may not stand beside -/
def gq (S : Ss) (j i : Nat) : Nat := (4 * zA S 304 j + zA S 304 i).toNatClampNeg
def brP (S : Ss) (w : MS) (s i j : Nat) : Prop := ¬ j = i ∧ ¬ mA w 14 (gq S j i) = 0 ∧ ¬ (zC S 1 (6 * s + j) = 0 ∧ zC S 4 (6 * s + j) = 0)
def brI (S : Ss) (w : MS) (s i : Nat) : Prop := ∃ j, j < 6 ∧ brP S w s i j
theorem Rel.gqE (h : Rel B k S w) {i j : Nat} (hi : i < 6) (hj : j < 6) : ∃ g o, g < 4 ∧ o < 4 ∧ zA S 304 j = nI g ∧ zA S 304 i = nI o ∧ gq S j i = 4 * g + o ∧ 4 * zA S 304 j + zA S 304 i = nI (4 * g + o) := by
  obtain ⟨-, -, -, -, -, -, -, -, ⟨g, hg, eg⟩, -⟩ := h.it j hj
  obtain ⟨-, -, -, -, -, -, -, -, ⟨o, ho, eo⟩, -⟩ := h.it i hi
  have e : 4 * zA S 304 j + zA S 304 i = nI (4 * g + o) := by rw [eg, eo, show (4 : Int32) = nI 4 from rfl, pk_mul, nI_add]
  exact ⟨g, o, hg, ho, eg, eo, by unfold gq; rw [e, nI_clamp (by omega)], e⟩
theorem Rel.eBarIn (h : Rel B k S w) {s i : Nat} (hs : s < 18) (hi : i < 6) : (brI S w s i → (f_X11_isBarredIn (nI s) i).1 S = some (1, S)) ∧ (¬ brI S w s i → (f_X11_isBarredIn (nI s) i).1 S = some (0, S)) := by
  have key := m_find (fun f j => f_X11_isBarredIn_12 f (nI s) i (nI 6) j) S 6 (brP S w s i) (fun _ => some (1, S)) (some (0, S)) (fun f j hj q => ?_) (fun f j hj q => ?_) (fun f => ?_) FU (FU_gt (by omega))
  · have e : (f_X11_isBarredIn (nI s) i).1 S = (f_X11_isBarredIn_12 FU (nI s) i (nI 6) 0).1 S := rfl
    rw [e]
    rcases key with ⟨j, j1, j2, -, j4⟩ | ⟨j1, j2⟩
    · exact ⟨fun _ => j4, fun r => absurd ⟨j, j1, j2⟩ r⟩
    · exact ⟨fun ⟨j, r1, r2⟩ => absurd r2 (j1 j r1), fun _ => j2⟩
  · obtain ⟨g, o, hg, ho, e1, e2, e3, -⟩ := h.gqE hi hj
    obtain ⟨q1, q2, q3⟩ := q
    rw [e3] at q2
    simp only [f_X11_isBarredIn_12, r_mb, bnd_s, r_mrd, r_mbo, r_mret, r_mthr, r_wA, r_wO, r_madd, r_mput, r_mopt, r_mcn, r_mcs, ite_f, e_isWithin, e_isSlot, e_isItem, e_isGroup, e_isRobot, e_isLot, e_isNotice, e_isOrder, e_isTask, bI_t, bI_f, i10, i00, i01, i11, i20, i30, ↓reduceIte, nI_ge hj (show 6 < 2 ^ 31 by decide), r_mnI (show j < aLn 1101 from hj) (show aLn 1101 < 2 ^ 31 by decide), nI_clamp (show j < 2 ^ 31 by omega), Option.some.injEq, q1, e1, e2, h.eBar hg ho, q2, (h.it j hj).1, h.eHas hs hj, q3, nI_1]
  · obtain ⟨g, o, hg, ho, e1, e2, e3, -⟩ := h.gqE hi hj
    unfold brP at q
    rw [e3] at q
    simp only [f_X11_isBarredIn_12, r_mb, bnd_s, r_mrd, r_mbo, r_mret, r_mthr, r_wA, r_wO, r_madd, r_mput, r_mopt, r_mcn, r_mcs, ite_f, e_isWithin, e_isSlot, e_isItem, e_isGroup, e_isRobot, e_isLot, e_isNotice, e_isOrder, e_isTask, bI_t, bI_f, i10, i00, i01, i11, i20, i30, ↓reduceIte, nI_ge hj (show 6 < 2 ^ 31 by decide), r_mnI (show j < aLn 1101 from hj) (show aLn 1101 < 2 ^ 31 by decide), nI_clamp (show j < 2 ^ 31 by omega), Option.some.injEq, e1, e2, h.eBar hg ho, (h.it j hj).1, h.eHas hs hj, nI_1]
    by_cases q1 : j = i
    · simp only [q1, ↓reduceIte]
    · by_cases q2 : mA w 14 (4 * g + o) = 0
      · simp only [q1, q2, ↓reduceIte]
      · by_cases q3 : zC S 1 (6 * s + j) = 0 ∧ zC S 4 (6 * s + j) = 0
        · simp only [q1, q2, if_pos q3, ↓reduceIte]
        · exact absurd ⟨q1, q2, q3⟩ q
  · simp only [f_X11_isBarredIn_12, r_mb, bnd_s, r_mrd, r_mbo, r_mret, r_mthr, r_wA, r_wO, r_madd, r_mput, r_mopt, r_mcn, r_mcs, ite_f, e_isWithin, e_isSlot, e_isItem, e_isGroup, e_isRobot, e_isLot, e_isNotice, e_isOrder, e_isTask, bI_t, bI_f, i10, i00, i01, i11, i20, i30, ↓reduceIte, Int32.le_refl]
theorem Rel.kBarIn (h : Rel B k S w) {s i : Nat} (hs : s < 18) (hi : i < 6) : (brI S w s i → g_X12_isBarredIn (nI s) (nI i) w = some (1, w)) ∧ (¬ brI S w s i → g_X12_isBarredIn (nI s) (nI i) w = some (0, w)) := by
  have key := g_flag (fun f a j => g_X12_isBarredIn_5 f (nI s) (nI i) a j) w 6 (brP S w s i) 0 1 (fun a => some (a, w)) (fun f j hj q => ?_) (fun f j hj q => ?_) (fun f j hj => ?_) (fun f a ha => ?_) FU (FU_gt (by omega))
  · obtain ⟨f1, f2, f3⟩ := key
    exact ⟨fun q => f1 q, fun q => f2 fun j hj r => q ⟨j, hj, r⟩⟩
  · obtain ⟨g, o, hg, ho, e1, e2, e3, e4⟩ := h.gqE hi hj
    obtain ⟨q1, q2, q3⟩ := q
    rw [e3] at q2
    have m1 := (h.it j hj).2.2.2.2.1
    have m2 := (h.it i hi).2.2.2.2.1
    have hlt : ¬ (6 : Int32) ≤ nI j := nI_ge hj (by decide)
    simp only [g_X12_isBarredIn_5, kif, r_gb, gbn_s, r_grd, r_gbo, r_gret, r_gst, k_isIn, k_isSlot, k_isItem, k_isGroup, k_isRobot, k_are, k_holds0, k_holds1, k_holds2, k_holds3, k_bit, k_less, bI_t, bI_f, i10, i00, i01, i11, i20, i30, ↓reduceIte, hlt, nI_eq (show j < 2 ^ 31 by omega) (show i < 2 ^ 31 by omega), q1, r_gnI (show j < mL 12 from hj) (show mL 12 < 2 ^ 31 by decide), r_gnI (show i < mL 12 from hi) (show mL 12 < 2 ^ 31 by decide), nI_clamp (show j < 2 ^ 31 by omega), nI_clamp (show i < 2 ^ 31 by omega), m1, m2, e4, r_gnI (show 4 * g + o < mL 14 from show 4 * g + o < 16 by omega) (show mL 14 < 2 ^ 31 by decide), nI_clamp (show 4 * g + o < 2 ^ 31 by omega), q2, h.kStands hs hj, q3, nI_1]
  · obtain ⟨g, o, hg, ho, e1, e2, e3, e4⟩ := h.gqE hi hj
    unfold brP at q
    rw [e3] at q
    have m1 := (h.it j hj).2.2.2.2.1
    have m2 := (h.it i hi).2.2.2.2.1
    have hlt : ¬ (6 : Int32) ≤ nI j := nI_ge hj (by decide)
    simp only [g_X12_isBarredIn_5, kif, r_gb, gbn_s, r_grd, r_gbo, r_gret, r_gst, k_isIn, k_isSlot, k_isItem, k_isGroup, k_isRobot, k_are, k_holds0, k_holds1, k_holds2, k_holds3, k_bit, k_less, bI_t, bI_f, i10, i00, i01, i11, i20, i30, ↓reduceIte, hlt, nI_eq (show j < 2 ^ 31 by omega) (show i < 2 ^ 31 by omega), r_gnI (show j < mL 12 from hj) (show mL 12 < 2 ^ 31 by decide), r_gnI (show i < mL 12 from hi) (show mL 12 < 2 ^ 31 by decide), nI_clamp (show j < 2 ^ 31 by omega), nI_clamp (show i < 2 ^ 31 by omega), m1, m2, e4, r_gnI (show 4 * g + o < mL 14 from show 4 * g + o < 16 by omega) (show mL 14 < 2 ^ 31 by decide), nI_clamp (show 4 * g + o < 2 ^ 31 by omega), h.kStands hs hj, nI_1]
    by_cases q1 : j = i
    · simp only [q1, ↓reduceIte]
    · by_cases q2 : mA w 14 (4 * g + o) = 0
      · simp only [q1, q2, ↓reduceIte]
      · by_cases q3 : zC S 1 (6 * s + j) = 0 ∧ zC S 4 (6 * s + j) = 0
        · simp only [q1, q2, if_pos q3, ↓reduceIte]
        · exact absurd ⟨q1, q2, q3⟩ q
  · have hlt : ¬ (6 : Int32) ≤ nI j := nI_ge hj (by decide)
    simp only [g_X12_isBarredIn_5, kif, r_gb, gbn_s, r_grd, r_gbo, r_gret, r_gst, k_isIn, k_isSlot, k_isItem, k_isGroup, k_isRobot, k_are, k_holds0, k_holds1, k_holds2, k_holds3, k_bit, k_less, bI_t, bI_f, i10, i00, i01, i11, i20, i30, ↓reduceIte, hlt, nI_1]
  · simp only [g_X12_isBarredIn_5, kif, r_gb, gbn_s, r_grd, r_gbo, r_gret, r_gst, k_isIn, k_isSlot, k_isItem, k_isGroup, k_isRobot, k_are, k_holds0, k_holds1, k_holds2, k_holds3, k_bit, k_less, bI_t, bI_f, i10, i00, i01, i11, i20, i30, ↓reduceIte, show (6 : Int32) ≤ nI 6 by decide, gmd, decide_eq_true ha]
    try rfl
end
