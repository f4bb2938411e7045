/-! the slot's choice -/
section
variable {B k : Nat} {S : Ss} {w : MS}
noncomputable def bq (p : Prop) : Int32 := @ite Int32 p (Classical.propDecidable p) 1 0
theorem bq_t {p : Prop} (h : p) : bq p = 1 := by unfold bq; exact if_pos h
theorem bq_f {p : Prop} (h : ¬ p) : bq p = 0 := by unfold bq; exact if_neg h
theorem md6 : ∀ s, s < 18 → nI s - nI s / 6 * 6 = nI (s % 6) := by decide +kernel
theorem md60 : ∀ s, s < 18 → (nI (s % 6) = 0 ↔ s % 6 = 0) ∧ (nI (s % 6) = 5 ↔ s % 6 = 5) ∧ (nI (s % 6) ≤ 0 ↔ s % 6 = 0) ∧ ((5 : Int32) ≤ nI (s % 6) ↔ s % 6 = 5) := by decide +kernel
theorem Rel.eBarI (h : Rel B k S w) {s i : Nat} (hs : s < 18) (hi : i < 6) : (f_X11_isBarredIn (nI s) i).1 S = some (bq (brI S w s i), S) := by
  obtain ⟨a1, a2⟩ := h.eBarIn hs hi
  by_cases q : brI S w s i
  · rw [bq_t q]; exact a1 q
  · rw [bq_f q]; exact a2 q
theorem Rel.kBarI (h : Rel B k S w) {s i : Nat} (hs : s < 18) (hi : i < 6) : g_X12_isBarredIn (nI s) (nI i) w = some (bq (brI S w s i), w) := by
  obtain ⟨a1, a2⟩ := h.kBarIn hs hi
  by_cases q : brI S w s i
  · rw [bq_t q]; exact a1 q
  · rw [bq_f q]; exact a2 q
def brA (S : Ss) (w : MS) (s i : Nat) : Prop := brI S w s i ∨ (¬ s % 6 = 0 ∧ brI S w (s - 1) i) ∨ (¬ s % 6 = 5 ∧ brI S w (s + 1) i)
theorem nI_p1 {s : Nat} (h : ¬ s % 6 = 0) : nI s - 1 = nI (s - 1) := by
  obtain ⟨r, rfl⟩ : ∃ r, s = r + 1 := ⟨s - 1, by omega⟩
  rw [nI_pred]; rfl
theorem Rel.kBarA (h : Rel B k S w) {s i : Nat} (hs : s < 18) (hi : i < 6) : g_X12_isBarredAt (nI s) (nI i) w = some (bq (brA S w s i), w) := by
  obtain ⟨m0, m5, m0', m5'⟩ := md60 s hs
  have e1 := h.kBarI hs hi
  have last : ∀ x : Int32, (x = if s % 6 = 0 then 0 else 1) → ¬ brI S w s i → (¬ s % 6 = 5 → g_X12_isBarredAt_52 (nI s) (nI i) 1 w = some (bq (brI S w (s + 1) i), w)) ∧ g_X12_isBarredAt_52 (nI s) (nI i) 0 w = some (0, w) := fun x _ _ => by
    refine ⟨fun q => ?_, by simp only [g_X12_isBarredAt_52, kif, r_gb, gbn_s, r_grd, r_gbo, r_gret, r_gst, k_isIn, k_isSlot, k_isItem, k_isGroup, k_isRobot, k_are, k_holds0, k_holds1, k_holds2, k_holds3, k_bit, k_less, bI_t, bI_f, i10, i00, i01, i11, i20, i30, ↓reduceIte]⟩
    have e2 := h.kBarI (s := s + 1) (by omega) hi
    simp only [g_X12_isBarredAt_52, kif, r_gb, gbn_s, r_grd, r_gbo, r_gret, r_gst, k_isIn, k_isSlot, k_isItem, k_isGroup, k_isRobot, k_are, k_holds0, k_holds1, k_holds2, k_holds3, k_bit, k_less, bI_t, bI_f, i10, i00, i01, i11, i20, i30, ↓reduceIte, nI_1, e2]
    by_cases r : brI S w (s + 1) i
    · simp only [bq_t r, kif, r_gb, gbn_s, r_grd, r_gbo, r_gret, r_gst, k_isIn, k_isSlot, k_isItem, k_isGroup, k_isRobot, k_are, k_holds0, k_holds1, k_holds2, k_holds3, k_bit, k_less, bI_t, bI_f, i10, i00, i01, i11, i20, i30, ↓reduceIte]
    · simp only [bq_f r, kif, r_gb, gbn_s, r_grd, r_gbo, r_gret, r_gst, k_isIn, k_isSlot, k_isItem, k_isGroup, k_isRobot, k_are, k_holds0, k_holds1, k_holds2, k_holds3, k_bit, k_less, bI_t, bI_f, i10, i00, i01, i11, i20, i30, ↓reduceIte]
  by_cases r1 : brI S w s i
  · rw [bq_t (show brA S w s i from Or.inl r1)]
    by_cases q0 : s % 6 = 0
    · by_cases q5 : s % 6 = 5
      · omega
      · have c0 := m0'.mpr q0
        have c5 := mt m5'.mp q5
        simp only [g_X12_isBarredAt, g_X12_isBarredAt_12, g_X12_isBarredAt_26, kif, r_gb, gbn_s, r_grd, r_gbo, r_gret, r_gst, k_isIn, k_isSlot, k_isItem, k_isGroup, k_isRobot, k_are, k_holds0, k_holds1, k_holds2, k_holds3, k_bit, k_less, bI_t, bI_f, i10, i00, i01, i11, i20, i30, ↓reduceIte, md6 s hs, c0, c5, e1, bq_t r1]
        try rfl
    · have c0 := mt m0'.mp q0
      by_cases q5 : s % 6 = 5
      · have c5 := m5'.mpr q5
        simp only [g_X12_isBarredAt, g_X12_isBarredAt_12, g_X12_isBarredAt_26, kif, r_gb, gbn_s, r_grd, r_gbo, r_gret, r_gst, k_isIn, k_isSlot, k_isItem, k_isGroup, k_isRobot, k_are, k_holds0, k_holds1, k_holds2, k_holds3, k_bit, k_less, bI_t, bI_f, i10, i00, i01, i11, i20, i30, ↓reduceIte, md6 s hs, c0, c5, e1, bq_t r1]
        try rfl
      · have c5 := mt m5'.mp q5
        simp only [g_X12_isBarredAt, g_X12_isBarredAt_12, g_X12_isBarredAt_26, kif, r_gb, gbn_s, r_grd, r_gbo, r_gret, r_gst, k_isIn, k_isSlot, k_isItem, k_isGroup, k_isRobot, k_are, k_holds0, k_holds1, k_holds2, k_holds3, k_bit, k_less, bI_t, bI_f, i10, i00, i01, i11, i20, i30, ↓reduceIte, md6 s hs, c0, c5, e1, bq_t r1]
        try rfl
  · obtain ⟨l1, l2⟩ := last _ rfl r1
    by_cases q0 : s % 6 = 0
    · have q5 : ¬ s % 6 = 5 := by omega
      have e : bq (brA S w s i) = bq (brI S w (s + 1) i) := by
        by_cases r : brI S w (s + 1) i
        · rw [bq_t r, bq_t (show brA S w s i from Or.inr (Or.inr ⟨q5, r⟩))]
        · rw [bq_f r, bq_f]
          rintro (z | z | z)
          · exact r1 z
          · exact z.1 q0
          · exact r z.2
      rw [e]
      have l1' := l1 q5
      have c0 := m0'.mpr q0
      have c5 := mt m5'.mp q5
      simp only [g_X12_isBarredAt, g_X12_isBarredAt_12, g_X12_isBarredAt_26, kif, r_gb, gbn_s, r_grd, r_gbo, r_gret, r_gst, k_isIn, k_isSlot, k_isItem, k_isGroup, k_isRobot, k_are, k_holds0, k_holds1, k_holds2, k_holds3, k_bit, k_less, bI_t, bI_f, i10, i00, i01, i11, i20, i30, ↓reduceIte, md6 s hs, c0, c5, e1, bq_f r1, l1']
    · have e2 := h.kBarI (s := s - 1) (by omega) hi
      have c0 := mt m0'.mp q0
      by_cases r2 : brI S w (s - 1) i
      · rw [bq_t (show brA S w s i from Or.inr (Or.inl ⟨q0, r2⟩))]
        by_cases q5 : s % 6 = 5
        · have c5 := m5'.mpr q5
          simp only [g_X12_isBarredAt, g_X12_isBarredAt_12, g_X12_isBarredAt_26, kif, r_gb, gbn_s, r_grd, r_gbo, r_gret, r_gst, k_isIn, k_isSlot, k_isItem, k_isGroup, k_isRobot, k_are, k_holds0, k_holds1, k_holds2, k_holds3, k_bit, k_less, bI_t, bI_f, i10, i00, i01, i11, i20, i30, ↓reduceIte, md6 s hs, c0, c5, e1, bq_f r1, nI_p1 q0, e2, bq_t r2]
          try rfl
        · have c5 := mt m5'.mp q5
          simp only [g_X12_isBarredAt, g_X12_isBarredAt_12, g_X12_isBarredAt_26, kif, r_gb, gbn_s, r_grd, r_gbo, r_gret, r_gst, k_isIn, k_isSlot, k_isItem, k_isGroup, k_isRobot, k_are, k_holds0, k_holds1, k_holds2, k_holds3, k_bit, k_less, bI_t, bI_f, i10, i00, i01, i11, i20, i30, ↓reduceIte, md6 s hs, c0, c5, e1, bq_f r1, nI_p1 q0, e2, bq_t r2]
          try rfl
      · by_cases q5 : s % 6 = 5
        · have e : bq (brA S w s i) = 0 := bq_f (by
            rintro (z | z | z)
            · exact r1 z
            · exact r2 z.2
            · exact z.1 q5)
          rw [e]
          have c5 := m5'.mpr q5
          simp only [g_X12_isBarredAt, g_X12_isBarredAt_12, g_X12_isBarredAt_26, kif, r_gb, gbn_s, r_grd, r_gbo, r_gret, r_gst, k_isIn, k_isSlot, k_isItem, k_isGroup, k_isRobot, k_are, k_holds0, k_holds1, k_holds2, k_holds3, k_bit, k_less, bI_t, bI_f, i10, i00, i01, i11, i20, i30, ↓reduceIte, md6 s hs, c0, c5, e1, bq_f r1, nI_p1 q0, e2, bq_f r2, l2]
          try rfl
        · have e : bq (brA S w s i) = bq (brI S w (s + 1) i) := by
            by_cases r : brI S w (s + 1) i
            · rw [bq_t r, bq_t (show brA S w s i from Or.inr (Or.inr ⟨q5, r⟩))]
            · rw [bq_f r, bq_f]
              rintro (z | z | z)
              · exact r1 z
              · exact r2 z.2
              · exact r z.2
          rw [e]
          have l1' := l1 q5
          have c5 := mt m5'.mp q5
          simp only [g_X12_isBarredAt, g_X12_isBarredAt_12, g_X12_isBarredAt_26, kif, r_gb, gbn_s, r_grd, r_gbo, r_gret, r_gst, k_isIn, k_isSlot, k_isItem, k_isGroup, k_isRobot, k_are, k_holds0, k_holds1, k_holds2, k_holds3, k_bit, k_less, bI_t, bI_f, i10, i00, i01, i11, i20, i30, ↓reduceIte, md6 s hs, c0, c5, e1, bq_f r1, nI_p1 q0, e2, bq_f r2, l1']
def tkP (S : Ss) (w : MS) (s i : Nat) (n : Int32) : Prop := zO S 902 s = none ∧ zA S 900 s = zA S 301 i ∧ n * zA S 302 i ≤ frR S s ∧ ¬ brA S w s i
theorem Rel.eTake (h : Rel B k S w) {s i : Nat} (hs : s < 18) (hi : i < 6) (n : Int32) : (f_X11_canTake (nI s) i n).1 S = some (bq (tkP S w s i n), S) := by
  obtain ⟨m0, m5, m0', m5'⟩ := md60 s hs
  have e1 := h.eBarI hs hi
  have e0 := e_room (S := S) (fun i hi => (h.it i hi).1) hs
  have hok := okI_n hs (show 18 < 2 ^ 31 by decide)
  have hix := r_mnI (R := Int32) (show s < aLn 1100 from hs) (show aLn 1100 < 2 ^ 31 by decide)
  have hcl := nI_clamp (show s < 2 ^ 31 by omega)
  cases ho : zO S 902 s with
  | some j =>
    rw [bq_f (fun r => by have := r.1; rw [ho] at this; cases this)]
    simp only [f_X11_canTake, r_mb, bnd_s, r_mrd, r_mbo, r_mret, r_mthr, r_wA, r_wO, r_madd, r_mput, r_mopt, r_mcn, r_mcs, ite_f, e_isWithin, e_isSlot, e_isItem, e_isGroup, e_isRobot, e_isLot, e_isNotice, e_isOrder, e_isTask, bI_t, bI_f, i10, i00, i01, i11, i20, i30, ↓reduceIte, hok, r_mnI (show s < aLn 1100 from hs) (show aLn 1100 < 2 ^ 31 by decide), hcl, ho]
  | none =>
    by_cases h1 : zA S 900 s = zA S 301 i
    · by_cases h2 : n * zA S 302 i ≤ frR S s
      · have e : bq (tkP S w s i n) = bq (¬ brA S w s i) := by
          by_cases r : brA S w s i
          · rw [bq_f (fun z => z.2.2.2 r), bq_f (fun z => z r)]
          · rw [bq_t ⟨ho, h1, h2, r⟩, bq_t r]
        rw [e]
        have last : ¬ brI S w s i → (¬ s % 6 = 0 → ¬ brI S w (s - 1) i) → (f_X11_canTake_82 (nI s) i (nI (s % 6))).1 S = some (bq (¬ brA S w s i), S) := fun r1 r2 => by
          by_cases q5 : s % 6 = 5
          · rw [bq_t (p := ¬ brA S w s i) (by
              rintro (z | z | z)
              · exact r1 z
              · exact r2 z.1 z.2
              · exact z.1 q5)]
            simp only [f_X11_canTake_82, r_mb, bnd_s, r_mrd, r_mbo, r_mret, r_mthr, r_wA, r_wO, r_madd, r_mput, r_mopt, r_mcn, r_mcs, ite_f, e_isWithin, e_isSlot, e_isItem, e_isGroup, e_isRobot, e_isLot, e_isNotice, e_isOrder, e_isTask, bI_t, bI_f, i10, i00, i01, i11, i20, i30, ↓reduceIte, m5.mpr q5]
          · have e2 := h.eBarI (s := s + 1) (by omega) hi
            by_cases r : brI S w (s + 1) i
            · rw [bq_f (p := ¬ brA S w s i) (fun z => z (Or.inr (Or.inr ⟨q5, r⟩)))]
              simp only [f_X11_canTake_82, r_mb, bnd_s, r_mrd, r_mbo, r_mret, r_mthr, r_wA, r_wO, r_madd, r_mput, r_mopt, r_mcn, r_mcs, ite_f, e_isWithin, e_isSlot, e_isItem, e_isGroup, e_isRobot, e_isLot, e_isNotice, e_isOrder, e_isTask, bI_t, bI_f, i10, i00, i01, i11, i20, i30, ↓reduceIte, m5, q5, nI_1, e2, bq_t r]
            · rw [bq_t (p := ¬ brA S w s i) (by
                rintro (z | z | z)
                · exact r1 z
                · exact r2 z.1 z.2
                · exact r z.2)]
              simp only [f_X11_canTake_82, r_mb, bnd_s, r_mrd, r_mbo, r_mret, r_mthr, r_wA, r_wO, r_madd, r_mput, r_mopt, r_mcn, r_mcs, ite_f, e_isWithin, e_isSlot, e_isItem, e_isGroup, e_isRobot, e_isLot, e_isNotice, e_isOrder, e_isTask, bI_t, bI_f, i10, i00, i01, i11, i20, i30, ↓reduceIte, m5, q5, nI_1, e2, bq_f r]
        by_cases r1 : brI S w s i
        · rw [bq_f (p := ¬ brA S w s i) (fun z => z (Or.inl r1))]
          simp only [f_X11_canTake, r_mb, bnd_s, r_mrd, r_mbo, r_mret, r_mthr, r_wA, r_wO, r_madd, r_mput, r_mopt, r_mcn, r_mcs, ite_f, e_isWithin, e_isSlot, e_isItem, e_isGroup, e_isRobot, e_isLot, e_isNotice, e_isOrder, e_isTask, bI_t, bI_f, i10, i00, i01, i11, i20, i30, ↓reduceIte, hok, r_mnI (show s < aLn 1100 from hs) (show aLn 1100 < 2 ^ 31 by decide), hcl, ho, h1, e0, h2, md6 s hs, e1, bq_t r1]
        · by_cases q0 : s % 6 = 0
          · have l := last r1 (fun z => absurd q0 z)
            simp only [f_X11_canTake, r_mb, bnd_s, r_mrd, r_mbo, r_mret, r_mthr, r_wA, r_wO, r_madd, r_mput, r_mopt, r_mcn, r_mcs, ite_f, e_isWithin, e_isSlot, e_isItem, e_isGroup, e_isRobot, e_isLot, e_isNotice, e_isOrder, e_isTask, bI_t, bI_f, i10, i00, i01, i11, i20, i30, ↓reduceIte, hok, r_mnI (show s < aLn 1100 from hs) (show aLn 1100 < 2 ^ 31 by decide), hcl, ho, h1, e0, h2, md6 s hs, e1, bq_f r1, if_pos (m0.mpr q0), l]
          · have e2 := h.eBarI (s := s - 1) (by omega) hi
            by_cases r2 : brI S w (s - 1) i
            · rw [bq_f (p := ¬ brA S w s i) (fun z => z (Or.inr (Or.inl ⟨q0, r2⟩)))]
              simp only [f_X11_canTake, r_mb, bnd_s, r_mrd, r_mbo, r_mret, r_mthr, r_wA, r_wO, r_madd, r_mput, r_mopt, r_mcn, r_mcs, ite_f, e_isWithin, e_isSlot, e_isItem, e_isGroup, e_isRobot, e_isLot, e_isNotice, e_isOrder, e_isTask, bI_t, bI_f, i10, i00, i01, i11, i20, i30, ↓reduceIte, hok, r_mnI (show s < aLn 1100 from hs) (show aLn 1100 < 2 ^ 31 by decide), hcl, ho, h1, e0, h2, md6 s hs, e1, bq_f r1, m0, q0, nI_p1 q0, e2, bq_t r2]
            · have l := last r1 (fun _ => r2)
              simp only [f_X11_canTake, r_mb, bnd_s, r_mrd, r_mbo, r_mret, r_mthr, r_wA, r_wO, r_madd, r_mput, r_mopt, r_mcn, r_mcs, ite_f, e_isWithin, e_isSlot, e_isItem, e_isGroup, e_isRobot, e_isLot, e_isNotice, e_isOrder, e_isTask, bI_t, bI_f, i10, i00, i01, i11, i20, i30, ↓reduceIte, hok, r_mnI (show s < aLn 1100 from hs) (show aLn 1100 < 2 ^ 31 by decide), hcl, ho, h1, e0, h2, md6 s hs, e1, bq_f r1, if_neg (fun z => q0 (m0.mp z)), nI_p1 q0, e2, bq_f r2, l]
      · rw [bq_f (fun r => h2 r.2.2.1)]
        simp only [f_X11_canTake, r_mb, bnd_s, r_mrd, r_mbo, r_mret, r_mthr, r_wA, r_wO, r_madd, r_mput, r_mopt, r_mcn, r_mcs, ite_f, e_isWithin, e_isSlot, e_isItem, e_isGroup, e_isRobot, e_isLot, e_isNotice, e_isOrder, e_isTask, bI_t, bI_f, i10, i00, i01, i11, i20, i30, ↓reduceIte, hok, r_mnI (show s < aLn 1100 from hs) (show aLn 1100 < 2 ^ 31 by decide), hcl, ho, h1, e0, h2]
    · rw [bq_f (fun r => h1 r.2.1)]
      simp only [f_X11_canTake, r_mb, bnd_s, r_mrd, r_mbo, r_mret, r_mthr, r_wA, r_wO, r_madd, r_mput, r_mopt, r_mcn, r_mcs, ite_f, e_isWithin, e_isSlot, e_isItem, e_isGroup, e_isRobot, e_isLot, e_isNotice, e_isOrder, e_isTask, bI_t, bI_f, i10, i00, i01, i11, i20, i30, ↓reduceIte, hok, r_mnI (show s < aLn 1100 from hs) (show aLn 1100 < 2 ^ 31 by decide), hcl, ho, h1]
end
