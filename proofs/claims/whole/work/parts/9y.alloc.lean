/-! allocate -/
section
variable {B k : Nat} {S T : Ss} {w v : MS}
theorem AQ.kT (h : AQ S T) : ∀ n, cT T n = cT S n
  | 0 => rfl
  | t + 1 => by
    have e := AQ.kT h t
    show cT T t + _ = cT S t + _
    rw [e, h.1 1005 (by decide), h.1 1006 (by decide)]
theorem AQ.kS (h : AQ S T) : ∀ n, cS T n = cS S n
  | 0 => rfl
  | o + 1 => by
    have e := AQ.kS h o
    show cS T o + _ = cS S o + _
    rw [e, h.1 705 (by decide)]
theorem Rel.alB (h : Rel B k S w) : 0 ≤ PC T + PL T ∧ PC S + PL S ≤ 240 := by
  have h8 := h.or.1
  have b := o1_b
  constructor
  · have e1 : 0 ≤ PC T := sz_0 _ fun l _ => sz_0 _ fun s _ => (b _).1
    have e2 : 0 ≤ PL T := sz_0 _ fun o _ => sz_0 _ fun j _ => (b _).1
    omega
  · have e0 : ∀ l, sz (List.range 18) (fun s => o1 (fre S s l)) ≤ 18 := fun l => by
      have := sz_ub (z := fun s => o1 (fre S s l)) (c := 1) (List.range 18) fun s _ => (b _).2
      rw [List.length_range] at this; omega
    have e1 : PC S ≤ 216 := by
      have := sz_ub (z := fun l => sz (List.range 18) (fun s => o1 (fre S s l))) (c := 18) (List.range 12) fun l _ => e0 l
      rw [List.length_range] at this
      unfold PC; omega
    have e3 : ∀ o, o < zN S 7 → sz (zL S 704 o) (fun j => o1 (lk S j)) ≤ 3 := fun o ho => by
      have := sz_ub (z := fun j => o1 (lk S j)) (c := 1) (zL S 704 o) fun s _ => (b _).2
      have := (h.li.1 o ho).1
      omega
    have e2 : PL S ≤ 24 := by
      have := sz_ub (z := fun o => sz (zL S 704 o) (fun j => o1 (lk S j))) (c := 3) (List.range (zN S 7)) fun o ho => e3 o (List.mem_range.mp ho)
      rw [List.length_range] at this
      unfold PL; omega
    omega
end
theorem alO {B k : Nat} : ∀ (d o : Nat) (S : Ss) (w : MS), Rel B k S w → o + d = zN S 7 → ∀ x x2, ∃ T v r, (∀ f K, d < f → (f_X11_allocate_11 K f x x2 (nI o)).1 S = (K r (x2 + -1)).1 T) ∧ (∀ f K, d < f → g_X12_allocate_16 K f x x2 (nI o) w = K r (x2 + -1) v) ∧ Rel B k T v ∧ AQ S T ∧ AL S T
  | 0, o, S, w, h, ho, x, x2 => by
    have e : o = zN S 7 := by omega
    subst e
    refine ⟨S, w, x, fun f K hf => ?_, fun f K hf => ?_, h, AQ.rf S, AL.rf S⟩
    · obtain ⟨f, rfl⟩ : ∃ f', f = f' + 1 := ⟨f - 1, by omega⟩
      simp only [f_X11_allocate_11, r_mb, bnd_s, r_mrd, r_mbo, r_mret, r_mthr, r_wA, r_wO, r_madd, r_mput, r_mopt, r_mcn, r_mcs, ite_f, e_isWithin, e_isSlot, e_isItem, e_isGroup, e_isRobot, e_isLot, e_isNotice, e_isOrder, e_isTask, bI_t, bI_f, i10, i00, i01, i11, i20, i30, ↓reduceIte, h.nor, Int32.le_refl]
    · obtain ⟨f, rfl⟩ : ∃ f', f = f' + 1 := ⟨f - 1, by omega⟩
      simp only [g_X12_allocate_16, kif, r_gb, gbn_s, r_grd, r_gbo, r_gret, r_gst, k_isIn, k_isSlot, k_isItem, k_isGroup, k_isRobot, k_are, k_holds0, k_holds1, k_holds2, k_holds3, k_bit, k_less, bI_t, bI_f, i10, i00, i01, i11, i20, i30, ↓reduceIte, h.or.2.2.2.1, Int32.le_refl]
  | d + 1, o, S, w, h, ho, x, x2 => by
    have h8 := h.or.1
    have o7 : o < zN S 7 := by omega
    obtain ⟨-, c2, -, -, -, c6, -⟩ := h.or.2.2.2.2.1 o o7
    have hge : ¬ nI (zN S 7) ≤ nI o := nI_ge o7 (by omega)
    have hr : (nI o).toNatClampNeg = o := nI_clamp (by omega)
    have b32 := r_gnI (R := Int32) (show o < mL 32 from show o < 8 by omega) (show mL 32 < 2 ^ 31 by decide)
    have b28 := r_gnI (R := Int32) (show o < mL 28 from show o < 8 by omega) (show mL 28 < 2 ^ 31 by decide)
    by_cases q : zA S 701 o = x2 ∧ zA S 705 o = 0
    · obtain ⟨S1, w1, r1, a1, a2, a3, a4, a5⟩ := h.alOrd o7 q.2
      obtain ⟨T, v, r, d1, d2, d3, d4, d5⟩ := alO (B := B) (k := k) d (o + 1) S1 w1 a3 (by rw [a4.2.2.2.2.2 7 (by decide)]; omega) (x + r1) x2
      refine ⟨T, v, r, fun f K hf => ?_, fun f K hf => ?_, d3, a4.tr d4, a5.tr d5⟩
      · obtain ⟨f, rfl⟩ : ∃ f', f = f' + 1 := ⟨f - 1, by omega⟩
        rw [← d1 f K (by omega)]
        simp only [f_X11_allocate_11, r_mb, bnd_s, r_mrd, r_mbo, r_mret, r_mthr, r_wA, r_wO, r_madd, r_mput, r_mopt, r_mcn, r_mcs, ite_f, e_isWithin, e_isSlot, e_isItem, e_isGroup, e_isRobot, e_isLot, e_isNotice, e_isOrder, e_isTask, bI_t, bI_f, i10, i00, i01, i11, i20, i30, ↓reduceIte, h.nor, if_neg hge, mlget, h.atO o7, if_pos q.1, if_pos q.2, a1, nI_1]
      · obtain ⟨f, rfl⟩ : ∃ f', f = f' + 1 := ⟨f - 1, by omega⟩
        rw [← d2 f K (by omega)]
        simp only [g_X12_allocate_16, kif, r_gb, gbn_s, r_grd, r_gbo, r_gret, r_gst, k_isIn, k_isSlot, k_isItem, k_isGroup, k_isRobot, k_are, k_holds0, k_holds1, k_holds2, k_holds3, k_bit, k_less, bI_t, bI_f, i10, i00, i01, i11, i20, i30, ↓reduceIte, h.or.2.2.2.1, if_neg hge, b32, b28, hr, c6, c2, if_pos q.1, if_pos q.2, a2, nI_1]
    · obtain ⟨T, v, r, d1, d2, d3, d4, d5⟩ := alO (B := B) (k := k) d (o + 1) S w h (by omega) x x2
      refine ⟨T, v, r, fun f K hf => ?_, fun f K hf => ?_, d3, d4, d5⟩
      · obtain ⟨f, rfl⟩ : ∃ f', f = f' + 1 := ⟨f - 1, by omega⟩
        rw [← d1 f K (by omega)]
        by_cases q1 : zA S 701 o = x2
        · have q2 : ¬ zA S 705 o = 0 := fun e => q ⟨q1, e⟩
          simp only [f_X11_allocate_11, r_mb, bnd_s, r_mrd, r_mbo, r_mret, r_mthr, r_wA, r_wO, r_madd, r_mput, r_mopt, r_mcn, r_mcs, ite_f, e_isWithin, e_isSlot, e_isItem, e_isGroup, e_isRobot, e_isLot, e_isNotice, e_isOrder, e_isTask, bI_t, bI_f, i10, i00, i01, i11, i20, i30, ↓reduceIte, h.nor, if_neg hge, mlget, h.atO o7, if_pos q1, if_neg q2, nI_1]
        · simp only [f_X11_allocate_11, r_mb, bnd_s, r_mrd, r_mbo, r_mret, r_mthr, r_wA, r_wO, r_madd, r_mput, r_mopt, r_mcn, r_mcs, ite_f, e_isWithin, e_isSlot, e_isItem, e_isGroup, e_isRobot, e_isLot, e_isNotice, e_isOrder, e_isTask, bI_t, bI_f, i10, i00, i01, i11, i20, i30, ↓reduceIte, h.nor, if_neg hge, mlget, h.atO o7, if_neg q1, nI_1]
      · obtain ⟨f, rfl⟩ : ∃ f', f = f' + 1 := ⟨f - 1, by omega⟩
        rw [← d2 f K (by omega)]
        by_cases q2 : zA S 705 o = 0
        · have q1 : ¬ zA S 701 o = x2 := fun e => q ⟨e, q2⟩
          simp only [g_X12_allocate_16, kif, r_gb, gbn_s, r_grd, r_gbo, r_gret, r_gst, k_isIn, k_isSlot, k_isItem, k_isGroup, k_isRobot, k_are, k_holds0, k_holds1, k_holds2, k_holds3, k_bit, k_less, bI_t, bI_f, i10, i00, i01, i11, i20, i30, ↓reduceIte, h.or.2.2.2.1, if_neg hge, b32, b28, hr, c6, c2, if_neg q1, if_pos q2, Int32.add_zero, nI_1]
        · simp only [g_X12_allocate_16, kif, r_gb, gbn_s, r_grd, r_gbo, r_gret, r_gst, k_isIn, k_isSlot, k_isItem, k_isGroup, k_isRobot, k_are, k_holds0, k_holds1, k_holds2, k_holds3, k_bit, k_less, bI_t, bI_f, i10, i00, i01, i11, i20, i30, ↓reduceIte, h.or.2.2.2.1, if_neg hge, b32, b28, hr, c6, c2, if_neg q2, Int32.add_zero, nI_1]
theorem nI_pm (n : Nat) : nI (n + 1) + -1 = nI n := by
  rw [← nI_1, Int32.add_assoc, show (1 : Int32) + -1 = 0 by decide, Int32.add_zero]
theorem alR {B k : Nat} : ∀ (n : Nat) (S : Ss) (w : MS), Rel B k S w → n ≤ 10 → ∀ x, ∃ T v r, (∀ f, n < f → (f_X11_allocate_5 f x (nI n + -1)).1 S = some (r, T)) ∧ (∀ f, n < f → g_X12_allocate_10 f x (nI n + -1) w = some (r, v)) ∧ Rel B k T v ∧ AQ S T ∧ AL S T
  | 0, S, w, h, hn, x => by
    have lt : nI 0 + -1 < 0 := by decide
    refine ⟨S, w, x, fun f hf => ?_, fun f hf => ?_, h, AQ.rf S, AL.rf S⟩
    · obtain ⟨f, rfl⟩ : ∃ f', f = f' + 1 := ⟨f - 1, by omega⟩
      simp only [f_X11_allocate_5, r_mb, bnd_s, r_mrd, r_mbo, r_mret, r_mthr, r_wA, r_wO, r_madd, r_mput, r_mopt, r_mcn, r_mcs, ite_f, e_isWithin, e_isSlot, e_isItem, e_isGroup, e_isRobot, e_isLot, e_isNotice, e_isOrder, e_isTask, bI_t, bI_f, i10, i00, i01, i11, i20, i30, ↓reduceIte, if_pos lt]
    · obtain ⟨f, rfl⟩ : ∃ f', f = f' + 1 := ⟨f - 1, by omega⟩
      simp only [g_X12_allocate_10, kif, r_gb, gbn_s, r_grd, r_gbo, r_gret, r_gst, k_isIn, k_isSlot, k_isItem, k_isGroup, k_isRobot, k_are, k_holds0, k_holds1, k_holds2, k_holds3, k_bit, k_less, bI_t, bI_f, i10, i00, i01, i11, i20, i30, ↓reduceIte, if_pos lt]
  | n + 1, S, w, h, hn, x => by
    have h8 := h.or.1
    have ge : ¬ nI n < 0 := fun r => by
      have e1 := Int32.lt_iff_toInt_lt.mp r
      have e2 := nI_toInt (show n < 2 ^ 31 by omega)
      have e3 : (0 : Int32).toInt = 0 := rfl
      omega
    rw [nI_pm]
    obtain ⟨S1, w1, r1, a1, a2, a3, a4, a5⟩ := alO (B := B) (k := k) (zN S 7) 0 S w h (by omega) x (nI n)
    obtain ⟨T, v, r, d1, d2, d3, d4, d5⟩ := alR (B := B) (k := k) n S1 w1 a3 (by omega) r1
    have hF : zN S 7 < FU := FU_gt (by omega)
    refine ⟨T, v, r, fun f hf => ?_, fun f hf => ?_, d3, a4.tr d4, a5.tr d5⟩
    · obtain ⟨f, rfl⟩ : ∃ f', f = f' + 1 := ⟨f - 1, by omega⟩
      rw [← d1 f (by omega), ← a1 FU (f_X11_allocate_5 f) hF]
      simp only [f_X11_allocate_5, r_mb, bnd_s, r_mrd, r_mbo, r_mret, r_mthr, r_wA, r_wO, r_madd, r_mput, r_mopt, r_mcn, r_mcs, ite_f, e_isWithin, e_isSlot, e_isItem, e_isGroup, e_isRobot, e_isLot, e_isNotice, e_isOrder, e_isTask, bI_t, bI_f, i10, i00, i01, i11, i20, i30, ↓reduceIte, if_neg ge]
      rfl
    · obtain ⟨f, rfl⟩ : ∃ f', f = f' + 1 := ⟨f - 1, by omega⟩
      rw [← d2 f (by omega), ← a2 FU (g_X12_allocate_10 f) hF]
      simp only [g_X12_allocate_10, kif, r_gb, gbn_s, r_grd, r_gbo, r_gret, r_gst, k_isIn, k_isSlot, k_isItem, k_isGroup, k_isRobot, k_are, k_holds0, k_holds1, k_holds2, k_holds3, k_bit, k_less, bI_t, bI_f, i10, i00, i01, i11, i20, i30, ↓reduceIte, if_neg ge]
      rfl
section
variable {m : Nat} {S : Ss} {w : MS}
theorem s_allocate (g : GG m S w) (hm : m < 512) : STn GG m S w f_X11_allocate g_X12_allocate := by
  obtain ⟨B, k, hB, hk, -, -, -, h⟩ := g.out
  obtain ⟨T, v, r, e1, e2, e3, e4, ⟨a, e5, e6⟩⟩ := alR 10 S (mSI 0 0 w) (h.thr 0) (Nat.le_refl _) 0
  have z9 : nI 10 + -1 = (9 : Int32) := by decide
  rw [z9] at e1 e2
  obtain ⟨b1, b2⟩ := Rel.alB (T := T) h
  have ha : a ≤ 240 := by omega
  have ec : cT T (zN T 10) + 12 * cS T (zN T 7) = cT S (zN S 10) + 12 * cS S (zN S 7) := by rw [e4.kT, e4.kS, e4.2.2.2.2.2 10 (by decide), e4.2.2.2.2.2 7 (by decide)]
  refine ⟨r, T, v, ?_, ?_, g.ics hm e5 (by omega) (by omega) ec hB hk e3⟩
  · unfold f_X11_allocate; exact e1 FU (FU_gt (by decide))
  · simp only [g_X12_allocate, r_gst]; exact e2 FU (FU_gt (by decide))
end
