/-! a wave, whole -/
theorem waveQ {B k r q : Nat} {S0 : Ss} (hr : r < 3) (z : Int32) (hq : q < 18) (hnd : ((hL S0).filter (hasO S0)).Nodup) (hlen : ((hL S0).filter (hasO S0)).length ≤ 2376) {T : Ss} {v : MS} : ∀ d Q, Q + d = 96 → ∀ (S : Ss) (w : MS), Rel B k S w → FQ S0 S → (∀ y, y ∈ hL S0 → q * 96 + Q ≤ kR S0 y → zO S 205 y = zO S0 205 y) → JC B k r (Wr (kR S0) ((hL S0).filter (cdS S0 z)) (1728 - (q * 96 + Q))) S w T v → ∀ f, d < f → ∃ S' w', g_X12_makesPicks_3 f (nI r) z (nI (wk q)) (nI Q) w = some ((), w') ∧ Rel B k S' w' ∧ FQ S0 S' ∧ (∀ y, y ∈ hL S0 → q * 96 + 96 ≤ kR S0 y → zO S' 205 y = zO S0 205 y) ∧ JC B k r (Wr (kR S0) ((hL S0).filter (cdS S0 z)) (1728 - (q * 96 + 96))) S' w' T v
  | 0, Q, hQd, S, w, h, hF, hU, hJ, f, hf => by
    obtain ⟨f, rfl⟩ : ∃ f', f = f' + 1 := ⟨f - 1, by omega⟩
    have e : Q = 96 := by omega
    subst e
    refine ⟨S, w, ?_, h, hF, hU, hJ⟩
    simp only [g_X12_makesPicks_3, kif, r_gb, gbn_s, r_grd, r_gbo, r_gret, r_gst, k_isIn, k_isSlot, k_isItem, k_isGroup, k_isRobot, k_are, k_holds0, k_holds1, k_holds2, k_holds3, k_bit, k_less, bI_t, bI_f, i10, i00, i01, i11, i20, i30, ↓reduceIte, show (96 : Int32) ≤ nI 96 by decide]
  | d + 1, Q, hQd, S, w, h, hF, hU, hJ, f, hf => by
    obtain ⟨f, rfl⟩ : ∃ f', f = f' + 1 := ⟨f - 1, by omega⟩
    have h96 : ¬ (96 : Int32) ≤ nI Q := nI_ge (b := 96) (by omega) (by decide)
    obtain ⟨D, hD⟩ : ∃ D, 1728 - (q * 96 + Q) = D + 1 := ⟨1727 - (q * 96 + Q), by omega⟩
    have hD2 : 1727 - D = q * 96 + Q := by omega
    have hD3 : 1728 - (q * 96 + (Q + 1)) = D := by omega
    rw [hD] at hJ
    have eW : Wr (kR S0) ((hL S0).filter (cdS S0 z)) (D + 1) = (((hL S0).filter (hasO S0)).drop 0).filter (fun y => decide (kR S0 y = q * 96 + Q) && cdS S0 z y) ++ Wr (kR S0) ((hL S0).filter (cdS S0 z)) D := by
      show ((hL S0).filter (cdS S0 z)).filter (fun y => decide (kR S0 y = 1727 - D)) ++ _ = _
      rw [hD2, List.drop_zero]
      congr 1
      rw [cds_M, List.filter_filter]
    rw [eW] at hJ
    obtain ⟨S1, w1, e1, r1, r2, r3, r4⟩ := waveN hr z hq (show Q < 96 by omega) (Wr (kR S0) ((hL S0).filter (cdS S0 z)) D) (g_X12_makesPicks_3 f) hnd ((hL S0).filter (hasO S0)).length 0 (Nat.zero_add _) S w h hF (fun y hy hk => by
      rw [List.drop_zero] at hy
      exact hU y (List.mem_filter.mp hy).1 (Nat.le_of_eq hk.symm)) (fun y hy hk => hU y hy (Nat.le_of_lt hk)) hJ FU (FU_gt (by omega))
    have z0 : nI 0 = (0 : Int32) := rfl
    rw [z0] at e1
    obtain ⟨S2, w2, e2, r5⟩ := waveQ hr z hq hnd hlen d (Q + 1) (by omega) S1 w1 r1 r2 (fun y hy hk => r3 y hy (by omega)) (by rw [hD3]; exact r4) f (by omega)
    refine ⟨S2, w2, ?_, r5⟩
    rw [← e2, ← e1]
    simp only [g_X12_makesPicks_3, kif, h96, ↓reduceIte]
theorem waveS {B k r N : Nat} {S0 : Ss} (hr : r < 3) (z : Int32) (hN0 : 0 < N) (hN : N < 2 ^ 31) (hnd : ((hL S0).filter (hasO S0)).Nodup) (hlen : ((hL S0).filter (hasO S0)).length ≤ 2376) {T : Ss} {v : MS} : ∀ d q, q + d = 18 → ∀ (S : Ss) (w : MS), Rel B k S w → FQ S0 S → (∀ y, y ∈ hL S0 → q * 96 ≤ kR S0 y → zO S 205 y = zO S0 205 y) → JC B k r (Wr (kR S0) ((hL S0).filter (cdS S0 z)) (1728 - q * 96)) S w T v → ∀ f, d < f → g_X12_wave_92 f (nI r) z (nI N) (nI q) w = some (nI N, v)
  | 0, q, hqd, S, w, h, hF, hU, hJ, f, hf => by
    obtain ⟨f, rfl⟩ : ∃ f', f = f' + 1 := ⟨f - 1, by omega⟩
    have e : q = 18 := by omega
    subst e
    have hv : v = w := hJ.2
    rw [hv]
    simp only [g_X12_wave_92, kif, r_gb, gbn_s, r_grd, r_gbo, r_gret, r_gst, k_isIn, k_isSlot, k_isItem, k_isGroup, k_isRobot, k_are, k_holds0, k_holds1, k_holds2, k_holds3, k_bit, k_less, bI_t, bI_f, i10, i00, i01, i11, i20, i30, ↓reduceIte, show (18 : Int32) ≤ nI 18 by decide]
  | d + 1, q, hqd, S, w, h, hF, hU, hJ, f, hf => by
    obtain ⟨f, rfl⟩ : ∃ f', f = f' + 1 := ⟨f - 1, by omega⟩
    have hq : q < 18 := by omega
    have h18 : ¬ (18 : Int32) ≤ nI q := nI_ge (b := 18) hq (by decide)
    have hN1 : ¬ nI N ≤ 0 := nI_ge (a := 0) hN0 hN
    obtain ⟨S1, w1, e1, r1, r2, r3, r4⟩ := waveQ hr z hq hnd hlen 96 0 rfl S w h hF (fun y hy hk => hU y hy (by omega)) hJ FU (FU_gt (by decide))
    have z0 : nI 0 = (0 : Int32) := rfl
    rw [z0] at e1
    have e6 : nI q / 6 = nI (q / 6) := by rw [show (6 : Int32) = nI 6 from rfl, pk_div (by omega) (by decide) (by decide)]
    have esl : g_X12_slotAt (nI q) w = some (nI (wk q), w) := by
      unfold g_X12_slotAt wk
      rw [e6]
      by_cases c : q / 6 = 1
      · have c1 : nI (q / 6) = 1 := by rw [c]; rfl
        have c2 : (17 : Int32) - nI q = nI (17 - q) := by rw [show (17 : Int32) = nI 17 from rfl, pk_sub (by omega)]
        rw [kif, if_pos c1, if_pos c, c2]; rfl
      · have c1 : ¬ nI (q / 6) = 1 := fun e => c ((nI_eq (b := 1) (by omega) (by decide)).mp e)
        rw [kif, if_neg c1, if_neg c]; rfl
    have mk : g_X12_makesPicks (nI r) z (nI (wk q)) w = some ((), w1) := e1
    have e97 : q * 96 + 96 = (q + 1) * 96 := by omega
    rw [e97] at r3 r4
    have ih := waveS hr z hN0 hN hnd hlen d (q + 1) (by omega) S1 w1 r1 r2 r3 r4 f (by omega)
    rw [← ih]
    simp only [g_X12_wave_92, kif, r_gb, gbn_s, r_grd, r_gbo, r_gret, r_gst, k_isIn, k_isSlot, k_isItem, k_isGroup, k_isRobot, k_are, k_holds0, k_holds1, k_holds2, k_holds3, k_bit, k_less, bI_t, bI_f, i10, i00, i01, i11, i20, i30, ↓reduceIte, h18, hN1, esl, mk, nI_1]
section
variable {m : Nat} {S T : Ss} {w v : MS}
theorem Wr_mem {kf : Nat → Nat} {C : List Nat} : ∀ d, d ≤ 1728 → ∀ x, x ∈ Wr kf C d → x ∈ C ∧ 1728 - d ≤ kf x
  | 0, _, x, hx => by cases hx
  | d + 1, hd, x, hx => by
    rcases List.mem_append.mp hx with r | r
    · obtain ⟨r1, r2⟩ := List.mem_filter.mp r
      have := of_decide_eq_true r2
      exact ⟨r1, by omega⟩
    · obtain ⟨r1, r2⟩ := Wr_mem d (by omega) x r
      exact ⟨r1, by omega⟩
theorem Wr_nd {kf : Nat → Nat} {C : List Nat} (hC : C.Nodup) : ∀ d, d ≤ 1728 → (Wr kf C d).Nodup
  | 0, _ => List.nodup_nil
  | d + 1, hd => by
    show (C.filter (fun y => decide (kf y = 1727 - d)) ++ Wr kf C d).Nodup
    rw [List.nodup_append]
    refine ⟨hC.sublist List.filter_sublist, Wr_nd hC d (by omega), fun a ha b hb e => ?_⟩
    subst e
    have h1 := of_decide_eq_true (List.mem_filter.mp ha).2
    have h2 := (Wr_mem d (by omega) a hb).2
    omega
theorem Wr_len {kf : Nat → Nat} {C : List Nat} (hC : C.Nodup) : (Wr kf C 1728).length ≤ C.length := by
  have h : ∀ (xs ys : List Nat), xs.Nodup → (∀ x, x ∈ xs → x ∈ ys) → xs.length ≤ ys.length := by
    intro xs
    induction xs with
    | nil => intro _ _ _; exact Nat.zero_le _
    | cons x xs ih =>
      intro ys hn hs
      obtain ⟨n1, n2⟩ := List.nodup_cons.mp hn
      have hx := hs x (List.mem_cons_self ..)
      have := ih (ys.erase x) n2 fun y hy => (List.mem_erase_of_ne (show y ≠ x from fun e => n1 (e ▸ hy))).mpr (hs y (List.mem_cons_of_mem _ hy))
      have e := List.length_erase_of_mem hx
      have p : 0 < ys.length := List.length_pos_of_mem hx
      simp only [List.length_cons]; omega
  exact h _ _ (Wr_nd hC 1728 (Nat.le_refl _)) fun x hx => (Wr_mem 1728 (Nat.le_refl _) x hx).1
theorem s_wave (g : GG m S w) (hm : m < 512) (x y : Int32) : STi GG m S w (f_X11_wave x y) (g_X12_wave x y) [(1, 1), (2, 2), (3, 3)] := by
  obtain ⟨B, k, hB, hk, hk2, hc1, hc2, h⟩ := g.out
  have h60 := h.ta.1
  cases h1 : okI x 3 with
  | false =>
    refine sti_th g hm (u := 1) (c := 1) (r := 0) ?_ ?_ (by simp) (by decide) (by decide)
    · simp only [f_X11_wave, r_mb, bnd_s, r_mrd, r_mbo, r_mret, r_mthr, r_wA, r_wO, r_madd, r_mput, r_mopt, r_mcn, r_mcs, ite_f, e_isWithin, e_isSlot, e_isItem, e_isGroup, e_isRobot, e_isLot, e_isNotice, e_isOrder, e_isTask, bI_t, bI_f, i10, i00, i01, i11, i20, i30, ↓reduceIte, h1]; try rfl
    · simp only [g_X12_wave, g_X12_wave_43, g_X12_wave_44, g_X12_wave_74, kif, r_gb, gbn_s, r_grd, r_gbo, r_gret, r_gst, k_isIn, k_isSlot, k_isItem, k_isGroup, k_isRobot, k_are, k_holds0, k_holds1, k_holds2, k_holds3, k_bit, k_less, bI_t, bI_f, i10, i00, i01, i11, i20, i30, ↓reduceIte, h1]; try rfl
  | true =>
    obtain ⟨r, hr, rfl⟩ := okI_t (by decide) h1
    cases h2 : inI y 1 255 with
    | false =>
      refine sti_th g hm (u := 2) (c := 2) (r := 0) ?_ ?_ (by simp) (by decide) (by decide)
      · simp only [f_X11_wave, r_mb, bnd_s, r_mrd, r_mbo, r_mret, r_mthr, r_wA, r_wO, r_madd, r_mput, r_mopt, r_mcn, r_mcs, ite_f, e_isWithin, e_isSlot, e_isItem, e_isGroup, e_isRobot, e_isLot, e_isNotice, e_isOrder, e_isTask, bI_t, bI_f, i10, i00, i01, i11, i20, i30, ↓reduceIte, h1, h2]; try rfl
      · simp only [g_X12_wave, g_X12_wave_43, g_X12_wave_44, g_X12_wave_74, kif, r_gb, gbn_s, r_grd, r_gbo, r_gret, r_gst, k_isIn, k_isSlot, k_isItem, k_isGroup, k_isRobot, k_are, k_holds0, k_holds1, k_holds2, k_holds3, k_bit, k_less, bI_t, bI_f, i10, i00, i01, i11, i20, i30, ↓reduceIte, h1, h2]; try rfl
    | true =>
      obtain ⟨C, hC⟩ : ∃ C, C = (hL S).filter (cdS S y) := ⟨_, rfl⟩
      have eh := h.eHoldW y
      have kp := h.kPicks y
      rw [← hC] at eh kp
      have hlen := h.hlen
      have cl : C.length ≤ 2436 := by rw [hC]; exact Nat.le_trans (List.length_filter_le ..) hlen
      have e45 := h.ta.2.2.1
      by_cases q : zN S 10 + C.length ≤ 60
      · have q1 : nI (zN S 10) + nI C.length ≤ 60 := by rw [nI_add]; exact nI_le (b := 60) q (by decide)
        have q2 : ¬ (60 : Int32) < nI (zN S 10) + nI C.length := Int32.not_lt.mpr q1
        obtain ⟨w0, hw0⟩ : ∃ w0, w0 = mSI 0 0 w := ⟨_, rfl⟩
        have h0 : Rel B k S w0 := by rw [hw0]; exact h.thr 0
        have kp0 := h0.kPicks y
        rw [← hC] at kp0
        have nC : C.Nodup := by rw [hC]; exact h.ho.1.sublist List.filter_sublist
        obtain ⟨T, v, j1, j2, j3, j4, j5⟩ := jc_mk B k r hr (Wr (kR S) C 1728) S w0 h0 (Wr_nd nC 1728 (Nat.le_refl _)) (fun x hx => by
          have hx := (Wr_mem 1728 (Nat.le_refl _) x hx).1
          rw [hC] at hx
          obtain ⟨x1, x2⟩ := List.mem_filter.mp hx
          obtain ⟨o, x3, x4⟩ := cdS_o x2
          exact ⟨x1, ⟨o, x3⟩, x4⟩) (by have := Wr_len (kf := kR S) nC; omega)
        have wl := Wr_len (kf := kR S) nC
        have w00 : mI v 0 = 0 := by rw [j5, hw0]; rfl
        have j1' := j1
        rw [hC] at j1'
        have ec := waveC hr y (N := C.length) (by omega) C.length 0 (Nat.zero_add _) S w0 T v h0 (by rw [hC]) j1' FU (FU_gt (by omega))
        have z0 : nI 0 = (0 : Int32) := rfl
        rw [z0] at ec
        have er : g_X12_wave_92 FU (nI r) y (nI C.length) 0 w0 = some (nI C.length, v) := by
          by_cases c0 : C.length = 0
          · have cn := List.length_eq_zero_iff.mp c0
            rw [cn, Wr_nil] at j1
            obtain ⟨F, hF⟩ : ∃ F, FU = F + 1 := ⟨FU - 1, by have := FU_gt (n := 5) (by decide); omega⟩
            have n0 : nI C.length = (0 : Int32) := by rw [c0]; rfl
            have n18 : ¬ (18 : Int32) ≤ 0 := by decide
            rw [n0, hF, j1.2]
            simp only [g_X12_wave_92, kif, r_gb, gbn_s, r_grd, r_gbo, r_gret, r_gst, k_isIn, k_isSlot, k_isItem, k_isGroup, k_isRobot, k_are, k_holds0, k_holds1, k_holds2, k_holds3, k_bit, k_less, bI_t, bI_f, i10, i00, i01, i11, i20, i30, ↓reduceIte, n18, Int32.le_refl]
          · have hcnt := h.hcount
            exact waveS hr y (by omega) (by omega) (h.ho.1.sublist List.filter_sublist) hcnt 18 0 rfl S w0 h0 (FQ.rf S) (fun _ _ _ => rfl) j1' FU (FU_gt (by decide))
        refine sti_st (T := T) (v := v) (r := nI C.length) (g.ics hm j3 (by omega) (by omega) j4 hB hk j2) ?_ ?_ w00
        · simp only [f_X11_wave, r_mb, bnd_s, r_mrd, r_mbo, r_mret, r_mthr, r_wA, r_wO, r_madd, r_mput, r_mopt, r_mcn, r_mcs, ite_f, e_isWithin, e_isSlot, e_isItem, e_isGroup, e_isRobot, e_isLot, e_isNotice, e_isOrder, e_isTask, bI_t, bI_f, i10, i00, i01, i11, i20, i30, ↓reduceIte, h1, h2, eh, h.nt, q1, ec]
        · simp only [g_X12_wave, g_X12_wave_43, g_X12_wave_44, g_X12_wave_74, kif, r_gb, gbn_s, r_grd, r_gbo, r_gret, r_gst, k_isIn, k_isSlot, k_isItem, k_isGroup, k_isRobot, k_are, k_holds0, k_holds1, k_holds2, k_holds3, k_bit, k_less, bI_t, bI_f, i10, i00, i01, i11, i20, i30, ↓reduceIte, h1, h2, kp, e45, q2, ← hw0, kp0, er]
      · have q1 : ¬ nI (zN S 10) + nI C.length ≤ 60 := by rw [nI_add]; exact nI_ge (a := 60) (by omega) (by omega)
        have q2 : (60 : Int32) < nI (zN S 10) + nI C.length := Int32.not_le.mp q1
        refine sti_th g hm (u := 3) (c := 3) (r := 0) ?_ ?_ (by simp) (by decide) (by decide)
        · simp only [f_X11_wave, r_mb, bnd_s, r_mrd, r_mbo, r_mret, r_mthr, r_wA, r_wO, r_madd, r_mput, r_mopt, r_mcn, r_mcs, ite_f, e_isWithin, e_isSlot, e_isItem, e_isGroup, e_isRobot, e_isLot, e_isNotice, e_isOrder, e_isTask, bI_t, bI_f, i10, i00, i01, i11, i20, i30, ↓reduceIte, h1, h2, eh, h.nt, q1]; try rfl
        · simp only [g_X12_wave, g_X12_wave_43, g_X12_wave_44, g_X12_wave_74, kif, r_gb, gbn_s, r_grd, r_gbo, r_gret, r_gst, k_isIn, k_isSlot, k_isItem, k_isGroup, k_isRobot, k_are, k_holds0, k_holds1, k_holds2, k_holds3, k_bit, k_less, bI_t, bI_f, i10, i00, i01, i11, i20, i30, ↓reduceIte, h1, h2, kp, e45, q2]; try rfl
end
