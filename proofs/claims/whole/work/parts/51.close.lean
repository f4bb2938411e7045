section
variable {m : Nat} {S T : Ss} {w v : MS}
theorem cT_le : ∀ n, cT S n ≤ 2 * n
  | 0 => Nat.le_refl _
  | t + 1 => by
    have := cT_le t
    unfold cT
    split
    · omega
    · split <;> omega
theorem cS_le : ∀ n, cS S n ≤ n
  | 0 => Nat.le_refl _
  | t + 1 => by
    have := cS_le t
    unfold cS
    split <;> omega
theorem GG.out (g : GG m S w) : ∃ B k, B ≤ 15000 * m + 1 ∧ k ≤ m + cT S (zN S 10) + 12 * cS S (zN S 7) ∧ k + (120 - cT S (zN S 10)) + 12 * (8 - cS S (zN S 7)) ≤ m + 216 ∧ cT S (zN S 10) ≤ 120 ∧ cS S (zN S 7) ≤ 8 ∧ Rel B k S w := by
  obtain ⟨g1, g2, g3, B, k, g4, g5, g6⟩ := g
  have c1 := cT_le (S := S) (zN S 10)
  have c2 := cS_le (S := S) (zN S 7)
  have c3 := g6.ta.1
  have c4 := g6.or.1
  exact ⟨B, k, g4, g5, by omega, by omega, by omega, g6⟩
/-- a step in general, also one that writes into the moves -/
theorem GG.inn (g : GG m S w) (hm : m < 512) (h61 : zN T 61 + zN S 60 ≤ zN S 61 + zN T 60 + 900) (h62 : zN T 62 + 4 * capS S + 2 * zN S 60 ≤ zN S 62 + 4 * capS T + 2 * zN T 60 + 11000) (hc : g_cp T) {B k B' k' : Nat} (hB : B ≤ 15000 * m + 1) (hk : k ≤ m + cT S (zN S 10) + 12 * cS S (zN S 7)) (hB' : B' ≤ B + 15000) (hk' : k' + cT S (zN S 10) + 12 * cS S (zN S 7) ≤ k + 1 + cT T (zN T 10) + 12 * cS T (zN T 7)) (hR : Rel B' k' T v) : GG (m + 1) T v := by
  obtain ⟨g1, g2, g3, -⟩ := g
  unfold g_rm at g2
  exact ⟨by omega, by unfold g_rm; omega, hc, B', k', by omega, by omega, hR⟩
/-- a step that writes into the moves alone -/
theorem GG.inm (g : GG m S w) (hm : m < 512) (hA : ∀ f, f = 1005 ∨ f = 1006 ∨ f = 705 → zA T f = zA S f) (hP : zP T = zP S) (hN : zN T 10 = zN S 10 ∧ zN T 7 = zN S 7) (h61 : zN T 61 + zN S 60 ≤ zN S 61 + zN T 60) (h62 : zN T 62 + 2 * zN S 60 ≤ zN S 62 + 2 * zN T 60) {B k B' k' : Nat} (hB : B ≤ 15000 * m + 1) (hk : k ≤ m + cT S (zN S 10) + 12 * cS S (zN S 7)) (hB' : B' ≤ B + 15000) (hk' : k' ≤ k + 1) (hR : Rel B' k' T v) : GG (m + 1) T v := by
  have c1 : capS T = capS S := by unfold capS; rw [hP]
  have c2 := cT_eq (S := S) (T := T) (fun t => by rw [hA 1005 (by decide)]) (fun t => by rw [hA 1006 (by decide)]) (zN S 10)
  have c3 := cS_eq (S := S) (T := T) (fun t => by rw [hA 705 (by decide)]) (zN S 7)
  refine g.inn hm (by omega) (by rw [c1]; omega) ?_ hB hk hB' ?_ hR
  · unfold g_cp; rw [hP, hN.2]; exact g.2.2.1
  · rw [hN.1, hN.2, c2, c3]; omega
/-- what came against a notice -/
def cam (S : Ss) (n i : Nat) (x : Int32) (l : Nat) : Int32 := if (if itS S l = i then (1 : Int32) else 0) = x then zC S 1110 (12 * n + l) else 0
theorem Rel.eCame {B k : Nat} (h : Rel B k S w) {n : Nat} (hn : n < zN S 6) (x : Int32) : ∃ r, (f_X11_piecesThatCame (nI n) x).1 S = some (r, S) ∧ g_X12_cameOf (nI n) x w = some (r, w) := by
  have h8 := h.no.1
  have h12 := h.lo.1
  obtain ⟨⟨i, i1, i2, i3⟩, -⟩ := h.no.2.2.2.1 n hn
  refine ⟨sm (List.range (zN S 5)) (cam S n i x), ?_, ?_⟩
  · have key := m_sum (fun f a j => f_X11_piecesThatCame_31 f (nI n) x (some i) a j) (fun a => some (a, S)) S (zN S 5) (cam S n i x) (fun f a l hl => ?_) (fun f a => ?_) 0 FU (FU_gt (by omega))
    · rw [Int32.zero_add] at key
      simp only [f_X11_piecesThatCame, r_mb, bnd_s, r_mrd, r_mbo, r_mret, r_mthr, r_wA, r_wO, r_madd, r_mput, r_mopt, r_mcn, r_mcs, ite_f, e_isWithin, e_isSlot, e_isItem, e_isGroup, e_isRobot, e_isLot, e_isNotice, e_isOrder, e_isTask, bI_t, bI_f, i10, i00, i01, i11, i20, i30, ↓reduceIte, h.nn', okI_n hn (show zN S 6 < 2 ^ 31 by omega), mlget, h.atN hn, i2]
      exact key
    · obtain ⟨-, -, -, -, b5, b6, b7⟩ := h.lo.2.2.2.1 l hl
      have hj : n * 12 + l < 96 := by omega
      simp only [f_X11_piecesThatCame_31, f_X11_piecesThatCame_67, r_mb, bnd_s, r_mrd, r_mbo, r_mret, r_mthr, r_wA, r_wO, r_madd, r_mput, r_mopt, r_mcn, r_mcs, ite_f, e_isWithin, e_isSlot, e_isItem, e_isGroup, e_isRobot, e_isLot, e_isNotice, e_isOrder, e_isTask, bI_t, bI_f, i10, i00, i01, i11, i20, i30, ↓reduceIte, h.nl, nI_ge hl (show zN S 5 < 2 ^ 31 by omega), mlget, h.atL hl, b5, Option.some.injEq, cAt_in (S := S) (r := 1110) (p := n) (l := l) (show l < 12 by omega) (show n * 12 + l < 96 by omega), show cWd 1110 * n + l = 12 * n + l from rfl, nI_1]
      unfold cam
      by_cases q : itS S l = i
      · simp only [q, ↓reduceIte]
        by_cases q2 : (1 : Int32) = x
        · simp only [q2, ↓reduceIte]
        · simp only [q2, ↓reduceIte, Int32.add_zero]
      · simp only [q, ↓reduceIte]
        by_cases q2 : (0 : Int32) = x
        · simp only [q2, ↓reduceIte]
        · simp only [q2, ↓reduceIte, Int32.add_zero]
    · simp only [f_X11_piecesThatCame_31, r_mb, bnd_s, r_mrd, r_mbo, r_mret, r_mthr, r_wA, r_wO, r_madd, r_mput, r_mopt, r_mcn, r_mcs, ite_f, e_isWithin, e_isSlot, e_isItem, e_isGroup, e_isRobot, e_isLot, e_isNotice, e_isOrder, e_isTask, bI_t, bI_f, i10, i00, i01, i11, i20, i30, ↓reduceIte, h.nl, Int32.le_refl]
  · have key := g_sum (fun f a j => g_X12_cameOf_5 f (nI n) x a j) (fun a => some (a, w)) w (zN S 5) (cam S n i x) (fun f a l hl => ?_) (fun f a => ?_) 0 FU (FU_gt (by omega))
    · rw [Int32.zero_add] at key
      exact key
    · obtain ⟨-, -, -, -, b5, b6, b7⟩ := h.lo.2.2.2.1 l hl
      have hj : 12 * n + l < 96 := by omega
      have e12 : (12 : Int32) * nI n + nI l = nI (12 * n + l) := by rw [show (12 : Int32) = nI 12 from rfl, pk_mul, nI_add]
      simp only [g_X12_cameOf_5, g_X12_cameOf_36, kif, r_gb, gbn_s, r_grd, r_gbo, r_gret, r_gst, k_isIn, k_isSlot, k_isItem, k_isGroup, k_isRobot, k_are, k_holds0, k_holds1, k_holds2, k_holds3, k_bit, k_less, bI_t, bI_f, i10, i00, i01, i11, i20, i30, ↓reduceIte, h.lo.2.2.1, nI_ge hl (show zN S 5 < 2 ^ 31 by omega), r_gnI (show l < mL 16 from Nat.lt_of_lt_of_le hl h12) (show mL 16 < 2 ^ 31 by decide), r_gnI (show n < mL 23 from Nat.lt_of_lt_of_le hn h8) (show mL 23 < 2 ^ 31 by decide), nI_clamp (show l < 2 ^ 31 by omega), nI_clamp (show n < 2 ^ 31 by omega), b7, i3, nI_eq (show itS S l < 2 ^ 31 by omega) (show i < 2 ^ 31 by omega), e12, r_gnI (show 12 * n + l < mL 26 from hj) (show mL 26 < 2 ^ 31 by decide), nI_clamp (show 12 * n + l < 2 ^ 31 by omega), nI_1, ← h.ca _ hj]
      unfold cam
      by_cases q : itS S l = i
      · simp only [q, ↓reduceIte]
        by_cases q2 : (1 : Int32) = x
        · simp only [q2, ↓reduceIte]
        · simp only [q2, ↓reduceIte]
      · simp only [q, ↓reduceIte]
        by_cases q2 : (0 : Int32) = x
        · simp only [q2, ↓reduceIte]
        · simp only [q2, ↓reduceIte]
    · simp only [g_X12_cameOf_5, kif, r_gb, gbn_s, r_grd, r_gbo, r_gret, r_gst, k_isIn, k_isSlot, k_isItem, k_isGroup, k_isRobot, k_are, k_holds0, k_holds1, k_holds2, k_holds3, k_bit, k_less, bI_t, bI_f, i10, i00, i01, i11, i20, i30, ↓reduceIte, h.lo.2.2.1, Int32.le_refl]
theorem s_others (g : GG m S w) (hm : m < 512) (x : Int32) : STi GG m S w (f_X11_others x) (g_X12_others x) [(1, 1)] := by
  obtain ⟨-, -, -, B, k, -, -, h⟩ := id g
  have h8 := h.no.1
  cases h1 : okI x (zN S 6) with
  | false =>
    refine sti_th g hm (u := 1) (c := 1) (r := 0) ?_ ?_ (by simp) (by decide) (by decide)
    · simp only [f_X11_others, r_mb, bnd_s, r_mrd, r_mbo, r_mret, r_mthr, r_wA, r_wO, r_madd, r_mput, r_mopt, r_mcn, r_mcs, ite_f, e_isWithin, e_isSlot, e_isItem, e_isGroup, e_isRobot, e_isLot, e_isNotice, e_isOrder, e_isTask, bI_t, bI_f, i10, i00, i01, i11, i20, i30, ↓reduceIte, h.nn', h1]; try rfl
    · simp only [g_X12_others_14, g_X12_others, kif, r_gb, gbn_s, r_grd, r_gbo, r_gret, r_gst, k_isIn, k_isSlot, k_isItem, k_isGroup, k_isRobot, k_are, k_holds0, k_holds1, k_holds2, k_holds3, k_bit, k_less, bI_t, bI_f, i10, i00, i01, i11, i20, i30, ↓reduceIte, h.kNot, h1]; try rfl
  | true =>
    obtain ⟨n, hn, rfl⟩ := okI_t (by omega) h1
    obtain ⟨r, e1, -⟩ := h.eCame hn 0
    obtain ⟨r', e1', e2⟩ := (h.thr 0).eCame hn 0
    have : r' = r := by have := e1'.symm.trans e1; injection this with this; injection this
    subst this
    refine sti_ok g hm (v := r') ?_ ?_
    · simp only [f_X11_others, r_mb, bnd_s, r_mrd, r_mbo, r_mret, r_mthr, r_wA, r_wO, r_madd, r_mput, r_mopt, r_mcn, r_mcs, ite_f, e_isWithin, e_isSlot, e_isItem, e_isGroup, e_isRobot, e_isLot, e_isNotice, e_isOrder, e_isTask, bI_t, bI_f, i10, i00, i01, i11, i20, i30, ↓reduceIte, h.nn', h1, e1]
    · simp only [g_X12_others_14, g_X12_others, kif, r_gb, gbn_s, r_grd, r_gbo, r_gret, r_gst, k_isIn, k_isSlot, k_isItem, k_isGroup, k_isRobot, k_are, k_holds0, k_holds1, k_holds2, k_holds3, k_bit, k_less, bI_t, bI_f, i10, i00, i01, i11, i20, i30, ↓reduceIte, h.kNot, h1, e2]
theorem Rel.closeN {B k : Nat} (h : Rel B k S w) {n : Nat} (hn : n < zN S 6) : Rel B k (pA 602 n 1 S) (mSA 25 n 1 w) := by
  have hA : ∀ f, f ≠ 602 → zA (pA 602 n 1 S) f = zA S f := fun f hf => fAA hf
  have hB : ∀ f, f ≠ 25 → mA (mSA 25 n 1 w) f = mA w f := fun f hf => fBA hf
  have hO : ∀ f, True → zO (pA 602 n 1 S) f = zO S f := fun f _ => rfl
  have hL : ∀ f, True → zL (pA 602 n 1 S) f = zL S f := fun f _ => rfl
  have hC : ∀ f, True → zC (pA 602 n 1 S) f = zC S f := fun f _ => rfl
  have hN : ∀ f, True → zN (pA 602 n 1 S) f = zN S f := fun f _ => rfl
  have hM : zM (pA 602 n 1 S) = zM S := rfl
  have hI : ∀ f, True → mI (mSA 25 n 1 w) f = mI w f := fun f _ => rfl
  have no : g_no (pA 602 n 1 S) (mSA 25 n 1 w) := by
    obtain ⟨n1, n2, n3, n4, n5⟩ := h.no
    unfold g_no
    rw [tNA, tLA, tIB, tOA, hA 601 (by decide), hB 23 (by decide), hB 24 (by decide)]
    refine ⟨n1, n2, n3, fun q hq => ?_, fun q h1 h2 => ?_⟩
    · obtain ⟨a1, a2, a3, a4⟩ := n4 q hq
      refine ⟨a1, a2, ?_, ?_⟩
      · rw [sAA, sBA, a3]
      · rw [sAA]; split
        · exact Or.inr rfl
        · exact a4
    · rw [sBA, if_neg (by omega)]; exact n5 q h1 h2
  exact ⟨(cg_sl (hA 900 (by decide)) (hA 901 (by decide)) (hA 903 (by decide)) (hA 904 (by decide)) (hO 902 (by decide)) (hB 4 (by decide)) (hB 5 (by decide)) (hB 6 (by decide)) (hB 7 (by decide)) (hB 8 (by decide)) h.sl), (cg_it (hA 300 (by decide)) (hA 301 (by decide)) (hA 302 (by decide)) (hA 303 (by decide)) (hA 304 (by decide)) (hA 305 (by decide)) (hB 9 (by decide)) (hB 10 (by decide)) (hB 11 (by decide)) (hB 12 (by decide)) (hB 13 (by decide)) h.it), (cg_ba (hA 1115 (by decide)) (hB 14 (by decide)) h.ba), (cg_sc (hA 1116 (by decide)) (hA 1118 (by decide)) (hA 1117 (by decide)) (hI 1 (by decide)) (hI 2 (by decide)) (hI 3 (by decide)) h.sc), (cg_lo (hN 5 (by decide)) (hL 1103 (by decide)) (hA 500 (by decide)) (hA 502 (by decide)) (hA 503 (by decide)) (hO 501 (by decide)) (hI 15 (by decide)) (hB 16 (by decide)) (hB 17 (by decide)) (hB 18 (by decide)) h.lo), (cg_be (hL 1104 (by decide)) (hN 5 (by decide)) (hA 502 (by decide)) h.be), no, (cg_ca (hC 1110 (by decide)) (hB 26 (by decide)) h.ca), (cg_aw (hC 1111 (by decide)) (hN 7 (by decide)) (hA 705 (by decide)) (hB 33 (by decide)) h.aw), (cg_or (hN 7 (by decide)) (hN 72 (by decide)) (hL 1106 (by decide)) (hA 700 (by decide)) (hA 701 (by decide)) (hA 702 (by decide)) (hA 703 (by decide)) (hA 705 (by decide)) (hI 27 (by decide)) (hB 28 (by decide)) (hB 29 (by decide)) (hB 30 (by decide)) (hB 31 (by decide)) (hB 32 (by decide)) h.or), (cg_li (hN 7 (by decide)) (hL 704 (by decide)) (hN 4 (by decide)) (hO 400 (by decide)) (hA 401 (by decide)) (hA 402 (by decide)) (hA 403 (by decide)) (hB 31 (by decide)) (hB 36 (by decide)) (hB 37 (by decide)) (hB 38 (by decide)) h.li), (cg_bk (hC 0 (by decide)) (hC 1 (by decide)) (hN 5 (by decide)) (hO 501 (by decide)) (hB 19 (by decide)) h.bk), (cg_nn (hC 0 (by decide)) (hC 2 (by decide)) h.nn), (cg_tr (hC 2 (by decide)) (hC 0 (by decide)) (hB 20 (by decide)) h.tr), (cg_db (hC 5 (by decide)) (hB 21 (by decide)) h.db), (cg_mv (hA 7 (by decide)) (hN 60 (by decide)) hM (hC 0 (by decide)) h.mv), (cg_ho (hL 1107 (by decide)) (hN 2 (by decide)) (hA 204 (by decide)) (hN 5 (by decide)) (hO 203 (by decide)) (hA 202 (by decide)) (hO 200 (by decide)) (hO 201 (by decide)) (hO 205 (by decide)) (hN 7 (by decide)) (hL 704 (by decide)) (hA 705 (by decide)) (hN 10 (by decide)) (hO 1002 (by decide)) (hA 1005 (by decide)) (hA 1004 (by decide)) h.ho), (cg_hs (hC 3 (by decide)) (hL 1107 (by decide)) (hA 202 (by decide)) (hO 203 (by decide)) (hA 204 (by decide)) (hC 0 (by decide)) (hN 4 (by decide)) (hA 402 (by decide)) (hO 201 (by decide)) h.hs), (cg_hm (hI 39 (by decide)) (hL 1107 (by decide)) (hO 200 (by decide)) (hO 201 (by decide)) (hO 203 (by decide)) (hL 704 (by decide)) (hA 202 (by decide)) (hA 204 (by decide)) (hO 205 (by decide)) (hB 40 (by decide)) (hB 41 (by decide)) (hB 42 (by decide)) (hB 43 (by decide)) (hB 44 (by decide)) h.hm), (cg_ta (hN 10 (by decide)) (hL 1108 (by decide)) (hI 45 (by decide)) (hA 1000 (by decide)) (hA 1001 (by decide)) (hA 1003 (by decide)) (hA 1004 (by decide)) (hA 1005 (by decide)) (hA 1006 (by decide)) (hO 1002 (by decide)) (hN 2 (by decide)) (hO 203 (by decide)) (hN 5 (by decide)) (hL 1107 (by decide)) (hO 205 (by decide)) (hO 200 (by decide)) (hO 201 (by decide)) (hA 202 (by decide)) (hN 7 (by decide)) (hL 704 (by decide)) (hB 46 (by decide)) (hB 47 (by decide)) (hB 48 (by decide)) (hB 49 (by decide)) (hB 50 (by decide)) (hB 51 (by decide)) (hB 52 (by decide)) (hB 54 (by decide)) h.ta), (cg_ap (hC 4 (by decide)) (hN 10 (by decide)) (hA 1005 (by decide)) (hA 1001 (by decide)) (hA 1003 (by decide)) (hA 1004 (by decide)) (hO 501 (by decide)) (hO 203 (by decide)) (hO 1002 (by decide)) (hO 902 (by decide)) h.ap), (cg_ro (hA 801 (by decide)) (hA 802 (by decide)) (hL 800 (by decide)) (hA 1005 (by decide)) (hN 10 (by decide)) (hB 53 (by decide)) (hB 55 (by decide)) (hB 56 (by decide)) (hB 58 (by decide)) (hB 59 (by decide)) h.ro), (cg_st (hN 7 (by decide)) (hA 705 (by decide)) (hN 5 (by decide)) (hC 0 (by decide)) (hL 704 (by decide)) (hA 403 (by decide)) h.st), (cg_bx (hN 7 (by decide)) (hA 705 (by decide)) (hA 706 (by decide)) (hC 1112 (by decide)) (hA 302 (by decide)) (hA 303 (by decide)) (hA 304 (by decide)) (hO 501 (by decide)) (hN 5 (by decide)) (hB 34 (by decide)) (hB 35 (by decide)) h.bx)⟩
theorem s_close (g : GG m S w) (hm : m < 512) (x : Int32) : STi GG m S w (f_X11_close x) (g_X12_close x) [(1, 1), (3, 2)] := by
  obtain ⟨-, -, -, B, k, -, -, h⟩ := id g
  have h8 := h.no.1
  cases h1 : okI x (zN S 6) with
  | false =>
    refine sti_th g hm (u := 1) (c := 1) (r := 0) ?_ ?_ (by simp) (by decide) (by decide)
    · simp only [f_X11_close, r_mb, bnd_s, r_mrd, r_mbo, r_mret, r_mthr, r_wA, r_wO, r_madd, r_mput, r_mopt, r_mcn, r_mcs, ite_f, e_isWithin, e_isSlot, e_isItem, e_isGroup, e_isRobot, e_isLot, e_isNotice, e_isOrder, e_isTask, bI_t, bI_f, i10, i00, i01, i11, i20, i30, ↓reduceIte, h.nn', h1]; try rfl
    · simp only [g_X12_close_29, g_X12_close, kif, r_gb, gbn_s, r_grd, r_gbo, r_gret, r_gst, k_isIn, k_isSlot, k_isItem, k_isGroup, k_isRobot, k_are, k_holds0, k_holds1, k_holds2, k_holds3, k_bit, k_less, bI_t, bI_f, i10, i00, i01, i11, i20, i30, ↓reduceIte, h.kNot, h1]; try rfl
  | true =>
    obtain ⟨n, hn, rfl⟩ := okI_t (by omega) h1
    obtain ⟨-, a2, a3, a4⟩ := h.no.2.2.2.1 n hn
    have g8 : n < mL 25 := show n < 8 by omega
    by_cases q : zA S 602 n = 0
    · have hN := (h.thr 0).closeN hn
      obtain ⟨r, e1, e2⟩ := hN.eCame (n := n) hn 1
      refine sti_st (T := pA 602 n 1 S) (v := mSA 25 n 1 (mSI 0 0 w)) (r := r - zA S 601 n) ?_ ?_ ?_ rfl
      · exact g.st hm rfl rfl (fun t => zA_pA (by decide)) (fun t => zA_pA (by decide)) (fun t => zA_pA (by decide)) fun B k hB hR => ⟨B, by omega, (hR.thr 0).closeN hn⟩
      · simp only [f_X11_close, r_mb, bnd_s, r_mrd, r_mbo, r_mret, r_mthr, r_wA, r_wO, r_madd, r_mput, r_mopt, r_mcn, r_mcs, ite_f, e_isWithin, e_isSlot, e_isItem, e_isGroup, e_isRobot, e_isLot, e_isNotice, e_isOrder, e_isTask, bI_t, bI_f, i10, i00, i01, i11, i20, i30, ↓reduceIte, h.nn', h1, mlget, h.atN hn, q, e1, fAA (show 601 ≠ 602 by decide)]
      · simp only [g_X12_close_29, g_X12_close, kif, r_gb, gbn_s, r_grd, r_gbo, r_gret, r_gst, k_isIn, k_isSlot, k_isItem, k_isGroup, k_isRobot, k_are, k_holds0, k_holds1, k_holds2, k_holds3, k_bit, k_less, bI_t, bI_f, i10, i00, i01, i11, i20, i30, ↓reduceIte, mI_mSA, mI_mSI, mA_mSI, mA_mSA, Nat.reduceEqDiff, reduceCtorEq, Nat.reduceEqDiff, false_and, true_and, and_true, h.kNot, h1, r_gnI g8 (show mL 25 < 2 ^ 31 by decide), r_gnI (show n < mL 24 from g8) (show mL 24 < 2 ^ 31 by decide), nI_clamp (show n < 2 ^ 31 by omega), a3, q, e2, a2]
    · refine sti_th g hm (u := 3) (c := 2) (r := 0) ?_ ?_ (by simp) (by decide) (by decide)
      · simp only [f_X11_close, r_mb, bnd_s, r_mrd, r_mbo, r_mret, r_mthr, r_wA, r_wO, r_madd, r_mput, r_mopt, r_mcn, r_mcs, ite_f, e_isWithin, e_isSlot, e_isItem, e_isGroup, e_isRobot, e_isLot, e_isNotice, e_isOrder, e_isTask, bI_t, bI_f, i10, i00, i01, i11, i20, i30, ↓reduceIte, h.nn', h1, mlget, h.atN hn, q]; try rfl
      · simp only [g_X12_close_29, g_X12_close, kif, r_gb, gbn_s, r_grd, r_gbo, r_gret, r_gst, k_isIn, k_isSlot, k_isItem, k_isGroup, k_isRobot, k_are, k_holds0, k_holds1, k_holds2, k_holds3, k_bit, k_less, bI_t, bI_f, i10, i00, i01, i11, i20, i30, ↓reduceIte, mI_mSA, mI_mSI, mA_mSI, mA_mSA, Nat.reduceEqDiff, reduceCtorEq, Nat.reduceEqDiff, false_and, true_and, and_true, h.kNot, h1, r_gnI g8 (show mL 25 < 2 ^ 31 by decide), nI_clamp (show n < 2 ^ 31 by omega), a3, q]; try rfl
end
