section
variable {m : Nat} {S : Ss} {w : MS} {f : MM (Nat × Int32)} {gm : GM Int32} {gu : GM Unit} {cs : List (Nat × Int32)}
theorem cT_eq {S T : Ss} (h1 : ∀ t, zA T 1005 t = zA S 1005 t) (h2 : ∀ t, zA T 1006 t = zA S 1006 t) : ∀ n, cT T n = cT S n
  | 0 => rfl
  | t + 1 => by unfold cT; rw [cT_eq h1 h2 t, h1, h2]
theorem cS_eq {S T : Ss} (h1 : ∀ t, zA T 705 t = zA S 705 t) : ∀ n, cS T n = cS S n
  | 0 => rfl
  | t + 1 => by unfold cS; rw [cS_eq h1 t, h1]
theorem GG.ok (g : GG m S w) (hm : m < 512) (v : Int32) : GG (m + 1) S (mSI 0 v w) := by
  obtain ⟨g1, g2, g3, B, k, g4, g5, g6⟩ := g
  unfold g_rm at g2
  exact ⟨by omega, by unfold g_rm; omega, g3, B, k, by omega, by omega, g6.thr v⟩
theorem GG.th (g : GG m S w) (hm : m < 512) (v : Int32) : GG (m + 1) (thS S) (mSI 0 v w) := by
  obtain ⟨g1, g2, g3, B, k, g4, g5, g6⟩ := g
  unfold g_rm at g2
  refine ⟨by omega, ?_, g3, B, k, by omega, ?_, (g6.cost _ _).thr v⟩
  · have e1 : zN (thS S) 61 = zN S 61 + 1 := rfl
    have e2 : zN (thS S) 62 = zN S 62 + 6 := rfl
    have e3 : zN (thS S) 60 = zN S 60 := rfl
    have e4 : capS (thS S) = capS S := rfl
    unfold g_rm
    omega
  · have e1 : cT (thS S) (zN (thS S) 10) = cT S (zN S 10) := cT_eq (S := S) (T := thS S) (fun _ => rfl) (fun _ => rfl) (zN S 10)
    have e2 : cS (thS S) (zN (thS S) 7) = cS S (zN S 7) := cS_eq (S := S) (T := thS S) (fun _ => rfl) (zN S 7)
    omega
theorem sti_th (g : GG m S w) (hm : m < 512) {u : Nat} {c r : Int32} (e1 : f.1 S = some ((u, 0), thS S)) (e2 : gm w = some (r, mSI 0 c w)) (hc : (u, c) ∈ cs) (hu : ¬ u = 0) (hn : ¬ c = 0) : STi GG m S w f gm cs := ⟨_, _, _, _, e1, e2, g.th hm c, Or.inr ⟨(u, c), hc, rfl, rfl, hu, hn⟩⟩
theorem sti_ok (g : GG m S w) (hm : m < 512) {v : Int32} (e1 : f.1 S = some ((0, v), S)) (e2 : gm w = some (v, mSI 0 0 w)) : STi GG m S w f gm cs := ⟨_, _, _, _, e1, e2, g.ok hm 0, Or.inl ⟨rfl, rfl, rfl⟩⟩
theorem k_isAsked {B k : Nat} (h : Rel B k S w) (p n : Nat) (hn : n < 1000) (x y : Int32) : g_X12_isAsked x (nI n - 1) y w = some (bI (okI x n && okI y (zN S 5)), mSI 0 (if (okI x n && okI y (zN S 5)) = true then 0 else 1) w) := by
  cases h1 : okI x n with
  | false => simp only [g_X12_isAsked, g_X12_isAsked_22, g_X12_isAsked_23, kif, r_gb, gbn_s, r_grd, r_gbo, r_gret, r_gst, k_isIn, k_isSlot, k_isItem, k_isGroup, k_isRobot, k_are, k_holds0, k_holds1, k_holds2, k_holds3, k_bit, k_less, bI_t, bI_f, i10, i00, i01, i11, i20, i30, ↓reduceIte, in_ok (show n < 2 ^ 31 by omega), h1, Bool.false_and]; try rfl
  | true =>
    cases h2 : okI y (zN S 5) <;> (simp only [g_X12_isAsked, g_X12_isAsked_22, g_X12_isAsked_23, kif, r_gb, gbn_s, r_grd, r_gbo, r_gret, r_gst, k_isIn, k_isSlot, k_isItem, k_isGroup, k_isRobot, k_are, k_holds0, k_holds1, k_holds2, k_holds3, k_bit, k_less, bI_t, bI_f, i10, i00, i01, i11, i20, i30, ↓reduceIte, in_ok (show n < 2 ^ 31 by omega), h1, h2, h.kLot, Bool.true_and]; rfl)
theorem s_stock (g : GG m S w) (hm : m < 512) (x y : Int32) : STi GG m S w (f_X11_stock x y) (g_X12_stock x y) [(1, 1)] := by
  obtain ⟨-, -, -, B, k, -, -, h⟩ := id g
  have hA := k_isAsked h 0 28 (by decide) x y
  rw [show nI 28 - 1 = (27 : Int32) from rfl] at hA
  cases h1 : okI x 28 with
  | false =>
    refine sti_th g hm (u := 1) (c := 1) (r := 0) ?_ ?_ (by simp) (by decide) (by decide)
    · simp only [f_X11_stock, r_mb, bnd_s, r_mrd, r_mbo, r_mret, r_mthr, r_wA, r_wO, r_madd, r_mput, r_mopt, r_mcn, r_mcs, ite_f, e_isWithin, e_isSlot, e_isItem, e_isGroup, e_isRobot, e_isLot, e_isNotice, e_isOrder, e_isTask, bI_t, bI_f, i10, i00, i01, i11, i20, i30, ↓reduceIte, show (27 : Int32) = nI 28 - 1 from rfl, in_ok (show 28 < 2 ^ 31 by decide), h1]; try rfl
    · simp only [g_X12_stock, kif, r_gb, gbn_s, r_grd, r_gbo, r_gret, r_gst, k_isIn, k_isSlot, k_isItem, k_isGroup, k_isRobot, k_are, k_holds0, k_holds1, k_holds2, k_holds3, k_bit, k_less, bI_t, bI_f, i10, i00, i01, i11, i20, i30, ↓reduceIte, hA, h1, Bool.false_and]; try rfl
  | true =>
    cases h2 : okI y (zN S 5) with
    | false =>
      refine sti_th g hm (u := 1) (c := 1) (r := 0) ?_ ?_ (by simp) (by decide) (by decide)
      · simp only [f_X11_stock, r_mb, bnd_s, r_mrd, r_mbo, r_mret, r_mthr, r_wA, r_wO, r_madd, r_mput, r_mopt, r_mcn, r_mcs, ite_f, e_isWithin, e_isSlot, e_isItem, e_isGroup, e_isRobot, e_isLot, e_isNotice, e_isOrder, e_isTask, bI_t, bI_f, i10, i00, i01, i11, i20, i30, ↓reduceIte, show (27 : Int32) = nI 28 - 1 from rfl, in_ok (show 28 < 2 ^ 31 by decide), h1, h.nl, h2]; try rfl
      · simp only [g_X12_stock, kif, r_gb, gbn_s, r_grd, r_gbo, r_gret, r_gst, k_isIn, k_isSlot, k_isItem, k_isGroup, k_isRobot, k_are, k_holds0, k_holds1, k_holds2, k_holds3, k_bit, k_less, bI_t, bI_f, i10, i00, i01, i11, i20, i30, ↓reduceIte, hA, h1, h2]; try rfl
    | true =>
      obtain ⟨p, hp, rfl⟩ := okI_t (by decide) h1
      have hl12 := h.lo.1
      obtain ⟨l, hl, rfl⟩ := okI_t (by omega) h2
      have hj : 12 * p + l < 336 := by omega
      have e12 : (12 : Int32) * nI p + nI l = nI (12 * p + l) := by rw [show (12 : Int32) = nI 12 from rfl, pk_mul, nI_add]
      refine sti_ok g hm (v := zC S 0 (12 * p + l)) ?_ ?_
      · simp only [f_X11_stock, r_mb, bnd_s, r_mrd, r_mbo, r_mret, r_mthr, r_wA, r_wO, r_madd, r_mput, r_mopt, r_mcn, r_mcs, ite_f, e_isWithin, e_isSlot, e_isItem, e_isGroup, e_isRobot, e_isLot, e_isNotice, e_isOrder, e_isTask, bI_t, bI_f, i10, i00, i01, i11, i20, i30, ↓reduceIte, show (27 : Int32) = nI 28 - 1 from rfl, in_ok (show 28 < 2 ^ 31 by decide), h1, h.nl, h2, cAt_in (S := S) (r := 0) (p := p) (l := l) (show l < 12 by omega) (show p * 12 + l < 336 by omega)]; try rfl
      · simp only [g_X12_stock, kif, r_gb, gbn_s, r_grd, r_gbo, r_gret, r_gst, k_isIn, k_isSlot, k_isItem, k_isGroup, k_isRobot, k_are, k_holds0, k_holds1, k_holds2, k_holds3, k_bit, k_less, bI_t, bI_f, i10, i00, i01, i11, i20, i30, ↓reduceIte, hA, h1, h2, e12, Bool.true_and, r_gnI (show 12 * p + l < mL 19 from hj) (show mL 19 < 2 ^ 31 by decide), nI_clamp (show 12 * p + l < 2 ^ 31 by omega), h.bk.1 _ hj]; try rfl
theorem s_received (g : GG m S w) (hm : m < 512) (x y : Int32) : STi GG m S w (f_X11_received x y) (g_X12_received x y) [(1, 1)] := by
  obtain ⟨-, -, -, B, k, -, -, h⟩ := id g
  cases h1 : okI x (zN S 6) with
  | false =>
    refine sti_th g hm (u := 1) (c := 1) (r := 0) ?_ ?_ (by simp) (by decide) (by decide)
    · simp only [f_X11_received, r_mb, bnd_s, r_mrd, r_mbo, r_mret, r_mthr, r_wA, r_wO, r_madd, r_mput, r_mopt, r_mcn, r_mcs, ite_f, e_isWithin, e_isSlot, e_isItem, e_isGroup, e_isRobot, e_isLot, e_isNotice, e_isOrder, e_isTask, bI_t, bI_f, i10, i00, i01, i11, i20, i30, ↓reduceIte, h.nn', h1]; try rfl
    · simp only [g_X12_received_22, g_X12_received_21, g_X12_received, kif, r_gb, gbn_s, r_grd, r_gbo, r_gret, r_gst, k_isIn, k_isSlot, k_isItem, k_isGroup, k_isRobot, k_are, k_holds0, k_holds1, k_holds2, k_holds3, k_bit, k_less, bI_t, bI_f, i10, i00, i01, i11, i20, i30, ↓reduceIte, h.kNot, h1]; try rfl
  | true =>
    cases h2 : okI y (zN S 5) with
    | false =>
      refine sti_th g hm (u := 1) (c := 1) (r := 0) ?_ ?_ (by simp) (by decide) (by decide)
      · simp only [f_X11_received, r_mb, bnd_s, r_mrd, r_mbo, r_mret, r_mthr, r_wA, r_wO, r_madd, r_mput, r_mopt, r_mcn, r_mcs, ite_f, e_isWithin, e_isSlot, e_isItem, e_isGroup, e_isRobot, e_isLot, e_isNotice, e_isOrder, e_isTask, bI_t, bI_f, i10, i00, i01, i11, i20, i30, ↓reduceIte, h.nn', h1, h.nl, h2]; try rfl
      · simp only [g_X12_received_22, g_X12_received_21, g_X12_received, kif, r_gb, gbn_s, r_grd, r_gbo, r_gret, r_gst, k_isIn, k_isSlot, k_isItem, k_isGroup, k_isRobot, k_are, k_holds0, k_holds1, k_holds2, k_holds3, k_bit, k_less, bI_t, bI_f, i10, i00, i01, i11, i20, i30, ↓reduceIte, h.kNot, h.kLot, h1, h2]; try rfl
    | true =>
      have hn8 := h.no.1
      obtain ⟨p, hp, rfl⟩ := okI_t (by omega) h1
      have hl12 := h.lo.1
      obtain ⟨l, hl, rfl⟩ := okI_t (by omega) h2
      have hj : 12 * p + l < 96 := by omega
      have e12 : (12 : Int32) * nI p + nI l = nI (12 * p + l) := by rw [show (12 : Int32) = nI 12 from rfl, pk_mul, nI_add]
      refine sti_ok g hm (v := zC S 1110 (12 * p + l)) ?_ ?_
      · simp only [f_X11_received, r_mb, bnd_s, r_mrd, r_mbo, r_mret, r_mthr, r_wA, r_wO, r_madd, r_mput, r_mopt, r_mcn, r_mcs, ite_f, e_isWithin, e_isSlot, e_isItem, e_isGroup, e_isRobot, e_isLot, e_isNotice, e_isOrder, e_isTask, bI_t, bI_f, i10, i00, i01, i11, i20, i30, ↓reduceIte, h.nn', h1, h.nl, h2, cAt_in (S := S) (r := 1110) (p := p) (l := l) (show l < 12 by omega) (show p * 12 + l < 96 by omega)]; try rfl
      · simp only [g_X12_received_22, g_X12_received_21, g_X12_received, kif, r_gb, gbn_s, r_grd, r_gbo, r_gret, r_gst, k_isIn, k_isSlot, k_isItem, k_isGroup, k_isRobot, k_are, k_holds0, k_holds1, k_holds2, k_holds3, k_bit, k_less, bI_t, bI_f, i10, i00, i01, i11, i20, i30, ↓reduceIte, h.kNot, h.kLot, h1, h2, e12, r_gnI (show 12 * p + l < mL 26 from hj) (show mL 26 < 2 ^ 31 by decide), nI_clamp (show 12 * p + l < 2 ^ 31 by omega), h.ca _ hj]; try rfl
theorem s_sent (g : GG m S w) (hm : m < 512) (x y : Int32) : STi GG m S w (f_X11_sent x y) (g_X12_sent x y) [(1, 1)] := by
  obtain ⟨-, -, -, B, k, -, -, h⟩ := id g
  cases h1 : okI x (zN S 7) with
  | false =>
    refine sti_th g hm (u := 1) (c := 1) (r := 0) ?_ ?_ (by simp) (by decide) (by decide)
    · simp only [f_X11_sent, r_mb, bnd_s, r_mrd, r_mbo, r_mret, r_mthr, r_wA, r_wO, r_madd, r_mput, r_mopt, r_mcn, r_mcs, ite_f, e_isWithin, e_isSlot, e_isItem, e_isGroup, e_isRobot, e_isLot, e_isNotice, e_isOrder, e_isTask, bI_t, bI_f, i10, i00, i01, i11, i20, i30, ↓reduceIte, h.nor, h1]; try rfl
    · simp only [g_X12_sent_22, g_X12_sent_21, g_X12_sent, kif, r_gb, gbn_s, r_grd, r_gbo, r_gret, r_gst, k_isIn, k_isSlot, k_isItem, k_isGroup, k_isRobot, k_are, k_holds0, k_holds1, k_holds2, k_holds3, k_bit, k_less, bI_t, bI_f, i10, i00, i01, i11, i20, i30, ↓reduceIte, h.kOrd, h1]; try rfl
  | true =>
    cases h2 : okI y (zN S 5) with
    | false =>
      refine sti_th g hm (u := 1) (c := 1) (r := 0) ?_ ?_ (by simp) (by decide) (by decide)
      · simp only [f_X11_sent, r_mb, bnd_s, r_mrd, r_mbo, r_mret, r_mthr, r_wA, r_wO, r_madd, r_mput, r_mopt, r_mcn, r_mcs, ite_f, e_isWithin, e_isSlot, e_isItem, e_isGroup, e_isRobot, e_isLot, e_isNotice, e_isOrder, e_isTask, bI_t, bI_f, i10, i00, i01, i11, i20, i30, ↓reduceIte, h.nor, h1, h.nl, h2]; try rfl
      · simp only [g_X12_sent_22, g_X12_sent_21, g_X12_sent, kif, r_gb, gbn_s, r_grd, r_gbo, r_gret, r_gst, k_isIn, k_isSlot, k_isItem, k_isGroup, k_isRobot, k_are, k_holds0, k_holds1, k_holds2, k_holds3, k_bit, k_less, bI_t, bI_f, i10, i00, i01, i11, i20, i30, ↓reduceIte, h.kOrd, h.kLot, h1, h2]; try rfl
    | true =>
      have hn8 := h.or.1
      obtain ⟨p, hp, rfl⟩ := okI_t (by omega) h1
      have hl12 := h.lo.1
      obtain ⟨l, hl, rfl⟩ := okI_t (by omega) h2
      have hj : 12 * p + l < 96 := by omega
      have e12 : (12 : Int32) * nI p + nI l = nI (12 * p + l) := by rw [show (12 : Int32) = nI 12 from rfl, pk_mul, nI_add]
      refine sti_ok g hm (v := zC S 1111 (12 * p + l)) ?_ ?_
      · simp only [f_X11_sent, r_mb, bnd_s, r_mrd, r_mbo, r_mret, r_mthr, r_wA, r_wO, r_madd, r_mput, r_mopt, r_mcn, r_mcs, ite_f, e_isWithin, e_isSlot, e_isItem, e_isGroup, e_isRobot, e_isLot, e_isNotice, e_isOrder, e_isTask, bI_t, bI_f, i10, i00, i01, i11, i20, i30, ↓reduceIte, h.nor, h1, h.nl, h2, cAt_in (S := S) (r := 1111) (p := p) (l := l) (show l < 12 by omega) (show p * 12 + l < 96 by omega)]; try rfl
      · simp only [g_X12_sent_22, g_X12_sent_21, g_X12_sent, kif, r_gb, gbn_s, r_grd, r_gbo, r_gret, r_gst, k_isIn, k_isSlot, k_isItem, k_isGroup, k_isRobot, k_are, k_holds0, k_holds1, k_holds2, k_holds3, k_bit, k_less, bI_t, bI_f, i10, i00, i01, i11, i20, i30, ↓reduceIte, h.kOrd, h.kLot, h1, h2, e12, r_gnI (show 12 * p + l < mL 33 from hj) (show mL 33 < 2 ^ 31 by decide), nI_clamp (show 12 * p + l < 2 ^ 31 by omega), h.aw.1 _ hj]; try rfl
theorem stn_ok {f : MM Int32} {gm : GM Int32} (g : GG m S w) (hm : m < 512) {v u : Int32} (e1 : f.1 S = some (v, S)) (e2 : gm w = some (v, mSI 0 u w)) : STn GG m S w f gm := ⟨_, _, _, e1, e2, g.ok hm u⟩
theorem s_tasks (g : GG m S w) (hm : m < 512) : STn GG m S w f_X11_tasks g_X12_tasks := by
  obtain ⟨-, -, -, B, k, -, -, h⟩ := id g
  refine stn_ok g hm (v := nI (zN S 10)) (u := 0) ?_ ?_
  · simp only [f_X11_tasks, r_mb, bnd_s, r_mrd, r_mbo, r_mret, r_mthr, r_wA, r_wO, r_madd, r_mput, r_mopt, r_mcn, r_mcs, ite_f, e_isWithin, e_isSlot, e_isItem, e_isGroup, e_isRobot, e_isLot, e_isNotice, e_isOrder, e_isTask, bI_t, bI_f, i10, i00, i01, i11, i20, i30, ↓reduceIte, h.nt]
  · simp only [g_X12_tasks, kif, r_gb, gbn_s, r_grd, r_gbo, r_gret, r_gst, k_isIn, k_isSlot, k_isItem, k_isGroup, k_isRobot, k_are, k_holds0, k_holds1, k_holds2, k_holds3, k_bit, k_less, bI_t, bI_f, i10, i00, i01, i11, i20, i30, ↓reduceIte]; show some (mI w 45, mSI 0 0 w) = _; rw [h.ta.2.2.1]
theorem s_standstills (g : GG m S w) (hm : m < 512) : STn GG m S w f_X11_standstills g_X12_standstills := by
  obtain ⟨-, -, -, B, k, -, -, h⟩ := id g
  refine stn_ok g hm (v := zA S 1117 0) (u := 0) rfl ?_
  show some (mI w 3, mSI 0 0 w) = _; rw [h.sc.2.2]
theorem s_bill (g : GG m S w) (hm : m < 512) : STn GG m S w f_X11_bill g_X12_bill := by
  obtain ⟨-, -, -, B, k, -, -, h⟩ := id g
  refine stn_ok g hm (v := zA S 1118 0) (u := 0) rfl ?_
  show some (mI w 2, mSI 0 0 w) = _; rw [h.sc.2.1]
theorem s_taskAt (g : GG m S w) (hm : m < 512) (x : Int32) : STi GG m S w (f_X11_taskAt x) (g_X12_taskAt x) [(1, 1)] := by
  obtain ⟨-, -, -, B, k, -, -, h⟩ := id g
  cases h1 : okI x (zN S 10) with
  | false =>
    refine sti_th g hm (u := 1) (c := 1) (r := 0) ?_ ?_ (by simp) (by decide) (by decide)
    · simp only [f_X11_taskAt, r_mb, bnd_s, r_mrd, r_mbo, r_mret, r_mthr, r_wA, r_wO, r_madd, r_mput, r_mopt, r_mcn, r_mcs, ite_f, e_isWithin, e_isSlot, e_isItem, e_isGroup, e_isRobot, e_isLot, e_isNotice, e_isOrder, e_isTask, bI_t, bI_f, i10, i00, i01, i11, i20, i30, ↓reduceIte, h.nt, h1]; try rfl
    · simp only [g_X12_taskAt_14, g_X12_taskAt, kif, r_gb, gbn_s, r_grd, r_gbo, r_gret, r_gst, k_isIn, k_isSlot, k_isItem, k_isGroup, k_isRobot, k_are, k_holds0, k_holds1, k_holds2, k_holds3, k_bit, k_less, bI_t, bI_f, i10, i00, i01, i11, i20, i30, ↓reduceIte, h.kTas, h1]; try rfl
  | true =>
    have hn := h.ta.1
    obtain ⟨t, ht, rfl⟩ := okI_t (by omega) h1
    obtain ⟨a1, a2, a3, a4, a5, -⟩ := h.ta.2.2.2 t ht
    refine sti_ok g hm (v := 1000 * zA S 1001 t + 100 * zA S 1005 t + zA S 1004 t) ?_ ?_
    · simp only [f_X11_taskAt, r_mb, bnd_s, r_mrd, r_mbo, r_mret, r_mthr, r_wA, r_wO, r_madd, r_mput, r_mopt, r_mcn, r_mcs, ite_f, e_isWithin, e_isSlot, e_isItem, e_isGroup, e_isRobot, e_isLot, e_isNotice, e_isOrder, e_isTask, bI_t, bI_f, i10, i00, i01, i11, i20, i30, ↓reduceIte, h.nt, h1, mlget, h.atT ht]
    · simp only [g_X12_taskAt_14, g_X12_taskAt, kif, r_gb, gbn_s, r_grd, r_gbo, r_gret, r_gst, k_isIn, k_isSlot, k_isItem, k_isGroup, k_isRobot, k_are, k_holds0, k_holds1, k_holds2, k_holds3, k_bit, k_less, bI_t, bI_f, i10, i00, i01, i11, i20, i30, ↓reduceIte, h.kTas, h1, nI_clamp (show t < 2 ^ 31 by omega), r_gnI (show t < mL 46 from Nat.lt_of_lt_of_le ht hn) (show mL 46 < 2 ^ 31 by decide), r_gnI (show t < mL 51 from Nat.lt_of_lt_of_le ht hn) (show mL 51 < 2 ^ 31 by decide), r_gnI (show t < mL 52 from Nat.lt_of_lt_of_le ht hn) (show mL 52 < 2 ^ 31 by decide)]
      show some (1000 * mA w 46 t + 100 * mA w 52 t + mA w 51 t, mSI 0 0 w) = _
      rw [a2, a4, a5]
theorem s_where (g : GG m S w) (hm : m < 512) (x : Int32) : STi GG m S w (f_X11_where x) (g_X12_where x) [(1, 1)] := by
  obtain ⟨-, -, -, B, k, -, -, h⟩ := id g
  cases h1 : okI x 3 with
  | false =>
    refine sti_th g hm (u := 1) (c := 1) (r := 0) ?_ ?_ (by simp) (by decide) (by decide)
    · simp only [f_X11_where, r_mb, bnd_s, r_mrd, r_mbo, r_mret, r_mthr, r_wA, r_wO, r_madd, r_mput, r_mopt, r_mcn, r_mcs, ite_f, e_isWithin, e_isSlot, e_isItem, e_isGroup, e_isRobot, e_isLot, e_isNotice, e_isOrder, e_isTask, bI_t, bI_f, i10, i00, i01, i11, i20, i30, ↓reduceIte, h1]; try rfl
    · simp only [g_X12_where_13, g_X12_where, kif, r_gb, gbn_s, r_grd, r_gbo, r_gret, r_gst, k_isIn, k_isSlot, k_isItem, k_isGroup, k_isRobot, k_are, k_holds0, k_holds1, k_holds2, k_holds3, k_bit, k_less, bI_t, bI_f, i10, i00, i01, i11, i20, i30, ↓reduceIte, h1]; try rfl
  | true =>
    obtain ⟨p, hp, rfl⟩ := okI_t (by decide) h1
    obtain ⟨a1, a2, -⟩ := h.ro.1 p hp
    rcases a2 with a2 | ⟨a, q, ha, hq, a2, a3, a4⟩
    · refine sti_ok g hm (v := -1) ?_ ?_
      · simp only [f_X11_where, r_mb, bnd_s, r_mrd, r_mbo, r_mret, r_mthr, r_wA, r_wO, r_madd, r_mput, r_mopt, r_mcn, r_mcs, ite_f, e_isWithin, e_isSlot, e_isItem, e_isGroup, e_isRobot, e_isLot, e_isNotice, e_isOrder, e_isTask, bI_t, bI_f, i10, i00, i01, i11, i20, i30, ↓reduceIte, h1, r_mnI (show p < aLn 1102 from hp) (show aLn 1102 < 2 ^ 31 by decide), nI_clamp (show p < 2 ^ 31 by omega), a2]
      · simp only [g_X12_where_13, g_X12_where, kif, r_gb, gbn_s, r_grd, r_gbo, r_gret, r_gst, k_isIn, k_isSlot, k_isItem, k_isGroup, k_isRobot, k_are, k_holds0, k_holds1, k_holds2, k_holds3, k_bit, k_less, bI_t, bI_f, i10, i00, i01, i11, i20, i30, ↓reduceIte, h1, nI_clamp (show p < 2 ^ 31 by omega), r_gnI (show p < mL 55 from hp) (show mL 55 < 2 ^ 31 by decide)]
        show (if mA w 55 p = -1 then some ((-1 : Int32), mSI 0 0 w) else _) = _
        rw [a1, a2]; try rfl
    · have hne : ¬ nI a = -1 := by
        have : ∀ a, a < 3 → ¬ nI a = -1 := by decide
        exact this a ha
      refine sti_ok g hm (v := 10 * nI a + nI q) ?_ ?_
      · simp only [f_X11_where, r_mb, bnd_s, r_mrd, r_mbo, r_mret, r_mthr, r_wA, r_wO, r_madd, r_mput, r_mopt, r_mcn, r_mcs, ite_f, e_isWithin, e_isSlot, e_isItem, e_isGroup, e_isRobot, e_isLot, e_isNotice, e_isOrder, e_isTask, bI_t, bI_f, i10, i00, i01, i11, i20, i30, ↓reduceIte, h1, r_mnI (show p < aLn 1102 from hp) (show aLn 1102 < 2 ^ 31 by decide), nI_clamp (show p < 2 ^ 31 by omega), a2, a3, hne]
      · simp only [g_X12_where_13, g_X12_where, kif, r_gb, gbn_s, r_grd, r_gbo, r_gret, r_gst, k_isIn, k_isSlot, k_isItem, k_isGroup, k_isRobot, k_are, k_holds0, k_holds1, k_holds2, k_holds3, k_bit, k_less, bI_t, bI_f, i10, i00, i01, i11, i20, i30, ↓reduceIte, h1, nI_clamp (show p < 2 ^ 31 by omega), r_gnI (show p < mL 55 from hp) (show mL 55 < 2 ^ 31 by decide), r_gnI (show p < mL 56 from hp) (show mL 56 < 2 ^ 31 by decide)]
        show (if mA w 55 p = -1 then some ((-1 : Int32), mSI 0 0 w) else some (10 * mA w 55 p + mA w 56 p, mSI 0 0 w)) = _
        rw [a1, a2, a4, if_neg hne]; try rfl
end
