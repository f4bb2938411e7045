section
variable {m : Nat} {S T : Ss} {w v : MS}
theorem Rel.judged {B k : Nat} (h : Rel B k S w) (hk : k < 1024) {l : Nat} (hl : l < zN S 5) {x : Int32} (hx : tI x 1 99) (hB9 : B + 99 ≤ 8000000) (hq : x ≤ zC S 0 (12 * 19 + l)) {b : Option Nat} {y : Int32} (hb : (b = none ∧ y = 0) ∨ (b = some 18 ∧ y = x)) : ∃ T k', (f_X0_move 19 (fcI b) l x).1 S = some ((), T) ∧ k' ≤ k + 1 ∧ Rel (B + 99) k' T (bkV (bkV w 19 l (-x)) 18 l y) ∧ zP T = zP S ∧ (∀ f, f ≠ 7 → zA T f = zA S f) ∧ zL T = zL S ∧ (∀ f, f ≠ 60 ∧ f ≠ 61 ∧ f ≠ 62 → zN T f = zN S f) ∧ cst S T ∧ zC T 0 (12 * 19 + l) = mA (bkV (bkV w 19 l (-x)) 18 l y) 19 (12 * 19 + l) := by
  have h12 := h.lo.1
  obtain ⟨b1, -, -, -, b5, b6, b7⟩ := h.lo.2.2.2.1 l hl
  have hb28 : ∀ p, b = some p → p < 28 := fun p hp => by
    rcases hb with ⟨e, -⟩ | ⟨e, -⟩
    · rw [e] at hp; cases hp
    · rw [e] at hp; cases hp; decide
  obtain ⟨T, t0, t1, t2, t3, t4, t5, t6, t7, t8, t9, t10, t11, k', t12, t13, t14⟩ := e_move (a := some 19) (b := b) x h.hI b1 b5 b6 h.mvAr hk (fun q hq => by cases hq; decide) hb28 (show l < 12 by omega)
  have hd : ∀ j, dd (some 19) b l x j = (if j = 12 * 19 + l then -x else 0) + if j = 12 * 18 + l then y else 0 := fun j => by
    unfold dd
    congr 1
    rcases hb with ⟨e, e2⟩ | ⟨e, e2⟩
    · rw [e, e2]
      show (0 : Int32) = _
      split <;> rfl
    · rw [e, e2]; rfl
  have t := tI_of hx
  obtain ⟨n1, n2, n3⟩ := h.nn
  have hq' := I_le.mp hq
  have tr0 : zC S 2 (12 * 19 + l) = zC S 0 (12 * 19 + l) := h.tr.2 _ (by omega) (by omega)
  have hr : rl S (some 19) l x = x := by
    show (if zC S 2 (12 * 19 + l) < x then zC S 2 (12 * 19 + l) else x) = x
    rw [tr0, if_neg (fun r => by have := I_lt.mp r; omega)]
  have hC0 : ∀ j, zC T 0 j = zC S 0 j + ((if j = 12 * 19 + l then -x else 0) + if j = 12 * 18 + l then y else 0) := fun j => by rw [t8, hd]
  have hC2 : ∀ j, zC T 2 j = zC S 2 j + ((if j = 12 * 19 + l then -x else 0) + if j = 12 * 18 + l then y else 0) := fun j => by rw [t11, hr, hd]
  have hy : tI y 0 99 := by
    rcases hb with ⟨-, e2⟩ | ⟨-, e2⟩
    · rw [e2]; exact ⟨by decide, by decide⟩
    · rw [e2]; exact ⟨by omega, t.2⟩
  have ty := tI_of hy
  have bnd : ∀ z : Int32, tI z 0 B → tI (z + y) 0 ((B + 99 : Nat) : Int) := fun z hz => by
    have hz := tI_of hz
    have e : (z + y).toInt = z.toInt + y.toInt := add_toInt (by omega) (by omega)
    unfold tI; rw [e]; omega
  have bn2 : ∀ z : Int32, tI z 0 B → tI (z + 0) 0 ((B + 99 : Nat) : Int) := fun z hz => by
    have hz := tI_of hz
    rw [Int32.add_zero]
    exact ⟨by omega, by omega⟩
  have bn3 : ∀ z : Int32, tI z 0 B → x.toInt ≤ z.toInt → tI (z + -x) 0 ((B + 99 : Nat) : Int) := fun z hz hzx => by
    have hz := tI_of hz
    rw [← Int32.sub_eq_add_neg]
    have e : (z - x).toInt = z.toInt - x.toInt := sub_toInt (by omega) (by omega)
    unfold tI; rw [e]; omega
  have hA := t1
  have hO : ∀ f, True → zO T f = zO S f := fun f _ => by rw [t2]
  have hL : ∀ f, True → zL T f = zL S f := fun f _ => by rw [t3]
  have hC := t5
  have hN := t6
  have hI : ∀ f, True → mI (bkV (bkV w 19 l (-x)) 18 l y) f = mI w f := fun f _ => by rw [bkV_I, bkV_I]
  have hB : ∀ f, f ≠ 19 ∧ f ≠ 21 → mA (bkV (bkV w 19 l (-x)) 18 l y) f = mA w f := fun f hf => by rw [bkV_A hf, bkV_A hf]
  have bk : g_bk T (bkV (bkV w 19 l (-x)) 18 l y) := bk_of h hl (d := dd (some 19) b l x) (fun j _ => t8 j) t9 (fun q l' h1 h2 => by
    unfold dd; rw [dl_ne (by omega) h1 h2, dl_ne (by omega) h1 h2]; rfl) (fun j hj => by rw [bkV_19, bkV_19, hd, Int32.add_assoc]) (t6 5 (by decide)) (by rw [t2])
  have bds : ∀ z j, tI z 0 B → (j = 12 * 19 + l → x.toInt ≤ z.toInt) → tI (z + ((if j = 12 * 19 + l then -x else 0) + if j = 12 * 18 + l then y else 0)) 0 ((B + 99 : Nat) : Int) := fun z j hz hzx => by
    by_cases q1 : j = 12 * 19 + l
    · rw [if_pos q1, if_neg (by omega), Int32.add_zero]; exact bn3 z hz (hzx q1)
    · rw [if_neg q1, Int32.zero_add]
      by_cases q2 : j = 12 * 18 + l
      · rw [if_pos q2]; exact bnd z hz
      · rw [if_neg q2]; exact bn2 z hz
  have nn : g_nn (B + 99) T := by
    refine ⟨hB9, fun j hj => ?_, fun j hj => ?_⟩
    · rw [hC0]; exact bds _ _ (n2 j hj) (fun e => by rw [e]; exact hq')
    · rw [hC2]; exact bds _ _ (n3 j hj) (fun e => by rw [e, tr0]; exact hq')
  have tr : g_tr T (bkV (bkV w 19 l (-x)) 18 l y) := by
    obtain ⟨r1, r2⟩ := h.tr
    refine ⟨fun j hj => ?_, fun j h1 h2 => ?_⟩
    · rw [hC2, if_neg (by omega), if_neg (by omega), show (0 : Int32) + 0 = 0 by rfl, Int32.add_zero, hB 20 (by decide)]; exact r1 j hj
    · rw [hC2, hC0, r2 j h1 h2]
  have db : g_db T (bkV (bkV w 19 l (-x)) 18 l y) := by
    refine db_of h (l := l) (P := fun _ => False) fun q l' hq hl' => ⟨fun r => absurd r.1 id, fun _ => ⟨?_, ?_⟩⟩
    · rw [t10 q l' hq hl', if_neg]
      rintro ⟨-, -, r | r⟩
      · have := Option.some.inj r; omega
      · rcases hb with ⟨e, -⟩ | ⟨e, -⟩
        · rw [e] at r; cases r
        · rw [e] at r; have := Option.some.inj r; omega
    · rw [bkV_21, if_neg (fun r => by have := r.1; omega), bkV_21, if_neg (fun r => by have := r.1; omega)]
  have mv : g_mv T k' := mv_of h (d := dd (some 19) b l x) (by omega) t13 t14 (fun j _ => t8 j)
  have hs : g_hs T (bkV (bkV w 19 l (-x)) 18 l y) := by
    obtain ⟨s1, s2⟩ := h.hs
    unfold g_hs hpc
    simp only [hL_eq]
    rw [hC 3 (by decide), hL 1107 trivial, hA 202 (by decide), hO 203 trivial, hA 204 (by decide), hN 4 (by decide), hA 402 (by decide), hO 201 trivial]
    refine ⟨fun q l' hq hl' => ⟨(s1 q l' hq hl').1, Int.le_trans (s1 q l' hq hl').2 ?_⟩, s2⟩
    have hj : 12 * q + l' < 336 := by omega
    have z := tI_of (n2 _ hj)
    rw [hC0, if_neg (show ¬ 12 * q + l' = 12 * 19 + l by omega), Int32.zero_add]; split
    · rw [add_toInt (by omega) (by omega)]; omega
    · rw [Int32.add_zero]; omega
  have st : g_st T (bkV (bkV w 19 l (-x)) 18 l y) := by
    obtain ⟨s1, s2⟩ := h.st
    have e : ∀ o l', l' < 12 → zC T 0 (12 * (20 + o) + l') = zC S 0 (12 * (20 + o) + l') := fun o l' hl' => by
      rw [hC0, if_neg (by omega), if_neg (by omega), show (0 : Int32) + 0 = 0 by rfl, Int32.add_zero]
    unfold g_st
    rw [hN 7 (by decide), hA 705 (by decide), hN 5 (by decide), hL 704 trivial, hA 403 (by decide)]
    refine ⟨fun o ho hs => ?_, fun o l' ho hl' hs => by rw [e o l' hl']; exact s2 o l' ho hl' hs⟩
    rw [sz_cg (y := fun l' => (zC S 0 (12 * (20 + o) + l')).toInt) _ fun l' hl' => by rw [e o l' (by have := List.mem_range.mp hl'; omega)]]
    exact s1 o ho hs
  refine ⟨T, k', t0, t12, ?_, t4, t1, t3, t6, t7, ?_⟩
  · exact ⟨(cg_sl (hA 900 (by decide)) (hA 901 (by decide)) (hA 903 (by decide)) (hA 904 (by decide)) (hO 902 (by decide)) (hB 4 (by decide)) (hB 5 (by decide)) (hB 6 (by decide)) (hB 7 (by decide)) (hB 8 (by decide)) h.sl), (cg_it (hA 300 (by decide)) (hA 301 (by decide)) (hA 302 (by decide)) (hA 303 (by decide)) (hA 304 (by decide)) (hA 305 (by decide)) (hB 9 (by decide)) (hB 10 (by decide)) (hB 11 (by decide)) (hB 12 (by decide)) (hB 13 (by decide)) h.it), (cg_ba (hA 1115 (by decide)) (hB 14 (by decide)) h.ba), (cg_sc (hA 1116 (by decide)) (hA 1118 (by decide)) (hA 1117 (by decide)) (hI 1 (by decide)) (hI 2 (by decide)) (hI 3 (by decide)) h.sc), (cg_lo (hN 5 (by decide)) (hL 1103 (by decide)) (hA 500 (by decide)) (hA 502 (by decide)) (hA 503 (by decide)) (hO 501 (by decide)) (hI 15 (by decide)) (hB 16 (by decide)) (hB 17 (by decide)) (hB 18 (by decide)) h.lo), (cg_be (hL 1104 (by decide)) (hN 5 (by decide)) (hA 502 (by decide)) h.be), (cg_no (hN 6 (by decide)) (hL 1105 (by decide)) (hO 600 (by decide)) (hA 601 (by decide)) (hA 602 (by decide)) (hI 22 (by decide)) (hB 23 (by decide)) (hB 24 (by decide)) (hB 25 (by decide)) h.no), (cg_ca (hC 1110 (by decide)) (hB 26 (by decide)) h.ca), (cg_aw (hC 1111 (by decide)) (hN 7 (by decide)) (hA 705 (by decide)) (hB 33 (by decide)) h.aw), (cg_or (hN 7 (by decide)) (hN 72 (by decide)) (hL 1106 (by decide)) (hA 700 (by decide)) (hA 701 (by decide)) (hA 702 (by decide)) (hA 703 (by decide)) (hA 705 (by decide)) (hI 27 (by decide)) (hB 28 (by decide)) (hB 29 (by decide)) (hB 30 (by decide)) (hB 31 (by decide)) (hB 32 (by decide)) h.or), (cg_li (hN 7 (by decide)) (hL 704 (by decide)) (hN 4 (by decide)) (hO 400 (by decide)) (hA 401 (by decide)) (hA 402 (by decide)) (hA 403 (by decide)) (hB 31 (by decide)) (hB 36 (by decide)) (hB 37 (by decide)) (hB 38 (by decide)) h.li), bk, nn, tr, db, mv, (cg_ho (hL 1107 (by decide)) (hN 2 (by decide)) (hA 204 (by decide)) (hN 5 (by decide)) (hO 203 (by decide)) (hA 202 (by decide)) (hO 200 (by decide)) (hO 201 (by decide)) (hO 205 (by decide)) (hN 7 (by decide)) (hL 704 (by decide)) (hA 705 (by decide)) (hN 10 (by decide)) (hO 1002 (by decide)) (hA 1005 (by decide)) (hA 1004 (by decide)) h.ho), hs, (cg_hm (hI 39 (by decide)) (hL 1107 (by decide)) (hO 200 (by decide)) (hO 201 (by decide)) (hO 203 (by decide)) (hL 704 (by decide)) (hA 202 (by decide)) (hA 204 (by decide)) (hO 205 (by decide)) (hB 40 (by decide)) (hB 41 (by decide)) (hB 42 (by decide)) (hB 43 (by decide)) (hB 44 (by decide)) h.hm), (cg_ta (hN 10 (by decide)) (hL 1108 (by decide)) (hI 45 (by decide)) (hA 1000 (by decide)) (hA 1001 (by decide)) (hA 1003 (by decide)) (hA 1004 (by decide)) (hA 1005 (by decide)) (hA 1006 (by decide)) (hO 1002 (by decide)) (hN 2 (by decide)) (hO 203 (by decide)) (hN 5 (by decide)) (hL 1107 (by decide)) (hO 205 (by decide)) (hO 200 (by decide)) (hO 201 (by decide)) (hA 202 (by decide)) (hN 7 (by decide)) (hL 704 (by decide)) (hB 46 (by decide)) (hB 47 (by decide)) (hB 48 (by decide)) (hB 49 (by decide)) (hB 50 (by decide)) (hB 51 (by decide)) (hB 52 (by decide)) (hB 54 (by decide)) h.ta), (cg_ap (hC 4 (by decide)) (hN 10 (by decide)) (hA 1005 (by decide)) (hA 1001 (by decide)) (hA 1003 (by decide)) (hA 1004 (by decide)) (hO 501 (by decide)) (hO 203 (by decide)) (hO 1002 (by decide)) (hO 902 (by decide)) h.ap), (cg_ro (hA 801 (by decide)) (hA 802 (by decide)) (hL 800 (by decide)) (hA 1005 (by decide)) (hN 10 (by decide)) (hB 53 (by decide)) (hB 55 (by decide)) (hB 56 (by decide)) (hB 58 (by decide)) (hB 59 (by decide)) h.ro), st, (cg_bx (hN 7 (by decide)) (hA 705 (by decide)) (hA 706 (by decide)) (hC 1112 (by decide)) (hA 302 (by decide)) (hA 303 (by decide)) (hA 304 (by decide)) (hO 501 (by decide)) (hN 5 (by decide)) (hB 34 (by decide)) (hB 35 (by decide)) h.bx)⟩
  · exact bk.1 _ (by omega)
theorem s_judge (g : GG m S w) (hm : m < 512) (x y z : Int32) (hz : z = 0 ∨ z = 1) : STi GG m S w (f_X11_judge x y z) (g_X12_judge x y z) [(1, 1), (2, 2), (3, 3)] := by
  obtain ⟨B, k, hB, hk, hk2, hc1, hc2, h⟩ := g.out
  have h12 := h.lo.1
  cases h1 : okI x (zN S 5) with
  | false =>
    refine sti_th g hm (u := 1) (c := 1) (r := 0) ?_ ?_ (by simp) (by decide) (by decide)
    · simp only [f_X11_judge, r_mb, bnd_s, r_mrd, r_mbo, r_mret, r_mthr, r_wA, r_wO, r_madd, r_mput, r_mopt, r_mcn, r_mcs, ite_f, e_isWithin, e_isSlot, e_isItem, e_isGroup, e_isRobot, e_isLot, e_isNotice, e_isOrder, e_isTask, bI_t, bI_f, i10, i00, i01, i11, i20, i30, ↓reduceIte, h.nl, h1]; try rfl
    · simp only [g_X12_judge_77, g_X12_judge_47, g_X12_judge, kif, r_gb, gbn_s, r_grd, r_gbo, r_gret, r_gst, k_isIn, k_isSlot, k_isItem, k_isGroup, k_isRobot, k_are, k_holds0, k_holds1, k_holds2, k_holds3, k_bit, k_less, bI_t, bI_f, i10, i00, i01, i11, i20, i30, ↓reduceIte, h.kLot, h1]; try rfl
  | true =>
    cases h3 : inI y 1 99 with
    | false =>
      refine sti_th g hm (u := 2) (c := 2) (r := 0) ?_ ?_ (by simp) (by decide) (by decide)
      · simp only [f_X11_judge, r_mb, bnd_s, r_mrd, r_mbo, r_mret, r_mthr, r_wA, r_wO, r_madd, r_mput, r_mopt, r_mcn, r_mcs, ite_f, e_isWithin, e_isSlot, e_isItem, e_isGroup, e_isRobot, e_isLot, e_isNotice, e_isOrder, e_isTask, bI_t, bI_f, i10, i00, i01, i11, i20, i30, ↓reduceIte, h.nl, h1, h3]; try rfl
      · simp only [g_X12_judge_77, g_X12_judge_47, g_X12_judge, kif, r_gb, gbn_s, r_grd, r_gbo, r_gret, r_gst, k_isIn, k_isSlot, k_isItem, k_isGroup, k_isRobot, k_are, k_holds0, k_holds1, k_holds2, k_holds3, k_bit, k_less, bI_t, bI_f, i10, i00, i01, i11, i20, i30, ↓reduceIte, h.kLot, h1, h3]; try rfl
    | true =>
      obtain ⟨l, hl, rfl⟩ := okI_t (by omega) h1
      have hy : tI y 1 99 := inI_t h3
      have e228 : (228 : Int32) + nI l = nI (12 * 19 + l) := by rw [show (228 : Int32) = nI 228 from rfl, nI_add]
      have j19 : 12 * 19 + l < mL 19 := show 12 * 19 + l < 336 by omega
      have ecat : ∀ S : Ss, cAt S 0 19 (nI l) = zC S 0 (12 * 19 + l) := fun S => cAt_in (S := S) (r := 0) (p := 19) (l := l) (show l < 12 by omega) (show 19 * 12 + l < 336 by omega)
      have eb : mA w 19 (12 * 19 + l) = zC S 0 (12 * 19 + l) := (h.bk.1 _ (by omega)).symm
      by_cases q : y ≤ zC S 0 (12 * 19 + l)
      · obtain ⟨b, u, hb, hbz⟩ : ∃ (b : Option Nat) (u : Int32), ((b = none ∧ u = 0) ∨ (b = some 18 ∧ u = y)) ∧ ((z = 0 ∧ fcI b = -1 ∧ u = 0) ∨ (z = 1 ∧ fcI b = 18 ∧ u = y)) := by
          rcases hz with e | e
          · exact ⟨none, 0, Or.inl ⟨rfl, rfl⟩, Or.inl ⟨e, rfl, rfl⟩⟩
          · exact ⟨some 18, y, Or.inr ⟨rfl, rfl⟩, Or.inr ⟨e, rfl, rfl⟩⟩
        obtain ⟨T, k', t0, t1, t2, t3, t4, t5, t6, t7, t8⟩ := (h.thr 0).judged (by omega) (l := l) hl hy (by omega) q hb
        refine sti_st (T := T) (v := bkV (bkV (mSI 0 0 w) 19 l (-y)) 18 l u) (r := zC T 0 (12 * 19 + l)) ?_ ?_ ?_ ?_
        · unfold cst at t7
          exact g.inm hm (fun f hf => t4 f (by omega)) t3 ⟨t6 10 (by decide), t6 7 (by decide)⟩ t7.2.1 t7.2.2 hB hk (show B + 99 ≤ B + 15000 by omega) t1 t2
        · rcases hbz with ⟨e1, e2, e3⟩ | ⟨e1, e2, e3⟩
          · rw [e2] at t0
            simp only [f_X11_judge, f_X11_judge_75, r_mb, bnd_s, r_mrd, r_mbo, r_mret, r_mthr, r_wA, r_wO, r_madd, r_mput, r_mopt, r_mcn, r_mcs, ite_f, e_isWithin, e_isSlot, e_isItem, e_isGroup, e_isRobot, e_isLot, e_isNotice, e_isOrder, e_isTask, bI_t, bI_f, i10, i00, i01, i11, i20, i30, ↓reduceIte, h.nl, h1, h3, ecat, q, e1, mlget, h.atL hl, t0]
          · rw [e2] at t0
            simp only [f_X11_judge, f_X11_judge_75, r_mb, bnd_s, r_mrd, r_mbo, r_mret, r_mthr, r_wA, r_wO, r_madd, r_mput, r_mopt, r_mcn, r_mcs, ite_f, e_isWithin, e_isSlot, e_isItem, e_isGroup, e_isRobot, e_isLot, e_isNotice, e_isOrder, e_isTask, bI_t, bI_f, i10, i00, i01, i11, i20, i30, ↓reduceIte, h.nl, h1, h3, ecat, q, e1, mlget, h.atL hl, t0]
        · have kb1 := k_books (w := mSI 0 0 w) (p := 19) (l := l) (by decide) (show l < 12 by omega) (-y)
          have kb1' : g_X12_books 19 (nI l) (-y) (mSI 0 0 w) = _ := kb1
          have kb2 := k_books (w := bkV (mSI 0 0 w) 19 l (-y)) (p := 18) (l := l) (by decide) (show l < 12 by omega) u
          have kb2' : g_X12_books 18 (nI l) u (bkV (mSI 0 0 w) 19 l (-y)) = _ := kb2
          rcases hbz with ⟨e1, e2, e3⟩ | ⟨e1, e2, e3⟩
          · rw [e3] at kb2' t8 ⊢
            simp only [g_X12_judge_77, g_X12_judge_47, g_X12_judge, kif, r_gb, gbn_s, r_grd, r_gbo, r_gret, r_gst, k_isIn, k_isSlot, k_isItem, k_isGroup, k_isRobot, k_are, k_holds0, k_holds1, k_holds2, k_holds3, k_bit, k_less, bI_t, bI_f, i10, i00, i01, i11, i20, i30, ↓reduceIte, h.kLot, h1, h3, e228, r_gnI j19 (show mL 19 < 2 ^ 31 by decide), nI_clamp (show 12 * 19 + l < 2 ^ 31 by omega), eb, q, kb1', kb2', e1, t8]
          · rw [e3] at kb2' t8 ⊢
            simp only [g_X12_judge_77, g_X12_judge_47, g_X12_judge, kif, r_gb, gbn_s, r_grd, r_gbo, r_gret, r_gst, k_isIn, k_isSlot, k_isItem, k_isGroup, k_isRobot, k_are, k_holds0, k_holds1, k_holds2, k_holds3, k_bit, k_less, bI_t, bI_f, i10, i00, i01, i11, i20, i30, ↓reduceIte, h.kLot, h1, h3, e228, r_gnI j19 (show mL 19 < 2 ^ 31 by decide), nI_clamp (show 12 * 19 + l < 2 ^ 31 by omega), eb, q, kb1', kb2', e1, t8]
        · rw [bkV_I, bkV_I]; rfl
      · refine sti_th g hm (u := 3) (c := 3) (r := 0) ?_ ?_ (by simp) (by decide) (by decide)
        · simp only [f_X11_judge, r_mb, bnd_s, r_mrd, r_mbo, r_mret, r_mthr, r_wA, r_wO, r_madd, r_mput, r_mopt, r_mcn, r_mcs, ite_f, e_isWithin, e_isSlot, e_isItem, e_isGroup, e_isRobot, e_isLot, e_isNotice, e_isOrder, e_isTask, bI_t, bI_f, i10, i00, i01, i11, i20, i30, ↓reduceIte, h.nl, h1, h3, ecat, q]; try rfl
        · simp only [g_X12_judge_77, g_X12_judge_47, g_X12_judge, kif, r_gb, gbn_s, r_grd, r_gbo, r_gret, r_gst, k_isIn, k_isSlot, k_isItem, k_isGroup, k_isRobot, k_are, k_holds0, k_holds1, k_holds2, k_holds3, k_bit, k_less, bI_t, bI_f, i10, i00, i01, i11, i20, i30, ↓reduceIte, h.kLot, h1, h3, e228, r_gnI j19 (show mL 19 < 2 ^ 31 by decide), nI_clamp (show 12 * 19 + l < 2 ^ 31 by omega), eb, q]; try rfl
end
