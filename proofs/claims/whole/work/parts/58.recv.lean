section
variable {m : Nat} {S T : Ss} {w v : MS}
theorem dd_p {p l j : Nat} {x : Int32} (hl : l < 12) : dd none (some p) l x j = if j = 12 * p + l then x else 0 := by
  show (0 : Int32) + (if j = 12 * p + l then x else 0) = _
  rw [Int32.zero_add]
/-- pieces come from outside into a place that is no slot -/
theorem Rel.comes {B k : Nat} (h : Rel B k S w) (hk : k < 1024) {p l : Nat} (hp : p = 18 ∨ p = 19) (hl : l < zN S 5) {x : Int32} (hx : tI x 1 99) (hB : B + 99 ≤ 8000000) : ∃ T k', (f_X0_move (-1) (nI p) l x).1 S = some ((), T) ∧ k' ≤ k + 1 ∧ Rel (B + 99) k' T (bkV w p l x) ∧ zP T = zP S ∧ (∀ f, f ≠ 7 → zA T f = zA S f) ∧ zL T = zL S ∧ (∀ f, f ≠ 60 ∧ f ≠ 61 ∧ f ≠ 62 → zN T f = zN S f) ∧ cst S T ∧ zC T 0 (12 * p + l) = mA (bkV w p l x) 19 (12 * p + l) := by
  have h12 := h.lo.1
  obtain ⟨b1, -, -, -, b5, b6, b7⟩ := h.lo.2.2.2.1 l hl
  obtain ⟨T, t0, t1, t2, t3, t4, t5, t6, t7, t8, t9, t10, t11, k', t12, t13, t14⟩ := e_move (a := none) (b := some p) x h.hI b1 b5 b6 h.mvAr hk (fun q hq => by cases hq) (fun q hq => by cases hq; omega) (show l < 12 by omega)
  have hd : ∀ j, dd none (some p) l x j = if j = 12 * p + l then x else 0 := fun j => dd_p (by omega)
  have hr : rl S none l x = x := rfl
  have t := tI_of hx
  obtain ⟨n1, n2, n3⟩ := h.nn
  have hC0 : ∀ j, zC T 0 j = zC S 0 j + if j = 12 * p + l then x else 0 := fun j => by rw [t8, hd]
  have hC2 : ∀ j, zC T 2 j = zC S 2 j + if j = 12 * p + l then x else 0 := fun j => by rw [t11, hr, hd]
  have bnd : ∀ y : Int32, tI y 0 B → tI (y + x) 0 ((B + 99 : Nat) : Int) := fun y hy => by
    have hy := tI_of hy
    have e : (y + x).toInt = y.toInt + x.toInt := add_toInt (by omega) (by omega)
    unfold tI; rw [e]; omega
  have bn2 : ∀ y : Int32, tI y 0 B → tI (y + 0) 0 ((B + 99 : Nat) : Int) := fun y hy => by
    have hy := tI_of hy
    rw [Int32.add_zero]
    exact ⟨by omega, by omega⟩
  have hA := t1
  have hO : ∀ f, True → zO T f = zO S f := fun f _ => by rw [t2]
  have hL : ∀ f, True → zL T f = zL S f := fun f _ => by rw [t3]
  have hC := t5
  have hN := t6
  have hI : ∀ f, True → mI (bkV w p l x) f = mI w f := fun f _ => by rw [bkV_I]
  have hB' : ∀ f, f ≠ 19 ∧ f ≠ 21 → mA (bkV w p l x) f = mA w f := fun f hf => bkV_A hf
  have bk : g_bk T (bkV w p l x) := bk_of h hl (d := dd none (some p) l x) (fun j _ => t8 j) t9 (fun q l' h1 h2 => by
    unfold dd; rw [dl_ne (by omega) h1 h2, dl_ne (by omega) h1 h2]; rfl) (fun j hj => by rw [bkV_19, hd]) (t6 5 (by decide)) (by rw [t2])
  have nn : g_nn (B + 99) T := by
    refine ⟨hB, fun j hj => ?_, fun j hj => ?_⟩
    · rw [hC0]; split
      · exact bnd _ (n2 j hj)
      · exact bn2 _ (n2 j hj)
    · rw [hC2]; split
      · exact bnd _ (n3 j hj)
      · exact bn2 _ (n3 j hj)
  have tr : g_tr T (bkV w p l x) := by
    obtain ⟨r1, r2⟩ := h.tr
    refine ⟨fun j hj => ?_, fun j h1 h2 => ?_⟩
    · rw [hC2, if_neg (by omega), Int32.add_zero, bkV_A (by decide)]; exact r1 j hj
    · rw [hC2, hC0, r2 j h1 h2]
  have db : g_db T (bkV w p l x) := by
    refine db_of h (l := l) (P := fun _ => False) fun q l' hq hl' => ⟨fun r => absurd r.1 id, fun _ => ⟨?_, ?_⟩⟩
    · rw [t10 q l' hq hl', if_neg]
      rintro ⟨-, -, r | r⟩
      · cases r
      · have := Option.some.inj r; omega
    · rw [bkV_21, if_neg (fun r => by have := r.1; omega)]
  have mv : g_mv T k' := mv_of h (d := dd none (some p) l x) (by omega) t13 t14 (fun j _ => t8 j)
  have hs : g_hs T (bkV w p l x) := by
    obtain ⟨s1, s2⟩ := h.hs
    unfold g_hs hpc
    simp only [hL_eq]
    rw [hC 3 (by decide), hL 1107 trivial, hA 202 (by decide), hO 203 trivial, hA 204 (by decide), hN 4 (by decide), hA 402 (by decide), hO 201 trivial]
    refine ⟨fun q l' hq hl' => ⟨(s1 q l' hq hl').1, Int.le_trans (s1 q l' hq hl').2 ?_⟩, s2⟩
    have hj : 12 * q + l' < 336 := by omega
    have y := tI_of (n2 _ hj)
    rw [hC0]; split
    · rw [add_toInt (by omega) (by omega)]; omega
    · rw [Int32.add_zero]; omega
  have st : g_st T (bkV w p l x) := by
    obtain ⟨s1, s2⟩ := h.st
    have e : ∀ o l', l' < 12 → zC T 0 (12 * (20 + o) + l') = zC S 0 (12 * (20 + o) + l') := fun o l' hl' => by
      rw [hC0, if_neg (by omega), Int32.add_zero]
    unfold g_st
    rw [hN 7 (by decide), hA 705 (by decide), hN 5 (by decide), hL 704 trivial, hA 403 (by decide)]
    refine ⟨fun o ho hs => ?_, fun o l' ho hl' hs => by rw [e o l' hl']; exact s2 o l' ho hl' hs⟩
    rw [sz_cg (y := fun l' => (zC S 0 (12 * (20 + o) + l')).toInt) _ fun l' hl' => by rw [e o l' (by have := List.mem_range.mp hl'; omega)]]
    exact s1 o ho hs
  refine ⟨T, k', t0, t12, ?_, t4, t1, t3, t6, t7, ?_⟩
  · have hB := hB'
    exact ⟨(cg_sl (hA 900 (by decide)) (hA 901 (by decide)) (hA 903 (by decide)) (hA 904 (by decide)) (hO 902 (by decide)) (hB 4 (by decide)) (hB 5 (by decide)) (hB 6 (by decide)) (hB 7 (by decide)) (hB 8 (by decide)) h.sl), (cg_it (hA 300 (by decide)) (hA 301 (by decide)) (hA 302 (by decide)) (hA 303 (by decide)) (hA 304 (by decide)) (hA 305 (by decide)) (hB 9 (by decide)) (hB 10 (by decide)) (hB 11 (by decide)) (hB 12 (by decide)) (hB 13 (by decide)) h.it), (cg_ba (hA 1115 (by decide)) (hB 14 (by decide)) h.ba), (cg_sc (hA 1116 (by decide)) (hA 1118 (by decide)) (hA 1117 (by decide)) (hI 1 (by decide)) (hI 2 (by decide)) (hI 3 (by decide)) h.sc), (cg_lo (hN 5 (by decide)) (hL 1103 (by decide)) (hA 500 (by decide)) (hA 502 (by decide)) (hA 503 (by decide)) (hO 501 (by decide)) (hI 15 (by decide)) (hB 16 (by decide)) (hB 17 (by decide)) (hB 18 (by decide)) h.lo), (cg_be (hL 1104 (by decide)) (hN 5 (by decide)) (hA 502 (by decide)) h.be), (cg_no (hN 6 (by decide)) (hL 1105 (by decide)) (hO 600 (by decide)) (hA 601 (by decide)) (hA 602 (by decide)) (hI 22 (by decide)) (hB 23 (by decide)) (hB 24 (by decide)) (hB 25 (by decide)) h.no), (cg_ca (hC 1110 (by decide)) (hB 26 (by decide)) h.ca), (cg_aw (hC 1111 (by decide)) (hN 7 (by decide)) (hA 705 (by decide)) (hB 33 (by decide)) h.aw), (cg_or (hN 7 (by decide)) (hN 72 (by decide)) (hL 1106 (by decide)) (hA 700 (by decide)) (hA 701 (by decide)) (hA 702 (by decide)) (hA 703 (by decide)) (hA 705 (by decide)) (hI 27 (by decide)) (hB 28 (by decide)) (hB 29 (by decide)) (hB 30 (by decide)) (hB 31 (by decide)) (hB 32 (by decide)) h.or), (cg_li (hN 7 (by decide)) (hL 704 (by decide)) (hN 4 (by decide)) (hO 400 (by decide)) (hA 401 (by decide)) (hA 402 (by decide)) (hA 403 (by decide)) (hB 31 (by decide)) (hB 36 (by decide)) (hB 37 (by decide)) (hB 38 (by decide)) h.li), bk, nn, tr, db, mv, (cg_ho (hL 1107 (by decide)) (hN 2 (by decide)) (hA 204 (by decide)) (hN 5 (by decide)) (hO 203 (by decide)) (hA 202 (by decide)) (hO 200 (by decide)) (hO 201 (by decide)) (hO 205 (by decide)) (hN 7 (by decide)) (hL 704 (by decide)) (hA 705 (by decide)) (hN 10 (by decide)) (hO 1002 (by decide)) (hA 1005 (by decide)) (hA 1004 (by decide)) h.ho), hs, (cg_hm (hI 39 (by decide)) (hL 1107 (by decide)) (hO 200 (by decide)) (hO 201 (by decide)) (hO 203 (by decide)) (hL 704 (by decide)) (hA 202 (by decide)) (hA 204 (by decide)) (hO 205 (by decide)) (hB 40 (by decide)) (hB 41 (by decide)) (hB 42 (by decide)) (hB 43 (by decide)) (hB 44 (by decide)) h.hm), (cg_ta (hN 10 (by decide)) (hL 1108 (by decide)) (hI 45 (by decide)) (hA 1000 (by decide)) (hA 1001 (by decide)) (hA 1003 (by decide)) (hA 1004 (by decide)) (hA 1005 (by decide)) (hA 1006 (by decide)) (hO 1002 (by decide)) (hN 2 (by decide)) (hO 203 (by decide)) (hN 5 (by decide)) (hL 1107 (by decide)) (hO 205 (by decide)) (hO 200 (by decide)) (hO 201 (by decide)) (hA 202 (by decide)) (hN 7 (by decide)) (hL 704 (by decide)) (hB 46 (by decide)) (hB 47 (by decide)) (hB 48 (by decide)) (hB 49 (by decide)) (hB 50 (by decide)) (hB 51 (by decide)) (hB 52 (by decide)) (hB 54 (by decide)) h.ta), (cg_ap (hC 4 (by decide)) (hN 10 (by decide)) (hA 1005 (by decide)) (hA 1001 (by decide)) (hA 1003 (by decide)) (hA 1004 (by decide)) (hO 501 (by decide)) (hO 203 (by decide)) (hO 1002 (by decide)) (hO 902 (by decide)) h.ap), (cg_ro (hA 801 (by decide)) (hA 802 (by decide)) (hL 800 (by decide)) (hA 1005 (by decide)) (hN 10 (by decide)) (hB 53 (by decide)) (hB 55 (by decide)) (hB 56 (by decide)) (hB 58 (by decide)) (hB 59 (by decide)) h.ro), st, (cg_bx (hN 7 (by decide)) (hA 705 (by decide)) (hA 706 (by decide)) (hC 1112 (by decide)) (hA 302 (by decide)) (hA 303 (by decide)) (hA 304 (by decide)) (hO 501 (by decide)) (hN 5 (by decide)) (hB 34 (by decide)) (hB 35 (by decide)) h.bx)⟩
  · exact bk.1 _ (by omega)
theorem Rel.cam {B k : Nat} (h : Rel B k S w) (j : Nat) (x : Int32) : Rel B k (pC 1110 j x S) (mSA 26 j x w) := by
  have ca : g_ca (pC 1110 j x S) (mSA 26 j x w) := fun q hq => by
    rw [sCC, sBA, h.ca q hq]
  exact ⟨h.sl, h.it, h.ba, h.sc, h.lo, h.be, h.no, ca, h.aw, h.or, h.li, h.bk, h.nn, h.tr, h.db, h.mv, h.ho, h.hs, h.hm, h.ta, h.ap, h.ro, h.st, h.bx⟩
theorem Rel.awy {B k : Nat} (h : Rel B k S w) (n l : Nat) (x : Int32) (hl : l < 12) (hs : ¬ (n < zN S 7 → zA S 705 n = 0)) : Rel B k (pC 1111 (12 * n + l) x S) (mSA 33 (12 * n + l) x w) := by
  have aw : g_aw (pC 1111 (12 * n + l) x S) (mSA 33 (12 * n + l) x w) := by
    obtain ⟨a1, a2⟩ := h.aw
    refine ⟨fun q hq => by rw [sCC, sBA, a1 q hq], fun o l' ho hl' hq => ?_⟩
    rw [sCC, if_neg]
    · exact a2 o l' ho hl' hq
    · intro e
      have : o = n := by omega
      subst this
      exact hs hq
  exact ⟨h.sl, h.it, h.ba, h.sc, h.lo, h.be, h.no, h.ca, aw, h.or, h.li, h.bk, h.nn, h.tr, h.db, h.mv, h.ho, h.hs, h.hm, h.ta, h.ap, h.ro, h.st, h.bx⟩
theorem Rel.bil {B k : Nat} (h : Rel B k S w) (x : Int32) : Rel B k (pA 1118 0 x S) (mSI 2 x w) := by
  have hA : ∀ f, f ≠ 1118 → zA (pA 1118 0 x S) f = zA S f := fun f hf => fAA hf
  have hO : ∀ f, True → zO (pA 1118 0 x S) f = zO S f := fun f _ => rfl
  have hL : ∀ f, True → zL (pA 1118 0 x S) f = zL S f := fun f _ => rfl
  have hC : ∀ f, True → zC (pA 1118 0 x S) f = zC S f := fun f _ => rfl
  have hN : ∀ f, True → zN (pA 1118 0 x S) f = zN S f := fun f _ => rfl
  have hM : zM (pA 1118 0 x S) = zM S := rfl
  have hI : ∀ f, f ≠ 2 → mI (mSI 2 x w) f = mI w f := fun f hf => fII hf
  have hB : ∀ f, True → mA (mSI 2 x w) f = mA w f := fun f _ => rfl
  have sc : g_sc (pA 1118 0 x S) (mSI 2 x w) := by
    obtain ⟨a1, a2, a3⟩ := h.sc
    unfold g_sc
    rw [hA 1116 (by decide), hA 1117 (by decide), hI 1 (by decide), hI 3 (by decide), sII, sAA, if_pos rfl]
    exact ⟨a1, rfl, a3⟩
  exact ⟨(cg_sl (hA 900 (by decide)) (hA 901 (by decide)) (hA 903 (by decide)) (hA 904 (by decide)) (hO 902 (by decide)) (hB 4 (by decide)) (hB 5 (by decide)) (hB 6 (by decide)) (hB 7 (by decide)) (hB 8 (by decide)) h.sl), (cg_it (hA 300 (by decide)) (hA 301 (by decide)) (hA 302 (by decide)) (hA 303 (by decide)) (hA 304 (by decide)) (hA 305 (by decide)) (hB 9 (by decide)) (hB 10 (by decide)) (hB 11 (by decide)) (hB 12 (by decide)) (hB 13 (by decide)) h.it), (cg_ba (hA 1115 (by decide)) (hB 14 (by decide)) h.ba), sc, (cg_lo (hN 5 (by decide)) (hL 1103 (by decide)) (hA 500 (by decide)) (hA 502 (by decide)) (hA 503 (by decide)) (hO 501 (by decide)) (hI 15 (by decide)) (hB 16 (by decide)) (hB 17 (by decide)) (hB 18 (by decide)) h.lo), (cg_be (hL 1104 (by decide)) (hN 5 (by decide)) (hA 502 (by decide)) h.be), (cg_no (hN 6 (by decide)) (hL 1105 (by decide)) (hO 600 (by decide)) (hA 601 (by decide)) (hA 602 (by decide)) (hI 22 (by decide)) (hB 23 (by decide)) (hB 24 (by decide)) (hB 25 (by decide)) h.no), (cg_ca (hC 1110 (by decide)) (hB 26 (by decide)) h.ca), (cg_aw (hC 1111 (by decide)) (hN 7 (by decide)) (hA 705 (by decide)) (hB 33 (by decide)) h.aw), (cg_or (hN 7 (by decide)) (hN 72 (by decide)) (hL 1106 (by decide)) (hA 700 (by decide)) (hA 701 (by decide)) (hA 702 (by decide)) (hA 703 (by decide)) (hA 705 (by decide)) (hI 27 (by decide)) (hB 28 (by decide)) (hB 29 (by decide)) (hB 30 (by decide)) (hB 31 (by decide)) (hB 32 (by decide)) h.or), (cg_li (hN 7 (by decide)) (hL 704 (by decide)) (hN 4 (by decide)) (hO 400 (by decide)) (hA 401 (by decide)) (hA 402 (by decide)) (hA 403 (by decide)) (hB 31 (by decide)) (hB 36 (by decide)) (hB 37 (by decide)) (hB 38 (by decide)) h.li), (cg_bk (hC 0 (by decide)) (hC 1 (by decide)) (hN 5 (by decide)) (hO 501 (by decide)) (hB 19 (by decide)) h.bk), (cg_nn (hC 0 (by decide)) (hC 2 (by decide)) h.nn), (cg_tr (hC 2 (by decide)) (hC 0 (by decide)) (hB 20 (by decide)) h.tr), (cg_db (hC 5 (by decide)) (hB 21 (by decide)) h.db), (cg_mv (hA 7 (by decide)) (hN 60 (by decide)) hM (hC 0 (by decide)) h.mv), (cg_ho (hL 1107 (by decide)) (hN 2 (by decide)) (hA 204 (by decide)) (hN 5 (by decide)) (hO 203 (by decide)) (hA 202 (by decide)) (hO 200 (by decide)) (hO 201 (by decide)) (hO 205 (by decide)) (hN 7 (by decide)) (hL 704 (by decide)) (hA 705 (by decide)) (hN 10 (by decide)) (hO 1002 (by decide)) (hA 1005 (by decide)) (hA 1004 (by decide)) h.ho), (cg_hs (hC 3 (by decide)) (hL 1107 (by decide)) (hA 202 (by decide)) (hO 203 (by decide)) (hA 204 (by decide)) (hC 0 (by decide)) (hN 4 (by decide)) (hA 402 (by decide)) (hO 201 (by decide)) h.hs), (cg_hm (hI 39 (by decide)) (hL 1107 (by decide)) (hO 200 (by decide)) (hO 201 (by decide)) (hO 203 (by decide)) (hL 704 (by decide)) (hA 202 (by decide)) (hA 204 (by decide)) (hO 205 (by decide)) (hB 40 (by decide)) (hB 41 (by decide)) (hB 42 (by decide)) (hB 43 (by decide)) (hB 44 (by decide)) h.hm), (cg_ta (hN 10 (by decide)) (hL 1108 (by decide)) (hI 45 (by decide)) (hA 1000 (by decide)) (hA 1001 (by decide)) (hA 1003 (by decide)) (hA 1004 (by decide)) (hA 1005 (by decide)) (hA 1006 (by decide)) (hO 1002 (by decide)) (hN 2 (by decide)) (hO 203 (by decide)) (hN 5 (by decide)) (hL 1107 (by decide)) (hO 205 (by decide)) (hO 200 (by decide)) (hO 201 (by decide)) (hA 202 (by decide)) (hN 7 (by decide)) (hL 704 (by decide)) (hB 46 (by decide)) (hB 47 (by decide)) (hB 48 (by decide)) (hB 49 (by decide)) (hB 50 (by decide)) (hB 51 (by decide)) (hB 52 (by decide)) (hB 54 (by decide)) h.ta), (cg_ap (hC 4 (by decide)) (hN 10 (by decide)) (hA 1005 (by decide)) (hA 1001 (by decide)) (hA 1003 (by decide)) (hA 1004 (by decide)) (hO 501 (by decide)) (hO 203 (by decide)) (hO 1002 (by decide)) (hO 902 (by decide)) h.ap), (cg_ro (hA 801 (by decide)) (hA 802 (by decide)) (hL 800 (by decide)) (hA 1005 (by decide)) (hN 10 (by decide)) (hB 53 (by decide)) (hB 55 (by decide)) (hB 56 (by decide)) (hB 58 (by decide)) (hB 59 (by decide)) h.ro), (cg_st (hN 7 (by decide)) (hA 705 (by decide)) (hN 5 (by decide)) (hC 0 (by decide)) (hL 704 (by decide)) (hA 403 (by decide)) h.st), (cg_bx (hN 7 (by decide)) (hA 705 (by decide)) (hA 706 (by decide)) (hC 1112 (by decide)) (hA 302 (by decide)) (hA 303 (by decide)) (hA 304 (by decide)) (hO 501 (by decide)) (hN 5 (by decide)) (hB 34 (by decide)) (hB 35 (by decide)) h.bx)⟩
theorem s_receive (g : GG m S w) (hm : m < 512) (x y z : Int32) : STi GG m S w (f_X11_receive x y z) (g_X12_receive x y z) [(1, 1), (2, 2), (3, 3)] := by
  obtain ⟨B, k, hB, hk, hk2, hc1, hc2, h⟩ := g.out
  have h12 := h.lo.1
  have h8 := h.no.1
  cases h1 : okI x (zN S 6) with
  | false =>
    refine sti_th g hm (u := 1) (c := 1) (r := 0) ?_ ?_ (by simp) (by decide) (by decide)
    · simp only [f_X11_receive, r_mb, bnd_s, r_mrd, r_mbo, r_mret, r_mthr, r_wA, r_wO, r_madd, r_mput, r_mopt, r_mcn, r_mcs, ite_f, e_isWithin, e_isSlot, e_isItem, e_isGroup, e_isRobot, e_isLot, e_isNotice, e_isOrder, e_isTask, bI_t, bI_f, i10, i00, i01, i11, i20, i30, ↓reduceIte, h.nn', h1]; try rfl
    · simp only [g_X12_receive_58, g_X12_receive_21, g_X12_receive_20, g_X12_receive, kif, r_gb, gbn_s, r_grd, r_gbo, r_gret, r_gst, k_isIn, k_isSlot, k_isItem, k_isGroup, k_isRobot, k_are, k_holds0, k_holds1, k_holds2, k_holds3, k_bit, k_less, bI_t, bI_f, i10, i00, i01, i11, i20, i30, ↓reduceIte, h.kNot, h1]; try rfl
  | true =>
    cases h2 : okI y (zN S 5) with
    | false =>
      refine sti_th g hm (u := 1) (c := 1) (r := 0) ?_ ?_ (by simp) (by decide) (by decide)
      · simp only [f_X11_receive, r_mb, bnd_s, r_mrd, r_mbo, r_mret, r_mthr, r_wA, r_wO, r_madd, r_mput, r_mopt, r_mcn, r_mcs, ite_f, e_isWithin, e_isSlot, e_isItem, e_isGroup, e_isRobot, e_isLot, e_isNotice, e_isOrder, e_isTask, bI_t, bI_f, i10, i00, i01, i11, i20, i30, ↓reduceIte, h.nn', h1, h.nl, h2]; try rfl
      · simp only [g_X12_receive_58, g_X12_receive_21, g_X12_receive_20, g_X12_receive, kif, r_gb, gbn_s, r_grd, r_gbo, r_gret, r_gst, k_isIn, k_isSlot, k_isItem, k_isGroup, k_isRobot, k_are, k_holds0, k_holds1, k_holds2, k_holds3, k_bit, k_less, bI_t, bI_f, i10, i00, i01, i11, i20, i30, ↓reduceIte, h.kNot, h1, h.kLot, h2]; try rfl
    | true =>
      cases h3 : inI z 1 99 with
      | false =>
        refine sti_th g hm (u := 2) (c := 2) (r := 0) ?_ ?_ (by simp) (by decide) (by decide)
        · simp only [f_X11_receive, r_mb, bnd_s, r_mrd, r_mbo, r_mret, r_mthr, r_wA, r_wO, r_madd, r_mput, r_mopt, r_mcn, r_mcs, ite_f, e_isWithin, e_isSlot, e_isItem, e_isGroup, e_isRobot, e_isLot, e_isNotice, e_isOrder, e_isTask, bI_t, bI_f, i10, i00, i01, i11, i20, i30, ↓reduceIte, h.nn', h1, h.nl, h2, h3]; try rfl
        · simp only [g_X12_receive_58, g_X12_receive_21, g_X12_receive_20, g_X12_receive, kif, r_gb, gbn_s, r_grd, r_gbo, r_gret, r_gst, k_isIn, k_isSlot, k_isItem, k_isGroup, k_isRobot, k_are, k_holds0, k_holds1, k_holds2, k_holds3, k_bit, k_less, bI_t, bI_f, i10, i00, i01, i11, i20, i30, ↓reduceIte, h.kNot, h1, h.kLot, h2, h3]; try rfl
      | true =>
        obtain ⟨n, hn, rfl⟩ := okI_t (by omega) h1
        obtain ⟨l, hl, rfl⟩ := okI_t (by omega) h2
        have hz : tI z 1 99 := inI_t h3
        obtain ⟨-, a2, a3, a4⟩ := h.no.2.2.2.1 n hn
        have g8 : n < mL 25 := show n < 8 by omega
        by_cases q : zA S 602 n = 0
        · have j96 : 12 * n + l < 96 := by omega
          have e12 : (12 : Int32) * nI n + nI l = nI (12 * n + l) := by rw [show (12 : Int32) = nI 12 from rfl, pk_mul, nI_add]
          have e216 : (216 : Int32) + nI l = nI (12 * 18 + l) := by rw [show (216 : Int32) = nI 216 from rfl, nI_add]
          have eadd : cAdd 1110 (nI n) (nI l) z S = pC 1110 (12 * n + l) (zC S 1110 (12 * n + l) + z) S := cAdd_in (r := 1110) (p := n) (l := l) (show l < 12 by omega) (show n * 12 + l < 96 by omega)
          have hR1 := (h.thr 0).cam (12 * n + l) (zC S 1110 (12 * n + l) + z)
          obtain ⟨T, k', t0, t1, t2, t3, t4, t5, t6, t7, t8⟩ := hR1.comes (by omega) (p := 18) (Or.inl rfl) (l := l) hl hz (by omega)
          have e18 : zA T 1118 0 = zA S 1118 0 := by rw [t4 1118 (by decide)]; rfl
          have m2 : mI (bkV (mSA 26 (12 * n + l) (zC S 1110 (12 * n + l) + z) (mSI 0 0 w)) 18 l z) 2 = zA S 1118 0 := by rw [bkV_I]; exact h.sc.2.1
          have k216 : k' ≤ k + 1 := t1
          have hR2 := t2.bil (zA S 1118 0 + 2 * z)
          have lT : zL T 1103 0 = zL S 1103 0 := by rw [t5]; rfl
          refine sti_st (T := pA 1118 0 (zA S 1118 0 + 2 * z) T) (v := mSI 2 (zA S 1118 0 + 2 * z) (bkV (mSA 26 (12 * n + l) (zC S 1110 (12 * n + l) + z) (mSI 0 0 w)) 18 l z)) (r := zC T 0 (12 * 18 + l)) ?_ ?_ ?_ ?_
          · have hc3 := t7
            unfold cst at hc3
            have z0 : zN (pC 1110 (12 * n + l) (zC S 1110 (12 * n + l) + z) S) = zN S := rfl
            rw [z0] at hc3 t6
            refine g.inm hm (fun f hf => ?_) t3 ⟨t6 10 (by decide), t6 7 (by decide)⟩ hc3.2.1 hc3.2.2 hB hk (show B + 99 ≤ B + 15000 by omega) k216 hR2
            rw [fAA (by omega), t4 f (by omega)]; rfl
          · have ecat : cAt (pA 1118 0 (zA S 1118 0 + 2 * z) T) 0 18 (nI l) = zC T 0 (12 * 18 + l) := cAt_in (S := pA 1118 0 (zA S 1118 0 + 2 * z) T) (r := 0) (p := 18) (l := l) (show l < 12 by omega) (show 18 * 12 + l < 336 by omega)
            have t0' : (f_X0_move (-1) 18 l z).1 (pC 1110 (12 * n + l) (zC S 1110 (12 * n + l) + z) S) = some ((), T) := t0
            have atl : lAt (zL (pC 1110 (12 * n + l) (zC S 1110 (12 * n + l) + z) S) 1103 0) (nI l) = some l := h.atL hl
            simp only [f_X11_receive, r_mb, bnd_s, r_mrd, r_mbo, r_mret, r_mthr, r_wA, r_wO, r_madd, r_mput, r_mopt, r_mcn, r_mcs, ite_f, e_isWithin, e_isSlot, e_isItem, e_isGroup, e_isRobot, e_isLot, e_isNotice, e_isOrder, e_isTask, bI_t, bI_f, i10, i00, i01, i11, i20, i30, ↓reduceIte, h.nn', h1, h.nl, h2, h3, mlget, h.atN hn, q, eadd, atl, t0', e18, ecat]
          · have e26 : mA w 26 (12 * n + l) = zC S 1110 (12 * n + l) := (h.ca _ j96).symm
            have kb := k_books (w := mSA 26 (12 * n + l) (zC S 1110 (12 * n + l) + z) (mSI 0 0 w)) (p := 18) (l := l) (by decide) (show l < 12 by omega) z
            have kb' : g_X12_books 18 (nI l) z (mSA 26 (12 * n + l) (zC S 1110 (12 * n + l) + z) (mSI 0 0 w)) = _ := kb
            simp only [g_X12_receive_58, g_X12_receive_21, g_X12_receive_20, g_X12_receive, kif, r_gb, gbn_s, r_grd, r_gbo, r_gret, r_gst, k_isIn, k_isSlot, k_isItem, k_isGroup, k_isRobot, k_are, k_holds0, k_holds1, k_holds2, k_holds3, k_bit, k_less, bI_t, bI_f, i10, i00, i01, i11, i20, i30, ↓reduceIte, h.kNot, h1, h.kLot, h2, h3, r_gnI g8 (show mL 25 < 2 ^ 31 by decide), nI_clamp (show n < 2 ^ 31 by omega), a3, q, e12, r_gnI (show 12 * n + l < mL 26 from j96) (show mL 26 < 2 ^ 31 by decide), nI_clamp (show 12 * n + l < 2 ^ 31 by omega), e26, kb', m2, e216, r_gnI (show 12 * 18 + l < mL 19 from show 12 * 18 + l < 336 by omega) (show mL 19 < 2 ^ 31 by decide), nI_clamp (show 12 * 18 + l < 2 ^ 31 by omega), tBI, ← t8]
          · rw [fII (by decide), bkV_I]; rfl
        · refine sti_th g hm (u := 3) (c := 3) (r := 0) ?_ ?_ (by simp) (by decide) (by decide)
          · simp only [f_X11_receive, r_mb, bnd_s, r_mrd, r_mbo, r_mret, r_mthr, r_wA, r_wO, r_madd, r_mput, r_mopt, r_mcn, r_mcs, ite_f, e_isWithin, e_isSlot, e_isItem, e_isGroup, e_isRobot, e_isLot, e_isNotice, e_isOrder, e_isTask, bI_t, bI_f, i10, i00, i01, i11, i20, i30, ↓reduceIte, h.nn', h1, h.nl, h2, h3, mlget, h.atN hn, q]; try rfl
          · simp only [g_X12_receive_58, g_X12_receive_21, g_X12_receive_20, g_X12_receive, kif, r_gb, gbn_s, r_grd, r_gbo, r_gret, r_gst, k_isIn, k_isSlot, k_isItem, k_isGroup, k_isRobot, k_are, k_holds0, k_holds1, k_holds2, k_holds3, k_bit, k_less, bI_t, bI_f, i10, i00, i01, i11, i20, i30, ↓reduceIte, h.kNot, h1, h.kLot, h2, h3, r_gnI g8 (show mL 25 < 2 ^ 31 by decide), nI_clamp (show n < 2 ^ 31 by omega), a3, q]; try rfl
theorem I_neg {x y : Int32} : y + -x = y - x := (Int32.sub_eq_add_neg ..).symm
theorem s_comeBack (g : GG m S w) (hm : m < 512) (x y z : Int32) : STi GG m S w (f_X11_comeBack x y z) (g_X12_comeBack x y z) [(1, 1), (2, 2), (3, 3)] := by
  obtain ⟨B, k, hB, hk, hk2, hc1, hc2, h⟩ := g.out
  have h12 := h.lo.1
  have h8 := h.or.1
  cases h1 : okI x (zN S 7) with
  | false =>
    refine sti_th g hm (u := 1) (c := 1) (r := 0) ?_ ?_ (by simp) (by decide) (by decide)
    · simp only [f_X11_comeBack, r_mb, bnd_s, r_mrd, r_mbo, r_mret, r_mthr, r_wA, r_wO, r_madd, r_mput, r_mopt, r_mcn, r_mcs, ite_f, e_isWithin, e_isSlot, e_isItem, e_isGroup, e_isRobot, e_isLot, e_isNotice, e_isOrder, e_isTask, bI_t, bI_f, i10, i00, i01, i11, i20, i30, ↓reduceIte, h.nor, h1]; try rfl
    · simp only [g_X12_comeBack_64, g_X12_comeBack_21, g_X12_comeBack_20, g_X12_comeBack, kif, r_gb, gbn_s, r_grd, r_gbo, r_gret, r_gst, k_isIn, k_isSlot, k_isItem, k_isGroup, k_isRobot, k_are, k_holds0, k_holds1, k_holds2, k_holds3, k_bit, k_less, bI_t, bI_f, i10, i00, i01, i11, i20, i30, ↓reduceIte, h.kOrd, h1]; try rfl
  | true =>
    cases h2 : okI y (zN S 5) with
    | false =>
      refine sti_th g hm (u := 1) (c := 1) (r := 0) ?_ ?_ (by simp) (by decide) (by decide)
      · simp only [f_X11_comeBack, r_mb, bnd_s, r_mrd, r_mbo, r_mret, r_mthr, r_wA, r_wO, r_madd, r_mput, r_mopt, r_mcn, r_mcs, ite_f, e_isWithin, e_isSlot, e_isItem, e_isGroup, e_isRobot, e_isLot, e_isNotice, e_isOrder, e_isTask, bI_t, bI_f, i10, i00, i01, i11, i20, i30, ↓reduceIte, h.nor, h1, h.nl, h2]; try rfl
      · simp only [g_X12_comeBack_64, g_X12_comeBack_21, g_X12_comeBack_20, g_X12_comeBack, kif, r_gb, gbn_s, r_grd, r_gbo, r_gret, r_gst, k_isIn, k_isSlot, k_isItem, k_isGroup, k_isRobot, k_are, k_holds0, k_holds1, k_holds2, k_holds3, k_bit, k_less, bI_t, bI_f, i10, i00, i01, i11, i20, i30, ↓reduceIte, h.kOrd, h1, h.kLot, h2]; try rfl
    | true =>
      cases h3 : inI z 1 99 with
      | false =>
        refine sti_th g hm (u := 2) (c := 2) (r := 0) ?_ ?_ (by simp) (by decide) (by decide)
        · simp only [f_X11_comeBack, r_mb, bnd_s, r_mrd, r_mbo, r_mret, r_mthr, r_wA, r_wO, r_madd, r_mput, r_mopt, r_mcn, r_mcs, ite_f, e_isWithin, e_isSlot, e_isItem, e_isGroup, e_isRobot, e_isLot, e_isNotice, e_isOrder, e_isTask, bI_t, bI_f, i10, i00, i01, i11, i20, i30, ↓reduceIte, h.nor, h1, h.nl, h2, h3]; try rfl
        · simp only [g_X12_comeBack_64, g_X12_comeBack_21, g_X12_comeBack_20, g_X12_comeBack, kif, r_gb, gbn_s, r_grd, r_gbo, r_gret, r_gst, k_isIn, k_isSlot, k_isItem, k_isGroup, k_isRobot, k_are, k_holds0, k_holds1, k_holds2, k_holds3, k_bit, k_less, bI_t, bI_f, i10, i00, i01, i11, i20, i30, ↓reduceIte, h.kOrd, h1, h.kLot, h2, h3]; try rfl
      | true =>
        obtain ⟨n, hn, rfl⟩ := okI_t (by omega) h1
        obtain ⟨l, hl, rfl⟩ := okI_t (by omega) h2
        have hz : tI z 1 99 := inI_t h3
        have j96 : 12 * n + l < 96 := by omega
        have e12 : (12 : Int32) * nI n + nI l = nI (12 * n + l) := by rw [show (12 : Int32) = nI 12 from rfl, pk_mul, nI_add]
        have e228 : (228 : Int32) + nI l = nI (12 * 19 + l) := by rw [show (228 : Int32) = nI 228 from rfl, nI_add]
        have ecat1 : cAt S 1111 (nI n) (nI l) = zC S 1111 (12 * n + l) := cAt_in (r := 1111) (p := n) (l := l) (show l < 12 by omega) (show n * 12 + l < 96 by omega)
        have e33 : mA w 33 (12 * n + l) = zC S 1111 (12 * n + l) := (h.aw.1 _ j96).symm
        by_cases q : z ≤ zC S 1111 (12 * n + l)
        · have eadd : cAdd 1111 (nI n) (nI l) (-z) S = pC 1111 (12 * n + l) (zC S 1111 (12 * n + l) - z) S := by
            rw [← I_neg]; exact cAdd_in (r := 1111) (p := n) (l := l) (show l < 12 by omega) (show n * 12 + l < 96 by omega)
          have hsent : ¬ (n < zN S 7 → zA S 705 n = 0) := fun r => by
            have e0 := h.aw.2 n l (by omega) (by omega) r
            rw [e0] at q
            have := I_le.mp q
            have := (tI_of hz).1
            have e9 : (0 : Int32).toInt = 0 := rfl
            omega
          have hR1 := (h.thr 0).awy n l (zC S 1111 (12 * n + l) - z) (by omega) hsent
          obtain ⟨T, k', t0, t1, t2, t3, t4, t5, t6, t7, t8⟩ := hR1.comes (by omega) (p := 19) (Or.inr rfl) (l := l) hl hz (by omega)
          have e18 : zA T 1118 0 = zA S 1118 0 := by rw [t4 1118 (by decide)]; rfl
          have m2 : mI (bkV (mSA 33 (12 * n + l) (zC S 1111 (12 * n + l) - z) (mSI 0 0 w)) 19 l z) 2 = zA S 1118 0 := by rw [bkV_I]; exact h.sc.2.1
          have k216 : k' ≤ k + 1 := t1
          have hR2 := t2.bil (zA S 1118 0 + 2 * z)
          refine sti_st (T := pA 1118 0 (zA S 1118 0 + 2 * z) T) (v := mSI 2 (zA S 1118 0 + 2 * z) (bkV (mSA 33 (12 * n + l) (zC S 1111 (12 * n + l) - z) (mSI 0 0 w)) 19 l z)) (r := zC T 0 (12 * 19 + l)) ?_ ?_ ?_ ?_
          · have hc3 := t7
            unfold cst at hc3
            have z0 : zN (pC 1111 (12 * n + l) (zC S 1111 (12 * n + l) - z) S) = zN S := rfl
            rw [z0] at hc3 t6
            refine g.inm hm (fun f hf => ?_) t3 ⟨t6 10 (by decide), t6 7 (by decide)⟩ hc3.2.1 hc3.2.2 hB hk (show B + 99 ≤ B + 15000 by omega) k216 hR2
            rw [fAA (by omega), t4 f (by omega)]; rfl
          · have ecat : cAt (pA 1118 0 (zA S 1118 0 + 2 * z) T) 0 19 (nI l) = zC T 0 (12 * 19 + l) := cAt_in (S := pA 1118 0 (zA S 1118 0 + 2 * z) T) (r := 0) (p := 19) (l := l) (show l < 12 by omega) (show 19 * 12 + l < 336 by omega)
            have t0' : (f_X0_move (-1) 19 l z).1 (pC 1111 (12 * n + l) (zC S 1111 (12 * n + l) - z) S) = some ((), T) := t0
            have atl : lAt (zL (pC 1111 (12 * n + l) (zC S 1111 (12 * n + l) - z) S) 1103 0) (nI l) = some l := h.atL hl
            simp only [f_X11_comeBack, r_mb, bnd_s, r_mrd, r_mbo, r_mret, r_mthr, r_wA, r_wO, r_madd, r_mput, r_mopt, r_mcn, r_mcs, ite_f, e_isWithin, e_isSlot, e_isItem, e_isGroup, e_isRobot, e_isLot, e_isNotice, e_isOrder, e_isTask, bI_t, bI_f, i10, i00, i01, i11, i20, i30, ↓reduceIte, h.nor, h1, h.nl, h2, h3, mlget, ecat1, q, eadd, atl, t0', e18, ecat]
          · have e26 : mA (mSI 0 0 w) 33 (12 * n + l) = zC S 1111 (12 * n + l) := e33
            have kb := k_books (w := mSA 33 (12 * n + l) (zC S 1111 (12 * n + l) - z) (mSI 0 0 w)) (p := 19) (l := l) (by decide) (show l < 12 by omega) z
            have kb' : g_X12_books 19 (nI l) z (mSA 33 (12 * n + l) (zC S 1111 (12 * n + l) - z) (mSI 0 0 w)) = _ := kb
            simp only [g_X12_comeBack_64, g_X12_comeBack_21, g_X12_comeBack_20, g_X12_comeBack, kif, r_gb, gbn_s, r_grd, r_gbo, r_gret, r_gst, k_isIn, k_isSlot, k_isItem, k_isGroup, k_isRobot, k_are, k_holds0, k_holds1, k_holds2, k_holds3, k_bit, k_less, bI_t, bI_f, i10, i00, i01, i11, i20, i30, ↓reduceIte, h.kOrd, h1, h.kLot, h2, h3, e12, r_gnI (show 12 * n + l < mL 33 from j96) (show mL 33 < 2 ^ 31 by decide), nI_clamp (show 12 * n + l < 2 ^ 31 by omega), e33, q, e26, kb', m2, e228, r_gnI (show 12 * 19 + l < mL 19 from show 12 * 19 + l < 336 by omega) (show mL 19 < 2 ^ 31 by decide), nI_clamp (show 12 * 19 + l < 2 ^ 31 by omega), tBI, ← t8]
          · rw [fII (by decide), bkV_I]; rfl
        · refine sti_th g hm (u := 3) (c := 3) (r := 0) ?_ ?_ (by simp) (by decide) (by decide)
          · simp only [f_X11_comeBack, r_mb, bnd_s, r_mrd, r_mbo, r_mret, r_mthr, r_wA, r_wO, r_madd, r_mput, r_mopt, r_mcn, r_mcs, ite_f, e_isWithin, e_isSlot, e_isItem, e_isGroup, e_isRobot, e_isLot, e_isNotice, e_isOrder, e_isTask, bI_t, bI_f, i10, i00, i01, i11, i20, i30, ↓reduceIte, h.nor, h1, h.nl, h2, h3, ecat1, q]; try rfl
          · simp only [g_X12_comeBack_64, g_X12_comeBack_21, g_X12_comeBack_20, g_X12_comeBack, kif, r_gb, gbn_s, r_grd, r_gbo, r_gret, r_gst, k_isIn, k_isSlot, k_isItem, k_isGroup, k_isRobot, k_are, k_holds0, k_holds1, k_holds2, k_holds3, k_bit, k_less, bI_t, bI_f, i10, i00, i01, i11, i20, i30, ↓reduceIte, h.kOrd, h1, h.kLot, h2, h3, e12, r_gnI (show 12 * n + l < mL 33 from j96) (show mL 33 < 2 ^ 31 by decide), nI_clamp (show 12 * n + l < 2 ^ 31 by omega), e33, q]; try rfl
end
