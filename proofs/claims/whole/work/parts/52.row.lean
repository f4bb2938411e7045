/-! the rows of the robots -/
theorem nd_len : ∀ (N : Nat) (xs : List Nat), xs.Nodup → (∀ x, x ∈ xs → x < N) → xs.length ≤ N
  | 0, [], _, _ => Nat.le_refl _
  | 0, b :: t, _, h => absurd (h b (List.mem_cons_self ..)) (by omega)
  | N + 1, xs, h1, h2 => by
    by_cases q : N ∈ xs
    · have e := List.length_erase_of_mem q
      have := nd_len N (xs.erase N) (h1.erase N) fun x hx => by
        have := (h1.mem_erase_iff).mp hx
        have := h2 x this.2
        omega
      omega
    · have := nd_len N xs h1 fun x hx => by
        have := h2 x hx
        have : x ≠ N := fun r => q (r ▸ hx)
        omega
      omega
theorem dw_fil (q : Nat → Bool) : ∀ xs : List Nat, (xs.dropWhile fun t => !q t).filter q = xs.filter q ∧ (xs.dropWhile fun t => !q t).head? = (xs.filter q).head? ∧ (xs.dropWhile fun t => !q t).Sublist xs
  | [] => ⟨rfl, rfl, List.Sublist.refl _⟩
  | b :: t => by
    obtain ⟨h1, h2, h3⟩ := dw_fil q t
    cases h : q b with
    | true =>
      have e : (b :: t).dropWhile (fun t => !q t) = b :: t := by rw [List.dropWhile_cons_of_neg (by simp [h])]
      rw [e, List.filter_cons_of_pos h]
      exact ⟨rfl, rfl, List.Sublist.refl _⟩
    | false =>
      have e : (b :: t).dropWhile (fun t => !q t) = t.dropWhile (fun t => !q t) := by rw [List.dropWhile_cons_of_pos (by simp [h])]
      rw [e, List.filter_cons_of_neg (by simp [h])]
      exact ⟨h1, h2, h3.cons b⟩
section
variable {m : Nat} {S T : Ss} {w v : MS}
theorem pL_id (f i : Nat) : pL f i (zL S f i) (zP S f i) S = S := by
  have e1 : u2 f i (zL S f i) (zL S) = zL S := by
    funext a b; rw [u2_at]; split
    · rename_i r; rw [r.1, r.2]
    · rfl
  have e2 : u2 f i (zP S f i) (zP S) = zP S := by
    funext a b; rw [u2_at]; split
    · rename_i r; rw [r.1, r.2]
    · rfl
  show (zA S, zO S, u2 f i (zL S f i) (zL S), u2 f i (zP S f i) (zP S), zC S, zM S, zN S) = S
  rw [e1, e2]; rfl
theorem pL_pL (f i c d : Nat) (xs ys : List Nat) : pL f i xs c (pL f i ys d S) = pL f i xs c S := by
  have e1 : u2 f i xs (u2 f i ys (zL S)) = u2 f i xs (zL S) := by
    funext a b; rw [u2_at, u2_at, u2_at]; split <;> rfl
  have e2 : u2 f i c (u2 f i d (zP S)) = u2 f i c (zP S) := by
    funext a b; rw [u2_at, u2_at, u2_at]; split <;> rfl
  show (zA S, zO S, u2 f i xs (u2 f i ys (zL S)), u2 f i c (u2 f i d (zP S)), zC S, zM S, zN S) = _
  rw [e1, e2]; rfl
def isT (S : Ss) (t : Nat) : Bool := decide (zA S 1005 t = 1)
def frs (S : Ss) (r : Nat) : List Nat := (zL S 800 r).dropWhile fun t => !isT S t
def frT (S : Ss) (r : Nat) : Ss := pL 800 r (frs S r) (zP S 800 r) S
theorem lAt_0 {x : Nat} {t : List Nat} : lAt (x :: t) 0 = some x := lAt_n (p := 0) (by decide) rfl
theorem e_first0 (r : Nat) : ∀ (xs : List Nat) (S : Ss) (f : Nat), zL S 800 r = xs → xs.length < f → (f_X8_firstTask_0 f r).1 S = some ((xs.dropWhile fun t => !isT S t).head?, pL 800 r (xs.dropWhile fun t => !isT S t) (zP S 800 r) S) := by
  intro xs
  induction xs with
  | nil =>
    intro S f h hf
    obtain ⟨f, rfl⟩ : ∃ f', f = f' + 1 := ⟨f - 1, by simp at hf; omega⟩
    have e := pL_id (S := S) 800 r
    rw [h] at e
    simp only [f_X8_firstTask_0, f_X8_firstTask_40, r_mb, bnd_s, r_mrd, r_mbo, r_mret, r_mthr, r_wA, r_wO, r_madd, r_mput, r_mopt, r_mcn, r_mcs, ite_f, e_isWithin, e_isSlot, e_isItem, e_isGroup, e_isRobot, e_isLot, e_isNotice, e_isOrder, e_isTask, bI_t, bI_f, i10, i00, i01, i11, i20, i30, ↓reduceIte, h, List.length_nil]
    rw [List.dropWhile_nil, e]; rfl
  | cons x t ih =>
    intro S f h hf
    have hf' : t.length + 1 < f := hf
    obtain ⟨f, rfl⟩ : ∃ f', f = f' + 1 := ⟨f - 1, by omega⟩
    have hl : ¬ (t.length + 1 = 0) := by omega
    by_cases q : zA S 1005 x = 1
    · have q' : isT S x = true := decide_eq_true q
      have e := pL_id (S := S) 800 r
      rw [h] at e
      simp only [f_X8_firstTask_0, f_X8_firstTask_40, r_mb, bnd_s, r_mrd, r_mbo, r_mret, r_mthr, r_wA, r_wO, r_madd, r_mput, r_mopt, r_mcn, r_mcs, ite_f, e_isWithin, e_isSlot, e_isItem, e_isGroup, e_isRobot, e_isLot, e_isNotice, e_isOrder, e_isTask, bI_t, bI_f, i10, i00, i01, i11, i20, i30, ↓reduceIte, h, List.length_cons, hl, mlget, lAt_0, q]
      rw [List.dropWhile_cons_of_neg (by simp [q']), e]; rfl
    · have q' : isT S x = false := decide_eq_false q
      have e9 : pRem 800 r (0 : Int32).toNatClampNeg S = pL 800 r t (zP S 800 r) S := by
        rw [nI_z]; unfold pRem; rw [h]; rfl
      have := ih (pL 800 r t (zP S 800 r) S) f (by rw [sLL, if_pos rfl]) (by omega)
      have e8 : isT (pL 800 r t (zP S 800 r) S) = isT S := rfl
      rw [e8, sPL, if_pos rfl, pL_pL] at this
      simp only [f_X8_firstTask_0, r_mb, bnd_s, r_mrd, r_mbo, r_mret, r_mthr, r_wA, r_wO, r_madd, r_mput, r_mopt, r_mcn, r_mcs, ite_f, e_isWithin, e_isSlot, e_isItem, e_isGroup, e_isRobot, e_isLot, e_isNotice, e_isOrder, e_isTask, bI_t, bI_f, i10, i00, i01, i11, i20, i30, ↓reduceIte, h, List.length_cons, hl, mlget, mlrem, lAt_0, q]
      show (f_X8_firstTask_0 f r).1 (pRem 800 r (0 : Int32).toNatClampNeg S) = _
      rw [e9, List.dropWhile_cons_of_pos (by simp [q'])]
      exact this
theorem Rel.rlen {B k : Nat} (h : Rel B k S w) {r : Nat} (hr : r < 3) : (zL S 800 r).length ≤ zN S 10 := by
  obtain ⟨-, -, -, -, a5, a6, -⟩ := h.ro.1 r hr
  exact nd_len _ _ a5 fun x hx => (a6 x hx).1
theorem Rel.rlen2 {B k : Nat} (h : Rel B k S w) {r : Nat} (hr : r < 3) : (rowS S r).length ≤ zN S 10 := Nat.le_trans (List.length_filter_le ..) (h.rlen hr)
theorem Rel.eFirst {B k : Nat} (h : Rel B k S w) {r : Nat} (hr : r < 3) : (f_X8_firstTask r).1 S = some ((rowS S r).head?, frT S r) := by
  have h60 := h.ta.1
  have := h.rlen hr
  have e := e_first0 r (zL S 800 r) S FU rfl (FU_gt (by omega))
  unfold f_X8_firstTask
  rw [e, (dw_fil (isT S) (zL S 800 r)).2.1]; rfl
theorem Rel.frRel {B k : Nat} (h : Rel B k S w) {r : Nat} (hr : r < 3) : Rel B k (frT S r) w := by
  have hL : ∀ f, f ≠ 800 → zL (frT S r) f = zL S f := fun f hf => fLL hf
  have hA : ∀ f, True → zA (frT S r) f = zA S f := fun f _ => rfl
  have hO : ∀ f, True → zO (frT S r) f = zO S f := fun f _ => rfl
  have hC : ∀ f, True → zC (frT S r) f = zC S f := fun f _ => rfl
  have hN : ∀ f, True → zN (frT S r) f = zN S f := fun f _ => rfl
  have hM : zM (frT S r) = zM S := rfl
  have hI : ∀ f, True → mI w f = mI w f := fun f _ => rfl
  have hB : ∀ f, True → mA w f = mA w f := fun f _ => rfl
  have hl : ∀ q, zL (frT S r) 800 q = if q = r then frs S r else zL S 800 q := fun q => sLL
  obtain ⟨d1, d2, d3⟩ := dw_fil (isT S) (zL S 800 r)
  have hs : ∀ q, rowS (frT S r) q = rowS S q := fun q => by
    unfold rowS; rw [hl]
    split
    · rename_i e; rw [e]; exact d1
    · rfl
  have ro : g_ro (frT S r) w := by
    obtain ⟨n1, n2, n3, n4⟩ := h.ro
    refine ⟨fun q hq => ?_, n2, fun q q' t hq hq' ht ht' => ?_, fun t ht => ?_⟩
    · obtain ⟨a1, a2, a3, a4, a5, a6, a7⟩ := n1 q hq
      rw [hs]
      refine ⟨a1, a2, a3, a4, ?_, fun t ht => ?_, a7⟩
      · rw [hl]; split
        · rename_i e; rw [e] at a5; exact a5.sublist d3
        · exact a5
      · rw [hl] at ht
        split at ht
        · rename_i e; rw [e] at a6; exact a6 t (d3.subset ht)
        · exact a6 t ht
    · refine n3 q q' t hq hq' ?_ ?_
      · rw [hl] at ht; split at ht
        · rename_i e; rw [e]; exact d3.subset ht
        · exact ht
      · rw [hl] at ht'; split at ht'
        · rename_i e; rw [e]; exact d3.subset ht'
        · exact ht'
    · obtain ⟨b1, b2⟩ := n4 t ht
      refine ⟨b1, fun h1 => ?_⟩
      obtain ⟨q, hq, hm⟩ := b2 h1
      refine ⟨q, hq, ?_⟩
      rw [hl]; split
      · rename_i e
        rw [e] at hm
        have : t ∈ (frs S r).filter (isT S) := by
          show t ∈ ((zL S 800 r).dropWhile fun t => !isT S t).filter (isT S)
          rw [d1]; exact List.mem_filter.mpr ⟨hm, decide_eq_true h1⟩
        exact (List.mem_filter.mp this).1
      · exact hm
  exact ⟨(cg_sl (hA 900 (by decide)) (hA 901 (by decide)) (hA 903 (by decide)) (hA 904 (by decide)) (hO 902 (by decide)) (hB 4 (by decide)) (hB 5 (by decide)) (hB 6 (by decide)) (hB 7 (by decide)) (hB 8 (by decide)) h.sl), (cg_it (hA 300 (by decide)) (hA 301 (by decide)) (hA 302 (by decide)) (hA 303 (by decide)) (hA 304 (by decide)) (hA 305 (by decide)) (hB 9 (by decide)) (hB 10 (by decide)) (hB 11 (by decide)) (hB 12 (by decide)) (hB 13 (by decide)) h.it), (cg_ba (hA 1115 (by decide)) (hB 14 (by decide)) h.ba), (cg_sc (hA 1116 (by decide)) (hA 1118 (by decide)) (hA 1117 (by decide)) (hI 1 (by decide)) (hI 2 (by decide)) (hI 3 (by decide)) h.sc), (cg_lo (hN 5 (by decide)) (hL 1103 (by decide)) (hA 500 (by decide)) (hA 502 (by decide)) (hA 503 (by decide)) (hO 501 (by decide)) (hI 15 (by decide)) (hB 16 (by decide)) (hB 17 (by decide)) (hB 18 (by decide)) h.lo), (cg_be (hL 1104 (by decide)) (hN 5 (by decide)) (hA 502 (by decide)) h.be), (cg_no (hN 6 (by decide)) (hL 1105 (by decide)) (hO 600 (by decide)) (hA 601 (by decide)) (hA 602 (by decide)) (hI 22 (by decide)) (hB 23 (by decide)) (hB 24 (by decide)) (hB 25 (by decide)) h.no), (cg_ca (hC 1110 (by decide)) (hB 26 (by decide)) h.ca), (cg_aw (hC 1111 (by decide)) (hN 7 (by decide)) (hA 705 (by decide)) (hB 33 (by decide)) h.aw), (cg_or (hN 7 (by decide)) (hN 72 (by decide)) (hL 1106 (by decide)) (hA 700 (by decide)) (hA 701 (by decide)) (hA 702 (by decide)) (hA 703 (by decide)) (hA 705 (by decide)) (hI 27 (by decide)) (hB 28 (by decide)) (hB 29 (by decide)) (hB 30 (by decide)) (hB 31 (by decide)) (hB 32 (by decide)) h.or), (cg_li (hN 7 (by decide)) (hL 704 (by decide)) (hN 4 (by decide)) (hO 400 (by decide)) (hA 401 (by decide)) (hA 402 (by decide)) (hA 403 (by decide)) (hB 31 (by decide)) (hB 36 (by decide)) (hB 37 (by decide)) (hB 38 (by decide)) h.li), (cg_bk (hC 0 (by decide)) (hC 1 (by decide)) (hN 5 (by decide)) (hO 501 (by decide)) (hB 19 (by decide)) h.bk), (cg_nn (hC 0 (by decide)) (hC 2 (by decide)) h.nn), (cg_tr (hC 2 (by decide)) (hC 0 (by decide)) (hB 20 (by decide)) h.tr), (cg_db (hC 5 (by decide)) (hB 21 (by decide)) h.db), (cg_mv (hA 7 (by decide)) (hN 60 (by decide)) hM (hC 0 (by decide)) h.mv), (cg_ho (hL 1107 (by decide)) (hN 2 (by decide)) (hA 204 (by decide)) (hN 5 (by decide)) (hO 203 (by decide)) (hA 202 (by decide)) (hO 200 (by decide)) (hO 201 (by decide)) (hO 205 (by decide)) (hN 7 (by decide)) (hL 704 (by decide)) (hA 705 (by decide)) (hN 10 (by decide)) (hO 1002 (by decide)) (hA 1005 (by decide)) (hA 1004 (by decide)) h.ho), (cg_hs (hC 3 (by decide)) (hL 1107 (by decide)) (hA 202 (by decide)) (hO 203 (by decide)) (hA 204 (by decide)) (hC 0 (by decide)) (hN 4 (by decide)) (hA 402 (by decide)) (hO 201 (by decide)) h.hs), (cg_hm (hI 39 (by decide)) (hL 1107 (by decide)) (hO 200 (by decide)) (hO 201 (by decide)) (hO 203 (by decide)) (hL 704 (by decide)) (hA 202 (by decide)) (hA 204 (by decide)) (hO 205 (by decide)) (hB 40 (by decide)) (hB 41 (by decide)) (hB 42 (by decide)) (hB 43 (by decide)) (hB 44 (by decide)) h.hm), (cg_ta (hN 10 (by decide)) (hL 1108 (by decide)) (hI 45 (by decide)) (hA 1000 (by decide)) (hA 1001 (by decide)) (hA 1003 (by decide)) (hA 1004 (by decide)) (hA 1005 (by decide)) (hA 1006 (by decide)) (hO 1002 (by decide)) (hN 2 (by decide)) (hO 203 (by decide)) (hN 5 (by decide)) (hL 1107 (by decide)) (hO 205 (by decide)) (hO 200 (by decide)) (hO 201 (by decide)) (hA 202 (by decide)) (hN 7 (by decide)) (hL 704 (by decide)) (hB 46 (by decide)) (hB 47 (by decide)) (hB 48 (by decide)) (hB 49 (by decide)) (hB 50 (by decide)) (hB 51 (by decide)) (hB 52 (by decide)) (hB 54 (by decide)) h.ta), (cg_ap (hC 4 (by decide)) (hN 10 (by decide)) (hA 1005 (by decide)) (hA 1001 (by decide)) (hA 1003 (by decide)) (hA 1004 (by decide)) (hO 501 (by decide)) (hO 203 (by decide)) (hO 1002 (by decide)) (hO 902 (by decide)) h.ap), ro, (cg_st (hN 7 (by decide)) (hA 705 (by decide)) (hN 5 (by decide)) (hC 0 (by decide)) (hL 704 (by decide)) (hA 403 (by decide)) h.st), (cg_bx (hN 7 (by decide)) (hA 705 (by decide)) (hA 706 (by decide)) (hC 1112 (by decide)) (hA 302 (by decide)) (hA 303 (by decide)) (hA 304 (by decide)) (hO 501 (by decide)) (hN 5 (by decide)) (hB 34 (by decide)) (hB 35 (by decide)) h.bx)⟩
theorem s_doing (g : GG m S w) (hm : m < 512) (x : Int32) : STi GG m S w (f_X11_doing x) (g_X12_doing x) [(1, 1)] := by
  obtain ⟨-, -, -, B, k, -, -, h⟩ := id g
  cases h1 : okI x 3 with
  | false =>
    refine sti_th g hm (u := 1) (c := 1) (r := 0) ?_ ?_ (by simp) (by decide) (by decide)
    · simp only [f_X11_doing, r_mb, bnd_s, r_mrd, r_mbo, r_mret, r_mthr, r_wA, r_wO, r_madd, r_mput, r_mopt, r_mcn, r_mcs, ite_f, e_isWithin, e_isSlot, e_isItem, e_isGroup, e_isRobot, e_isLot, e_isNotice, e_isOrder, e_isTask, bI_t, bI_f, i10, i00, i01, i11, i20, i30, ↓reduceIte, h1]; try rfl
    · simp only [g_X12_doing_13, g_X12_doing, kif, r_gb, gbn_s, r_grd, r_gbo, r_gret, r_gst, k_isIn, k_isSlot, k_isItem, k_isGroup, k_isRobot, k_are, k_holds0, k_holds1, k_holds2, k_holds3, k_bit, k_less, bI_t, bI_f, i10, i00, i01, i11, i20, i30, ↓reduceIte, h1]; try rfl
  | true =>
    obtain ⟨r, hr, rfl⟩ := okI_t (by decide) h1
    obtain ⟨-, -, a3, a4, -⟩ := h.ro.1 r hr
    have hP : zP (frT S r) = zP S := by
      funext a b
      show u2 800 r (zP S 800 r) (zP S) a b = _
      rw [u2_at]; split
      · rename_i e; rw [e.1, e.2]
      · rfl
    have gg : GG (m + 1) (frT S r) (mSI 0 0 w) := g.st hm rfl hP (fun _ => rfl) (fun _ => rfl) (fun _ => rfl) fun B k hB hR => ⟨B, by omega, (hR.frRel hr).thr 0⟩
    have e60 : (60 : Int32) * nI r = nI (60 * r) := by rw [show (60 : Int32) = nI 60 from rfl, pk_mul]
    have hlen := h.rlen2 hr
    have h60 := h.ta.1
    cases hd : rowS S r with
    | nil =>
      rw [hd] at a3
      refine sti_st (T := frT S r) (v := mSI 0 0 w) (r := -1) gg ?_ ?_ rfl
      · simp only [f_X11_doing, r_mb, bnd_s, r_mrd, r_mbo, r_mret, r_mthr, r_wA, r_wO, r_madd, r_mput, r_mopt, r_mcn, r_mcs, ite_f, e_isWithin, e_isSlot, e_isItem, e_isGroup, e_isRobot, e_isLot, e_isNotice, e_isOrder, e_isTask, bI_t, bI_f, i10, i00, i01, i11, i20, i30, ↓reduceIte, h1, r_mnI (show r < aLn 1102 from hr) (show aLn 1102 < 2 ^ 31 by decide), nI_clamp (show r < 2 ^ 31 by omega), h.eFirst hr, hd, List.head?_nil]
      · simp only [g_X12_doing_13, g_X12_doing, kif, r_gb, gbn_s, r_grd, r_gbo, r_gret, r_gst, k_isIn, k_isSlot, k_isItem, k_isGroup, k_isRobot, k_are, k_holds0, k_holds1, k_holds2, k_holds3, k_bit, k_less, bI_t, bI_f, i10, i00, i01, i11, i20, i30, ↓reduceIte, mI_mSA, mI_mSI, mA_mSI, mA_mSA, Nat.reduceEqDiff, reduceCtorEq, Nat.reduceEqDiff, false_and, true_and, and_true, h1, r_gnI (show r < mL 59 from hr) (show mL 59 < 2 ^ 31 by decide), nI_clamp (show r < 2 ^ 31 by omega), a3, show nI ([] : List Nat).length = (0 : Int32) from rfl]
    | cons t ts =>
      rw [hd] at a3 a4 hlen
      have ht : t < zN S 10 := by
        have : t ∈ rowS S r := by rw [hd]; exact List.mem_cons_self ..
        exact ((h.ro.1 r hr).2.2.2.2.2.1 t (List.mem_filter.mp this).1).1
      have e1 := (h.ta.2.2.2 t ht).1
      have hne : ¬ nI (t :: ts).length = 0 := nI_ne0 (by simp) (by omega)
      refine sti_st (T := frT S r) (v := mSI 0 0 w) (r := nI t) gg ?_ ?_ rfl
      · simp only [f_X11_doing, r_mb, bnd_s, r_mrd, r_mbo, r_mret, r_mthr, r_wA, r_wO, r_madd, r_mput, r_mopt, r_mcn, r_mcs, ite_f, e_isWithin, e_isSlot, e_isItem, e_isGroup, e_isRobot, e_isLot, e_isNotice, e_isOrder, e_isTask, bI_t, bI_f, i10, i00, i01, i11, i20, i30, ↓reduceIte, h1, r_mnI (show r < aLn 1102 from hr) (show aLn 1102 < 2 ^ 31 by decide), nI_clamp (show r < 2 ^ 31 by omega), h.eFirst hr, hd, List.head?_cons]
        show some (((0 : Nat), zA S 1000 t), frT S r) = _
        rw [e1]
      · have a9 : mA w 58 (60 * r) = nI t := a4 0 t rfl
        simp only [g_X12_doing_13, g_X12_doing, kif, r_gb, gbn_s, r_grd, r_gbo, r_gret, r_gst, k_isIn, k_isSlot, k_isItem, k_isGroup, k_isRobot, k_are, k_holds0, k_holds1, k_holds2, k_holds3, k_bit, k_less, bI_t, bI_f, i10, i00, i01, i11, i20, i30, ↓reduceIte, mI_mSA, mI_mSI, mA_mSI, mA_mSA, Nat.reduceEqDiff, reduceCtorEq, Nat.reduceEqDiff, false_and, true_and, and_true, h1, r_gnI (show r < mL 59 from hr) (show mL 59 < 2 ^ 31 by decide), nI_clamp (show r < 2 ^ 31 by omega), a3, hne, e60, r_gnI (show 60 * r < mL 58 from show 60 * r < 180 by omega) (show mL 58 < 2 ^ 31 by decide), nI_clamp (show 60 * r < 2 ^ 31 by omega), a9]
end
