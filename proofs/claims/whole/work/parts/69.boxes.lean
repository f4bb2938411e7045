section
variable {m : Nat} {S T : Ss} {w v : MS}
def bxs (S : Ss) (o : Nat) : List Bx := if zA S 705 o = 0 then pkn S o else pkd S o
theorem Rel.ePack {B k : Nat} (h : Rel B k S w) {o : Nat} (ho : o < zN S 7) : ∃ T, (f_X11_pack o).1 S = some ((), T) ∧ BXc T (bxs S o) ∧ PFc S T := by
  have h8 := h.or.1
  have hz : ∀ i, i < 6 → tI (zA S 302 i) 1 9 := fun i hi => (h.it i hi).2.2.2.2.2.2.1
  have o7 := (h.or.2.2.2.2.1 o ho).1
  unfold bxs
  by_cases q : zA S 705 o = 0
  · rw [if_pos q]
    refine e_pack (zA S 1115 0) (o := o) (c := stC S o) (by rw [if_pos q]) h.hI hz (h.stSum ho q) fun U i hi hU => ?_
    have e20 : (20 : Int32) + nI o = nI (20 + o) := by rw [show (20 : Int32) = nI 20 from rfl, nI_add]
    have ec : cAt U 1 (nI (20 + o)) (nI i) = zC S 1 (6 * (20 + o) + i) := by
      rw [cAt_in (S := U) (r := 1) (p := 20 + o) (l := i) hi (show (20 + o) * 6 + i < 168 by omega), hU.2.2.2.2.2.2 1 (by decide)]; rfl
    have e1 : nI (stC S o i) = zC S 1 (6 * (20 + o) + i) := nI_tn (h.n1 (by omega) hi)
    have z5 : zA U 705 o = 0 := by rw [hU.1 705 (by decide)]; exact q
    have z0 : zA U 700 o = nI o := by rw [hU.1 700 (by decide)]; exact o7
    have zi : zA U 300 i = nI i := by rw [hU.1 300 (by decide)]; exact h.hI i hi
    simp only [f_X11_piecesToPack, r_mrd, ite_f, z5, ↓reduceIte, r_mbo, z0, zi, e20, ec, e1, r_mret]
  · rw [if_neg q]
    obtain ⟨b1, b2, -⟩ := h.bx.1 o ho q
    have t : ∀ i, i < 6 → (((zC S 1112 (6 * o + i)).toNatClampNeg : Nat) : Int) = (zC S 1112 (6 * o + i)).toInt := fun i hi => tn_toInt (b1 i hi)
    refine e_pack (zA S 706 o) (o := o) (c := fun i => (zC S 1112 (6 * o + i)).toNatClampNeg) (by rw [if_neg q]) h.hI hz ?_ fun U i hi hU => ?_
    · have e6 : sz (List.range 6) (fun i => (zC S 1112 (6 * o + i)).toInt) = (zC S 1112 (6 * o + 0)).toInt + (zC S 1112 (6 * o + 1)).toInt + (zC S 1112 (6 * o + 2)).toInt + (zC S 1112 (6 * o + 3)).toInt + (zC S 1112 (6 * o + 4)).toInt + (zC S 1112 (6 * o + 5)).toInt := by
        simp [List.range, List.range.loop, sz]
        omega
      rw [e6, ← t 0 (by decide), ← t 1 (by decide), ← t 2 (by decide), ← t 3 (by decide), ← t 4 (by decide), ← t 5 (by decide)] at b2
      omega
    · have ec : cAt U 1112 (nI o) (nI i) = zC S 1112 (6 * o + i) := by
        rw [cAt_in (S := U) (r := 1112) (p := o) (l := i) hi (show o * 6 + i < 48 by omega), hU.2.2.2.2.2.2 1112 (by decide)]; rfl
      have e1 : nI ((zC S 1112 (6 * o + i)).toNatClampNeg) = zC S 1112 (6 * o + i) := nI_tn (b1 i hi)
      have z5 : ¬ zA U 705 o = 0 := by rw [hU.1 705 (by decide)]; exact q
      have z0 : zA U 700 o = nI o := by rw [hU.1 700 (by decide)]; exact o7
      have zi : zA U 300 i = nI i := by rw [hU.1 300 (by decide)]; exact h.hI i hi
      simp only [f_X11_piecesToPack, r_mrd, ite_f, z5, ↓reduceIte, r_mbo, z0, zi, ec, e1, r_mret]
theorem Rel.pf {B k : Nat} (h : Rel B k S w) (hS : PFc S T) (hW : PFr w v) : Rel B k T v := by
  have hA : ∀ f, f ≠ 1114 → zA T f = zA S f := hS.1
  have hO : ∀ f, True → zO T f = zO S f := fun f _ => by rw [hS.2.1]
  have hL : ∀ f, True → zL T f = zL S f := fun f _ => by rw [hS.2.2.1]
  have hC : ∀ f, f ≠ 1113 → zC T f = zC S f := hS.2.2.2.2.2.2
  have hN : ∀ f, True → zN T f = zN S f := fun f _ => by rw [hS.2.2.2.2.2.1]
  have hM : zM T = zM S := hS.2.2.2.2.1
  have hI : ∀ f, True → mI v f = mI w f := fun f _ => by rw [hW.1]
  have hB := hW.2
  exact ⟨(cg_sl (hA 900 (by decide)) (hA 901 (by decide)) (hA 903 (by decide)) (hA 904 (by decide)) (hO 902 (by decide)) (hB 4 (by decide)) (hB 5 (by decide)) (hB 6 (by decide)) (hB 7 (by decide)) (hB 8 (by decide)) h.sl), (cg_it (hA 300 (by decide)) (hA 301 (by decide)) (hA 302 (by decide)) (hA 303 (by decide)) (hA 304 (by decide)) (hA 305 (by decide)) (hB 9 (by decide)) (hB 10 (by decide)) (hB 11 (by decide)) (hB 12 (by decide)) (hB 13 (by decide)) h.it), (cg_ba (hA 1115 (by decide)) (hB 14 (by decide)) h.ba), (cg_sc (hA 1116 (by decide)) (hA 1118 (by decide)) (hA 1117 (by decide)) (hI 1 (by decide)) (hI 2 (by decide)) (hI 3 (by decide)) h.sc), (cg_lo (hN 5 (by decide)) (hL 1103 (by decide)) (hA 500 (by decide)) (hA 502 (by decide)) (hA 503 (by decide)) (hO 501 (by decide)) (hI 15 (by decide)) (hB 16 (by decide)) (hB 17 (by decide)) (hB 18 (by decide)) h.lo), (cg_be (hL 1104 (by decide)) (hN 5 (by decide)) (hA 502 (by decide)) h.be), (cg_no (hN 6 (by decide)) (hL 1105 (by decide)) (hO 600 (by decide)) (hA 601 (by decide)) (hA 602 (by decide)) (hI 22 (by decide)) (hB 23 (by decide)) (hB 24 (by decide)) (hB 25 (by decide)) h.no), (cg_ca (hC 1110 (by decide)) (hB 26 (by decide)) h.ca), (cg_aw (hC 1111 (by decide)) (hN 7 (by decide)) (hA 705 (by decide)) (hB 33 (by decide)) h.aw), (cg_or (hN 7 (by decide)) (hN 72 (by decide)) (hL 1106 (by decide)) (hA 700 (by decide)) (hA 701 (by decide)) (hA 702 (by decide)) (hA 703 (by decide)) (hA 705 (by decide)) (hI 27 (by decide)) (hB 28 (by decide)) (hB 29 (by decide)) (hB 30 (by decide)) (hB 31 (by decide)) (hB 32 (by decide)) h.or), (cg_li (hN 7 (by decide)) (hL 704 (by decide)) (hN 4 (by decide)) (hO 400 (by decide)) (hA 401 (by decide)) (hA 402 (by decide)) (hA 403 (by decide)) (hB 31 (by decide)) (hB 36 (by decide)) (hB 37 (by decide)) (hB 38 (by decide)) h.li), (cg_bk (hC 0 (by decide)) (hC 1 (by decide)) (hN 5 (by decide)) (hO 501 (by decide)) (hB 19 (by decide)) h.bk), (cg_nn (hC 0 (by decide)) (hC 2 (by decide)) h.nn), (cg_tr (hC 2 (by decide)) (hC 0 (by decide)) (hB 20 (by decide)) h.tr), (cg_db (hC 5 (by decide)) (hB 21 (by decide)) h.db), (cg_mv (hA 7 (by decide)) (hN 60 (by decide)) hM (hC 0 (by decide)) h.mv), (cg_ho (hL 1107 (by decide)) (hN 2 (by decide)) (hA 204 (by decide)) (hN 5 (by decide)) (hO 203 (by decide)) (hA 202 (by decide)) (hO 200 (by decide)) (hO 201 (by decide)) (hO 205 (by decide)) (hN 7 (by decide)) (hL 704 (by decide)) (hA 705 (by decide)) (hN 10 (by decide)) (hO 1002 (by decide)) (hA 1005 (by decide)) (hA 1004 (by decide)) h.ho), (cg_hs (hC 3 (by decide)) (hL 1107 (by decide)) (hA 202 (by decide)) (hO 203 (by decide)) (hA 204 (by decide)) (hC 0 (by decide)) (hN 4 (by decide)) (hA 402 (by decide)) (hO 201 (by decide)) h.hs), (cg_hm (hI 39 (by decide)) (hL 1107 (by decide)) (hO 200 (by decide)) (hO 201 (by decide)) (hO 203 (by decide)) (hL 704 (by decide)) (hA 202 (by decide)) (hA 204 (by decide)) (hO 205 (by decide)) (hB 40 (by decide)) (hB 41 (by decide)) (hB 42 (by decide)) (hB 43 (by decide)) (hB 44 (by decide)) h.hm), (cg_ta (hN 10 (by decide)) (hL 1108 (by decide)) (hI 45 (by decide)) (hA 1000 (by decide)) (hA 1001 (by decide)) (hA 1003 (by decide)) (hA 1004 (by decide)) (hA 1005 (by decide)) (hA 1006 (by decide)) (hO 1002 (by decide)) (hN 2 (by decide)) (hO 203 (by decide)) (hN 5 (by decide)) (hL 1107 (by decide)) (hO 205 (by decide)) (hO 200 (by decide)) (hO 201 (by decide)) (hA 202 (by decide)) (hN 7 (by decide)) (hL 704 (by decide)) (hB 46 (by decide)) (hB 47 (by decide)) (hB 48 (by decide)) (hB 49 (by decide)) (hB 50 (by decide)) (hB 51 (by decide)) (hB 52 (by decide)) (hB 54 (by decide)) h.ta), (cg_ap (hC 4 (by decide)) (hN 10 (by decide)) (hA 1005 (by decide)) (hA 1001 (by decide)) (hA 1003 (by decide)) (hA 1004 (by decide)) (hO 501 (by decide)) (hO 203 (by decide)) (hO 1002 (by decide)) (hO 902 (by decide)) h.ap), (cg_ro (hA 801 (by decide)) (hA 802 (by decide)) (hL 800 (by decide)) (hA 1005 (by decide)) (hN 10 (by decide)) (hB 53 (by decide)) (hB 55 (by decide)) (hB 56 (by decide)) (hB 58 (by decide)) (hB 59 (by decide)) h.ro), (cg_st (hN 7 (by decide)) (hA 705 (by decide)) (hN 5 (by decide)) (hC 0 (by decide)) (hL 704 (by decide)) (hA 403 (by decide)) h.st), (cg_bx (hN 7 (by decide)) (hA 705 (by decide)) (hA 706 (by decide)) (hC 1112 (by decide)) (hA 302 (by decide)) (hA 303 (by decide)) (hA 304 (by decide)) (hO 501 (by decide)) (hN 5 (by decide)) (hB 34 (by decide)) (hB 35 (by decide)) h.bx)⟩
/-- as many calls, what no call sees has changed -/
theorem GG.same (g : GG m S w) (e1 : zN T = zN S) (e2 : zP T = zP S) (e3 : ∀ t, zA T 1005 t = zA S 1005 t) (e4 : ∀ t, zA T 1006 t = zA S 1006 t) (e5 : ∀ t, zA T 705 t = zA S 705 t) (hR : ∀ B k, Rel B k S w → Rel B k T v) : GG m T v := by
  obtain ⟨g1, g2, g3, B, k, g4, g5, g6⟩ := g
  unfold g_rm at g2
  have c1 : capS T = capS S := by unfold capS; rw [e2]
  have c2 := cT_eq (S := S) (T := T) e3 e4 (zN S 10)
  have c3 := cS_eq (S := S) (T := T) e5 (zN S 7)
  exact ⟨g1, by unfold g_rm; rw [e1, c1]; exact g2, by unfold g_cp; rw [e2, e1]; exact g3, B, k, g4, by rw [e1, c2, c3]; exact g5, hR B k g6⟩
theorem GG.pf (g : GG m S w) (hS : PFc S T) (hW : PFr w v) : GG m T v := g.same hS.2.2.2.2.2.1 hS.2.2.2.1 (fun t => by rw [hS.1 1005 (by decide)]) (fun t => by rw [hS.1 1006 (by decide)]) (fun t => by rw [hS.1 705 (by decide)]) fun _ _ h => h.pf hS hW
/-- how many boxes an order has, in the reference -/
theorem Rel.kBoxesOf {B k : Nat} (h : Rel B k S w) {o : Nat} (ho : o < zN S 7) : ∃ v, g_X12_boxesOf (nI o) w = some (nI (bxs S o).length, v) ∧ PFr w v ∧ (zA S 705 o = 0 → BXr v (bxs S o)) := by
  have h8 := h.or.1
  have o32 := (h.or.2.2.2.2.1 o ho).2.2.2.2.2.1
  unfold bxs
  by_cases q : zA S 705 o = 0
  · rw [if_pos q]
    obtain ⟨v, v1, v2, v3⟩ := h.kPacks ho q
    refine ⟨v, ?_, v3, fun _ => v2⟩
    simp only [g_X12_boxesOf, kif, r_gb, gbn_s, r_grd, r_gbo, r_gret, r_gst, k_isIn, k_isSlot, k_isItem, k_isGroup, k_isRobot, k_are, k_holds0, k_holds1, k_holds2, k_holds3, k_bit, k_less, bI_t, bI_f, i10, i00, i01, i11, i20, i30, ↓reduceIte, r_gnI (show o < mL 32 from Nat.lt_of_lt_of_le ho h8) (show mL 32 < 2 ^ 31 by decide), nI_clamp (show o < 2 ^ 31 by omega), o32, q, v1]
  · rw [if_neg q]
    obtain ⟨-, -, b3, -⟩ := h.bx.1 o ho q
    refine ⟨w, ?_, PFr.rf w, fun r => absurd r q⟩
    simp only [g_X12_boxesOf, kif, r_gb, gbn_s, r_grd, r_gbo, r_gret, r_gst, k_isIn, k_isSlot, k_isItem, k_isGroup, k_isRobot, k_are, k_holds0, k_holds1, k_holds2, k_holds3, k_bit, k_less, bI_t, bI_f, i10, i00, i01, i11, i20, i30, ↓reduceIte, r_gnI (show o < mL 32 from Nat.lt_of_lt_of_le ho h8) (show mL 32 < 2 ^ 31 by decide), r_gnI (show o < mL 35 from Nat.lt_of_lt_of_le ho h8) (show mL 35 < 2 ^ 31 by decide), nI_clamp (show o < 2 ^ 31 by omega), o32, q, b3]
theorem PFr.thr (h : PFr w v) (c : Int32) : PFr (mSI 0 c w) (mSI 0 c v) := ⟨by funext j; show (if j = 0 then c else mI v j) = if j = 0 then c else mI w j; rw [h.1], h.2⟩
theorem s_boxes (g : GG m S w) (hm : m < 512) (x : Int32) : STi GG m S w (f_X11_boxes x) (g_X12_boxes x) [(1, 1)] := by
  obtain ⟨-, -, -, B, k, -, -, h⟩ := id g
  have h8 := h.or.1
  cases h1 : okI x (zN S 7) with
  | false =>
    refine sti_th g hm (u := 1) (c := 1) (r := 0) ?_ ?_ (by simp) (by decide) (by decide)
    · simp only [f_X11_boxes, r_mb, bnd_s, r_mrd, r_mbo, r_mret, r_mthr, r_wA, r_wO, r_madd, r_mput, r_mopt, r_mcn, r_mcs, ite_f, e_isWithin, e_isSlot, e_isItem, e_isGroup, e_isRobot, e_isLot, e_isNotice, e_isOrder, e_isTask, bI_t, bI_f, i10, i00, i01, i11, i20, i30, ↓reduceIte, h.nor, h1]; try rfl
    · simp only [g_X12_boxes, g_X12_boxes_14, kif, r_gb, gbn_s, r_grd, r_gbo, r_gret, r_gst, k_isIn, k_isSlot, k_isItem, k_isGroup, k_isRobot, k_are, k_holds0, k_holds1, k_holds2, k_holds3, k_bit, k_less, bI_t, bI_f, i10, i00, i01, i11, i20, i30, ↓reduceIte, h.kOrd, h1]; try rfl
  | true =>
    obtain ⟨o, ho, rfl⟩ := okI_t (by omega) h1
    obtain ⟨T, t1, t2, t3⟩ := h.ePack ho
    obtain ⟨v, v1, v2, v3⟩ := (h.thr 0).kBoxesOf ho
    have gg : GG (m + 1) T v := g.st hm t3.2.2.2.2.2.1 t3.2.2.2.1 (fun t => by rw [t3.1 1005 (by decide)]) (fun t => by rw [t3.1 1006 (by decide)]) (fun t => by rw [t3.1 705 (by decide)]) fun B k hB hR => ⟨B, by omega, (hR.thr 0).pf t3 v2⟩
    refine sti_st (T := T) (v := v) (r := nI (bxs S o).length) gg ?_ ?_ ?_
    · simp only [f_X11_boxes, r_mb, bnd_s, r_mrd, r_mbo, r_mret, r_mthr, r_wA, r_wO, r_madd, r_mput, r_mopt, r_mcn, r_mcs, ite_f, e_isWithin, e_isSlot, e_isItem, e_isGroup, e_isRobot, e_isLot, e_isNotice, e_isOrder, e_isTask, bI_t, bI_f, i10, i00, i01, i11, i20, i30, ↓reduceIte, h.nor, h1, mlget, h.atO ho, t1, t2.1]
    · simp only [g_X12_boxes, g_X12_boxes_14, kif, r_gb, gbn_s, r_grd, r_gbo, r_gret, r_gst, k_isIn, k_isSlot, k_isItem, k_isGroup, k_isRobot, k_are, k_holds0, k_holds1, k_holds2, k_holds3, k_bit, k_less, bI_t, bI_f, i10, i00, i01, i11, i20, i30, ↓reduceIte, h.kOrd, h1, v1]
    · rw [v2.1]; rfl
theorem s_boxAt (g : GG m S w) (hm : m < 512) (x y : Int32) : STi GG m S w (f_X11_boxAt x y) (g_X12_boxAt x y) [(1, 1)] := by
  obtain ⟨-, -, -, B, k, -, -, h⟩ := id g
  have h8 := h.or.1
  cases h1 : okI x (zN S 7) with
  | false =>
    refine sti_th g hm (u := 1) (c := 1) (r := 0) ?_ ?_ (by simp) (by decide) (by decide)
    · simp only [f_X11_boxAt, r_mb, bnd_s, r_mrd, r_mbo, r_mret, r_mthr, r_wA, r_wO, r_madd, r_mput, r_mopt, r_mcn, r_mcs, ite_f, e_isWithin, e_isSlot, e_isItem, e_isGroup, e_isRobot, e_isLot, e_isNotice, e_isOrder, e_isTask, bI_t, bI_f, i10, i00, i01, i11, i20, i30, ↓reduceIte, h.nor, h1]; try rfl
    · simp only [g_X12_boxAt, g_X12_boxAt_27, g_X12_boxAt_28, g_X12_boxAt_39, kif, r_gb, gbn_s, r_grd, r_gbo, r_gret, r_gst, k_isIn, k_isSlot, k_isItem, k_isGroup, k_isRobot, k_are, k_holds0, k_holds1, k_holds2, k_holds3, k_bit, k_less, bI_t, bI_f, i10, i00, i01, i11, i20, i30, ↓reduceIte, h.kOrd, h1]; try rfl
  | true =>
    obtain ⟨o, ho, rfl⟩ := okI_t (by omega) h1
    obtain ⟨T, t1, t2, t3⟩ := h.ePack ho
    obtain ⟨v, v1, v2, v3⟩ := h.kBoxesOf ho
    have gT : GG m T v := g.pf t3 v2
    have hl : (bxs S o).length ≤ 297 := by
      have hz : ∀ i, i < 6 → tI (zA S 302 i) 1 9 := fun i hi => (h.it i hi).2.2.2.2.2.2.1
      have one : ∀ c : Nat → Nat, ∀ i, dk (zA S 302) c 54 i ≤ c i := fun c i => by unfold dk; split <;> omega
      unfold bxs
      by_cases q : zA S 705 o = 0
      · rw [if_pos q]
        have p1 := pk_len (t := zA S 303) (g := zA S 304) (b := zA S 1115 0) (c := stC S o) hz 54 (Nat.le_refl _)
        have p2 := h.stSum ho q
        have o0 := one (stC S o) 0; have o1 := one (stC S o) 1; have o2 := one (stC S o) 2; have o3 := one (stC S o) 3; have o4 := one (stC S o) 4; have o5 := one (stC S o) 5
        unfold pkn
        unfold dks at p1
        omega
      · rw [if_neg q]
        obtain ⟨b1, b2, -⟩ := h.bx.1 o ho q
        have t : ∀ i, i < 6 → (((zC S 1112 (6 * o + i)).toNatClampNeg : Nat) : Int) = (zC S 1112 (6 * o + i)).toInt := fun i hi => tn_toInt (b1 i hi)
        have p1 := pk_len (t := zA S 303) (g := zA S 304) (b := zA S 706 o) (c := fun i => (zC S 1112 (6 * o + i)).toNatClampNeg) hz 54 (Nat.le_refl _)
        have e6 : sz (List.range 6) (fun i => (zC S 1112 (6 * o + i)).toInt) = (zC S 1112 (6 * o + 0)).toInt + (zC S 1112 (6 * o + 1)).toInt + (zC S 1112 (6 * o + 2)).toInt + (zC S 1112 (6 * o + 3)).toInt + (zC S 1112 (6 * o + 4)).toInt + (zC S 1112 (6 * o + 5)).toInt := by
          simp [List.range, List.range.loop, sz]
          omega
        rw [e6, ← t 0 (by decide), ← t 1 (by decide), ← t 2 (by decide), ← t 3 (by decide), ← t 4 (by decide), ← t 5 (by decide)] at b2
        have o0 := one (fun i => (zC S 1112 (6 * o + i)).toNatClampNeg) 0; have o1 := one (fun i => (zC S 1112 (6 * o + i)).toNatClampNeg) 1; have o2 := one (fun i => (zC S 1112 (6 * o + i)).toNatClampNeg) 2; have o3 := one (fun i => (zC S 1112 (6 * o + i)).toNatClampNeg) 3; have o4 := one (fun i => (zC S 1112 (6 * o + i)).toNatClampNeg) 4; have o5 := one (fun i => (zC S 1112 (6 * o + i)).toNatClampNeg) 5
        unfold pkd
        unfold dks at p1
        omega
    cases h2 : okI y (bxs S o).length with
    | false =>
      refine ⟨(1, 0), thS T, 0, mSI 0 1 v, ?_, ?_, gT.th hm 1, Or.inr ⟨(1, 1), by simp, rfl, rfl, by decide, by decide⟩⟩
      · simp only [f_X11_boxAt, r_mb, bnd_s, r_mrd, r_mbo, r_mret, r_mthr, r_wA, r_wO, r_madd, r_mput, r_mopt, r_mcn, r_mcs, ite_f, e_isWithin, e_isSlot, e_isItem, e_isGroup, e_isRobot, e_isLot, e_isNotice, e_isOrder, e_isTask, bI_t, bI_f, i10, i00, i01, i11, i20, i30, ↓reduceIte, h.nor, h1, mlget, h.atO ho, t1, t2.1]
        rcases okI_f h2 with q | q
        · rw [if_pos q]; rfl
        · by_cases q2 : y < 0
          · rw [if_pos q2]; rfl
          · rw [if_neg q2, if_neg (fun r => by have := I_lt.mp r; have := I_le.mp q; omega)]; rfl
      · simp only [g_X12_boxAt, g_X12_boxAt_27, g_X12_boxAt_28, g_X12_boxAt_39, kif, r_gb, gbn_s, r_grd, r_gbo, r_gret, r_gst, k_isIn, k_isSlot, k_isItem, k_isGroup, k_isRobot, k_are, k_holds0, k_holds1, k_holds2, k_holds3, k_bit, k_less, bI_t, bI_f, i10, i00, i01, i11, i20, i30, ↓reduceIte, h.kOrd, h1, v1, in_ok (show (bxs S o).length < 2 ^ 31 by omega), h2]; try rfl
    | true =>
      have h2' := of_decide_eq_true h2
      obtain ⟨p, hp, rfl⟩ := okI_t (by omega) h2
      have hx : (bxs S o)[p]? = some ((bxs S o)[p]'hp) := List.getElem?_eq_getElem hp
      generalize (bxs S o)[p]'hp = X at hx
      obtain ⟨a1, a2, a3, a4⟩ := t2.2 p X hx
      have e : ∀ c, c < 4 → cAt T 1113 (nI p) (nI c) = zC T 1113 (4 * p + c) := fun c hc => cAt_in (r := 1113) (p := p) (l := c) hc (show p * 4 + c < 1188 by omega)
      have e1 : cAt T 1113 (nI p) 1 = X.2.1 := (e 1 (by decide)).trans a2
      have e2 : cAt T 1113 (nI p) 2 = X.2.2.1 := (e 2 (by decide)).trans a3
      refine sti_st (T := T) (v := mSI 0 0 v) (r := 1000 * X.2.1 + X.2.2.1) (gT.ok hm 0) ?_ ?_ rfl
      · simp only [f_X11_boxAt, r_mb, bnd_s, r_mrd, r_mbo, r_mret, r_mthr, r_wA, r_wO, r_madd, r_mput, r_mopt, r_mcn, r_mcs, ite_f, e_isWithin, e_isSlot, e_isItem, e_isGroup, e_isRobot, e_isLot, e_isNotice, e_isOrder, e_isTask, bI_t, bI_f, i10, i00, i01, i11, i20, i30, ↓reduceIte, h.nor, h1, mlget, h.atO ho, t1, t2.1, h2'.1, h2'.2, e1, e2]
      · have o32 : mA v 32 o = zA S 705 o := by rw [v2.2 32 (by decide)]; exact (h.or.2.2.2.2.1 o ho).2.2.2.2.2.1
        by_cases q : zA S 705 o = 0
        · obtain ⟨c1, c2, c3, c4⟩ := v3 q p X hx
          simp only [g_X12_boxAt, g_X12_boxAt_28, g_X12_boxAt_39, kif, r_gb, gbn_s, r_grd, r_gbo, r_gret, r_gst, k_isIn, k_isSlot, k_isItem, k_isGroup, k_isRobot, k_are, k_holds0, k_holds1, k_holds2, k_holds3, k_bit, k_less, bI_t, bI_f, i10, i00, i01, i11, i20, i30, ↓reduceIte, mI_mSA, mI_mSI, mA_mSI, mA_mSA, Nat.reduceEqDiff, reduceCtorEq, Nat.reduceEqDiff, false_and, true_and, and_true, h.kOrd, h1, v1, in_ok (show (bxs S o).length < 2 ^ 31 by omega), h2, r_gnI (show o < mL 32 from Nat.lt_of_lt_of_le ho h8) (show mL 32 < 2 ^ 31 by decide), nI_clamp (show o < 2 ^ 31 by omega), o32, q, r_gnI (show p < mL 62 from show p < 300 by omega) (show mL 62 < 2 ^ 31 by decide), r_gnI (show p < mL 63 from show p < 300 by omega) (show mL 63 < 2 ^ 31 by decide), nI_clamp (show p < 2 ^ 31 by omega), c2, c3]
        · have b4 := (h.bx.1 o ho q).2.2.2 p X (by unfold bxs at hx; rw [if_neg q] at hx; exact hx)
          have c34 : mA v 34 (300 * o + p) = 1000 * X.2.1 + X.2.2.1 := by rw [v2.2 34 (by decide)]; exact b4
          have e300 : (300 : Int32) * nI o + nI p = nI (300 * o + p) := by rw [show (300 : Int32) = nI 300 from rfl, pk_mul, nI_add]
          simp only [g_X12_boxAt, g_X12_boxAt_28, g_X12_boxAt_39, kif, r_gb, gbn_s, r_grd, r_gbo, r_gret, r_gst, k_isIn, k_isSlot, k_isItem, k_isGroup, k_isRobot, k_are, k_holds0, k_holds1, k_holds2, k_holds3, k_bit, k_less, bI_t, bI_f, i10, i00, i01, i11, i20, i30, ↓reduceIte, mI_mSA, mI_mSI, mA_mSI, mA_mSA, Nat.reduceEqDiff, reduceCtorEq, Nat.reduceEqDiff, false_and, true_and, and_true, h.kOrd, h1, v1, in_ok (show (bxs S o).length < 2 ^ 31 by omega), h2, r_gnI (show o < mL 32 from Nat.lt_of_lt_of_le ho h8) (show mL 32 < 2 ^ 31 by decide), nI_clamp (show o < 2 ^ 31 by omega), o32, q, e300, r_gnI (show 300 * o + p < mL 34 from show 300 * o + p < 2400 by omega) (show mL 34 < 2 ^ 31 by decide), nI_clamp (show 300 * o + p < 2 ^ 31 by omega), c34]
/-- what all moves make -/
theorem s_stockAnew (g : GG m S w) (hm : m < 512) (x y : Int32) : STi GG m S w (f_X11_stockAnew x y) (g_X12_stockAnew x y) [(1, 1)] := by
  obtain ⟨-, -, -, B, k, -, -, h⟩ := id g
  have hA := k_isAsked h 0 28 (by decide) x y
  rw [show nI 28 - 1 = (27 : Int32) from rfl] at hA
  cases h1 : okI x 28 with
  | false =>
    refine sti_th g hm (u := 1) (c := 1) (r := 0) ?_ ?_ (by simp) (by decide) (by decide)
    · simp only [f_X11_stockAnew, r_mb, bnd_s, r_mrd, r_mbo, r_mret, r_mthr, r_wA, r_wO, r_madd, r_mput, r_mopt, r_mcn, r_mcs, ite_f, e_isWithin, e_isSlot, e_isItem, e_isGroup, e_isRobot, e_isLot, e_isNotice, e_isOrder, e_isTask, bI_t, bI_f, i10, i00, i01, i11, i20, i30, ↓reduceIte, show (27 : Int32) = nI 28 - 1 from rfl, in_ok (show 28 < 2 ^ 31 by decide), h1]; try rfl
    · simp only [g_X12_stockAnew, kif, r_gb, gbn_s, r_grd, r_gbo, r_gret, r_gst, k_isIn, k_isSlot, k_isItem, k_isGroup, k_isRobot, k_are, k_holds0, k_holds1, k_holds2, k_holds3, k_bit, k_less, bI_t, bI_f, i10, i00, i01, i11, i20, i30, ↓reduceIte, hA, h1, Bool.false_and]; try rfl
  | true =>
    cases h2 : okI y (zN S 5) with
    | false =>
      refine sti_th g hm (u := 1) (c := 1) (r := 0) ?_ ?_ (by simp) (by decide) (by decide)
      · simp only [f_X11_stockAnew, r_mb, bnd_s, r_mrd, r_mbo, r_mret, r_mthr, r_wA, r_wO, r_madd, r_mput, r_mopt, r_mcn, r_mcs, ite_f, e_isWithin, e_isSlot, e_isItem, e_isGroup, e_isRobot, e_isLot, e_isNotice, e_isOrder, e_isTask, bI_t, bI_f, i10, i00, i01, i11, i20, i30, ↓reduceIte, show (27 : Int32) = nI 28 - 1 from rfl, in_ok (show 28 < 2 ^ 31 by decide), h1, h.nl, h2]; try rfl
      · simp only [g_X12_stockAnew, kif, r_gb, gbn_s, r_grd, r_gbo, r_gret, r_gst, k_isIn, k_isSlot, k_isItem, k_isGroup, k_isRobot, k_are, k_holds0, k_holds1, k_holds2, k_holds3, k_bit, k_less, bI_t, bI_f, i10, i00, i01, i11, i20, i30, ↓reduceIte, hA, h1, h2]; try rfl
    | true =>
      obtain ⟨p, hp, rfl⟩ := okI_t (by decide) h1
      have hl12 := h.lo.1
      obtain ⟨l, hl, rfl⟩ := okI_t (by omega) h2
      have hj : 12 * p + l < 336 := by omega
      have e12 : (12 : Int32) * nI p + nI l = nI (12 * p + l) := by rw [show (12 : Int32) = nI 12 from rfl, pk_mul, nI_add]
      obtain ⟨m1, m2, m3, m4, m5, m6, m7⟩ := h.mv
      -- the loop, four numbers a step
      have loop : ∀ d i, i + d = k → ∀ f acc, d < f → (f_X0_madeAnew_5 f (nI p) (nI l) acc (nI (4 * i))).1 S = some (acc + (mvS (zM S) k p l - mvS (zM S) i p l), S) := by
        intro d
        induction d with
        | zero =>
          intro i hi f acc hf
          obtain ⟨f, rfl⟩ : ∃ f', f = f' + 1 := ⟨f - 1, by omega⟩
          have e4 : nI (4 * i) + 4 = nI (4 * i + 4) := by rw [show (4 : Int32) = nI 4 from rfl, nI_add]
          have hlt : nI (4 * k) < nI (4 * i + 4) := nI_lt (by omega) (by omega)
          rw [show i = k by omega, Int32.sub_self, Int32.add_zero]
          rw [show i = k by omega] at e4 hlt
          simp only [f_X0_madeAnew_5, r_mrd, ite_f, m2, e4, hlt, ↓reduceIte, r_mret]
        | succ d ih =>
          intro i hi f acc hf
          obtain ⟨f, rfl⟩ : ∃ f', f = f' + 1 := ⟨f - 1, by omega⟩
          have e4 : nI (4 * i) + 4 = nI (4 * (i + 1)) := by rw [show (4 : Int32) = nI 4 from rfl, nI_add]; congr 1
          have n1 : ¬ nI (4 * k) < nI (4 * (i + 1)) := nI_nlt (by omega) (by omega)
          have n2 : ¬ nI (zN S 60) < nI (4 * (i + 1)) := nI_nlt (by omega) (by omega)
          have f1 : nI (4 * i) + 1 = nI (4 * i + 1) := nI_1 _
          have f2 : nI (4 * i) + 2 = nI (4 * i + 2) := by rw [show (2 : Int32) = nI 2 from rfl, nI_add]
          have f3 : nI (4 * i) + 3 = nI (4 * i + 3) := by rw [show (3 : Int32) = nI 3 from rfl, nI_add]
          have step : mvS (zM S) (i + 1) p l = mvS (zM S) i p l + (if zM S (4 * i + 2) = nI l then (if zM S (4 * i + 1) = nI p then zM S (4 * i + 3) else 0) - (if zM S (4 * i) = nI p then zM S (4 * i + 3) else 0) else 0) := by
            unfold mvS; rw [List.range_succ, sm_app]
          have fin : ∀ a : Int32, a = acc + (if zM S (4 * i + 2) = nI l then (if zM S (4 * i + 1) = nI p then zM S (4 * i + 3) else 0) - (if zM S (4 * i) = nI p then zM S (4 * i + 3) else 0) else 0) → (f_X0_madeAnew_5 f (nI p) (nI l) a (nI (4 * (i + 1)))).1 S = some (acc + (mvS (zM S) k p l - mvS (zM S) i p l), S) := fun a ha => by
            rw [ih (i + 1) (by omega) f a (by omega), ha, step]
            congr 2
            generalize (if zM S (4 * i + 2) = nI l then (if zM S (4 * i + 1) = nI p then zM S (4 * i + 3) else 0) - (if zM S (4 * i) = nI p then zM S (4 * i + 3) else 0) else 0) = E
            rw [Int32.add_assoc]
            congr 1
            rw [← Int32.sub_sub, Int32.sub_eq_add_neg (a := mvS (zM S) k p l - mvS (zM S) i p l), Int32.add_comm (mvS (zM S) k p l - mvS (zM S) i p l), ← Int32.add_assoc, Int32.add_right_neg, Int32.zero_add]
          have b0 : 4 * i < zN S 60 := by omega
          by_cases q2 : zM S (4 * i + 2) = nI l
          · have run : (f_X0_madeAnew_5 (f + 1) (nI p) (nI l) acc (nI (4 * i))).1 S = (f_X0_madeAnew_5 f (nI p) (nI l) (acc - (if zM S (4 * i) = nI p then zM S (4 * i + 3) else 0) + (if zM S (4 * i + 1) = nI p then zM S (4 * i + 3) else 0)) (nI (4 * (i + 1)))).1 S := by
              by_cases q0 : zM S (4 * i) = nI p
              · by_cases q1 : zM S (4 * i + 1) = nI p
                · simp only [f_X0_madeAnew_5, f_X0_madeAnew_66, r_mrd, r_mbo, ite_f, m2, e4, n1, n2, ↓reduceIte, f1, f2, f3, r_mnI (show 4 * i < zN S 60 by omega) (show zN S 60 < 2 ^ 31 by omega), r_mnI (show 4 * i + 1 < zN S 60 by omega) (show zN S 60 < 2 ^ 31 by omega), r_mnI (show 4 * i + 2 < zN S 60 by omega) (show zN S 60 < 2 ^ 31 by omega), r_mnI (show 4 * i + 3 < zN S 60 by omega) (show zN S 60 < 2 ^ 31 by omega), nI_clamp (show 4 * i < 2 ^ 31 by omega), nI_clamp (show 4 * i + 1 < 2 ^ 31 by omega), nI_clamp (show 4 * i + 2 < 2 ^ 31 by omega), nI_clamp (show 4 * i + 3 < 2 ^ 31 by omega), q2, q0, q1]
                · simp only [f_X0_madeAnew_5, f_X0_madeAnew_66, r_mrd, r_mbo, ite_f, m2, e4, n1, n2, ↓reduceIte, f1, f2, f3, r_mnI (show 4 * i < zN S 60 by omega) (show zN S 60 < 2 ^ 31 by omega), r_mnI (show 4 * i + 1 < zN S 60 by omega) (show zN S 60 < 2 ^ 31 by omega), r_mnI (show 4 * i + 2 < zN S 60 by omega) (show zN S 60 < 2 ^ 31 by omega), r_mnI (show 4 * i + 3 < zN S 60 by omega) (show zN S 60 < 2 ^ 31 by omega), nI_clamp (show 4 * i < 2 ^ 31 by omega), nI_clamp (show 4 * i + 1 < 2 ^ 31 by omega), nI_clamp (show 4 * i + 2 < 2 ^ 31 by omega), nI_clamp (show 4 * i + 3 < 2 ^ 31 by omega), q2, q0, q1]
              · by_cases q1 : zM S (4 * i + 1) = nI p
                · simp only [f_X0_madeAnew_5, f_X0_madeAnew_66, r_mrd, r_mbo, ite_f, m2, e4, n1, n2, ↓reduceIte, f1, f2, f3, r_mnI (show 4 * i < zN S 60 by omega) (show zN S 60 < 2 ^ 31 by omega), r_mnI (show 4 * i + 1 < zN S 60 by omega) (show zN S 60 < 2 ^ 31 by omega), r_mnI (show 4 * i + 2 < zN S 60 by omega) (show zN S 60 < 2 ^ 31 by omega), r_mnI (show 4 * i + 3 < zN S 60 by omega) (show zN S 60 < 2 ^ 31 by omega), nI_clamp (show 4 * i < 2 ^ 31 by omega), nI_clamp (show 4 * i + 1 < 2 ^ 31 by omega), nI_clamp (show 4 * i + 2 < 2 ^ 31 by omega), nI_clamp (show 4 * i + 3 < 2 ^ 31 by omega), q2, q0, q1]
                · simp only [f_X0_madeAnew_5, f_X0_madeAnew_66, r_mrd, r_mbo, ite_f, m2, e4, n1, n2, ↓reduceIte, f1, f2, f3, r_mnI (show 4 * i < zN S 60 by omega) (show zN S 60 < 2 ^ 31 by omega), r_mnI (show 4 * i + 1 < zN S 60 by omega) (show zN S 60 < 2 ^ 31 by omega), r_mnI (show 4 * i + 2 < zN S 60 by omega) (show zN S 60 < 2 ^ 31 by omega), r_mnI (show 4 * i + 3 < zN S 60 by omega) (show zN S 60 < 2 ^ 31 by omega), nI_clamp (show 4 * i < 2 ^ 31 by omega), nI_clamp (show 4 * i + 1 < 2 ^ 31 by omega), nI_clamp (show 4 * i + 2 < 2 ^ 31 by omega), nI_clamp (show 4 * i + 3 < 2 ^ 31 by omega), q2, q0, q1]
            rw [run]
            refine fin _ ?_
            rw [if_pos q2, Int32.sub_eq_add_neg, Int32.sub_eq_add_neg, Int32.add_assoc, Int32.add_comm (-_)]
          · have run : (f_X0_madeAnew_5 (f + 1) (nI p) (nI l) acc (nI (4 * i))).1 S = (f_X0_madeAnew_5 f (nI p) (nI l) acc (nI (4 * (i + 1)))).1 S := by
              simp only [f_X0_madeAnew_5, r_mrd, r_mbo, ite_f, m2, e4, n1, n2, ↓reduceIte, f2, r_mnI (show 4 * i + 2 < zN S 60 by omega) (show zN S 60 < 2 ^ 31 by omega), nI_clamp (show 4 * i + 2 < 2 ^ 31 by omega), q2]
            rw [run]
            refine fin _ ?_
            rw [if_neg q2, Int32.add_zero]
      have made : (f_X0_madeAnew (nI p) (nI l)).1 S = some (zC S 0 (12 * p + l), S) := by
        have e := loop k 0 (by omega) FU 0 (FU_gt (by omega))
        have z0 : mvS (zM S) 0 p l = 0 := rfl
        rw [z0, Int32.sub_zero, Int32.zero_add, m7 p l hp (by omega)] at e
        exact e
      refine sti_ok g hm (v := zC S 0 (12 * p + l)) ?_ ?_
      · simp only [f_X11_stockAnew, r_mb, bnd_s, r_mrd, r_mbo, r_mret, r_mthr, r_wA, r_wO, r_madd, r_mput, r_mopt, r_mcn, r_mcs, ite_f, e_isWithin, e_isSlot, e_isItem, e_isGroup, e_isRobot, e_isLot, e_isNotice, e_isOrder, e_isTask, bI_t, bI_f, i10, i00, i01, i11, i20, i30, ↓reduceIte, show (27 : Int32) = nI 28 - 1 from rfl, in_ok (show 28 < 2 ^ 31 by decide), h1, h.nl, h2, made]
      · simp only [g_X12_stockAnew, kif, r_gb, gbn_s, r_grd, r_gbo, r_gret, r_gst, k_isIn, k_isSlot, k_isItem, k_isGroup, k_isRobot, k_are, k_holds0, k_holds1, k_holds2, k_holds3, k_bit, k_less, bI_t, bI_f, i10, i00, i01, i11, i20, i30, ↓reduceIte, hA, h1, h2, e12, Bool.true_and, r_gnI (show 12 * p + l < mL 19 from hj) (show mL 19 < 2 ^ 31 by decide), nI_clamp (show 12 * p + l < 2 ^ 31 by omega), h.bk.1 _ hj]; try rfl
end
