section
variable {m : Nat} {S T : Ss} {w v : MS}
/-- a step that makes nothing -/
theorem GG.st (g : GG m S w) (hm : m < 512) (e1 : zN T = zN S) (e2 : zP T = zP S) (e3 : ∀ t, zA T 1005 t = zA S 1005 t) (e4 : ∀ t, zA T 1006 t = zA S 1006 t) (e5 : ∀ t, zA T 705 t = zA S 705 t) (hR : ∀ B k, B ≤ 15000 * m + 1 → Rel B k S w → ∃ B', B' ≤ B + 15000 ∧ Rel B' k T v) : GG (m + 1) T v := by
  obtain ⟨g1, g2, g3, B, k, g4, g5, g6⟩ := g
  obtain ⟨B', b1, b2⟩ := hR B k g4 g6
  unfold g_rm at g2
  have c1 : capS T = capS S := by unfold capS; rw [e2]
  have c2 := cT_eq (S := S) (T := T) e3 e4 (zN S 10)
  have c3 := cS_eq (S := S) (T := T) e5 (zN S 7)
  refine ⟨by omega, by unfold g_rm; rw [e1, c1]; omega, by unfold g_cp; rw [e2, e1]; exact g3, B', k, by omega, by rw [e1, c2, c3]; omega, b2⟩
theorem sti_st {f : MM (Nat × Int32)} {gm : GM Int32} {cs : List (Nat × Int32)} (g : GG (m + 1) T v) {r : Int32} (e1 : f.1 S = some ((0, r), T)) (e2 : gm w = some (r, v)) (e3 : mI v 0 = 0) : STi GG m S w f gm cs := ⟨_, _, _, _, e1, e2, g, Or.inl ⟨rfl, e3, rfl⟩⟩
theorem stv_st {f : MM (Nat × Int32)} {gm : GM Unit} {cs : List (Nat × Int32)} (g : GG (m + 1) T v) {r : Int32} (e1 : f.1 S = some ((0, r), T)) (e2 : gm w = some ((), v)) (e3 : mI v 0 = 0) : STv GG m S w f gm cs := ⟨_, _, _, _, e1, e2, g, Or.inl ⟨rfl, e3⟩⟩
theorem stv_th {f : MM (Nat × Int32)} {gm : GM Unit} {cs : List (Nat × Int32)} (g : GG m S w) (hm : m < 512) {u : Nat} {c : Int32} (e1 : f.1 S = some ((u, 0), thS S)) (e2 : gm w = some ((), mSI 0 c w)) (hc : (u, c) ∈ cs) (hu : ¬ u = 0) (hn : ¬ c = 0) : STv GG m S w f gm cs := ⟨_, _, _, _, e1, e2, g.th hm c, Or.inr ⟨(u, c), hc, rfl, rfl, hu, hn⟩⟩
theorem tI_of {x : Int32} {a b : Int} (h : tI x a b) : a ≤ x.toInt ∧ x.toInt ≤ b := h
theorem u2_s {α : Type} {f a : Nat} {v : α} {g : Nat → Nat → α} : u2 f a v g f a = v := if_pos ⟨rfl, rfl⟩
theorem u2_n {α : Type} {f a b : Nat} {v : α} {g : Nat → Nat → α} (h : b ≠ a) : u2 f a v g f b = g f b := if_neg fun r => h r.2
/-- the truth of a slot is changed -/
theorem Rel.truth {B k : Nat} (h : Rel B k S w) {j : Nat} {x : Int32} {B' : Nat} (hj : j < 216) (hB : B ≤ B') (hB2 : B' ≤ 8000000) (hx : tI x 0 B') : Rel B' k (pC 2 j x S) (mSA 20 j x w) := by
  have nn : g_nn B' (pC 2 j x S) := by
    obtain ⟨n1, n2, n3⟩ := h.nn
    refine ⟨hB2, fun i hi => ⟨(n2 i hi).1, by have := (n2 i hi).2; show (zC S 0 i).toInt ≤ B'; omega⟩, fun i hi => ?_⟩
    show tI (u2 2 j x (zC S) 2 i) 0 B'
    by_cases q : i = j
    · subst q; rw [u2_s]; exact hx
    · rw [u2_n q]; exact ⟨(n3 i hi).1, by have := (n3 i hi).2; omega⟩
  have tr : g_tr (pC 2 j x S) (mSA 20 j x w) := by
    obtain ⟨n1, n2⟩ := h.tr
    refine ⟨fun i hi => ?_, fun i h1 h2 => ?_⟩
    · show u2 2 j x (zC S) 2 i = if 20 = 20 ∧ i = j then x else mA w 20 i
      by_cases q : i = j
      · subst q; rw [u2_s, if_pos ⟨rfl, rfl⟩]
      · rw [u2_n q, if_neg (fun r => q r.2)]; exact n1 i hi
    · show u2 2 j x (zC S) 2 i = zC S 0 i
      rw [u2_n (by omega)]; exact n2 i h1 h2
  exact ⟨h.sl, h.it, h.ba, h.sc, h.lo, h.be, h.no, h.ca, h.aw, h.or, h.li, h.bk, nn, tr, h.db, h.mv, h.ho, h.hs, h.hm, h.ta, h.ap, h.ro, h.st, h.bx⟩
theorem s_find (g : GG m S w) (hm : m < 512) (x y z : Int32) : STi GG m S w (f_X11_find x y z) (g_X12_find x y z) [(1, 1), (2, 2)] := by
  obtain ⟨-, -, -, B, k, hB, -, h⟩ := id g
  have h12 := h.lo.1
  cases h1 : okI x 18 with
  | false =>
    refine sti_th g hm (u := 1) (c := 1) (r := 0) ?_ ?_ (by simp) (by decide) (by decide)
    · simp only [f_X11_find, r_mb, bnd_s, r_mrd, r_mbo, r_mret, r_mthr, r_wA, r_wO, r_madd, r_mput, r_mopt, r_mcn, r_mcs, ite_f, e_isWithin, e_isSlot, e_isItem, e_isGroup, e_isRobot, e_isLot, e_isNotice, e_isOrder, e_isTask, bI_t, bI_f, i10, i00, i01, i11, i20, i30, ↓reduceIte, h1]; try rfl
    · simp only [g_X12_find_44, g_X12_find_20, g_X12_find_19, g_X12_find, kif, r_gb, gbn_s, r_grd, r_gbo, r_gret, r_gst, k_isIn, k_isSlot, k_isItem, k_isGroup, k_isRobot, k_are, k_holds0, k_holds1, k_holds2, k_holds3, k_bit, k_less, bI_t, bI_f, i10, i00, i01, i11, i20, i30, ↓reduceIte, h1]; try rfl
  | true =>
    cases h2 : okI y (zN S 5) with
    | false =>
      refine sti_th g hm (u := 1) (c := 1) (r := 0) ?_ ?_ (by simp) (by decide) (by decide)
      · simp only [f_X11_find, r_mb, bnd_s, r_mrd, r_mbo, r_mret, r_mthr, r_wA, r_wO, r_madd, r_mput, r_mopt, r_mcn, r_mcs, ite_f, e_isWithin, e_isSlot, e_isItem, e_isGroup, e_isRobot, e_isLot, e_isNotice, e_isOrder, e_isTask, bI_t, bI_f, i10, i00, i01, i11, i20, i30, ↓reduceIte, h1, h.nl, h2]; try rfl
      · simp only [g_X12_find_44, g_X12_find_20, g_X12_find_19, g_X12_find, kif, r_gb, gbn_s, r_grd, r_gbo, r_gret, r_gst, k_isIn, k_isSlot, k_isItem, k_isGroup, k_isRobot, k_are, k_holds0, k_holds1, k_holds2, k_holds3, k_bit, k_less, bI_t, bI_f, i10, i00, i01, i11, i20, i30, ↓reduceIte, h1, h.kLot, h2]; try rfl
    | true =>
      cases h3 : inI z 1 99 with
      | false =>
        refine sti_th g hm (u := 2) (c := 2) (r := 0) ?_ ?_ (by simp) (by decide) (by decide)
        · simp only [f_X11_find, r_mb, bnd_s, r_mrd, r_mbo, r_mret, r_mthr, r_wA, r_wO, r_madd, r_mput, r_mopt, r_mcn, r_mcs, ite_f, e_isWithin, e_isSlot, e_isItem, e_isGroup, e_isRobot, e_isLot, e_isNotice, e_isOrder, e_isTask, bI_t, bI_f, i10, i00, i01, i11, i20, i30, ↓reduceIte, h1, h.nl, h2, h3]; try rfl
        · simp only [g_X12_find_44, g_X12_find_20, g_X12_find_19, g_X12_find, kif, r_gb, gbn_s, r_grd, r_gbo, r_gret, r_gst, k_isIn, k_isSlot, k_isItem, k_isGroup, k_isRobot, k_are, k_holds0, k_holds1, k_holds2, k_holds3, k_bit, k_less, bI_t, bI_f, i10, i00, i01, i11, i20, i30, ↓reduceIte, h1, h.kLot, h2, h3]; try rfl
      | true =>
        obtain ⟨s, hs, rfl⟩ := okI_t (by decide) h1
        obtain ⟨l, hl, rfl⟩ := okI_t (by omega) h2
        have hz := inI_t h3
        have hz1 : (1 : Int) ≤ z.toInt ∧ z.toInt ≤ 99 := hz
        have e12 : (12 : Int32) * nI s + nI l = nI (12 * s + l) := by rw [show (12 : Int32) = nI 12 from rfl, pk_mul, nI_add]
        have hj : 12 * s + l < 216 := by omega
        have hv : ∀ B k, Rel B k S w → tI (zC S 2 (12 * s + l) + z) 0 ((B + 99 : Nat) : Int) := fun B k hR => by
          obtain ⟨n1, n2, n3⟩ := hR.nn
          have n4 := n3 (12 * s + l) (by omega)
          have n5 := tI_of n4
          have e : (zC S 2 (12 * s + l) + z).toInt = (zC S 2 (12 * s + l)).toInt + z.toInt := add_toInt (by omega) (by omega)
          unfold tI; rw [e]; omega
        refine sti_st (T := pC 2 (12 * s + l) (zC S 2 (12 * s + l) + z) S) (v := mSA 20 (12 * s + l) (zC S 2 (12 * s + l) + z) (mSI 0 0 w)) (r := zC S 2 (12 * s + l) + z) ?_ ?_ ?_ rfl
        · refine g.st hm rfl rfl (fun _ => rfl) (fun _ => rfl) (fun _ => rfl) fun B k hB hR => ⟨B + 99, by omega, (hR.thr 0).truth hj (by omega) (by omega) (hv B k hR)⟩
        · simp only [f_X11_find, r_mb, bnd_s, r_mrd, r_mbo, r_mret, r_mthr, r_wA, r_wO, r_madd, r_mput, r_mopt, r_mcn, r_mcs, ite_f, e_isWithin, e_isSlot, e_isItem, e_isGroup, e_isRobot, e_isLot, e_isNotice, e_isOrder, e_isTask, bI_t, bI_f, i10, i00, i01, i11, i20, i30, ↓reduceIte, h1, h.nl, h2, h3, cAdd_in (S := S) (r := 2) (p := s) (l := l) (show l < 12 by omega) (show s * 12 + l < 336 by omega), cAt_in (S := pC 2 (cWd 2 * s + l) (zC S 2 (cWd 2 * s + l) + z) S) (r := 2) (p := s) (l := l) (show l < 12 by omega) (show s * 12 + l < 336 by omega)]
          show some ((0, u2 2 (12 * s + l) (zC S 2 (12 * s + l) + z) (zC S) 2 (12 * s + l)), _) = _
          rw [u2_s]; rfl
        · simp only [g_X12_find_44, g_X12_find_20, g_X12_find_19, g_X12_find, kif, r_gb, gbn_s, r_grd, r_gbo, r_gret, r_gst, k_isIn, k_isSlot, k_isItem, k_isGroup, k_isRobot, k_are, k_holds0, k_holds1, k_holds2, k_holds3, k_bit, k_less, bI_t, bI_f, i10, i00, i01, i11, i20, i30, ↓reduceIte, h1, h.kLot, h2, h3, e12, r_gnI (show 12 * s + l < mL 20 from hj) (show mL 20 < 2 ^ 31 by decide), nI_clamp (show 12 * s + l < 2 ^ 31 by omega)]
          show some ((if 20 = 20 ∧ 12 * s + l = 12 * s + l then mA w 20 (12 * s + l) + z else _), mSA 20 (12 * s + l) (mA w 20 (12 * s + l) + z) (mSI 0 0 w)) = _
          rw [if_pos ⟨rfl, rfl⟩, ← h.tr.1 _ hj]
end
