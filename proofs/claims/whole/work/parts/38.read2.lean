section
variable {m : Nat} {S : Ss} {w : MS}
theorem s_free (g : GG m S w) (hm : m < 512) (x y : Int32) : STi GG m S w (f_X11_free x y) (g_X12_free x y) [(1, 1)] := by
  obtain ⟨-, -, -, B, k, -, -, h⟩ := id g
  have hA := k_isAsked h 0 19 (by decide) x y
  rw [show nI 19 - 1 = (18 : Int32) from rfl] at hA
  cases h1 : okI x 19 with
  | false =>
    refine sti_th g hm (u := 1) (c := 1) (r := 0) ?_ ?_ (by simp) (by decide) (by decide)
    · simp only [f_X11_free, r_mb, bnd_s, r_mrd, r_mbo, r_mret, r_mthr, r_wA, r_wO, r_madd, r_mput, r_mopt, r_mcn, r_mcs, ite_f, e_isWithin, e_isSlot, e_isItem, e_isGroup, e_isRobot, e_isLot, e_isNotice, e_isOrder, e_isTask, bI_t, bI_f, i10, i00, i01, i11, i20, i30, ↓reduceIte, show (18 : Int32) = nI 19 - 1 from rfl, in_ok (show 19 < 2 ^ 31 by decide), h1]; try rfl
    · simp only [g_X12_free, kif, r_gb, gbn_s, r_grd, r_gbo, r_gret, r_gst, k_isIn, k_isSlot, k_isItem, k_isGroup, k_isRobot, k_are, k_holds0, k_holds1, k_holds2, k_holds3, k_bit, k_less, bI_t, bI_f, i10, i00, i01, i11, i20, i30, ↓reduceIte, hA, h1, Bool.false_and]; try rfl
  | true =>
    cases h2 : okI y (zN S 5) with
    | false =>
      refine sti_th g hm (u := 1) (c := 1) (r := 0) ?_ ?_ (by simp) (by decide) (by decide)
      · simp only [f_X11_free, r_mb, bnd_s, r_mrd, r_mbo, r_mret, r_mthr, r_wA, r_wO, r_madd, r_mput, r_mopt, r_mcn, r_mcs, ite_f, e_isWithin, e_isSlot, e_isItem, e_isGroup, e_isRobot, e_isLot, e_isNotice, e_isOrder, e_isTask, bI_t, bI_f, i10, i00, i01, i11, i20, i30, ↓reduceIte, show (18 : Int32) = nI 19 - 1 from rfl, in_ok (show 19 < 2 ^ 31 by decide), h1, h.nl, h2]; try rfl
      · simp only [g_X12_free, kif, r_gb, gbn_s, r_grd, r_gbo, r_gret, r_gst, k_isIn, k_isSlot, k_isItem, k_isGroup, k_isRobot, k_are, k_holds0, k_holds1, k_holds2, k_holds3, k_bit, k_less, bI_t, bI_f, i10, i00, i01, i11, i20, i30, ↓reduceIte, hA, h1, h2]; try rfl
    | true =>
      obtain ⟨p, hp, rfl⟩ := okI_t (by decide) h1
      have hl12 := h.lo.1
      obtain ⟨l, hl, rfl⟩ := okI_t (by omega) h2
      refine sti_ok g hm (v := zC S 0 (12 * p + l) - zC S 3 (12 * p + l)) ?_ ?_
      · simp only [f_X11_free, r_mb, bnd_s, r_mrd, r_mbo, r_mret, r_mthr, r_wA, r_wO, r_madd, r_mput, r_mopt, r_mcn, r_mcs, ite_f, e_isWithin, e_isSlot, e_isItem, e_isGroup, e_isRobot, e_isLot, e_isNotice, e_isOrder, e_isTask, bI_t, bI_f, i10, i00, i01, i11, i20, i30, ↓reduceIte, show (18 : Int32) = nI 19 - 1 from rfl, in_ok (show 19 < 2 ^ 31 by decide), h1, h.nl, h2, e_free (S := S) (show p < 28 by omega) (show l < 12 by omega)]
      · simp only [g_X12_free, kif, r_gb, gbn_s, r_grd, r_gbo, r_gret, r_gst, k_isIn, k_isSlot, k_isItem, k_isGroup, k_isRobot, k_are, k_holds0, k_holds1, k_holds2, k_holds3, k_bit, k_less, bI_t, bI_f, i10, i00, i01, i11, i20, i30, ↓reduceIte, hA, h1, h2, Bool.true_and, (h.thr 0).kFree hp (show l < 12 by omega)]
theorem Rel.hI {B k : Nat} (h : Rel B k S w) : ∀ i, i < 6 → zA S 300 i = nI i := fun i hi => (h.it i hi).1
theorem s_room (g : GG m S w) (hm : m < 512) (x : Int32) : STi GG m S w (f_X11_room x) (g_X12_room x) [(1, 1)] := by
  obtain ⟨-, -, -, B, k, -, -, h⟩ := id g
  cases h1 : okI x 18 with
  | false =>
    refine sti_th g hm (u := 1) (c := 1) (r := 0) ?_ ?_ (by simp) (by decide) (by decide)
    · simp only [f_X11_room, r_mb, bnd_s, r_mrd, r_mbo, r_mret, r_mthr, r_wA, r_wO, r_madd, r_mput, r_mopt, r_mcn, r_mcs, ite_f, e_isWithin, e_isSlot, e_isItem, e_isGroup, e_isRobot, e_isLot, e_isNotice, e_isOrder, e_isTask, bI_t, bI_f, i10, i00, i01, i11, i20, i30, ↓reduceIte, h1]; try rfl
    · simp only [g_X12_room_13, g_X12_room, kif, r_gb, gbn_s, r_grd, r_gbo, r_gret, r_gst, k_isIn, k_isSlot, k_isItem, k_isGroup, k_isRobot, k_are, k_holds0, k_holds1, k_holds2, k_holds3, k_bit, k_less, bI_t, bI_f, i10, i00, i01, i11, i20, i30, ↓reduceIte, h1]; try rfl
  | true =>
    obtain ⟨p, hp, rfl⟩ := okI_t (by decide) h1
    refine sti_ok g hm (v := frR S p) ?_ ?_
    · simp only [f_X11_room, r_mb, bnd_s, r_mrd, r_mbo, r_mret, r_mthr, r_wA, r_wO, r_madd, r_mput, r_mopt, r_mcn, r_mcs, ite_f, e_isWithin, e_isSlot, e_isItem, e_isGroup, e_isRobot, e_isLot, e_isNotice, e_isOrder, e_isTask, bI_t, bI_f, i10, i00, i01, i11, i20, i30, ↓reduceIte, h1, e_room h.hI hp]
    · simp only [g_X12_room_13, g_X12_room, kif, r_gb, gbn_s, r_grd, r_gbo, r_gret, r_gst, k_isIn, k_isSlot, k_isItem, k_isGroup, k_isRobot, k_are, k_holds0, k_holds1, k_holds2, k_holds3, k_bit, k_less, bI_t, bI_f, i10, i00, i01, i11, i20, i30, ↓reduceIte, h1, (h.thr 0).kRoom hp]
/-- what a line lacks -/
theorem Rel.lnE {B k : Nat} (h : Rel B k S w) {o p j : Nat} (ho : o < zN S 7) (hj : (zL S 704 o)[p]? = some j) : lqS S o j = 3 * o + p ∧ p < 3 ∧ j < zN S 4 := by
  obtain ⟨a1, a2, a3⟩ := h.li.1 o ho
  have hp := (List.getElem?_eq_some_iff.mp hj).1
  refine ⟨?_, by omega, (a3 p j hj).1⟩
  unfold lqS
  have hm := List.mem_of_getElem? hj
  have hi : (zL S 704 o).idxOf j < (zL S 704 o).length := List.idxOf_lt_length_of_mem hm
  have hx : (zL S 704 o)[(zL S 704 o).idxOf j]? = some j := by rw [List.getElem?_eq_getElem hi, List.getElem_idxOf]
  rw [(h.li.2.1 o o _ p j ho ho hx hj).2]
theorem Rel.lqO {B k : Nat} (h : Rel B k S w) {o j : Nat} (ho : o < zN S 7) (hj : j ∈ zL S 704 o) : ∃ p, p < 3 ∧ (zL S 704 o)[p]? = some j ∧ lqS S o j = 3 * o + p := by
  obtain ⟨p, hp, hpj⟩ := List.mem_iff_getElem.mp hj
  have hx : (zL S 704 o)[p]? = some j := List.getElem?_eq_some_iff.mpr ⟨hp, hpj⟩
  have := h.lnE ho hx
  exact ⟨p, this.2.1, hx, this.1⟩
def lck (S : Ss) (j : Nat) : Int32 := zA S 401 j - zA S 402 j - zA S 403 j
theorem e_lack (j : Nat) : (f_X4_lacking j).1 S = some (lck S j, S) := rfl
theorem Rel.kLack {B k : Nat} (h : Rel B k S w) {o p j : Nat} (ho : o < zN S 7) (hj : (zL S 704 o)[p]? = some j) : g_X12_lacking (nI (3 * o + p)) w = some (lck S j, w) := by
  have h8 := h.or.1
  obtain ⟨q1, q2, q3⟩ := h.lnE ho hj
  obtain ⟨b1, b2, b3, b4, -⟩ := (h.li.1 o ho).2.2 p j hj
  have hc := h.hcount
  have h24 : 3 * o + p < 24 := by omega
  simp only [g_X12_lacking, kif, r_gb, gbn_s, r_grd, r_gbo, r_gret, r_gst, k_isIn, k_isSlot, k_isItem, k_isGroup, k_isRobot, k_are, k_holds0, k_holds1, k_holds2, k_holds3, k_bit, k_less, bI_t, bI_f, i10, i00, i01, i11, i20, i30, ↓reduceIte, r_gnI (show 3 * o + p < mL 37 from h24) (show mL 37 < 2 ^ 31 by decide), r_gnI (show 3 * o + p < mL 38 from h24) (show mL 38 < 2 ^ 31 by decide), nI_clamp (show 3 * o + p < 2 ^ 31 by omega), b3, b4]
  have key := g_sum (fun f a i => g_X12_lacking_16 f (nI (3 * o + p)) a i) (fun a => some (a, w)) w ((hL S).filter (hasO S)).length (fun i => -(if mA w 40 i = nI (3 * o + p) then mA w 43 i else 0)) (fun f a i hi => ?_) (fun f a => ?_) (zA S 401 j - zA S 403 j) FU (FU_gt (by omega))
  · refine key.trans ?_
    have e1 : sm (List.range ((hL S).filter (hasO S)).length) (fun i => if mA w 40 i = nI (3 * o + p) then mA w 43 i else 0) = zA S 402 j := by
      rw [(h.hs.2 j q3).1, sm_split (hasO S) (xs := hL S), sm_0 ((hL S).filter fun a => !hasO S a) fun x hx => ?_, Int32.add_zero]
      · refine sm_idx rfl fun i x hx => ?_
        obtain ⟨o', j', l', d1, d2, d3, d4, d5, d6, d7, d8⟩ := h.hm.2 i x hx
        have hx2 := List.mem_filter.mp (List.mem_of_getElem? hx)
        obtain ⟨-, -, -, -, c5, -⟩ := h.ho.2.1 x hx2.1
        rcases c5 with ⟨c5, -⟩ | ⟨o2, j2, p2, c1, c2, c3, c4, -⟩
        · rw [c5] at d1; cases d1
        · have ho2 : o2 = o' := Option.some.inj (c1.symm.trans d1)
          have hj2 : j2 = j' := Option.some.inj (c2.symm.trans d2)
          subst ho2; subst hj2
          obtain ⟨p', hp', hx', hq'⟩ := h.lqO c3 c4
          rw [d4, d7, hq', d2]
          by_cases q : j2 = j
          · subst q
            obtain ⟨r1, r2⟩ := h.li.2.1 o2 o p' p j2 c3 ho hx' hj
            rw [r1, r2, if_pos rfl, if_pos rfl]
          · rw [if_neg, if_neg (fun r => q (Option.some.inj r))]
            rw [nI_eq (by omega) (by omega)]
            intro r
            have hop : o2 = o ∧ p' = p := by omega
            rw [hop.1, hop.2, hj] at hx'
            exact q (Option.some.inj hx').symm
      · rw [List.mem_filter] at hx
        obtain ⟨-, -, -, -, c5, -⟩ := h.ho.2.1 x hx.1
        rcases c5 with ⟨-, c5, -⟩ | ⟨o2, j2, p2, c1, -⟩
        · rw [c5, if_neg (by simp)]
        · have := hx.2
          unfold hasO at this
          rw [c1] at this; cases this
    rw [sm_neg, e1, ← Int32.sub_eq_add_neg]
    unfold lck
    rw [Int32.sub_sub, Int32.sub_sub, Int32.add_comm]
  · simp only [g_X12_lacking_16, kif, r_gb, gbn_s, r_grd, r_gbo, r_gret, r_gst, k_isIn, k_isSlot, k_isItem, k_isGroup, k_isRobot, k_are, k_holds0, k_holds1, k_holds2, k_holds3, k_bit, k_less, bI_t, bI_f, i10, i00, i01, i11, i20, i30, ↓reduceIte, h.hm.1, nI_ge hi (show ((hL S).filter (hasO S)).length < 2 ^ 31 by omega), r_gnI (show i < mL 40 from Nat.lt_of_lt_of_le hi (show _ ≤ 2400 by omega)) (show mL 40 < 2 ^ 31 by decide), r_gnI (show i < mL 43 from Nat.lt_of_lt_of_le hi (show _ ≤ 2400 by omega)) (show mL 43 < 2 ^ 31 by decide), nI_clamp (show i < 2 ^ 31 by omega), nI_1]
    by_cases q : mA w 40 i = nI (3 * o + p)
    · simp only [q, ↓reduceIte, Int32.sub_eq_add_neg]
    · simp only [q, ↓reduceIte, Int32.sub_eq_add_neg]
  · simp only [g_X12_lacking_16, kif, r_gb, gbn_s, r_grd, r_gbo, r_gret, r_gst, k_isIn, k_isSlot, k_isItem, k_isGroup, k_isRobot, k_are, k_holds0, k_holds1, k_holds2, k_holds3, k_bit, k_less, bI_t, bI_f, i10, i00, i01, i11, i20, i30, ↓reduceIte, h.hm.1, Int32.le_refl]
end
