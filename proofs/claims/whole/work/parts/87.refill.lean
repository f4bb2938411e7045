/-! refill: one face -/
section
variable {B k : Nat} {S : Ss} {w : MS}
def rfO (S : Ss) (w : MS) (s i : Nat) (c : Int32) (X : Option (Int32 × Ss)) (Y : Option (Int32 × MS)) : Prop := (X = some (0, S) ∧ Y = some (0, w)) ∨ ∃ p l, p < 18 ∧ l < zN S 5 ∧ itS S l = i ∧ ¬ zC S 0 (12 * p + l) - zC S 3 (12 * p + l) ≤ 0 ∧ ¬ amt S s i c (zC S 0 (12 * p + l) - zC S 3 (12 * p + l)) / zA S 305 i ≤ 0 ∧ X = (mb (f_X11_hold none none (nI p) l (amt S s i c (zC S 0 (12 * p + l) - zC S 3 (12 * p + l)) / zA S 305 i * zA S 305 i)) fun r97 => mopt r97 fun i105 => mb (f_X11_makeTask 1 i105 (nI s)) fun _ => (mret 1 : MM Int32)).1 S ∧ Y = gbn (g_X12_makes 1 (nI l) (nI p) (nI s) (-1) (amt S s i c (zC S 0 (12 * p + l) - zC S 3 (12 * p + l)) / zA S 305 i * zA S 305 i) w) fun _ w1 => some (1, w1)
theorem Rel.rfL (h : Rel B k S w) {s i : Nat} (hs : s < 18) (hi : i < 6) (c : Int32) : ∀ (suf pre : List Nat), zL S 1104 0 = pre ++ suf → ∀ f g, suf.length < f → suf.length < g → rfO S w s i c ((f_X11_refillFace_72 f (nI s) s (some i) c (nI pre.length)).1 S) (g_X12_refills_106 g (nI s) (nI i) c (fcI (byE S i)[(pre.filter fun l => decide (itS S l = i ∧ zA S 503 l = 0)).length]?) w)
  | [], pre, hL, f, g, hf, hg => by
    obtain ⟨f, rfl⟩ : ∃ f', f = f' + 1 := ⟨f - 1, by simp at hf; omega⟩
    obtain ⟨g, rfl⟩ : ∃ f', g = f' + 1 := ⟨g - 1, by simp at hg; omega⟩
    rw [List.append_nil] at hL
    have e : byE S i = pre.filter fun l => decide (itS S l = i ∧ zA S 503 l = 0) := by unfold byE; rw [hL]
    have e2 : (byE S i)[(pre.filter fun l => decide (itS S l = i ∧ zA S 503 l = 0)).length]? = none := by
      rw [e]; exact List.getElem?_eq_none_iff.mpr (Nat.le_refl _)
    have z : fcI none = (-1 : Int32) := rfl
    rw [e2, z]
    left
    constructor
    · simp only [f_X11_refillFace_72, r_mb, bnd_s, r_mrd, r_mbo, r_mret, r_mthr, r_wA, r_wO, r_madd, r_mput, r_mopt, r_mcn, r_mcs, ite_f, e_isWithin, e_isSlot, e_isItem, e_isGroup, e_isRobot, e_isLot, e_isNotice, e_isOrder, e_isTask, bI_t, bI_f, i10, i00, i01, i11, i20, i30, ↓reduceIte, hL, Int32.le_refl]
    · simp only [g_X12_refills_106, kif, r_gb, gbn_s, r_grd, r_gbo, r_gret, r_gst, k_isIn, k_isSlot, k_isItem, k_isGroup, k_isRobot, k_are, k_holds0, k_holds1, k_holds2, k_holds3, k_bit, k_less, bI_t, bI_f, i10, i00, i01, i11, i20, i30, ↓reduceIte]
  | l :: t, pre, hL, f, g, hf, hg => by
    obtain ⟨f, rfl⟩ : ∃ f', f = f' + 1 := ⟨f - 1, by simp at hf; omega⟩
    obtain ⟨g, rfl⟩ : ∃ f', g = f' + 1 := ⟨g - 1, by simp at hg; omega⟩
    have h12 := h.lo.1
    have hlen : (zL S 1104 0).length = zN S 5 := by rw [h.be.1.length_eq, List.length_range]
    have hl : l < zN S 5 := List.mem_range.mp (h.be.1.mem_iff.mp (by rw [hL]; simp))
    have hpl : pre.length < (zL S 1104 0).length := by rw [hL]; simp
    have hge : ¬ nI (zL S 1104 0).length ≤ nI pre.length := nI_ge hpl (by omega)
    have hat : lAt (zL S 1104 0) (nI pre.length) = some l := lAt_n (by omega) (by rw [hL]; simp)
    obtain ⟨-, -, -, -, b5, b6, -⟩ := h.lo.2.2.2.1 l hl
    have hL2 : zL S 1104 0 = (pre ++ [l]) ++ t := by rw [hL]; simp
    have ih := h.rfL hs hi c t (pre ++ [l]) hL2 f
    have elen : nI (pre ++ [l]).length = nI (pre.length + 1) := by rw [List.length_append]; rfl
    rw [elen] at ih
    by_cases q : itS S l = i ∧ zA S 503 l = 0
    · have e1 : ((pre ++ [l]).filter fun l => decide (itS S l = i ∧ zA S 503 l = 0)).length = (pre.filter fun l => decide (itS S l = i ∧ zA S 503 l = 0)).length + 1 := by
        rw [List.filter_append, List.length_append, List.filter_cons_of_pos (by simp [q])]; rfl
      rw [e1] at ih
      have e2 : (byE S i)[(pre.filter fun l => decide (itS S l = i ∧ zA S 503 l = 0)).length]? = some l := by
        unfold byE
        rw [hL, List.filter_append, List.getElem?_append_right (Nat.le_refl _), Nat.sub_self, List.filter_cons_of_pos (by simp [q])]; rfl
      have e3 := (List.getElem?_eq_some_iff.mp e2).1
      obtain ⟨o, o1, o2, o3⟩ := h.eSrc hl
      obtain ⟨p1, p2⟩ := h.k115 (s := s) (i := i) hl (g_X12_refills_106 g) c o2 o3
      have hm1 : ¬ nI l = -1 := fun e => nI_ne1 l (by omega) e.symm
      have z : fcI (some l) = nI l := rfl
      have r1 : g_X12_refills_106 (g + 1) (nI s) (nI i) c (nI l) w = g_X12_refills_115 (g_X12_refills_106 g) FU (nI s) (nI i) c (nI l) 0 w := by
        simp only [g_X12_refills_106, kif, r_gb, gbn_s, r_grd, r_gbo, r_gret, r_gst, k_isIn, k_isSlot, k_isItem, k_isGroup, k_isRobot, k_are, k_holds0, k_holds1, k_holds2, k_holds3, k_bit, k_less, bI_t, bI_f, i10, i00, i01, i11, i20, i30, ↓reduceIte, if_neg hm1]
      have c1 : (f_X11_refillFace_72 (f + 1) (nI s) s (some i) c (nI pre.length)).1 S = (f_X11_refillFace_125 (f_X11_refillFace_72 f) (nI s) s (some i) c (nI pre.length) l (fcI o)).1 S := by
        simp only [f_X11_refillFace_72, r_mb, bnd_s, r_mrd, r_mbo, r_mret, r_mthr, r_wA, r_wO, r_madd, r_mput, r_mopt, r_mcn, r_mcs, ite_f, e_isWithin, e_isSlot, e_isItem, e_isGroup, e_isRobot, e_isLot, e_isNotice, e_isOrder, e_isTask, bI_t, bI_f, i10, i00, i01, i11, i20, i30, ↓reduceIte, if_neg hge, mlget, hat, b5, q.1, if_pos q.2, o1]
      rw [e2, z, r1, c1]
      cases ho : o with
      | none =>
        have nx := h.kNextE (n := (pre.filter fun l => decide (itS S l = i ∧ zA S 503 l = 0)).length + 1) hi (some l) ⟨e2.symm, e3⟩
        rw [z] at nx
        rw [p1 ho, nx, gbn_s]
        have z2 : fcI none = (-1 : Int32) := rfl
        have c2 : (f_X11_refillFace_125 (f_X11_refillFace_72 f) (nI s) s (some i) c (nI pre.length) l (fcI none)).1 S = (f_X11_refillFace_72 f (nI s) s (some i) c (nI (pre.length + 1))).1 S := by
          rw [z2]; simp only [f_X11_refillFace_125, r_mb, bnd_s, r_mrd, r_mbo, r_mret, r_mthr, r_wA, r_wO, r_madd, r_mput, r_mopt, r_mcn, r_mcs, ite_f, e_isWithin, e_isSlot, e_isItem, e_isGroup, e_isRobot, e_isLot, e_isNotice, e_isOrder, e_isTask, bI_t, bI_f, i10, i00, i01, i11, i20, i30, ↓reduceIte, nI_1]
        rw [c2]
        exact ih g (by simp at hf; omega) (by simp at hg; omega)
      | some p =>
        obtain ⟨u1, u2, -⟩ := o3 p ho
        have z2 : fcI (some p) = nI p := rfl
        rw [p2 p ho, z2, h.e125 hs hi u1 hl (f_X11_refillFace_72 f) c (nI pre.length) rfl, h.k145 hs hi (g_X12_refills_106 g) (fun _ _ _ _ _ => gret 0) c u2.2]
        by_cases qa : amt S s i c (zC S 0 (12 * p + l) - zC S 3 (12 * p + l)) / zA S 305 i ≤ 0
        · rw [if_pos qa, if_pos qa]
          exact Or.inl ⟨rfl, rfl⟩
        · rw [if_neg qa, if_neg qa]
          exact Or.inr ⟨p, l, u1, hl, q.1, u2.2, qa, rfl, rfl⟩
    · have e1 : ((pre ++ [l]).filter fun l => decide (itS S l = i ∧ zA S 503 l = 0)).length = (pre.filter fun l => decide (itS S l = i ∧ zA S 503 l = 0)).length := by
        rw [List.filter_append, List.length_append, List.filter_cons_of_neg (by simpa using q)]; rfl
      rw [e1] at ih
      have c1 : (f_X11_refillFace_72 (f + 1) (nI s) s (some i) c (nI pre.length)).1 S = (f_X11_refillFace_72 f (nI s) s (some i) c (nI (pre.length + 1))).1 S := by
        by_cases q1 : itS S l = i
        · have q2 : ¬ zA S 503 l = 0 := fun r => q ⟨q1, r⟩
          simp only [f_X11_refillFace_72, f_X11_refillFace_124, f_X11_refillFace_125, r_mb, bnd_s, r_mrd, r_mbo, r_mret, r_mthr, r_wA, r_wO, r_madd, r_mput, r_mopt, r_mcn, r_mcs, ite_f, e_isWithin, e_isSlot, e_isItem, e_isGroup, e_isRobot, e_isLot, e_isNotice, e_isOrder, e_isTask, bI_t, bI_f, i10, i00, i01, i11, i20, i30, ↓reduceIte, if_neg hge, mlget, hat, b5, q1, if_neg q2, nI_1]
        · have q2 : ¬ some (itS S l) = some i := fun r => q1 (Option.some.inj r)
          simp only [f_X11_refillFace_72, f_X11_refillFace_124, f_X11_refillFace_125, r_mb, bnd_s, r_mrd, r_mbo, r_mret, r_mthr, r_wA, r_wO, r_madd, r_mput, r_mopt, r_mcn, r_mcs, ite_f, e_isWithin, e_isSlot, e_isItem, e_isGroup, e_isRobot, e_isLot, e_isNotice, e_isOrder, e_isTask, bI_t, bI_f, i10, i00, i01, i11, i20, i30, ↓reduceIte, if_neg hge, mlget, hat, b5, if_neg q2, nI_1]
      rw [c1]
      exact ih (g + 1) (by simp at hf; omega) (by simp at hg; omega)
end
