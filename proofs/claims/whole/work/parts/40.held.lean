theorem len_spl {α : Type} (p : α → Bool) : ∀ xs : List α, xs.length = (xs.filter p).length + (xs.filter fun a => !p a).length
  | [] => rfl
  | b :: t => by
    have := len_spl p t
    cases h : p b <;> simp [List.filter_cons, h] <;> omega
section
variable {m : Nat} {S : Ss} {w : MS}
def trn (S : Ss) (x : Nat) : Int32 := match zO S 200 x with
  | none => 8
  | some o => zA S 700 o
theorem e_turn (x : Nat) : (f_X2_turn x).1 S = some (trn S x, S) := by
  unfold f_X2_turn trn
  simp only [r_mrd, r_mbo]
  cases h : zO S 200 x with
  | none => simp only [r_mcn, r_mret]
  | some o => simp only [r_mcs, r_mbo, h, r_mopt, r_mret]
theorem e_isOf (x : Nat) (y : Int32) (l : Nat) : (f_X2_isOf x y l).1 S = some (bI (decide (zA S 202 x = y ∧ zO S 203 x = some l)), S) := by
  unfold f_X2_isOf
  simp only [r_mrd]
  by_cases h1 : zA S 202 x = y
  · by_cases h2 : zO S 203 x = some l
    · simp only [h1, h2, ↓reduceIte, r_mbo, r_mret, and_self, decide_true, bI_t]
    · simp only [h1, h2, ↓reduceIte, r_mbo, r_mret, and_false, decide_false, bI_f]
  · simp only [h1, ↓reduceIte, r_mbo, r_mret, false_and, decide_false, bI_f]
theorem Rel.hpos {B k : Nat} (h : Rel B k S w) {x o : Nat} (hx : x ∈ hL S) (ho : zO S 200 x = some o) : ∃ j, zO S 201 x = some j ∧ o < zN S 7 ∧ j ∈ zL S 704 o ∧ zA S 705 o = 0 ∧ ∃ p, p < 18 ∧ zA S 202 x = nI p := by
  obtain ⟨-, -, -, -, c5, -⟩ := h.ho.2.1 x hx
  rcases c5 with ⟨c5, -⟩ | ⟨o2, j, p, c1, c2, c3, c4, c5, c6, c7⟩
  · rw [c5] at ho; cases ho
  · have : o2 = o := Option.some.inj (c1.symm.trans ho)
    subst this
    exact ⟨j, c2, c3, c4, c5, p, c6, c7⟩
/-- a sum over the reference's holdings is one over the class's -/
theorem Rel.sumH {B k : Nat} (h : Rel B k S w) {e : Nat → Int32} {f : Nat → Int32} (h0 : ∀ x, x ∈ hL S → zO S 200 x = none → f x = 0) (h1 : ∀ i x o j l, x ∈ hL S → zO S 200 x = some o → zO S 201 x = some j → zO S 203 x = some l → l < zN S 5 → o < zN S 7 → mA w 40 i = nI (lqS S o j) → lqS S o j / 3 = o → lqS S o j < 24 → mA w 41 i = zA S 202 x → mA w 42 i = nI l → mA w 43 i = zA S 204 x → mA w 44 i = fcI (zO S 205 x) → e i = f x) : sm (List.range ((hL S).filter (hasO S)).length) e = sm (hL S) f := by
  have h8 := h.or.1
  rw [sm_split (hasO S) (xs := hL S), sm_0 ((hL S).filter fun a => !hasO S a) fun x hx => ?_, Int32.add_zero]
  · refine sm_idx rfl fun i x hx => ?_
    obtain ⟨o, j, l, d1, d2, d3, d4, d5, d6, d7, d8⟩ := h.hm.2 i x hx
    have hx2 := List.mem_filter.mp (List.mem_of_getElem? hx)
    obtain ⟨j', c1, c2, c3, c4, p, c5, c6⟩ := h.hpos hx2.1 d1
    have hj2 : j' = j := Option.some.inj (c1.symm.trans d2)
    subst hj2
    obtain ⟨p', hp', hx', hq'⟩ := h.lqO c2 c3
    obtain ⟨l2, g1, g2⟩ := (h.ho.2.1 x hx2.1).2.2.1
    have hll : l2 = l := Option.some.inj (g2.symm.trans d3)
    subst hll
    exact h1 i x o j' l2 hx2.1 d1 d2 d3 g1 c2 d4 (by rw [hq']; omega) (by rw [hq']; omega) d5 d6 d7 d8
  · rw [List.mem_filter] at hx
    refine h0 x hx.1 ?_
    have := hx.2
    unfold hasO at this
    cases q : zO S 200 x with
    | none => rfl
    | some o => rw [q] at this; cases this
theorem div3 {q : Nat} (h : q < 24) : nI q / 3 = nI (q / 3) := by rw [show (3 : Int32) = nI 3 from rfl]; exact pk_div (by omega) (by decide) (by decide)
theorem s_held (g : GG m S w) (hm : m < 512) (x y z : Int32) : STi GG m S w (f_X11_held x y z) (g_X12_held x y z) [(1, 1)] := by
  obtain ⟨-, -, -, B, k, -, -, h⟩ := id g
  have h8 := h.or.1
  have h12 := h.lo.1
  cases h1 : okI x (zN S 7) with
  | false =>
    refine sti_th g hm (u := 1) (c := 1) (r := 0) ?_ ?_ (by simp) (by decide) (by decide)
    · simp only [f_X11_held, r_mb, bnd_s, r_mrd, r_mbo, r_mret, r_mthr, r_wA, r_wO, r_madd, r_mput, r_mopt, r_mcn, r_mcs, ite_f, e_isWithin, e_isSlot, e_isItem, e_isGroup, e_isRobot, e_isLot, e_isNotice, e_isOrder, e_isTask, bI_t, bI_f, i10, i00, i01, i11, i20, i30, ↓reduceIte, h.nor, h1]; try rfl
    · simp only [g_X12_held_43, g_X12_held_29, g_X12_held_28, g_X12_held, kif, r_gb, gbn_s, r_grd, r_gbo, r_gret, r_gst, k_isIn, k_isSlot, k_isItem, k_isGroup, k_isRobot, k_are, k_holds0, k_holds1, k_holds2, k_holds3, k_bit, k_less, bI_t, bI_f, i10, i00, i01, i11, i20, i30, ↓reduceIte, h.kOrd, h1]; try rfl
  | true =>
    cases h2 : okI y 18 with
    | false =>
      refine sti_th g hm (u := 1) (c := 1) (r := 0) ?_ ?_ (by simp) (by decide) (by decide)
      · simp only [f_X11_held, r_mb, bnd_s, r_mrd, r_mbo, r_mret, r_mthr, r_wA, r_wO, r_madd, r_mput, r_mopt, r_mcn, r_mcs, ite_f, e_isWithin, e_isSlot, e_isItem, e_isGroup, e_isRobot, e_isLot, e_isNotice, e_isOrder, e_isTask, bI_t, bI_f, i10, i00, i01, i11, i20, i30, ↓reduceIte, h.nor, h1, h2]; try rfl
      · simp only [g_X12_held, g_X12_held_28, g_X12_held_29, kif, r_gb, gbn_s, r_grd, r_gbo, r_gret, r_gst, k_isIn, k_isSlot, k_isItem, k_isGroup, k_isRobot, k_are, k_holds0, k_holds1, k_holds2, k_holds3, k_bit, k_less, bI_t, bI_f, i10, i00, i01, i11, i20, i30, ↓reduceIte, h.kOrd, h1, h2]; try rfl
    | true =>
      cases h3 : okI z (zN S 5) with
      | false =>
        refine sti_th g hm (u := 1) (c := 1) (r := 0) ?_ ?_ (by simp) (by decide) (by decide)
        · simp only [f_X11_held, r_mb, bnd_s, r_mrd, r_mbo, r_mret, r_mthr, r_wA, r_wO, r_madd, r_mput, r_mopt, r_mcn, r_mcs, ite_f, e_isWithin, e_isSlot, e_isItem, e_isGroup, e_isRobot, e_isLot, e_isNotice, e_isOrder, e_isTask, bI_t, bI_f, i10, i00, i01, i11, i20, i30, ↓reduceIte, h.nor, h1, h2, h.nl, h3]; try rfl
        · simp only [g_X12_held, g_X12_held_28, g_X12_held_29, kif, r_gb, gbn_s, r_grd, r_gbo, r_gret, r_gst, k_isIn, k_isSlot, k_isItem, k_isGroup, k_isRobot, k_are, k_holds0, k_holds1, k_holds2, k_holds3, k_bit, k_less, bI_t, bI_f, i10, i00, i01, i11, i20, i30, ↓reduceIte, h.kOrd, h.kLot, h1, h2, h3]; try rfl
      | true =>
        obtain ⟨o, ho, rfl⟩ := okI_t (by omega) h1
        obtain ⟨s, hs, rfl⟩ := okI_t (by decide) h2
        obtain ⟨l, hl, rfl⟩ := okI_t (by omega) h3
        have hc := h.hcount
        let F : Nat → Int32 := fun x => if zO S 200 x = some o ∧ zA S 202 x = nI s ∧ zO S 203 x = some l then zA S 204 x else 0
        refine sti_ok g hm (v := sm (hL S) F) ?_ ?_
        · simp only [f_X11_held, r_mb, bnd_s, r_mrd, r_mbo, r_mret, r_mthr, r_wA, r_wO, r_madd, r_mput, r_mopt, r_mcn, r_mcs, ite_f, e_isWithin, e_isSlot, e_isItem, e_isGroup, e_isRobot, e_isLot, e_isNotice, e_isOrder, e_isTask, bI_t, bI_f, i10, i00, i01, i11, i20, i30, ↓reduceIte, h.nor, h1, h2, h.nl, h3]
          have hlen : (hL S).length < 90000 := by
            have e1 : (hL S).length = ((hL S).filter (hasO S)).length + ((hL S).filter fun a => !hasO S a).length := len_spl (hasO S) (hL S)
            have e2 : ((hL S).filter fun a => !hasO S a).length = ((List.range (zN S 10)).filter (fun t => decide ((zA S 1005 t = 0 ∨ zA S 1005 t = 1) ∧ ¬ zA S 1001 t = 2))).length := by rw [← h.nul, List.length_map]
            have e3 := List.length_filter_le (fun t => decide ((zA S 1005 t = 0 ∨ zA S 1005 t = 1) ∧ ¬ zA S 1001 t = 2)) (List.range (zN S 10))
            rw [List.length_range] at e3
            have := h.ta.1
            omega
          have key := m_sum (fun f a i => f_X11_held_37 f (nI o) (nI s) (nI l) a i) (fun a => some ((0, a), S)) S (hL S).length (fun i => F (((hL S)[i]?).getD 0)) (fun f a i hi => ?_) (fun f a => ?_) 0 FU (FU_gt (by omega))
          · rw [Int32.zero_add, sm_idx (xs := hL S) (f := F) rfl (fun i x hx => by rw [hx]; rfl)] at key
            exact key
          · have hx : (hL S)[i]? = some ((hL S)[i]'hi) := List.getElem?_eq_getElem hi
            have hxm := List.mem_of_getElem? hx
            have hx1 : (zL S 1107 0)[i]? = some ((hL S)[i]'hi) := hx
            rw [hx]
            show _ = (f_X11_held_37 f (nI o) (nI s) (nI l) (a + F ((hL S)[i]'hi)) (nI (i + 1))).1 S
            generalize (hL S)[i]'hi = X at hxm hx1
            simp only [f_X11_held_37, r_mb, bnd_s, r_mrd, r_mbo, r_mret, r_mthr, r_wA, r_wO, r_madd, r_mput, r_mopt, r_mcn, r_mcs, ite_f, e_isWithin, e_isSlot, e_isItem, e_isGroup, e_isRobot, e_isLot, e_isNotice, e_isOrder, e_isTask, bI_t, bI_f, i10, i00, i01, i11, i20, i30, ↓reduceIte, show (zL S 1107 0).length = (hL S).length from rfl, nI_ge hi (show (hL S).length < 2 ^ 31 by omega), mlget, lAt_n (show i < 2 ^ 31 by omega) hx1, e_turn, nI_1]
            by_cases q0 : trn S X = nI o
            · have q0' : zO S 200 X = some o := by
                unfold trn at q0
                cases q : zO S 200 X with
                | none => rw [q] at q0; exact absurd q0 (fun r => by have := (nI_eq (a := 8) (b := o) (by decide) (by omega)).mp r; omega)
                | some o2 =>
                  rw [q] at q0
                  have hb := h.hpos hxm q
                  obtain ⟨-, -, ho2, -⟩ := hb
                  have hq : zA S 700 o2 = nI o := q0
                  rw [(h.or.2.2.2.2.1 o2 ho2).1] at hq
                  rw [(nI_eq (by omega) (by omega)).mp hq]
              simp only [q0, ↓reduceIte, h.atL hl, r_mopt, r_mb, e_isOf, bnd_s, r_mrd]
              by_cases q1 : zA S 202 X = nI s ∧ zO S 203 X = some l
              · simp only [q1, and_self, decide_true, bI_t, i10, ↓reduceIte, r_mbo, F, q0']
              · simp only [q1, decide_false, bI_f, i00, ↓reduceIte, F, and_false, Int32.add_zero]
            · have q0' : ¬ zO S 200 X = some o := fun q => q0 (by unfold trn; rw [q]; exact (h.or.2.2.2.2.1 o ho).1)
              simp only [q0, ↓reduceIte, F, q0', false_and, Int32.add_zero]
          · simp only [f_X11_held_37, r_mb, bnd_s, r_mrd, r_mbo, r_mret, r_mthr, r_wA, r_wO, r_madd, r_mput, r_mopt, r_mcn, r_mcs, ite_f, e_isWithin, e_isSlot, e_isItem, e_isGroup, e_isRobot, e_isLot, e_isNotice, e_isOrder, e_isTask, bI_t, bI_f, i10, i00, i01, i11, i20, i30, ↓reduceIte, show (zL S 1107 0).length = (hL S).length from rfl, Int32.le_refl]
        · simp only [g_X12_held, g_X12_held_28, g_X12_held_29, kif, r_gb, gbn_s, r_grd, r_gbo, r_gret, r_gst, k_isIn, k_isSlot, k_isItem, k_isGroup, k_isRobot, k_are, k_holds0, k_holds1, k_holds2, k_holds3, k_bit, k_less, bI_t, bI_f, i10, i00, i01, i11, i20, i30, ↓reduceIte, h.kOrd, h.kLot, h1, h2, h3]
          have key := g_sum (fun f a i => g_X12_held_43 f (nI o) (nI s) (nI l) a i) (fun a => some (a, mSI 0 0 w)) (mSI 0 0 w) ((hL S).filter (hasO S)).length (fun i => if mA w 40 i / 3 = nI o ∧ mA w 41 i = nI s ∧ mA w 42 i = nI l then mA w 43 i else 0) (fun f a i hi => ?_) (fun f a => ?_) 0 FU (FU_gt (by omega))
          · rw [Int32.zero_add] at key
            refine key.trans ?_
            rw [h.sumH (f := F) (fun x _ q => by show (if _ then _ else _) = _; rw [if_neg (fun r => by rw [q] at r; cases r.1)]) fun i x o' j l' hxm d1 d2 d3 d9 do' d4 dq dl d5 d6 d7 d8 => ?_]
            show _ = if zO S 200 x = some o ∧ zA S 202 x = nI s ∧ zO S 203 x = some l then zA S 204 x else 0
            rw [d4, d5, d6, d7, div3 dl, dq, d1, d3]
            simp only [nI_eq (show o' < 2 ^ 31 by omega) (show o < 2 ^ 31 by omega), nI_eq (show l' < 2 ^ 31 by omega) (show l < 2 ^ 31 by omega), Option.some.injEq]
          · simp only [g_X12_held_43, kif, r_gb, gbn_s, r_grd, r_gbo, r_gret, r_gst, k_isIn, k_isSlot, k_isItem, k_isGroup, k_isRobot, k_are, k_holds0, k_holds1, k_holds2, k_holds3, k_bit, k_less, bI_t, bI_f, i10, i00, i01, i11, i20, i30, ↓reduceIte, show mI (mSI 0 0 w) 39 = mI w 39 from rfl, h.hm.1, nI_ge hi (show ((hL S).filter (hasO S)).length < 2 ^ 31 by omega), r_gnI (show i < mL 40 from Nat.lt_of_lt_of_le hi (show _ ≤ 2400 by omega)) (show mL 40 < 2 ^ 31 by decide), r_gnI (show i < mL 41 from Nat.lt_of_lt_of_le hi (show _ ≤ 2400 by omega)) (show mL 41 < 2 ^ 31 by decide), r_gnI (show i < mL 42 from Nat.lt_of_lt_of_le hi (show _ ≤ 2400 by omega)) (show mL 42 < 2 ^ 31 by decide), r_gnI (show i < mL 43 from Nat.lt_of_lt_of_le hi (show _ ≤ 2400 by omega)) (show mL 43 < 2 ^ 31 by decide), nI_clamp (show i < 2 ^ 31 by omega), nI_1]
            show (if mA w 40 i / 3 = nI o then if mA w 41 i = nI s then if mA w 42 i = nI l then _ else _ else _ else _) = _
            by_cases q1 : mA w 40 i / 3 = nI o
            · by_cases q2 : mA w 41 i = nI s
              · by_cases q3 : mA w 42 i = nI l
                · simp only [q1, q2, q3, ↓reduceIte, and_self]; rfl
                · simp only [q1, q2, q3, ↓reduceIte, and_false]
              · simp only [q1, q2, ↓reduceIte, and_false, false_and]
            · simp only [q1, ↓reduceIte, false_and]
          · simp only [g_X12_held_43, kif, r_gb, gbn_s, r_grd, r_gbo, r_gret, r_gst, k_isIn, k_isSlot, k_isItem, k_isGroup, k_isRobot, k_are, k_holds0, k_holds1, k_holds2, k_holds3, k_bit, k_less, bI_t, bI_f, i10, i00, i01, i11, i20, i30, ↓reduceIte, show mI (mSI 0 0 w) 39 = mI w 39 from rfl, h.hm.1, Int32.le_refl]
end
