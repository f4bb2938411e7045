section
variable {α : Type}
theorem sm_neg {f : α → Int32} : ∀ xs : List α, sm xs (fun a => -(f a)) = -(sm xs f)
  | [] => by show (0 : Int32) = -0; decide
  | b :: t => by show -(f b) + sm t _ = -(f b + sm t f); rw [sm_neg t, Int32.neg_add, Int32.sub_eq_add_neg]
theorem sm_mul {f : α → Int32} (c : Int32) : ∀ xs : List α, sm xs (fun a => c * f a) = c * sm xs f
  | [] => by show (0 : Int32) = c * 0; rw [Int32.mul_zero]
  | b :: t => by show c * f b + sm t _ = c * (f b + sm t f); rw [sm_mul c t, Int32.mul_add]
theorem sm_one {f : Nat → Int32} {j : Nat} : ∀ n, j < n → sm (List.range n) (fun i => if j = i then f i else 0) = f j
  | n + 1, h => by
    rw [List.range_succ, sm_app]
    by_cases q : j = n
    · subst q
      rw [if_pos rfl, sm_0 _ fun a ha => if_neg (by have := List.mem_range.mp ha; omega), Int32.zero_add]
    · rw [if_neg q, Int32.add_zero, sm_one n (by omega)]
theorem sm_grp (c : Nat → Int32) (g : α → Nat) (v : α → Int32) (n : Nat) : ∀ xs : List α, (∀ a, a ∈ xs → g a < n) → sm (List.range n) (fun i => c i * sm xs (fun a => if g a = i then v a else 0)) = sm xs (fun a => v a * c (g a))
  | [], _ => by
    refine sm_0 _ fun i _ => ?_
    show c i * 0 = 0
    rw [Int32.mul_zero]
  | b :: t, h => by
    show sm (List.range n) (fun i => c i * ((if g b = i then v b else 0) + sm t _)) = v b * c (g b) + sm t _
    rw [← sm_grp c g v n t fun a ha => h a (List.mem_cons_of_mem _ ha), ← sm_one (f := fun i => v b * c i) n (h b (List.mem_cons_self ..)), ← sm_add]
    refine sm_cg _ fun i _ => ?_
    rw [Int32.mul_add]
    congr 1
    split
    · rw [Int32.mul_comm]
    · rw [Int32.mul_zero]
end
section
variable {B k : Nat} {S : Ss} {w : MS}
theorem Rel.kItem (h : Rel B k S w) {p i : Nat} (hp : p < 28) (hi : i < 6) : g_X12_itemIn (nI p) (nI i) w = some (zC S 1 (6 * p + i), w) := by
  have h12 := h.lo.1
  unfold g_X12_itemIn
  have key := g_sum (fun f a j => g_X12_itemIn_5 f (nI p) (nI i) a j) (fun a => some (a, w)) w (zN S 5) (fun l => if itS S l = i then zC S 0 (12 * p + l) else 0) (fun f a l hl => ?_) (fun f a => ?_) 0 FU (FU_gt (by omega))
  · rw [Int32.zero_add, ← h.bk.2.1 p i hp hi] at key; exact key
  · obtain ⟨-, -, -, -, -, b6, b7⟩ := h.lo.2.2.2.1 l hl
    have e12 : (12 : Int32) * nI p + nI l = nI (12 * p + l) := by rw [show (12 : Int32) = nI 12 from rfl, pk_mul, nI_add]
    have hj : 12 * p + l < 336 := by omega
    simp only [g_X12_itemIn_5, kif, r_gb, gbn_s, r_grd, r_gbo, r_gret, r_gst, k_isIn, k_isSlot, k_isItem, k_isGroup, k_isRobot, k_are, k_holds0, k_holds1, k_holds2, k_holds3, k_bit, k_less, bI_t, bI_f, i10, i00, i01, i11, i20, i30, ↓reduceIte, h.lo.2.2.1, nI_ge hl (show zN S 5 < 2 ^ 31 by omega), r_gnI (show l < mL 16 from Nat.lt_of_lt_of_le hl h12) (show mL 16 < 2 ^ 31 by decide), nI_clamp (show l < 2 ^ 31 by omega), b7, nI_eq (show itS S l < 2 ^ 31 by omega) (show i < 2 ^ 31 by omega), e12, r_gnI (show 12 * p + l < mL 19 from hj) (show mL 19 < 2 ^ 31 by decide), nI_clamp (show 12 * p + l < 2 ^ 31 by omega), nI_1, h.bk.1 _ hj]
    by_cases q : itS S l = i
    · simp only [q, ↓reduceIte]
    · simp only [q, ↓reduceIte]
  · simp only [g_X12_itemIn_5, kif, r_gb, gbn_s, r_grd, r_gbo, r_gret, r_gst, k_isIn, k_isSlot, k_isItem, k_isGroup, k_isRobot, k_are, k_holds0, k_holds1, k_holds2, k_holds3, k_bit, k_less, bI_t, bI_f, i10, i00, i01, i11, i20, i30, ↓reduceIte, h.lo.2.2.1, Int32.le_refl]
/-- the room that is held in a slot -/
def rpc (S : Ss) (s t : Nat) : Int32 := if (zA S 1005 t = 0 ∨ zA S 1005 t = 1) ∧ ¬ zA S 1001 t = 2 ∧ zA S 1003 t = nI s then zA S 1004 t * zA S 302 (itS S (lotT S t)) else 0
theorem Rel.lotI (h : Rel B k S w) {t : Nat} (ht : t < zN S 10) : lotT S t < zN S 5 ∧ mA w 47 t = nI (lotT S t) := by
  obtain ⟨-, -, -, -, -, -, -, x, l, e1, e2, e3, e4, e5, -⟩ := h.ta.2.2.2 t ht
  have : lotT S t = l := by unfold lotT; rw [e1]; show (zO S 203 x).getD 0 = l; rw [e3]; rfl
  rw [this]; exact ⟨e4, e5⟩
theorem Rel.kRoomH (h : Rel B k S w) {s : Nat} : g_X12_roomHeld (nI s) w = some (sm (List.range (zN S 10)) (rpc S s), w) := by
  have h60 := h.ta.1
  have h12 := h.lo.1
  unfold g_X12_roomHeld
  have key := g_sum (fun f a j => g_X12_roomHeld_4 f (nI s) a j) (fun a => some (a, w)) w (zN S 10) (rpc S s) (fun f a t ht => ?_) (fun f a => ?_) 0 FU (FU_gt (by omega))
  · rw [Int32.zero_add] at key; exact key
  · obtain ⟨l1, l2⟩ := h.lotI ht
    obtain ⟨i1, i2, i3, i4, i5, i6, -⟩ := h.ta.2.2.2 t ht
    obtain ⟨-, -, -, -, -, b6, b7⟩ := h.lo.2.2.2.1 _ l1
    obtain ⟨-, -, c3, -⟩ := h.it _ b6
    simp only [g_X12_roomHeld_4, kif, r_gb, gbn_s, r_grd, r_gbo, r_gret, r_gst, k_isIn, k_isSlot, k_isItem, k_isGroup, k_isRobot, k_are, k_holds0, k_holds1, k_holds2, k_holds3, k_bit, k_less, bI_t, bI_f, i10, i00, i01, i11, i20, i30, ↓reduceIte, h.ta.2.2.1, nI_ge ht (show zN S 10 < 2 ^ 31 by omega), k_isOn ht h60, r_gnI (show t < mL 46 from Nat.lt_of_lt_of_le ht h60) (show mL 46 < 2 ^ 31 by decide), r_gnI (show t < mL 49 from Nat.lt_of_lt_of_le ht h60) (show mL 49 < 2 ^ 31 by decide), r_gnI (show t < mL 47 from Nat.lt_of_lt_of_le ht h60) (show mL 47 < 2 ^ 31 by decide), r_gnI (show t < mL 51 from Nat.lt_of_lt_of_le ht h60) (show mL 51 < 2 ^ 31 by decide), nI_clamp (show t < 2 ^ 31 by omega), nI_1, l2, r_gnI (show lotT S t < mL 16 from Nat.lt_of_lt_of_le l1 h12) (show mL 16 < 2 ^ 31 by decide), nI_clamp (show lotT S t < 2 ^ 31 by omega), b7, r_gnI (show itS S (lotT S t) < mL 10 from b6) (show mL 10 < 2 ^ 31 by decide), nI_clamp (show itS S (lotT S t) < 2 ^ 31 by omega), i2, i3, i4, i5, c3]
    unfold rpc
    by_cases q0 : zA S 1005 t = 0 ∨ zA S 1005 t = 1
    · by_cases q1 : zA S 1001 t = 2
      · simp only [q0, q1, ↓reduceIte, not_true_eq_false, false_and, and_false, i10]
      · by_cases q2 : zA S 1003 t = nI s
        · simp only [q0, q1, q2, ↓reduceIte, not_false_eq_true, and_self, i10]
        · simp only [q0, q1, q2, ↓reduceIte, and_false, i10]
    · simp only [q0, ↓reduceIte, false_and, i00]
  · simp only [g_X12_roomHeld_4, kif, r_gb, gbn_s, r_grd, r_gbo, r_gret, r_gst, k_isIn, k_isSlot, k_isItem, k_isGroup, k_isRobot, k_are, k_holds0, k_holds1, k_holds2, k_holds3, k_bit, k_less, bI_t, bI_f, i10, i00, i01, i11, i20, i30, ↓reduceIte, h.ta.2.2.1, Int32.le_refl]
/-- the free room of a slot -/
def frR (S : Ss) (s : Nat) : Int32 := zA S 901 s - sm (List.range 6) (fun i => zA S 302 i * (zC S 1 (6 * s + i) + zC S 4 (6 * s + i)))
theorem Rel.rEq (h : Rel B k S w) {s : Nat} (hs : s < 18) : sm (List.range 6) (fun i => zA S 302 i * (zC S 1 (6 * s + i) + zC S 4 (6 * s + i))) = sm (List.range (zN S 10)) (rpc S s) + sm (List.range (zN S 5)) (fun l => zC S 0 (12 * s + l) * zA S 302 (itS S l)) := by
  have e1 : sm (List.range 6) (fun i => zA S 302 i * zC S 1 (6 * s + i)) = sm (List.range (zN S 5)) (fun l => zC S 0 (12 * s + l) * zA S 302 (itS S l)) := by
    rw [← sm_grp (zA S 302) (itS S) (fun l => zC S 0 (12 * s + l)) 6 _ fun l hl => (h.lo.2.2.2.1 l (List.mem_range.mp hl)).2.2.2.2.2.1]
    refine sm_cg _ fun i hi => ?_
    rw [h.bk.2.1 s i (by omega) (List.mem_range.mp hi)]
  have e2 : sm (List.range 6) (fun i => zA S 302 i * zC S 4 (6 * s + i)) = sm (List.range (zN S 10)) (rpc S s) := by
    have e3 : sm (List.range (zN S 10)) (rpc S s) = sm (List.range (zN S 10)) (fun t => (if (zA S 1005 t = 0 ∨ zA S 1005 t = 1) ∧ ¬ zA S 1001 t = 2 ∧ zA S 1003 t = nI s then zA S 1004 t else 0) * zA S 302 (itS S (lotT S t))) := by
      refine sm_cg _ fun t _ => ?_
      unfold rpc
      split
      · rfl
      · rw [Int32.zero_mul]
    rw [e3, ← sm_grp (zA S 302) (fun t => itS S (lotT S t)) (fun t => if (zA S 1005 t = 0 ∨ zA S 1005 t = 1) ∧ ¬ zA S 1001 t = 2 ∧ zA S 1003 t = nI s then zA S 1004 t else 0) 6 _ fun t ht => (h.lo.2.2.2.1 _ (h.lotI (List.mem_range.mp ht)).1).2.2.2.2.2.1]
    refine sm_cg _ fun i hi => ?_
    rw [h.ap.1 s i hs (List.mem_range.mp hi)]
    congr 1
    refine sm_cg _ fun t _ => ?_
    unfold apc
    by_cases q : itS S (lotT S t) = i
    · rw [if_pos q]
      by_cases q2 : (zA S 1005 t = 0 ∨ zA S 1005 t = 1) ∧ ¬ zA S 1001 t = 2 ∧ zA S 1003 t = nI s
      · rw [if_pos q2, if_pos ⟨q2.1, q2.2.1, q2.2.2, q⟩]
      · rw [if_neg q2, if_neg fun r => q2 ⟨r.1, r.2.1, r.2.2.1⟩]
    · rw [if_neg q, if_neg fun r => q r.2.2.2]
  rw [← e1, ← e2, ← sm_add]
  refine sm_cg _ fun i _ => ?_
  rw [Int32.mul_add, Int32.add_comm]
theorem Rel.kRoom (h : Rel B k S w) {s : Nat} (hs : s < 18) : g_X12_roomLeft (nI s) w = some (frR S s, w) := by
  have h12 := h.lo.1
  obtain ⟨-, d2, -⟩ := h.sl s hs
  simp only [g_X12_roomLeft, kif, r_gb, gbn_s, r_grd, r_gbo, r_gret, r_gst, k_isIn, k_isSlot, k_isItem, k_isGroup, k_isRobot, k_are, k_holds0, k_holds1, k_holds2, k_holds3, k_bit, k_less, bI_t, bI_f, i10, i00, i01, i11, i20, i30, ↓reduceIte, r_gnI (show s < mL 5 from hs) (show mL 5 < 2 ^ 31 by decide), h.kRoomH, nI_clamp (show s < 2 ^ 31 by omega), d2]
  have key := g_sum (fun f a j => g_X12_roomLeft_15 f (nI s) a j) (fun a => some (a, w)) w (zN S 5) (fun l => -(zC S 0 (12 * s + l) * zA S 302 (itS S l))) (fun f a l hl => ?_) (fun f a => ?_) (zA S 901 s - sm (List.range (zN S 10)) (rpc S s)) FU (FU_gt (by omega))
  · rw [sm_neg, ← Int32.sub_eq_add_neg, Int32.sub_sub, ← h.rEq hs] at key; exact key
  · obtain ⟨-, -, -, -, -, b6, b7⟩ := h.lo.2.2.2.1 l hl
    obtain ⟨-, -, c3, -⟩ := h.it _ b6
    have e12 : (12 : Int32) * nI s + nI l = nI (12 * s + l) := by rw [show (12 : Int32) = nI 12 from rfl, pk_mul, nI_add]
    have hj : 12 * s + l < 336 := by omega
    simp only [g_X12_roomLeft_15, kif, r_gb, gbn_s, r_grd, r_gbo, r_gret, r_gst, k_isIn, k_isSlot, k_isItem, k_isGroup, k_isRobot, k_are, k_holds0, k_holds1, k_holds2, k_holds3, k_bit, k_less, bI_t, bI_f, i10, i00, i01, i11, i20, i30, ↓reduceIte, h.lo.2.2.1, nI_ge hl (show zN S 5 < 2 ^ 31 by omega), r_gnI (show l < mL 16 from Nat.lt_of_lt_of_le hl h12) (show mL 16 < 2 ^ 31 by decide), nI_clamp (show l < 2 ^ 31 by omega), b7, e12, r_gnI (show 12 * s + l < mL 19 from hj) (show mL 19 < 2 ^ 31 by decide), nI_clamp (show 12 * s + l < 2 ^ 31 by omega), nI_1, h.bk.1 _ hj, r_gnI (show itS S l < mL 10 from b6) (show mL 10 < 2 ^ 31 by decide), nI_clamp (show itS S l < 2 ^ 31 by omega), c3, Int32.sub_eq_add_neg]
  · simp only [g_X12_roomLeft_15, kif, r_gb, gbn_s, r_grd, r_gbo, r_gret, r_gst, k_isIn, k_isSlot, k_isItem, k_isGroup, k_isRobot, k_are, k_holds0, k_holds1, k_holds2, k_holds3, k_bit, k_less, bI_t, bI_f, i10, i00, i01, i11, i20, i30, ↓reduceIte, h.lo.2.2.1, Int32.le_refl]
theorem e_room (hI : ∀ i, i < 6 → zA S 300 i = nI i) {s : Nat} (hs : s < 18) : (f_X11_freeRoom (nI s)).1 S = some (frR S s, S) := by
  simp only [f_X11_freeRoom, r_mb, bnd_s, r_mrd, r_mbo, r_mret, r_mthr, r_wA, r_wO, r_madd, r_mput, r_mopt, r_mcn, r_mcs, ite_f, e_isWithin, e_isSlot, e_isItem, e_isGroup, e_isRobot, e_isLot, e_isNotice, e_isOrder, e_isTask, bI_t, bI_f, i10, i00, i01, i11, i20, i30, ↓reduceIte, okI_n hs (show 18 < 2 ^ 31 by decide), r_mnI (show s < aLn 1100 from hs) (show aLn 1100 < 2 ^ 31 by decide), nI_clamp (show s < 2 ^ 31 by omega)]
  have key := m_sum (fun f a j => f_X11_freeRoom_31 f (nI s) a (nI 6) j) (fun a => some (a, S)) S 6 (fun i => -(zA S 302 i * (zC S 1 (6 * s + i) + zC S 4 (6 * s + i)))) (fun f a i hi => ?_) (fun f a => ?_) (zA S 901 s) FU (FU_gt (by omega))
  · rw [sm_neg, ← Int32.sub_eq_add_neg] at key; exact key
  · simp only [f_X11_freeRoom_31, r_mb, bnd_s, r_mrd, r_mbo, r_mret, r_mthr, r_wA, r_wO, r_madd, r_mput, r_mopt, r_mcn, r_mcs, ite_f, e_isWithin, e_isSlot, e_isItem, e_isGroup, e_isRobot, e_isLot, e_isNotice, e_isOrder, e_isTask, bI_t, bI_f, i10, i00, i01, i11, i20, i30, ↓reduceIte, nI_ge hi (show 6 < 2 ^ 31 by decide), r_mnI (show i < aLn 1101 from hi) (show aLn 1101 < 2 ^ 31 by decide), nI_clamp (show i < 2 ^ 31 by omega), hI i hi, cAt_in (S := S) (r := 1) (p := s) (l := i) hi (show s * 6 + i < 168 by omega), cAt_in (S := S) (r := 4) (p := s) (l := i) hi (show s * 6 + i < 108 by omega), nI_1, Int32.sub_eq_add_neg]
    rfl
  · simp only [f_X11_freeRoom_31, r_mb, bnd_s, r_mrd, r_mbo, r_mret, r_mthr, r_wA, r_wO, r_madd, r_mput, r_mopt, r_mcn, r_mcs, ite_f, e_isWithin, e_isSlot, e_isItem, e_isGroup, e_isRobot, e_isLot, e_isNotice, e_isOrder, e_isTask, bI_t, bI_f, i10, i00, i01, i11, i20, i30, ↓reduceIte, Int32.le_refl]
end
