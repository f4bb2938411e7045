section
theorem mI_mSA (k i : Nat) (v : Int32) (w : MS) (j : Nat) : mI (mSA k i v w) j = mI w j := rfl
theorem mI_mSI (k : Nat) (v : Int32) (w : MS) (j : Nat) : mI (mSI k v w) j = if j = k then v else mI w j := rfl
theorem mA_mSI (k : Nat) (v : Int32) (w : MS) : mA (mSI k v w) = mA w := rfl
theorem mA_mSA (k i : Nat) (v : Int32) (w : MS) (j q : Nat) : mA (mSA k i v w) j q = if j = k ∧ q = i then v else mA w j q := rfl
variable {S T : Ss} {c : Nat}
theorem cap_1103_0 (h : ∀ f i, ¬ (f = 1103 ∧ i = 0) → zP T f i = zP S f i) (h2 : zP T 1103 0 = c) : capS T + zP S 1103 0 = capS S + c := by
  unfold capS
  rw [h 1104 0 (by decide), h 1105 0 (by decide), h 1106 0 (by decide), h 1107 0 (by decide), h 1108 0 (by decide), h 800 0 (by decide), h 800 1 (by decide), h 800 2 (by decide), h 704 0 (by decide), h 704 1 (by decide), h 704 2 (by decide), h 704 3 (by decide), h 704 4 (by decide), h 704 5 (by decide), h 704 6 (by decide), h 704 7 (by decide), h2]
  omega
theorem cap_1104_0 (h : ∀ f i, ¬ (f = 1104 ∧ i = 0) → zP T f i = zP S f i) (h2 : zP T 1104 0 = c) : capS T + zP S 1104 0 = capS S + c := by
  unfold capS
  rw [h 1103 0 (by decide), h 1105 0 (by decide), h 1106 0 (by decide), h 1107 0 (by decide), h 1108 0 (by decide), h 800 0 (by decide), h 800 1 (by decide), h 800 2 (by decide), h 704 0 (by decide), h 704 1 (by decide), h 704 2 (by decide), h 704 3 (by decide), h 704 4 (by decide), h 704 5 (by decide), h 704 6 (by decide), h 704 7 (by decide), h2]
  omega
theorem cap_1105_0 (h : ∀ f i, ¬ (f = 1105 ∧ i = 0) → zP T f i = zP S f i) (h2 : zP T 1105 0 = c) : capS T + zP S 1105 0 = capS S + c := by
  unfold capS
  rw [h 1103 0 (by decide), h 1104 0 (by decide), h 1106 0 (by decide), h 1107 0 (by decide), h 1108 0 (by decide), h 800 0 (by decide), h 800 1 (by decide), h 800 2 (by decide), h 704 0 (by decide), h 704 1 (by decide), h 704 2 (by decide), h 704 3 (by decide), h 704 4 (by decide), h 704 5 (by decide), h 704 6 (by decide), h 704 7 (by decide), h2]
  omega
theorem cap_1106_0 (h : ∀ f i, ¬ (f = 1106 ∧ i = 0) → zP T f i = zP S f i) (h2 : zP T 1106 0 = c) : capS T + zP S 1106 0 = capS S + c := by
  unfold capS
  rw [h 1103 0 (by decide), h 1104 0 (by decide), h 1105 0 (by decide), h 1107 0 (by decide), h 1108 0 (by decide), h 800 0 (by decide), h 800 1 (by decide), h 800 2 (by decide), h 704 0 (by decide), h 704 1 (by decide), h 704 2 (by decide), h 704 3 (by decide), h 704 4 (by decide), h 704 5 (by decide), h 704 6 (by decide), h 704 7 (by decide), h2]
  omega
theorem cap_1107_0 (h : ∀ f i, ¬ (f = 1107 ∧ i = 0) → zP T f i = zP S f i) (h2 : zP T 1107 0 = c) : capS T + zP S 1107 0 = capS S + c := by
  unfold capS
  rw [h 1103 0 (by decide), h 1104 0 (by decide), h 1105 0 (by decide), h 1106 0 (by decide), h 1108 0 (by decide), h 800 0 (by decide), h 800 1 (by decide), h 800 2 (by decide), h 704 0 (by decide), h 704 1 (by decide), h 704 2 (by decide), h 704 3 (by decide), h 704 4 (by decide), h 704 5 (by decide), h 704 6 (by decide), h 704 7 (by decide), h2]
  omega
theorem cap_1108_0 (h : ∀ f i, ¬ (f = 1108 ∧ i = 0) → zP T f i = zP S f i) (h2 : zP T 1108 0 = c) : capS T + zP S 1108 0 = capS S + c := by
  unfold capS
  rw [h 1103 0 (by decide), h 1104 0 (by decide), h 1105 0 (by decide), h 1106 0 (by decide), h 1107 0 (by decide), h 800 0 (by decide), h 800 1 (by decide), h 800 2 (by decide), h 704 0 (by decide), h 704 1 (by decide), h 704 2 (by decide), h 704 3 (by decide), h 704 4 (by decide), h 704 5 (by decide), h 704 6 (by decide), h 704 7 (by decide), h2]
  omega
theorem cap_800_0 (h : ∀ f i, ¬ (f = 800 ∧ i = 0) → zP T f i = zP S f i) (h2 : zP T 800 0 = c) : capS T + zP S 800 0 = capS S + c := by
  unfold capS
  rw [h 1103 0 (by decide), h 1104 0 (by decide), h 1105 0 (by decide), h 1106 0 (by decide), h 1107 0 (by decide), h 1108 0 (by decide), h 800 1 (by decide), h 800 2 (by decide), h 704 0 (by decide), h 704 1 (by decide), h 704 2 (by decide), h 704 3 (by decide), h 704 4 (by decide), h 704 5 (by decide), h 704 6 (by decide), h 704 7 (by decide), h2]
  omega
theorem cap_800_1 (h : ∀ f i, ¬ (f = 800 ∧ i = 1) → zP T f i = zP S f i) (h2 : zP T 800 1 = c) : capS T + zP S 800 1 = capS S + c := by
  unfold capS
  rw [h 1103 0 (by decide), h 1104 0 (by decide), h 1105 0 (by decide), h 1106 0 (by decide), h 1107 0 (by decide), h 1108 0 (by decide), h 800 0 (by decide), h 800 2 (by decide), h 704 0 (by decide), h 704 1 (by decide), h 704 2 (by decide), h 704 3 (by decide), h 704 4 (by decide), h 704 5 (by decide), h 704 6 (by decide), h 704 7 (by decide), h2]
  omega
theorem cap_800_2 (h : ∀ f i, ¬ (f = 800 ∧ i = 2) → zP T f i = zP S f i) (h2 : zP T 800 2 = c) : capS T + zP S 800 2 = capS S + c := by
  unfold capS
  rw [h 1103 0 (by decide), h 1104 0 (by decide), h 1105 0 (by decide), h 1106 0 (by decide), h 1107 0 (by decide), h 1108 0 (by decide), h 800 0 (by decide), h 800 1 (by decide), h 704 0 (by decide), h 704 1 (by decide), h 704 2 (by decide), h 704 3 (by decide), h 704 4 (by decide), h 704 5 (by decide), h 704 6 (by decide), h 704 7 (by decide), h2]
  omega
theorem cap_704_0 (h : ∀ f i, ¬ (f = 704 ∧ i = 0) → zP T f i = zP S f i) (h2 : zP T 704 0 = c) : capS T + zP S 704 0 = capS S + c := by
  unfold capS
  rw [h 1103 0 (by decide), h 1104 0 (by decide), h 1105 0 (by decide), h 1106 0 (by decide), h 1107 0 (by decide), h 1108 0 (by decide), h 800 0 (by decide), h 800 1 (by decide), h 800 2 (by decide), h 704 1 (by decide), h 704 2 (by decide), h 704 3 (by decide), h 704 4 (by decide), h 704 5 (by decide), h 704 6 (by decide), h 704 7 (by decide), h2]
  omega
theorem cap_704_1 (h : ∀ f i, ¬ (f = 704 ∧ i = 1) → zP T f i = zP S f i) (h2 : zP T 704 1 = c) : capS T + zP S 704 1 = capS S + c := by
  unfold capS
  rw [h 1103 0 (by decide), h 1104 0 (by decide), h 1105 0 (by decide), h 1106 0 (by decide), h 1107 0 (by decide), h 1108 0 (by decide), h 800 0 (by decide), h 800 1 (by decide), h 800 2 (by decide), h 704 0 (by decide), h 704 2 (by decide), h 704 3 (by decide), h 704 4 (by decide), h 704 5 (by decide), h 704 6 (by decide), h 704 7 (by decide), h2]
  omega
theorem cap_704_2 (h : ∀ f i, ¬ (f = 704 ∧ i = 2) → zP T f i = zP S f i) (h2 : zP T 704 2 = c) : capS T + zP S 704 2 = capS S + c := by
  unfold capS
  rw [h 1103 0 (by decide), h 1104 0 (by decide), h 1105 0 (by decide), h 1106 0 (by decide), h 1107 0 (by decide), h 1108 0 (by decide), h 800 0 (by decide), h 800 1 (by decide), h 800 2 (by decide), h 704 0 (by decide), h 704 1 (by decide), h 704 3 (by decide), h 704 4 (by decide), h 704 5 (by decide), h 704 6 (by decide), h 704 7 (by decide), h2]
  omega
theorem cap_704_3 (h : ∀ f i, ¬ (f = 704 ∧ i = 3) → zP T f i = zP S f i) (h2 : zP T 704 3 = c) : capS T + zP S 704 3 = capS S + c := by
  unfold capS
  rw [h 1103 0 (by decide), h 1104 0 (by decide), h 1105 0 (by decide), h 1106 0 (by decide), h 1107 0 (by decide), h 1108 0 (by decide), h 800 0 (by decide), h 800 1 (by decide), h 800 2 (by decide), h 704 0 (by decide), h 704 1 (by decide), h 704 2 (by decide), h 704 4 (by decide), h 704 5 (by decide), h 704 6 (by decide), h 704 7 (by decide), h2]
  omega
theorem cap_704_4 (h : ∀ f i, ¬ (f = 704 ∧ i = 4) → zP T f i = zP S f i) (h2 : zP T 704 4 = c) : capS T + zP S 704 4 = capS S + c := by
  unfold capS
  rw [h 1103 0 (by decide), h 1104 0 (by decide), h 1105 0 (by decide), h 1106 0 (by decide), h 1107 0 (by decide), h 1108 0 (by decide), h 800 0 (by decide), h 800 1 (by decide), h 800 2 (by decide), h 704 0 (by decide), h 704 1 (by decide), h 704 2 (by decide), h 704 3 (by decide), h 704 5 (by decide), h 704 6 (by decide), h 704 7 (by decide), h2]
  omega
theorem cap_704_5 (h : ∀ f i, ¬ (f = 704 ∧ i = 5) → zP T f i = zP S f i) (h2 : zP T 704 5 = c) : capS T + zP S 704 5 = capS S + c := by
  unfold capS
  rw [h 1103 0 (by decide), h 1104 0 (by decide), h 1105 0 (by decide), h 1106 0 (by decide), h 1107 0 (by decide), h 1108 0 (by decide), h 800 0 (by decide), h 800 1 (by decide), h 800 2 (by decide), h 704 0 (by decide), h 704 1 (by decide), h 704 2 (by decide), h 704 3 (by decide), h 704 4 (by decide), h 704 6 (by decide), h 704 7 (by decide), h2]
  omega
theorem cap_704_6 (h : ∀ f i, ¬ (f = 704 ∧ i = 6) → zP T f i = zP S f i) (h2 : zP T 704 6 = c) : capS T + zP S 704 6 = capS S + c := by
  unfold capS
  rw [h 1103 0 (by decide), h 1104 0 (by decide), h 1105 0 (by decide), h 1106 0 (by decide), h 1107 0 (by decide), h 1108 0 (by decide), h 800 0 (by decide), h 800 1 (by decide), h 800 2 (by decide), h 704 0 (by decide), h 704 1 (by decide), h 704 2 (by decide), h 704 3 (by decide), h 704 4 (by decide), h 704 5 (by decide), h 704 7 (by decide), h2]
  omega
theorem cap_704_7 (h : ∀ f i, ¬ (f = 704 ∧ i = 7) → zP T f i = zP S f i) (h2 : zP T 704 7 = c) : capS T + zP S 704 7 = capS S + c := by
  unfold capS
  rw [h 1103 0 (by decide), h 1104 0 (by decide), h 1105 0 (by decide), h 1106 0 (by decide), h 1107 0 (by decide), h 1108 0 (by decide), h 800 0 (by decide), h 800 1 (by decide), h 800 2 (by decide), h 704 0 (by decide), h 704 1 (by decide), h 704 2 (by decide), h 704 3 (by decide), h 704 4 (by decide), h 704 5 (by decide), h 704 6 (by decide), h2]
  omega
end
section
variable {m : Nat} {S T : Ss} {w v : MS} {R : Type}
theorem u1_id (c : Nat) (N : Nat → Nat) : u1 c (N c) N = N := funext fun k => by
  rw [u1_at]; split
  · rename_i q; rw [q]
  · rfl
theorem pN_id (S : Ss) (c : Nat) : pN c (zN S c) S = S := by
  show (zA S, zO S, zL S, zP S, zC S, zM S, u1 c (zN S c) (zN S)) = S
  rw [u1_id]; rfl
theorem capN_le (c : Nat) : capN c + 4 * c ≤ 4 * capN c ∧ c ≤ capN c ∧ (c < 2600 → capN c ≤ 3900) := by
  unfold capN
  split
  · omega
  · split
    · omega
    · omega
/-- what an addition to a list is -/
theorem pAdd_eq (f i e : Nat) (S : Ss) : ∃ a b c, pAdd f i e S = pN 61 a (pN 62 b (pL f i (zL S f i ++ [e]) c S)) ∧ a ≤ zN S 61 + 1 ∧ b + 4 * zP S f i ≤ zN S 62 + 4 * c ∧ zP S f i ≤ c ∧ (zP S f i ≤ 3900 → ((zL S f i).length = zP S f i → zP S f i < 2600) → c ≤ 3900) := by
  have h := capN_le (zP S f i)
  unfold pAdd
  by_cases q : (zL S f i).length = zP S f i
  · rw [if_pos q]
    exact ⟨_, _, _, rfl, by omega, by omega, by omega, fun h1 h2 => by have := h2 q; omega⟩
  · rw [if_neg q]
    refine ⟨zN S 61, zN S 62, zP S f i, ?_, by omega, by omega, by omega, fun h1 _ => h1⟩
    rw [show zN S 61 = zN (pN 62 (zN S 62) (pL f i (zL S f i ++ [e]) (zP S f i) S)) 61 from rfl, pN_id]
    rw [show zN S 62 = zN (pL f i (zL S f i ++ [e]) (zP S f i) S) 62 from rfl, pN_id]
theorem pIns_eq (f i j e : Nat) (S : Ss) : ∃ a b c, pIns f i j e S = pN 61 a (pN 62 b (pL f i (lIns j e (zL S f i)) c S)) ∧ a ≤ zN S 61 + 1 ∧ b + 4 * zP S f i ≤ zN S 62 + 4 * c ∧ zP S f i ≤ c ∧ (zP S f i ≤ 3900 → ((zL S f i).length = zP S f i → zP S f i < 2600) → c ≤ 3900) := by
  have h := capN_le (zP S f i)
  unfold pIns
  by_cases q : (zL S f i).length = zP S f i
  · rw [if_pos q]
    exact ⟨_, _, _, rfl, by omega, by omega, by omega, fun h1 h2 => by have := h2 q; omega⟩
  · rw [if_neg q]
    refine ⟨zN S 61, zN S 62, zP S f i, ?_, by omega, by omega, by omega, fun h1 _ => h1⟩
    rw [show zN S 61 = zN (pN 62 (zN S 62) (pL f i (lIns j e (zL S f i)) (zP S f i) S)) 61 from rfl, pN_id]
    rw [show zN S 62 = zN (pL f i (lIns j e (zL S f i)) (zP S f i) S) 62 from rfl, pN_id]
theorem r_mladd {f i e : Nat} {k : MM R} (h : (zL S f i).length < 2600) : (mladd f i e k).1 S = k.1 (pAdd f i e S) := by
  show (if (zL S f i).length = zP S f i → zP S f i < 2600 then mst (pAdd f i e) (pAdd_le f i e) k else mfail).1 S = _
  rw [if_pos (fun q => by omega)]; rfl
theorem r_mnew {c n : Nat} {k : Nat → MM R} : (mnew c n k).1 S = (k (zN S c)).1 (pNew c n S) := rfl
/-- a step in general: what it uses, what stays -/
theorem GG.gen (g : GG m S w) (hm : m < 512) (h60 : zN T 60 = zN S 60) (h61 : zN T 61 ≤ zN S 61 + 900) (h62 : zN T 62 + 4 * capS S ≤ zN S 62 + 4 * capS T + 11000) (hc : g_cp T) (hk : cT T (zN T 10) + 12 * cS T (zN T 7) = cT S (zN S 10) + 12 * cS S (zN S 7)) (hR : ∀ B k, B ≤ 15000 * m + 1 → Rel B k S w → ∃ B', B' ≤ B + 15000 ∧ Rel B' k T v) : GG (m + 1) T v := by
  obtain ⟨g1, g2, g3, B, k, g4, g5, g6⟩ := g
  obtain ⟨B', b1, b2⟩ := hR B k g4 g6
  unfold g_rm at g2
  exact ⟨by omega, by unfold g_rm; omega, hc, B', k, by omega, by omega, b2⟩
theorem s_notice (g : GG m S w) (hm : m < 512) (x y : Int32) : STi GG m S w (f_X11_notice x y) (g_X12_notice x y) [(1, 1), (2, 2), (3, 3)] := by
  obtain ⟨-, -, hcp, B, k, hB, -, h⟩ := id g
  have h8 := h.no.1
  cases h1 : okI x 6 with
  | false =>
    refine sti_th g hm (u := 1) (c := 1) (r := 0) ?_ ?_ (by simp) (by decide) (by decide)
    · simp only [f_X11_notice, r_mb, bnd_s, r_mrd, r_mbo, r_mret, r_mthr, r_wA, r_wO, r_madd, r_mput, r_mopt, r_mcn, r_mcs, ite_f, e_isWithin, e_isSlot, e_isItem, e_isGroup, e_isRobot, e_isLot, e_isNotice, e_isOrder, e_isTask, bI_t, bI_f, i10, i00, i01, i11, i20, i30, ↓reduceIte, h1]; try rfl
    · simp only [g_X12_notice_37, g_X12_notice, kif, r_gb, gbn_s, r_grd, r_gbo, r_gret, r_gst, k_isIn, k_isSlot, k_isItem, k_isGroup, k_isRobot, k_are, k_holds0, k_holds1, k_holds2, k_holds3, k_bit, k_less, bI_t, bI_f, i10, i00, i01, i11, i20, i30, ↓reduceIte, h1]; try rfl
  | true =>
    cases h2 : inI y 1 99 with
    | false =>
      refine sti_th g hm (u := 2) (c := 2) (r := 0) ?_ ?_ (by simp) (by decide) (by decide)
      · simp only [f_X11_notice, r_mb, bnd_s, r_mrd, r_mbo, r_mret, r_mthr, r_wA, r_wO, r_madd, r_mput, r_mopt, r_mcn, r_mcs, ite_f, e_isWithin, e_isSlot, e_isItem, e_isGroup, e_isRobot, e_isLot, e_isNotice, e_isOrder, e_isTask, bI_t, bI_f, i10, i00, i01, i11, i20, i30, ↓reduceIte, h1, h2]; try rfl
      · simp only [g_X12_notice_37, g_X12_notice, kif, r_gb, gbn_s, r_grd, r_gbo, r_gret, r_gst, k_isIn, k_isSlot, k_isItem, k_isGroup, k_isRobot, k_are, k_holds0, k_holds1, k_holds2, k_holds3, k_bit, k_less, bI_t, bI_f, i10, i00, i01, i11, i20, i30, ↓reduceIte, h1, h2]; try rfl
    | true =>
      by_cases h3 : zN S 6 = 8
      · refine sti_th g hm (u := 3) (c := 3) (r := 0) ?_ ?_ (by simp) (by decide) (by decide)
        · simp only [f_X11_notice, r_mb, bnd_s, r_mrd, r_mbo, r_mret, r_mthr, r_wA, r_wO, r_madd, r_mput, r_mopt, r_mcn, r_mcs, ite_f, e_isWithin, e_isSlot, e_isItem, e_isGroup, e_isRobot, e_isLot, e_isNotice, e_isOrder, e_isTask, bI_t, bI_f, i10, i00, i01, i11, i20, i30, ↓reduceIte, h1, h2, h.nn', h3, show ¬ nI 8 < (8 : Int32) by decide]; try rfl
        · simp only [g_X12_notice_37, g_X12_notice, kif, r_gb, gbn_s, r_grd, r_gbo, r_gret, r_gst, k_isIn, k_isSlot, k_isItem, k_isGroup, k_isRobot, k_are, k_holds0, k_holds1, k_holds2, k_holds3, k_bit, k_less, bI_t, bI_f, i10, i00, i01, i11, i20, i30, ↓reduceIte, h1, h2, h.no.2.2.1, h3, show nI 8 = (8 : Int32) from rfl]; try rfl
      · obtain ⟨i, hi, rfl⟩ := okI_t (by decide) h1
        have hn : zN S 6 < 8 := by omega
        have hlt : nI (zN S 6) < 8 := nI_lt (b := 8) hn (by decide)
        have hne : ¬ nI (zN S 6) = 8 := fun q => h3 ((nI_eq (b := 8) (by omega) (by decide)).mp q)
        have hL : zL S 1105 0 = List.range (zN S 6) := h.no.2.1
        let S1 := pA 601 (zN S 6) y (pO 600 (zN S 6) (some i) (pNew 6 3 S))
        obtain ⟨a, b, c, ea, ha, hb, hc, hc2⟩ := pAdd_eq 1105 0 (zN S 6) S1
        have hlen : (zL S1 1105 0).length < 2600 := by show (zL S 1105 0).length < 2600; rw [hL, List.length_range]; omega
        have hL1 : zL S1 1105 0 = List.range (zN S 6) := hL
        refine sti_st (T := pN 61 a (pN 62 b (pL 1105 0 (List.range (zN S 6 + 1)) c S1))) (v := mSI 22 (nI (zN S 6 + 1)) (mSA 24 (zN S 6) y (mSA 23 (zN S 6) (nI i) (mSI 0 0 w)))) (r := nI (zN S 6)) ?_ ?_ ?_ rfl
        · refine g.gen hm rfl ?_ ?_ ?_ ?_ fun B k hB hR => ⟨B, by omega, Rel.cost ?_ _ _⟩
          · show a ≤ zN S 61 + 900
            have : zN S1 61 = zN S 61 + 1 := rfl
            omega
          · have e1 := cap_1105_0 (S := S) (T := pN 61 a (pN 62 b (pL 1105 0 (List.range (zN S 6 + 1)) c S1))) (c := c) (fun f i q => if_neg q) rfl
            have : zN S1 62 = zN S 62 + 3 := rfl
            have : zP S1 1105 0 = zP S 1105 0 := rfl
            show b + 4 * capS S ≤ _
            omega
          · have hc9 : c ≤ 3900 := hc2 (hcp.1 1105 (by decide) (by decide)) (fun q => by omega)
            refine ⟨fun f h1 h2 => ?_, hcp.2.1, hcp.2.2⟩
            show u2 1105 0 c (zP S) f 0 ≤ 3900
            rw [u2_at]
            split
            · exact hc9
            · exact hcp.1 f h1 h2
          · have e1 := cT_eq (S := S) (T := pN 61 a (pN 62 b (pL 1105 0 (List.range (zN S 6 + 1)) c S1))) (fun _ => rfl) (fun _ => rfl) (zN S 10)
            have e2 := cS_eq (S := S) (T := pN 61 a (pN 62 b (pL 1105 0 (List.range (zN S 6 + 1)) c S1))) (fun _ => rfl) (zN S 7)
            show cT _ (zN S 10) + 12 * cS _ (zN S 7) = _
            rw [e1, e2]
          · have no : g_no (pL 1105 0 (List.range (zN S 6 + 1)) c S1) (mSI 22 (nI (zN S 6 + 1)) (mSA 24 (zN S 6) y (mSA 23 (zN S 6) (nI i) (mSI 0 0 w)))) := by
              obtain ⟨n1, n2, n3, n4, n5⟩ := hR.no
              refine ⟨by show zN S 6 + 1 ≤ 8; omega, rfl, rfl, fun q hq => ?_, fun q h1 h2 => n5 q (by have : zN S 6 + 1 ≤ q := h1; omega) h2⟩
              have hq' : q < zN S 6 + 1 := hq
              show (∃ i', i' < 6 ∧ u2 600 (zN S 6) (some i) (fun f j => if f / 100 = 6 ∧ j = zN S 6 then none else zO S f j) 600 q = some i' ∧ (if 23 = 23 ∧ q = zN S 6 then nI i else mA w 23 q) = nI i') ∧ (if 24 = 24 ∧ q = zN S 6 then y else mA w 24 q) = u2 601 (zN S 6) y (fun f j => if f / 100 = 6 ∧ j = zN S 6 then 0 else zA S f j) 601 q ∧ mA w 25 q = u2 601 (zN S 6) y (fun f j => if f / 100 = 6 ∧ j = zN S 6 then 0 else zA S f j) 602 q ∧ bit (u2 601 (zN S 6) y (fun f j => if f / 100 = 6 ∧ j = zN S 6 then 0 else zA S f j) 602 q)
              have e602 : u2 601 (zN S 6) y (fun f j => if f / 100 = 6 ∧ j = zN S 6 then 0 else zA S f j) 602 q = if q = zN S 6 then 0 else zA S 602 q := by
                rw [u2_at, if_neg (fun r => absurd r.1 (by decide))]
                by_cases r : q = zN S 6 <;> simp [r]
              rw [e602]
              by_cases q2 : q = zN S 6
              · subst q2
                rw [u2_s, u2_s, if_pos ⟨rfl, rfl⟩, if_pos ⟨rfl, rfl⟩, if_pos rfl]
                exact ⟨⟨i, hi, rfl, rfl⟩, rfl, n5 _ (Nat.le_refl _) hn, Or.inl rfl⟩
              · obtain ⟨⟨i', p1, p2, p3⟩, p4, p5, p6⟩ := n4 q (by omega)
                rw [u2_n q2, u2_n q2, if_neg (fun r => q2 r.2), if_neg (fun r => q2 r.2), if_neg q2, if_neg (fun r => q2 r.2), if_neg (fun r => q2 r.2)]
                exact ⟨⟨i', p1, p2, p3⟩, p4, p5, p6⟩
            exact ⟨hR.sl, hR.it, hR.ba, hR.sc, hR.lo, hR.be, no, hR.ca, hR.aw, hR.or, hR.li, hR.bk, hR.nn, hR.tr, hR.db, hR.mv, hR.ho, hR.hs, hR.hm, hR.ta, hR.ap, hR.ro, hR.st, hR.bx⟩
        · simp only [f_X11_notice, r_mb, bnd_s, r_mrd, r_mbo, r_mret, r_mthr, r_wA, r_wO, r_madd, r_mput, r_mopt, r_mcn, r_mcs, ite_f, e_isWithin, e_isSlot, e_isItem, e_isGroup, e_isRobot, e_isLot, e_isNotice, e_isOrder, e_isTask, bI_t, bI_f, i10, i00, i01, i11, i20, i30, ↓reduceIte, h1, h2, h.nn', hlt, r_mnew, r_mnI (show i < aLn 1101 from hi) (show aLn 1101 < 2 ^ 31 by decide), nI_clamp (show i < 2 ^ 31 by omega), f_X6_init, r_mladd (S := pA 601 (zN S 6) y (pO 600 (zN S 6) (some i) (pNew 6 3 S))) hlen]
          rw [show pAdd 1105 0 (zN S 6) (pA 601 (zN S 6) y (pO 600 (zN S 6) (some i) (pNew 6 3 S))) = _ from ea, hL1]
          show some ((0, nI (List.range (zN S 6) ++ [zN S 6]).length - 1), _) = _
          rw [List.length_append, List.length_range, List.length_singleton, nI_pred, List.range_succ]
        · simp only [g_X12_notice_37, g_X12_notice, kif, r_gb, gbn_s, r_grd, r_gbo, r_gret, r_gst, k_isIn, k_isSlot, k_isItem, k_isGroup, k_isRobot, k_are, k_holds0, k_holds1, k_holds2, k_holds3, k_bit, k_less, bI_t, bI_f, i10, i00, i01, i11, i20, i30, ↓reduceIte, mI_mSA, mI_mSI, mA_mSI, mA_mSA, Nat.reduceEqDiff, reduceCtorEq, Nat.reduceEqDiff, false_and, true_and, and_true, h1, h2, h.no.2.2.1, hne, r_gnI (show zN S 6 < mL 23 from hn) (show mL 23 < 2 ^ 31 by decide), r_gnI (show zN S 6 < mL 24 from hn) (show mL 24 < 2 ^ 31 by decide), nI_clamp (show zN S 6 < 2 ^ 31 by omega), nI_1, nI_pred]
end
