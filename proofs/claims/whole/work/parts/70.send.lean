section
variable {m : Nat} {S T : Ss} {w v : MS}
/-- the boxes are written down -/
theorem k_copy {o n : Nat} {bs : List Bx} (ho : o < 8) (hn : bs.length = n) (hl : n ≤ 297) (h35 : mA w 35 o = nI n) (h : BXr w bs) : ∃ v, g_X12_send_70 FU (nI o) 0 0 w = g_X12_send_122 FU (nI o) 0 0 v ∧ (∀ k x, bs[k]? = some x → mA v 34 (300 * o + k) = 1000 * x.2.1 + x.2.2.1) ∧ (∀ j, (j < 300 * o ∨ 300 * o + 300 ≤ j) → mA v 34 j = mA w 34 j) ∧ mI v = mI w ∧ ∀ k, k ≠ 34 → mA v k = mA w k := by
  obtain ⟨v, -, ⟨i1, i2, i3, i4⟩, e⟩ := g_loop (α := Unit) (fun f _ j => g_X12_send_70 f (nI o) 0 j) n (fun i v _ => (∀ k x, k < i → bs[k]? = some x → mA v 34 (300 * o + k) = 1000 * x.2.1 + x.2.2.1) ∧ (∀ j, (j < 300 * o ∨ 300 * o + 300 ≤ j) → mA v 34 j = mA w 34 j) ∧ mI v = mI w ∧ ∀ k, k ≠ 34 → mA v k = mA w k) (fun _ v => g_X12_send_122 FU (nI o) 0 0 v) (fun f i v _ hi hI => by
    obtain ⟨i1, i2, i3, i4⟩ := hI
    have hx : bs[i]? = some (bs[i]'(by omega)) := List.getElem?_eq_getElem (by omega)
    generalize bs[i]'(by omega) = X at hx
    obtain ⟨a1, a2, a3, a4⟩ := h i X hx
    have c35 : mA v 35 o = nI n := by rw [i4 35 (by decide)]; exact h35
    have c62 : mA v 62 i = X.2.1 := by rw [i4 62 (by decide)]; exact a2
    have c63 : mA v 63 i = X.2.2.1 := by rw [i4 63 (by decide)]; exact a3
    have e300 : (300 : Int32) * nI o + nI i = nI (300 * o + i) := by rw [show (300 : Int32) = nI 300 from rfl, pk_mul, nI_add]
    refine ⟨mSA 34 (300 * o + i) (1000 * X.2.1 + X.2.2.1) v, (), ?_, fun k x hk hkx => ?_, fun j hj => ?_, i3, fun k hk => by rw [fBA hk]; exact i4 k hk⟩
    · simp only [g_X12_send_70, kif, r_gb, gbn_s, r_grd, r_gbo, r_gret, r_gst, k_isIn, k_isSlot, k_isItem, k_isGroup, k_isRobot, k_are, k_holds0, k_holds1, k_holds2, k_holds3, k_bit, k_less, bI_t, bI_f, i10, i00, i01, i11, i20, i30, ↓reduceIte, mI_mSA, mI_mSI, mA_mSI, mA_mSA, Nat.reduceEqDiff, reduceCtorEq, Nat.reduceEqDiff, false_and, true_and, and_true, r_gnI (show o < mL 35 from ho) (show mL 35 < 2 ^ 31 by decide), nI_clamp (show o < 2 ^ 31 by omega), c35, nI_ge hi (show n < 2 ^ 31 by omega), r_gnI (show i < mL 62 from show i < 300 by omega) (show mL 62 < 2 ^ 31 by decide), r_gnI (show i < mL 63 from show i < 300 by omega) (show mL 63 < 2 ^ 31 by decide), nI_clamp (show i < 2 ^ 31 by omega), e300, r_gnI (show 300 * o + i < mL 34 from show 300 * o + i < 2400 by omega) (show mL 34 < 2 ^ 31 by decide), nI_clamp (show 300 * o + i < 2 ^ 31 by omega), c62, c63, nI_1]
    · rw [sBA]
      by_cases q : k = i
      · subst q
        rw [if_pos rfl, Option.some.inj (hx.symm.trans hkx)]
      · rw [if_neg (by omega)]; exact i1 k x (by omega) hkx
    · rw [sBA, if_neg (by omega)]; exact i2 j hj) (fun f v _ hI => by
    have c35 : mA v 35 o = nI n := by rw [hI.2.2.2 35 (by decide)]; exact h35
    simp only [g_X12_send_70, kif, r_grd, r_gnI (show o < mL 35 from ho) (show mL 35 < 2 ^ 31 by decide), nI_clamp (show o < 2 ^ 31 by omega), c35, Int32.le_refl, ↓reduceIte]) FU (FU_gt (by omega)) (w := w) (a := ()) ⟨fun k x hk => absurd hk (by omega), fun _ _ => rfl, rfl, fun _ _ => rfl⟩
  refine ⟨v, e, fun k x hx => i1 k x ?_ hx, i2, i3, i4⟩
  have := (List.getElem?_eq_some_iff.mp hx).1; omega
/-- the lots of the stand go -/
theorem k_lots {o n : Nat} (ho : o < 8) (hn : n ≤ 12) (h15 : mI w 15 = nI n) : ∃ v, g_X12_send_122 FU (nI o) 0 0 w = g_X12_send_196 FU (nI o) (sm (List.range n) (fun l => mA w 19 (12 * (20 + o) + l))) 0 v ∧ (∀ j, mA v 19 j = if 12 * (20 + o) ≤ j ∧ j < 12 * (20 + o) + n then 0 else mA w 19 j) ∧ (∀ j, mA v 33 j = if 12 * o ≤ j ∧ j < 12 * o + n then mA w 19 (12 * (20 + o) + (j - 12 * o)) else mA w 33 j) ∧ (∀ j, mA v 32 j = if j = o then 1 else mA w 32 j) ∧ mI v = mI w ∧ ∀ k, k ≠ 19 ∧ k ≠ 32 ∧ k ≠ 33 → mA v k = mA w k := by
  obtain ⟨v, a, ⟨i0, i1, i2, i3, i4⟩, e⟩ := g_loop (α := Int32) (fun f a j => g_X12_send_122 f (nI o) a j) n (fun i v a => a = sm (List.range i) (fun l => mA w 19 (12 * (20 + o) + l)) ∧ (∀ j, mA v 19 j = if 12 * (20 + o) ≤ j ∧ j < 12 * (20 + o) + i then 0 else mA w 19 j) ∧ (∀ j, mA v 33 j = if 12 * o ≤ j ∧ j < 12 * o + i then mA w 19 (12 * (20 + o) + (j - 12 * o)) else mA w 33 j) ∧ mI v = mI w ∧ ∀ k, k ≠ 19 ∧ k ≠ 33 → mA v k = mA w k) (fun a v => g_X12_send_196 FU (nI o) a 0 (mSA 32 o 1 v)) (fun f i v a hi hI => by
    obtain ⟨i0, i1, i2, i3, i4⟩ := hI
    have c15 : mI v 15 = nI n := by rw [i3]; exact h15
    have e20 : (20 : Int32) + nI o = nI (20 + o) := by rw [show (20 : Int32) = nI 20 from rfl, nI_add]
    have e19 : (12 : Int32) * nI (20 + o) + nI i = nI (12 * (20 + o) + i) := by rw [show (12 : Int32) = nI 12 from rfl, pk_mul, nI_add]
    have e33 : (12 : Int32) * nI o + nI i = nI (12 * o + i) := by rw [show (12 : Int32) = nI 12 from rfl, pk_mul, nI_add]
    have c19 : mA v 19 (12 * (20 + o) + i) = mA w 19 (12 * (20 + o) + i) := by rw [i1, if_neg (by omega)]
    obtain ⟨x, hx⟩ : ∃ x, x = mA w 19 (12 * (20 + o) + i) := ⟨_, rfl⟩
    have kb := k_books (w := mSA 33 (12 * o + i) x v) (p := 20 + o) (l := i) (by omega) (by omega) (-x)
    refine ⟨bkV (mSA 33 (12 * o + i) x v) (20 + o) i (-x), a + x, ?_, ?_, fun j => ?_, fun j => ?_, by rw [bkV_I]; exact i3, fun k hk => ?_⟩
    · simp only [g_X12_send_122, kif, r_gb, gbn_s, r_grd, r_gbo, r_gret, r_gst, k_isIn, k_isSlot, k_isItem, k_isGroup, k_isRobot, k_are, k_holds0, k_holds1, k_holds2, k_holds3, k_bit, k_less, bI_t, bI_f, i10, i00, i01, i11, i20, i30, ↓reduceIte, c15, nI_ge hi (show n < 2 ^ 31 by omega), e20, e19, r_gnI (show 12 * (20 + o) + i < mL 19 from show 12 * (20 + o) + i < 336 by omega) (show mL 19 < 2 ^ 31 by decide), nI_clamp (show 12 * (20 + o) + i < 2 ^ 31 by omega), c19, ← hx, e33, r_gnI (show 12 * o + i < mL 33 from show 12 * o + i < 96 by omega) (show mL 33 < 2 ^ 31 by decide), nI_clamp (show 12 * o + i < 2 ^ 31 by omega), kb, nI_1]
    · rw [List.range_succ, sm_app, i0, hx]
    · rw [bkV_19, fBA (by decide), i1]
      by_cases q : j = 12 * (20 + o) + i
      · rw [if_pos q, if_neg (by omega), if_pos (by omega), q, ← hx, Int32.add_right_neg]
      · rw [if_neg q, Int32.add_zero]
        by_cases q2 : 12 * (20 + o) ≤ j ∧ j < 12 * (20 + o) + i
        · rw [if_pos q2, if_pos (by omega)]
        · rw [if_neg q2, if_neg (by omega)]
    · rw [bkV_A (by decide), sBA, i2]
      by_cases q : j = 12 * o + i
      · rw [if_pos q, if_pos (by omega), q, hx]
        congr 2; omega
      · rw [if_neg q]
        by_cases q2 : 12 * o ≤ j ∧ j < 12 * o + i
        · rw [if_pos q2, if_pos (by omega)]
        · rw [if_neg q2, if_neg (by omega)]
    · by_cases q : k = 21
      · subst q
        funext j
        rw [bkV_21, if_neg (fun r => by have := r.1; omega), fBA (by decide), i4 21 (by decide)]
      · rw [bkV_A ⟨hk.1, q⟩, fBA hk.2]; exact i4 k hk) (fun f v a hI => by
    have c15 : mI v 15 = nI n := by rw [hI.2.2.2.1]; exact h15
    simp only [g_X12_send_122, kif, r_gb, gbn_s, r_grd, r_gbo, r_gret, r_gst, k_isIn, k_isSlot, k_isItem, k_isGroup, k_isRobot, k_are, k_holds0, k_holds1, k_holds2, k_holds3, k_bit, k_less, bI_t, bI_f, i10, i00, i01, i11, i20, i30, ↓reduceIte, c15, Int32.le_refl, r_gnI (show o < mL 32 from ho) (show mL 32 < 2 ^ 31 by decide), nI_clamp (show o < 2 ^ 31 by omega)]) FU (FU_gt (by omega)) (w := w) (a := 0) ⟨rfl, fun j => by rw [if_neg (by omega)], fun j => by rw [if_neg (by omega)], rfl, fun _ _ => rfl⟩
  rw [i0] at e
  refine ⟨_, e, fun j => by rw [fBA (by decide)]; exact i1 j, fun j => by rw [fBA (by decide)]; exact i2 j, fun j => by rw [sBA, i4 32 (by decide)], i3, fun k hk => by rw [fBA hk.2.1]; exact i4 k ⟨hk.1, hk.2.2⟩⟩
/-- the reference lets an order go; u differs from w elsewhere -/
theorem Rel.kSend {B k : Nat} (h : Rel B k S w) {o : Nat} (ho : o < zN S 7) (hg : LG S T (some o) none (hL S)) {u : MS} (hu : mI u 39 = mI w 39 ∧ mI u 45 = mI w 45 ∧ ∀ k, 40 ≤ k → k ≤ 59 → mA u k = mA w k) (x3 : Int32) : ∃ v, g_X12_send_196 FU (nI o) x3 0 u = some (x3, v) ∧ RW S v (((hL S).filter (hasO S)).filter fun x => decide (0 < lgp S (some o) none x)) (lgp S (some o) none) ∧ (∀ t, t < zN S 10 → mA v 51 t = mA w 51 t ∧ (gone S (some o) none t → mA v 52 t = 3) ∧ (¬ gone S (some o) none t → mA v 52 t = mA w 52 t)) ∧ RB v (rowS T) ∧ VF u v := by
  have h8 := h.or.1
  have h60 := h.ta.1
  obtain ⟨u39, u45, uA⟩ := hu
  have hw : RW S u ((hL S).filter (hasO S)) (zA S 204) := h.rw.wr u39 (uA 40 (by decide) (by decide)) (uA 41 (by decide) (by decide)) (uA 42 (by decide) (by decide)) (uA 43 (by decide) (by decide)) (uA 44 (by decide) (by decide))
  obtain ⟨M, hM⟩ : ∃ M, M = (hL S).filter (hasO S) := ⟨_, rfl⟩
  rw [← hM] at hw
  have hMm : ∀ x, x ∈ M → x ∈ hL S ∧ hasO S x = true := fun x hx => by rw [hM] at hx; exact List.mem_filter.mp hx
  have lg1 : ∀ x, x ∈ M → (lgb S (some o) none x = true ↔ zO S 200 x = some o) := fun x hx => by
    rw [lgb_t]
    obtain ⟨l, g1, g2⟩ := (h.ho.2.1 x (hMm x hx).1).2.2.1
    unfold lgc
    rw [g2]
    exact ⟨fun r => r.2.resolve_right (by simp), fun r => ⟨by rw [r]; simp, Or.inl r⟩⟩
  obtain ⟨v1, -, ⟨i1, i2, i3⟩, e⟩ := g_loop (α := Unit) (fun g _ j => g_X12_send_196 g (nI o) x3 j) M.length (fun i v _ => RW S v M (fun x => if x ∈ M.take i ∧ lgb S (some o) none x = true then 0 else zA S 204 x) ∧ mI v = mI u ∧ ∀ k, k ≠ 43 → mA v k = mA u k) (fun _ v => g_X12_send_245 FU (nI o) x3 0 v) (fun g i v _ hi hI => by
    obtain ⟨i1, i2, i3⟩ := hI
    have hx : M[i]? = some (M[i]'hi) := List.getElem?_eq_getElem hi
    generalize M[i]'hi = X at hx
    have hXm := List.mem_of_getElem? hx
    have c39 : mI v 39 = nI M.length := by rw [i2]; exact hw.1
    have hn := nd_take hw.2.2.1 hx
    obtain ⟨s0, o', j', l', s1, s2, s3, s4, s5, s6, s7, s8⟩ := i1.2.2.2 i X hx
    dsimp only at s7
    rw [if_neg (fun r => hn r.1)] at s7
    have l24 := hw.2.1
    obtain ⟨j2, g1, g2, g3, g4, -⟩ := h.hpos (hMm X hXm).1 s1
    have ej : j2 = j' := Option.some.inj (g1.symm.trans s2)
    subst ej
    obtain ⟨p', hp', hx', hq'⟩ := h.lqO g2 g3
    have e3 : mA v 40 i / 3 = nI o' := by
      rw [s4, div3 (by rw [hq']; omega), hq']; congr 1; omega
    have hc : mA v 40 i / 3 = nI o ↔ lgb S (some o) none X = true := by
      rw [e3, lg1 X hXm, s1, nI_eq (by omega) (by omega), Option.some.injEq]
    by_cases q : lgb S (some o) none X = true
    · refine ⟨mSA 43 i 0 v, (), ?_, (i1.set hx 0).cg fun x hxm => ?_, i2, fun k hk => by rw [fBA hk]; exact i3 k hk⟩
      · simp only [g_X12_send_196, g_X12_send_235, kif, r_gb, gbn_s, r_grd, r_gbo, r_gret, r_gst, k_isIn, k_isSlot, k_isItem, k_isGroup, k_isRobot, k_are, k_holds0, k_holds1, k_holds2, k_holds3, k_bit, k_less, bI_t, bI_f, i10, i00, i01, i11, i20, i30, ↓reduceIte, mI_mSA, mI_mSI, mA_mSI, mA_mSA, Nat.reduceEqDiff, reduceCtorEq, Nat.reduceEqDiff, false_and, true_and, and_true, c39, nI_ge hi (show M.length < 2 ^ 31 by omega), r_gnI (show i < mL 40 from show i < 2400 by omega) (show mL 40 < 2 ^ 31 by decide), nI_clamp (show i < 2 ^ 31 by omega), hc.mpr q, r_gmd _ (show isA 43 = true by decide), r_gnI (show i < mL 43 from show i < 2400 by omega) (show mL 43 < 2 ^ 31 by decide), nI_1]
      · simp only [mem_take1 hx]
        by_cases e : x = X
        · subst e; rw [if_pos rfl, if_pos ⟨Or.inr rfl, q⟩]
        · rw [if_neg e]
          by_cases e2 : x ∈ M.take i ∧ lgb S (some o) none x = true
          · rw [if_pos e2, if_pos ⟨Or.inl e2.1, e2.2⟩]
          · rw [if_neg e2, if_neg (fun r => e2 ⟨r.1.resolve_right e, r.2⟩)]
    · have hc' : ¬ mA v 40 i / 3 = nI o := fun r => q (hc.mp r)
      refine ⟨mSA 43 i (zA S 204 X) v, (), ?_, (i1.set hx (zA S 204 X)).cg fun x hxm => ?_, i2, fun k hk => by rw [fBA hk]; exact i3 k hk⟩
      · simp only [g_X12_send_196, g_X12_send_235, kif, r_gb, gbn_s, r_grd, r_gbo, r_gret, r_gst, k_isIn, k_isSlot, k_isItem, k_isGroup, k_isRobot, k_are, k_holds0, k_holds1, k_holds2, k_holds3, k_bit, k_less, bI_t, bI_f, i10, i00, i01, i11, i20, i30, ↓reduceIte, mI_mSA, mI_mSI, mA_mSI, mA_mSA, Nat.reduceEqDiff, reduceCtorEq, Nat.reduceEqDiff, false_and, true_and, and_true, c39, nI_ge hi (show M.length < 2 ^ 31 by omega), r_gnI (show i < mL 40 from show i < 2400 by omega) (show mL 40 < 2 ^ 31 by decide), nI_clamp (show i < 2 ^ 31 by omega), hc', r_gmd _ (show isA 43 = true by decide), r_gnI (show i < mL 43 from show i < 2400 by omega) (show mL 43 < 2 ^ 31 by decide), nI_1, s7]
      · simp only [mem_take1 hx]
        by_cases e : x = X
        · subst e; rw [if_pos rfl, if_neg (fun r => q r.2)]
        · rw [if_neg e]
          by_cases e2 : x ∈ M.take i ∧ lgb S (some o) none x = true
          · rw [if_pos e2, if_pos ⟨Or.inl e2.1, e2.2⟩]
          · rw [if_neg e2, if_neg (fun r => e2 ⟨r.1.resolve_right e, r.2⟩)]) (fun g v _ hI => by
    have c39 : mI v 39 = nI M.length := by rw [hI.2.1]; exact hw.1
    simp only [g_X12_send_196, kif, r_gb, gbn_s, r_grd, r_gbo, r_gret, r_gst, k_isIn, k_isSlot, k_isItem, k_isGroup, k_isRobot, k_are, k_holds0, k_holds1, k_holds2, k_holds3, k_bit, k_less, bI_t, bI_f, i10, i00, i01, i11, i20, i30, ↓reduceIte, mI_mSA, mI_mSI, mA_mSI, mA_mSA, Nat.reduceEqDiff, reduceCtorEq, Nat.reduceEqDiff, false_and, true_and, and_true, c39, Int32.le_refl]) FU (FU_gt (by have := hw.2.1; omega)) (w := u) (a := ()) ⟨hw.cg fun x _ => by rw [List.take_zero, if_neg (by simp)], rfl, fun _ _ => rfl⟩
  have hw1 : RW S v1 M (lgp S (some o) none) := i1.cg fun x hx => by
    rw [List.take_length]
    unfold lgp
    by_cases e : lgb S (some o) none x = true
    · rw [if_pos ⟨hx, e⟩, if_pos e]
    · rw [if_neg (fun r => e r.2), if_neg e]
  have pick : ∀ t, t < zN S 10 → zA S 1001 t = 2 → ∃ o', o' < 8 ∧ mA w 50 t / 3 = nI o' ∧ ∀ x, zO S 1002 t = some x → zO S 200 x = some o' := fun t ht q => by
    obtain ⟨-, -, -, -, -, -, -, x, l', e1, e2, e3, e4, e5, e6, e7, e8⟩ := h.ta.2.2.2 t ht
    rcases e8 with e8 | e8 | ⟨-, -, -, o', j, g1, g2, g3, g4, g5, g6⟩
    · rw [q] at e8; exact absurd e8.1 (by decide)
    · rw [q] at e8; exact absurd e8.1 (by decide)
    · obtain ⟨p', hp', hx', hq'⟩ := h.lqO g3 g4
      refine ⟨o', by omega, ?_, fun y hy => ?_⟩
      · rw [g5, div3 (by rw [hq']; omega), hq']; congr 1; omega
      · rw [← Option.some.inj (e1.symm.trans hy)]; exact g1
  obtain ⟨cc, hcc0⟩ : ∃ cc : Nat → Bool, cc = fun t => decide ((zA S 1005 t = 0 ∨ zA S 1005 t = 1) ∧ zA S 1001 t = 2 ∧ mA w 50 t / 3 = nI o) := ⟨_, rfl⟩
  have hcc' : ∀ t, t < zN S 10 → (cc t = true ↔ gone S (some o) none t) := fun t ht => by
    rw [hcc0, decide_eq_true_iff]
    obtain ⟨-, -, -, -, -, -, -, x, l', e1, e2, e3, e4, e5, e6, e7, e8⟩ := h.ta.2.2.2 t ht
    constructor
    · rintro ⟨q1, q2, q3⟩
      obtain ⟨f1, f2, -⟩ := e7 q1
      obtain ⟨o', p1, p2, p3⟩ := pick t ht q2
      have eo : o' = o := (nI_eq (by omega) (by omega)).mp (p2.symm.trans q3)
      have := p3 x e1
      rw [eo] at this
      exact ⟨x, f1, ⟨by rw [this]; simp, Or.inl this⟩, f2⟩
    · rintro ⟨y, y1, ⟨y2, y3⟩, y4⟩
      obtain ⟨d1, d2, d3, d4⟩ := (h.ho.2.1 y y1).2.2.2.2.2 t y4
      have : x = y := Option.some.inj (e1.symm.trans d2)
      subst this
      have k2 : zA S 1001 t = 2 := by
        rcases e8 with e8 | e8 | e8
        · exact absurd e8.2.1 y2
        · exact absurd e8.2.1 y2
        · exact e8.1
      obtain ⟨o', p1, p2, p3⟩ := pick t ht k2
      have yo : zO S 200 x = some o := y3.resolve_right (fun r => by rw [e3] at r; cases r)
      have : o' = o := Option.some.inj ((p3 x e1).symm.trans yo)
      exact ⟨d3, k2, by rw [p2, this]⟩
  obtain ⟨v2, -, ⟨j1, j2, j3, j4, j5⟩, e2⟩ := g_loop (α := Unit) (fun g _ j => g_X12_send_245 g (nI o) x3 j) (zN S 10) (fun i v _ => RW S v M (lgp S (some o) none) ∧ RB v (fun r => (rowS S r).filter fun t => !(decide (t < i) && cc t)) ∧ (∀ j, mA v 52 j = if j < i ∧ cc j = true then 3 else mA w 52 j) ∧ mI v = mI u ∧ ∀ k, k ≠ 43 ∧ k ≠ 52 ∧ k ≠ 58 ∧ k ≠ 59 → mA v k = mA u k) (fun _ v => gbn (g_X12_tidies v) fun _ v => some (x3, v)) (fun g i v _ hi hI => by
    obtain ⟨i1, i2, i3, i4, i5⟩ := hI
    obtain ⟨a1, a2, a3, a4, a5, -⟩ := h.ta.2.2.2 i hi
    have c45 : mI v 45 = nI (zN S 10) := by rw [i4, u45]; exact h.ta.2.2.1
    have c52 : mA v 52 i = zA S 1005 i := by rw [i3, if_neg (fun r => Nat.lt_irrefl _ r.1), a5]
    have c46 : mA v 46 i = zA S 1001 i := by rw [i5 46 (by decide), uA 46 (by decide) (by decide), a2]
    have c50 : mA v 50 i = mA w 50 i := by rw [i5 50 (by decide), uA 50 (by decide) (by decide)]
    have c53 : mA v 53 i = mA w 53 i := by rw [i5 53 (by decide), uA 53 (by decide) (by decide)]
    by_cases q : cc i = true
    · have hg2 := (hcc' i hi).mp q
      rw [hcc0] at q
      obtain ⟨q1, q2, q3⟩ := of_decide_eq_true q
      obtain ⟨ρ, p1, p2, p3⟩ := h.rob hi q1
      obtain ⟨z, u1, u2, u3, u4, u5, u6⟩ := ends_step (S := S) (w := w) (cc := cc) (ρ := ρ) i1 i2 i3 (show i < 60 by omega) (by rw [hcc0]; exact q) (fun x hx hx2 => by
        have hx3 := (hMm x hx).1
        unfold lgp
        rw [if_pos]
        rw [lgb_t]
        obtain ⟨y, y1, y2, y3⟩ := hg2
        have d1 := ((h.ho.2.1 x hx3).2.2.2.2.2 i hx2).2.1
        have d2 := ((h.ho.2.1 y y1).2.2.2.2.2 i y3).2.1
        rw [Option.some.inj (d1.symm.trans d2)]; exact y2) (c53.trans p1) p2 p3
      refine ⟨z, (), ?_, u2, u3, u4, u5.trans i4, fun k hk => (u6 k hk).trans (i5 k hk)⟩
      simp only [g_X12_send_245, kif, r_gb, gbn_s, r_grd, r_gbo, r_gret, r_gst, k_isIn, k_isSlot, k_isItem, k_isGroup, k_isRobot, k_are, k_holds0, k_holds1, k_holds2, k_holds3, k_bit, k_less, bI_t, bI_f, i10, i00, i01, i11, i20, i30, ↓reduceIte, mI_mSA, mI_mSI, mA_mSI, mA_mSA, Nat.reduceEqDiff, reduceCtorEq, Nat.reduceEqDiff, false_and, true_and, and_true, c45, nI_ge hi (show zN S 10 < 2 ^ 31 by omega), k_isOn hi h60, c52, if_pos q1, r_gnI (show i < mL 46 from show i < 60 by omega) (show mL 46 < 2 ^ 31 by decide), r_gnI (show i < mL 50 from show i < 60 by omega) (show mL 50 < 2 ^ 31 by decide), nI_clamp (show i < 2 ^ 31 by omega), c46, q2, c50, q3, u1, nI_1]
    · obtain ⟨n1, n2⟩ := ends_skip (w := w) i2 i3 q
      refine ⟨v, (), ?_, i1, n1, n2, i4, i5⟩
      rw [hcc0] at q
      have q' : ¬ ((zA S 1005 i = 0 ∨ zA S 1005 i = 1) ∧ zA S 1001 i = 2 ∧ mA w 50 i / 3 = nI o) := fun r => q (decide_eq_true r)
      simp only [g_X12_send_245, kif, r_gb, gbn_s, r_grd, r_gbo, r_gret, r_gst, k_isIn, k_isSlot, k_isItem, k_isGroup, k_isRobot, k_are, k_holds0, k_holds1, k_holds2, k_holds3, k_bit, k_less, bI_t, bI_f, i10, i00, i01, i11, i20, i30, ↓reduceIte, mI_mSA, mI_mSI, mA_mSI, mA_mSA, Nat.reduceEqDiff, reduceCtorEq, Nat.reduceEqDiff, false_and, true_and, and_true, c45, nI_ge hi (show zN S 10 < 2 ^ 31 by omega), k_isOn hi h60, c52, r_gnI (show i < mL 46 from show i < 60 by omega) (show mL 46 < 2 ^ 31 by decide), r_gnI (show i < mL 50 from show i < 60 by omega) (show mL 50 < 2 ^ 31 by decide), nI_clamp (show i < 2 ^ 31 by omega), c46, c50, nI_1]
      by_cases q1 : zA S 1005 i = 0 ∨ zA S 1005 i = 1
      · by_cases q2 : zA S 1001 i = 2
        · have q3 : ¬ mA w 50 i / 3 = nI o := fun r => q' ⟨q1, q2, r⟩
          simp only [if_pos q1, i10, ↓reduceIte, if_pos q2, if_neg q3]
        · simp only [if_pos q1, i10, ↓reduceIte, if_neg q2]
      · simp only [if_neg q1, i00, ↓reduceIte]) (fun g v _ hI => by
    have c45 : mI v 45 = nI (zN S 10) := by rw [hI.2.2.2.1, u45]; exact h.ta.2.2.1
    simp only [g_X12_send_245, kif, r_gb, r_grd, c45, Int32.le_refl, ↓reduceIte, r_gret]) FU (FU_gt (by omega)) (w := v1) (a := ()) ⟨hw1, (h.rb.wr ((i3 58 (by decide)).trans (uA 58 (by decide) (by decide))) ((i3 59 (by decide)).trans (uA 59 (by decide) (by decide)))).cg fun r _ => (List.filter_eq_self.mpr fun t _ => by simp).symm, fun j => by rw [i3 52 (by decide), uA 52 (by decide) (by decide), if_neg (fun r => Nat.not_lt_zero _ r.1)], i2, fun k hk => i3 k hk.1⟩
  obtain ⟨v3, t1, t2, t3, t4⟩ := k_tidies j1
  rw [t1, gbn_s] at e2
  refine ⟨v3, e.trans e2, ?_, fun t ht => ?_, ?_, fun k hk => ?_, fun k hk => ?_⟩
  · rw [← hM]; exact t2
  · rw [t4 51 (by decide), j5 51 (by decide), uA 51 (by decide) (by decide), t4 52 (by decide), j3]
    refine ⟨rfl, fun r => ?_, fun r => ?_⟩
    · rw [if_pos ⟨ht, (hcc' t ht).mpr r⟩]
    · rw [if_neg (fun r2 => r ((hcc' t ht).mp r2.2))]
  · refine (j2.wr (t4 58 (by decide)) (t4 59 (by decide))).cg fun r hr => ?_
    rw [h.lgRow hg hcc' r hr]
    refine List.filter_congr fun t ht => ?_
    have htN : t < zN S 10 := ((h.ro.1 r hr).2.2.2.2.2.1 t (List.mem_filter.mp ht).1).1
    simp [htN]
  · rw [t3 k hk, j4]
  · rw [t4 k ⟨hk.1, hk.2.1, hk.2.2.1, hk.2.2.2.1, hk.2.2.2.2.1⟩, j5 k ⟨hk.2.2.2.1, hk.2.2.2.2.2.2.1, hk.2.2.2.2.2.2.2.1, hk.2.2.2.2.2.2.2.2⟩]
end
