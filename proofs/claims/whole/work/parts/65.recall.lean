section
variable {m : Nat} {S T : Ss} {w v : MS}
theorem Rel.recl {B k : Nat} (h : Rel B k S w) {l : Nat} (hl : l < zN S 5) : Rel B k (pA 503 l 1 S) (mSA 18 l 1 w) := by
  have hA : ∀ f, f ≠ 503 → zA (pA 503 l 1 S) f = zA S f := fun f hf => fAA hf
  have hB : ∀ f, f ≠ 18 → mA (mSA 18 l 1 w) f = mA w f := fun f hf => fBA hf
  have hO : ∀ f, True → zO (pA 503 l 1 S) f = zO S f := fun f _ => rfl
  have hL : ∀ f, True → zL (pA 503 l 1 S) f = zL S f := fun f _ => rfl
  have hC : ∀ f, True → zC (pA 503 l 1 S) f = zC S f := fun f _ => rfl
  have hN : ∀ f, True → zN (pA 503 l 1 S) f = zN S f := fun f _ => rfl
  have hM : zM (pA 503 l 1 S) = zM S := rfl
  have hI : ∀ f, True → mI (mSA 18 l 1 w) f = mI w f := fun f _ => rfl
  have lo : g_lo (pA 503 l 1 S) (mSA 18 l 1 w) := by
    obtain ⟨n1, n2, n3, n4, n5⟩ := h.lo
    unfold g_lo itS
    rw [hN 5 trivial, hL 1103 trivial, hI 15 trivial, hA 500 (by decide), hA 502 (by decide), hO 501 trivial, hB 16 (by decide), hB 17 (by decide)]
    refine ⟨n1, n2, n3, fun q hq => ?_, fun q h1 h2 => ?_⟩
    · obtain ⟨b1, b2, b3, b4, b5⟩ := n4 q hq
      refine ⟨b1, b2, ?_, ?_, b5⟩
      · rw [sAA, sBA, b3]
      · rw [sAA]; split
        · exact Or.inr rfl
        · exact b4
    · rw [sBA, if_neg (by omega)]; exact n5 q h1 h2
  exact ⟨(cg_sl (hA 900 (by decide)) (hA 901 (by decide)) (hA 903 (by decide)) (hA 904 (by decide)) (hO 902 (by decide)) (hB 4 (by decide)) (hB 5 (by decide)) (hB 6 (by decide)) (hB 7 (by decide)) (hB 8 (by decide)) h.sl), (cg_it (hA 300 (by decide)) (hA 301 (by decide)) (hA 302 (by decide)) (hA 303 (by decide)) (hA 304 (by decide)) (hA 305 (by decide)) (hB 9 (by decide)) (hB 10 (by decide)) (hB 11 (by decide)) (hB 12 (by decide)) (hB 13 (by decide)) h.it), (cg_ba (hA 1115 (by decide)) (hB 14 (by decide)) h.ba), (cg_sc (hA 1116 (by decide)) (hA 1118 (by decide)) (hA 1117 (by decide)) (hI 1 (by decide)) (hI 2 (by decide)) (hI 3 (by decide)) h.sc), lo, (cg_be (hL 1104 (by decide)) (hN 5 (by decide)) (hA 502 (by decide)) h.be), (cg_no (hN 6 (by decide)) (hL 1105 (by decide)) (hO 600 (by decide)) (hA 601 (by decide)) (hA 602 (by decide)) (hI 22 (by decide)) (hB 23 (by decide)) (hB 24 (by decide)) (hB 25 (by decide)) h.no), (cg_ca (hC 1110 (by decide)) (hB 26 (by decide)) h.ca), (cg_aw (hC 1111 (by decide)) (hN 7 (by decide)) (hA 705 (by decide)) (hB 33 (by decide)) h.aw), (cg_or (hN 7 (by decide)) (hN 72 (by decide)) (hL 1106 (by decide)) (hA 700 (by decide)) (hA 701 (by decide)) (hA 702 (by decide)) (hA 703 (by decide)) (hA 705 (by decide)) (hI 27 (by decide)) (hB 28 (by decide)) (hB 29 (by decide)) (hB 30 (by decide)) (hB 31 (by decide)) (hB 32 (by decide)) h.or), (cg_li (hN 7 (by decide)) (hL 704 (by decide)) (hN 4 (by decide)) (hO 400 (by decide)) (hA 401 (by decide)) (hA 402 (by decide)) (hA 403 (by decide)) (hB 31 (by decide)) (hB 36 (by decide)) (hB 37 (by decide)) (hB 38 (by decide)) h.li), (cg_bk (hC 0 (by decide)) (hC 1 (by decide)) (hN 5 (by decide)) (hO 501 (by decide)) (hB 19 (by decide)) h.bk), (cg_nn (hC 0 (by decide)) (hC 2 (by decide)) h.nn), (cg_tr (hC 2 (by decide)) (hC 0 (by decide)) (hB 20 (by decide)) h.tr), (cg_db (hC 5 (by decide)) (hB 21 (by decide)) h.db), (cg_mv (hA 7 (by decide)) (hN 60 (by decide)) hM (hC 0 (by decide)) h.mv), (cg_ho (hL 1107 (by decide)) (hN 2 (by decide)) (hA 204 (by decide)) (hN 5 (by decide)) (hO 203 (by decide)) (hA 202 (by decide)) (hO 200 (by decide)) (hO 201 (by decide)) (hO 205 (by decide)) (hN 7 (by decide)) (hL 704 (by decide)) (hA 705 (by decide)) (hN 10 (by decide)) (hO 1002 (by decide)) (hA 1005 (by decide)) (hA 1004 (by decide)) h.ho), (cg_hs (hC 3 (by decide)) (hL 1107 (by decide)) (hA 202 (by decide)) (hO 203 (by decide)) (hA 204 (by decide)) (hC 0 (by decide)) (hN 4 (by decide)) (hA 402 (by decide)) (hO 201 (by decide)) h.hs), (cg_hm (hI 39 (by decide)) (hL 1107 (by decide)) (hO 200 (by decide)) (hO 201 (by decide)) (hO 203 (by decide)) (hL 704 (by decide)) (hA 202 (by decide)) (hA 204 (by decide)) (hO 205 (by decide)) (hB 40 (by decide)) (hB 41 (by decide)) (hB 42 (by decide)) (hB 43 (by decide)) (hB 44 (by decide)) h.hm), (cg_ta (hN 10 (by decide)) (hL 1108 (by decide)) (hI 45 (by decide)) (hA 1000 (by decide)) (hA 1001 (by decide)) (hA 1003 (by decide)) (hA 1004 (by decide)) (hA 1005 (by decide)) (hA 1006 (by decide)) (hO 1002 (by decide)) (hN 2 (by decide)) (hO 203 (by decide)) (hN 5 (by decide)) (hL 1107 (by decide)) (hO 205 (by decide)) (hO 200 (by decide)) (hO 201 (by decide)) (hA 202 (by decide)) (hN 7 (by decide)) (hL 704 (by decide)) (hB 46 (by decide)) (hB 47 (by decide)) (hB 48 (by decide)) (hB 49 (by decide)) (hB 50 (by decide)) (hB 51 (by decide)) (hB 52 (by decide)) (hB 54 (by decide)) h.ta), (cg_ap (hC 4 (by decide)) (hN 10 (by decide)) (hA 1005 (by decide)) (hA 1001 (by decide)) (hA 1003 (by decide)) (hA 1004 (by decide)) (hO 501 (by decide)) (hO 203 (by decide)) (hO 1002 (by decide)) (hO 902 (by decide)) h.ap), (cg_ro (hA 801 (by decide)) (hA 802 (by decide)) (hL 800 (by decide)) (hA 1005 (by decide)) (hN 10 (by decide)) (hB 53 (by decide)) (hB 55 (by decide)) (hB 56 (by decide)) (hB 58 (by decide)) (hB 59 (by decide)) h.ro), (cg_st (hN 7 (by decide)) (hA 705 (by decide)) (hN 5 (by decide)) (hC 0 (by decide)) (hL 704 (by decide)) (hA 403 (by decide)) h.st), (cg_bx (hN 7 (by decide)) (hA 705 (by decide)) (hA 706 (by decide)) (hC 1112 (by decide)) (hA 302 (by decide)) (hA 303 (by decide)) (hA 304 (by decide)) (hO 501 (by decide)) (hN 5 (by decide)) (hB 34 (by decide)) (hB 35 (by decide)) h.bx)⟩
/-- the reference lets a lot go -/
theorem Rel.kRecl {B k : Nat} (h : Rel B k S w) {l : Nat} (hl : l < zN S 5) (hg : LG S T none (some l) (hL S)) : ∃ v, (∀ R : GM Int32, True) ∧ g_X12_recall_46 FU (nI l) 0 w = g_X12_recall_145 FU (nI l) 0 0 v ∧ RW S v (((hL S).filter (hasO S)).filter fun x => decide (0 < lgp S none (some l) x)) (lgp S none (some l)) ∧ (∀ t, t < zN S 10 → mA v 51 t = mA w 51 t ∧ (gone S none (some l) t → mA v 52 t = 3) ∧ (¬ gone S none (some l) t → mA v 52 t = mA w 52 t)) ∧ RB v (rowS T) ∧ VF w v := by
  have h12 := h.lo.1
  have h60 := h.ta.1
  have hw := h.rw
  obtain ⟨M, hM⟩ : ∃ M, M = (hL S).filter (hasO S) := ⟨_, rfl⟩
  rw [← hM] at hw
  have hMm : ∀ x, x ∈ M → x ∈ hL S ∧ hasO S x = true := fun x hx => by rw [hM] at hx; exact List.mem_filter.mp hx
  have lg1 : ∀ x, x ∈ M → (lgb S none (some l) x = true ↔ zO S 203 x = some l) := fun x hx => by
    rw [lgb_t]
    obtain ⟨o, ho⟩ := hasO_t (hMm x hx).2
    unfold lgc
    rw [ho]
    exact ⟨fun r => r.2.resolve_left (by simp), fun r => ⟨by simp, Or.inr r⟩⟩
  -- the rows
  obtain ⟨v1, -, ⟨i1, i2, i3⟩, e⟩ := g_loop (α := Unit) (fun g _ j => g_X12_recall_46 g (nI l) j) M.length (fun i v _ => RW S v M (fun x => if x ∈ M.take i ∧ lgb S none (some l) x = true then 0 else zA S 204 x) ∧ mI v = mI w ∧ ∀ k, k ≠ 43 → mA v k = mA w k) (fun _ v => g_X12_recall_88 FU (nI l) 0 v) (fun g i v _ hi hI => by
    obtain ⟨i1, i2, i3⟩ := hI
    have hx : M[i]? = some (M[i]'hi) := List.getElem?_eq_getElem hi
    generalize M[i]'hi = X at hx
    have hXm := List.mem_of_getElem? hx
    have c39 : mI v 39 = nI M.length := by rw [i2]; exact hw.1
    have hn := nd_take hw.2.2.1 hx
    obtain ⟨s0, o', j', l', s1, s2, s3, s4, s5, s6, s7, s8⟩ := i1.2.2.2 i X hx
    dsimp only at s7
    rw [if_neg (fun r => hn r.1)] at s7
    have l24 := hw.2.1
    have hl' : l' < zN S 5 := by
      obtain ⟨l2, g1, g2⟩ := (h.ho.2.1 X (hMm X hXm).1).2.2.1
      rw [Option.some.inj (s3.symm.trans g2)]; exact g1
    have hc : mA v 42 i = nI l ↔ lgb S none (some l) X = true := by
      rw [s6, lg1 X hXm, s3, nI_eq (by omega) (by omega), Option.some.injEq]
    by_cases q : lgb S none (some l) X = true
    · refine ⟨mSA 43 i 0 v, (), ?_, (i1.set hx 0).cg fun x hxm => ?_, i2, fun k hk => by rw [fBA hk]; exact i3 k hk⟩
      · simp only [g_X12_recall_46, g_X12_recall_79, kif, r_gb, gbn_s, r_grd, r_gbo, r_gret, r_gst, k_isIn, k_isSlot, k_isItem, k_isGroup, k_isRobot, k_are, k_holds0, k_holds1, k_holds2, k_holds3, k_bit, k_less, bI_t, bI_f, i10, i00, i01, i11, i20, i30, ↓reduceIte, mI_mSA, mI_mSI, mA_mSI, mA_mSA, Nat.reduceEqDiff, reduceCtorEq, Nat.reduceEqDiff, false_and, true_and, and_true, c39, nI_ge hi (show M.length < 2 ^ 31 by omega), r_gnI (show i < mL 42 from show i < 2400 by omega) (show mL 42 < 2 ^ 31 by decide), nI_clamp (show i < 2 ^ 31 by omega), hc.mpr q, r_gmd _ (show isA 43 = true by decide), r_gnI (show i < mL 43 from show i < 2400 by omega) (show mL 43 < 2 ^ 31 by decide), nI_1]
      · simp only [mem_take1 hx]
        by_cases e : x = X
        · subst e; rw [if_pos rfl, if_pos ⟨Or.inr rfl, q⟩]
        · rw [if_neg e]
          by_cases e2 : x ∈ M.take i ∧ lgb S none (some l) x = true
          · rw [if_pos e2, if_pos ⟨Or.inl e2.1, e2.2⟩]
          · rw [if_neg e2, if_neg (fun r => e2 ⟨r.1.resolve_right e, r.2⟩)]
    · have hc' : ¬ mA v 42 i = nI l := fun r => q (hc.mp r)
      refine ⟨mSA 43 i (zA S 204 X) v, (), ?_, (i1.set hx (zA S 204 X)).cg fun x hxm => ?_, i2, fun k hk => by rw [fBA hk]; exact i3 k hk⟩
      · simp only [g_X12_recall_46, g_X12_recall_79, kif, r_gb, gbn_s, r_grd, r_gbo, r_gret, r_gst, k_isIn, k_isSlot, k_isItem, k_isGroup, k_isRobot, k_are, k_holds0, k_holds1, k_holds2, k_holds3, k_bit, k_less, bI_t, bI_f, i10, i00, i01, i11, i20, i30, ↓reduceIte, mI_mSA, mI_mSI, mA_mSI, mA_mSA, Nat.reduceEqDiff, reduceCtorEq, Nat.reduceEqDiff, false_and, true_and, and_true, c39, nI_ge hi (show M.length < 2 ^ 31 by omega), r_gnI (show i < mL 42 from show i < 2400 by omega) (show mL 42 < 2 ^ 31 by decide), nI_clamp (show i < 2 ^ 31 by omega), hc', r_gmd _ (show isA 43 = true by decide), r_gnI (show i < mL 43 from show i < 2400 by omega) (show mL 43 < 2 ^ 31 by decide), nI_1, s7]
      · simp only [mem_take1 hx]
        by_cases e : x = X
        · subst e; rw [if_pos rfl, if_neg (fun r => q r.2)]
        · rw [if_neg e]
          by_cases e2 : x ∈ M.take i ∧ lgb S none (some l) x = true
          · rw [if_pos e2, if_pos ⟨Or.inl e2.1, e2.2⟩]
          · rw [if_neg e2, if_neg (fun r => e2 ⟨r.1.resolve_right e, r.2⟩)]) (fun g v _ hI => by
    have c39 : mI v 39 = nI M.length := by rw [hI.2.1]; exact hw.1
    simp only [g_X12_recall_46, kif, r_gb, gbn_s, r_grd, r_gbo, r_gret, r_gst, k_isIn, k_isSlot, k_isItem, k_isGroup, k_isRobot, k_are, k_holds0, k_holds1, k_holds2, k_holds3, k_bit, k_less, bI_t, bI_f, i10, i00, i01, i11, i20, i30, ↓reduceIte, mI_mSA, mI_mSI, mA_mSI, mA_mSA, Nat.reduceEqDiff, reduceCtorEq, Nat.reduceEqDiff, false_and, true_and, and_true, c39, Int32.le_refl]) FU (FU_gt (by have := hw.2.1; omega)) (w := w) (a := ()) ⟨hw.cg fun x _ => by rw [List.take_zero, if_neg (by simp)], rfl, fun _ _ => rfl⟩
  have hw1 : RW S v1 M (lgp S none (some l)) := i1.cg fun x hx => by
    rw [List.take_length]
    unfold lgp
    by_cases e : lgb S none (some l) x = true
    · rw [if_pos ⟨hx, e⟩, if_pos e]
    · rw [if_neg (fun r => e r.2), if_neg e]
  -- the tasks
  have hcc : ∀ t, t < zN S 10 → (decide ((zA S 1005 t = 0 ∨ zA S 1005 t = 1) ∧ zA S 1001 t = 2 ∧ lotT S t = l) = true ↔ gone S none (some l) t) := fun t ht => by
    rw [decide_eq_true_iff]
    obtain ⟨-, -, -, -, -, -, -, x, l', e1, e2, e3, e4, e5, e6, e7, e8⟩ := h.ta.2.2.2 t ht
    have hlt : lotT S t = l' := by unfold lotT; rw [e1]; show (zO S 203 x).getD 0 = l'; rw [e3]; rfl
    constructor
    · rintro ⟨q1, q2, q3⟩
      obtain ⟨f1, f2, -⟩ := e7 q1
      rcases e8 with e8 | e8 | ⟨-, -, -, o, j, g1, -⟩
      · rw [q2] at e8; exact absurd e8.1 (by decide)
      · rw [q2] at e8; exact absurd e8.1 (by decide)
      · exact ⟨x, f1, ⟨by rw [g1]; simp, Or.inr (by rw [e3, ← q3, hlt])⟩, f2⟩
    · rintro ⟨y, y1, ⟨y2, y3⟩, y4⟩
      obtain ⟨d1, d2, d3, d4⟩ := (h.ho.2.1 y y1).2.2.2.2.2 t y4
      have : x = y := Option.some.inj (e1.symm.trans d2)
      subst this
      refine ⟨d3, ?_, ?_⟩
      · rcases e8 with e8 | e8 | e8
        · exact absurd e8.2.1 y2
        · exact absurd e8.2.1 y2
        · exact e8.1
      · have : zO S 203 x = some l := y3.resolve_left (fun r => y2 r)
        rw [hlt]; exact Option.some.inj (e3.symm.trans this)
  obtain ⟨cc, hcc0⟩ : ∃ cc : Nat → Bool, cc = fun t => decide ((zA S 1005 t = 0 ∨ zA S 1005 t = 1) ∧ zA S 1001 t = 2 ∧ lotT S t = l) := ⟨_, rfl⟩
  have hcc' : ∀ t, t < zN S 10 → (cc t = true ↔ gone S none (some l) t) := fun t ht => by rw [hcc0]; exact hcc t ht
  obtain ⟨v2, -, ⟨j1, j2, j3, j4, j5⟩, e2⟩ := g_loop (α := Unit) (fun g _ j => g_X12_recall_88 g (nI l) j) (zN S 10) (fun i v _ => RW S v M (lgp S none (some l)) ∧ RB v (fun r => (rowS S r).filter fun t => !(decide (t < i) && cc t)) ∧ (∀ j, mA v 52 j = if j < i ∧ cc j = true then 3 else mA w 52 j) ∧ mI v = mI w ∧ ∀ k, k ≠ 43 ∧ k ≠ 52 ∧ k ≠ 58 ∧ k ≠ 59 → mA v k = mA w k) (fun _ v => gbn (g_X12_tidies v) fun _ v => g_X12_recall_145 FU (nI l) 0 0 v) (fun g i v _ hi hI => by
    obtain ⟨i1, i2, i3, i4, i5⟩ := hI
    obtain ⟨a1, a2, a3, a4, a5, -⟩ := h.ta.2.2.2 i hi
    obtain ⟨l1, l2⟩ := h.lotI hi
    have c45 : mI v 45 = nI (zN S 10) := by rw [i4]; exact h.ta.2.2.1
    have c52 : mA v 52 i = zA S 1005 i := by rw [i3, if_neg (fun r => Nat.lt_irrefl _ r.1), a5]
    have c46 : mA v 46 i = zA S 1001 i := by rw [i5 46 (by decide), a2]
    have c47 : mA v 47 i = nI (lotT S i) := by rw [i5 47 (by decide), l2]
    have c53 : mA v 53 i = mA w 53 i := by rw [i5 53 (by decide)]
    by_cases q : cc i = true
    · have hg2 := (hcc' i hi).mp q
      rw [hcc0] at q
      obtain ⟨q1, q2, q3⟩ := of_decide_eq_true q
      obtain ⟨ρ, p1, p2, p3⟩ := h.rob hi q1
      obtain ⟨u, u1, u2, u3, u4, u5, u6⟩ := ends_step (S := S) (w := w) (cc := cc) (ρ := ρ) i1 i2 i3 (show i < 60 by omega) (by rw [hcc0]; exact q) (fun x hx hx2 => by
        have hx3 := (hMm x hx).1
        unfold lgp
        rw [if_pos]
        rw [lgb_t]
        obtain ⟨y, y1, y2, y3⟩ := hg2
        have d1 := ((h.ho.2.1 x hx3).2.2.2.2.2 i hx2).2.1
        have d2 := ((h.ho.2.1 y y1).2.2.2.2.2 i y3).2.1
        rw [Option.some.inj (d1.symm.trans d2)]; exact y2) (c53.trans p1) p2 p3
      refine ⟨u, (), ?_, u2, u3, u4, u5.trans i4, fun k hk => (u6 k hk).trans (i5 k hk)⟩
      simp only [g_X12_recall_88, kif, r_gb, gbn_s, r_grd, r_gbo, r_gret, r_gst, k_isIn, k_isSlot, k_isItem, k_isGroup, k_isRobot, k_are, k_holds0, k_holds1, k_holds2, k_holds3, k_bit, k_less, bI_t, bI_f, i10, i00, i01, i11, i20, i30, ↓reduceIte, mI_mSA, mI_mSI, mA_mSI, mA_mSA, Nat.reduceEqDiff, reduceCtorEq, Nat.reduceEqDiff, false_and, true_and, and_true, c45, nI_ge hi (show zN S 10 < 2 ^ 31 by omega), k_isOn hi h60, c52, if_pos q1, r_gnI (show i < mL 46 from show i < 60 by omega) (show mL 46 < 2 ^ 31 by decide), r_gnI (show i < mL 47 from show i < 60 by omega) (show mL 47 < 2 ^ 31 by decide), nI_clamp (show i < 2 ^ 31 by omega), c46, q2, c47, q3, u1, nI_1]
    · obtain ⟨n1, n2⟩ := ends_skip (w := w) i2 i3 q
      refine ⟨v, (), ?_, i1, n1, n2, i4, i5⟩
      rw [hcc0] at q
      have q' : ¬ ((zA S 1005 i = 0 ∨ zA S 1005 i = 1) ∧ zA S 1001 i = 2 ∧ lotT S i = l) := fun r => q (decide_eq_true r)
      simp only [g_X12_recall_88, kif, r_gb, gbn_s, r_grd, r_gbo, r_gret, r_gst, k_isIn, k_isSlot, k_isItem, k_isGroup, k_isRobot, k_are, k_holds0, k_holds1, k_holds2, k_holds3, k_bit, k_less, bI_t, bI_f, i10, i00, i01, i11, i20, i30, ↓reduceIte, mI_mSA, mI_mSI, mA_mSI, mA_mSA, Nat.reduceEqDiff, reduceCtorEq, Nat.reduceEqDiff, false_and, true_and, and_true, c45, nI_ge hi (show zN S 10 < 2 ^ 31 by omega), k_isOn hi h60, c52, r_gnI (show i < mL 46 from show i < 60 by omega) (show mL 46 < 2 ^ 31 by decide), r_gnI (show i < mL 47 from show i < 60 by omega) (show mL 47 < 2 ^ 31 by decide), nI_clamp (show i < 2 ^ 31 by omega), c46, c47, nI_eq (show lotT S i < 2 ^ 31 by omega) (show l < 2 ^ 31 by omega), nI_1]
      by_cases q1 : zA S 1005 i = 0 ∨ zA S 1005 i = 1
      · by_cases q2 : zA S 1001 i = 2
        · have q3 : ¬ lotT S i = l := fun r => q' ⟨q1, q2, r⟩
          simp only [if_pos q1, i10, ↓reduceIte, if_pos q2, if_neg q3]
        · simp only [if_pos q1, i10, ↓reduceIte, if_neg q2]
      · simp only [if_neg q1, i00, ↓reduceIte]) (fun g v _ hI => by
    have c45 : mI v 45 = nI (zN S 10) := by rw [hI.2.2.2.1]; exact h.ta.2.2.1
    simp only [g_X12_recall_88, kif, r_gb, r_grd, c45, Int32.le_refl, ↓reduceIte]) FU (FU_gt (by omega)) (w := v1) (a := ()) ⟨hw1, (h.rb.wr (i3 58 (by decide)) (i3 59 (by decide))).cg fun r _ => (List.filter_eq_self.mpr fun t _ => by simp).symm, fun j => by rw [i3 52 (by decide), if_neg (fun r => Nat.not_lt_zero _ r.1)], i2, fun k hk => i3 k hk.1⟩
  obtain ⟨v3, t1, t2, t3, t4⟩ := k_tidies j1
  rw [t1, gbn_s] at e2
  refine ⟨v3, fun _ => trivial, e.trans e2, ?_, fun t ht => ?_, ?_, fun k hk => ?_, fun k hk => ?_⟩
  · rw [← hM]; exact t2
  · rw [t4 51 (by decide), j5 51 (by decide), t4 52 (by decide), j3]
    refine ⟨rfl, fun r => ?_, fun r => ?_⟩
    · rw [if_pos ⟨ht, (hcc' t ht).mpr r⟩]
    · rw [if_neg (fun r2 => r ((hcc' t ht).mp r2.2))]
  · refine (j2.wr (t4 58 (by decide)) (t4 59 (by decide))).cg fun r hr => ?_
    rw [h.lgRow hg hcc' r hr]
    refine List.filter_congr fun t ht => ?_
    have htN : t < zN S 10 := ((h.ro.1 r hr).2.2.2.2.2.1 t (List.mem_filter.mp ht).1).1
    simp [htN]
  · rw [t3 k hk, j4]
  · rw [t4 k ⟨hk.1, hk.2.1, hk.2.2.1, hk.2.2.2.1, hk.2.2.2.2.1⟩, j5 k ⟨hk.2.2.2.1, hk.2.2.2.2.2.2.1, hk.2.2.2.2.2.2.2.1, hk.2.2.2.2.2.2.2.2⟩]
theorem s_recall (g : GG m S w) (hm : m < 512) (x : Int32) : STi GG m S w (f_X11_recall x) (g_X12_recall x) [(1, 1), (3, 2)] := by
  obtain ⟨B, k, hB, hk, hk2, hc1, hc2, h⟩ := g.out
  have h12 := h.lo.1
  have h8 := h.or.1
  cases h1 : okI x (zN S 5) with
  | false =>
    refine sti_th g hm (u := 1) (c := 1) (r := 0) ?_ ?_ (by simp) (by decide) (by decide)
    · simp only [f_X11_recall, r_mb, bnd_s, r_mrd, r_mbo, r_mret, r_mthr, r_wA, r_wO, r_madd, r_mput, r_mopt, r_mcn, r_mcs, ite_f, e_isWithin, e_isSlot, e_isItem, e_isGroup, e_isRobot, e_isLot, e_isNotice, e_isOrder, e_isTask, bI_t, bI_f, i10, i00, i01, i11, i20, i30, ↓reduceIte, h.nl, h1]; try rfl
    · simp only [g_X12_recall, g_X12_recall_29, kif, r_gb, gbn_s, r_grd, r_gbo, r_gret, r_gst, k_isIn, k_isSlot, k_isItem, k_isGroup, k_isRobot, k_are, k_holds0, k_holds1, k_holds2, k_holds3, k_bit, k_less, bI_t, bI_f, i10, i00, i01, i11, i20, i30, ↓reduceIte, h.kLot, h1]; try rfl
  | true =>
    obtain ⟨l, hl, rfl⟩ := okI_t (by omega) h1
    obtain ⟨-, -, b3, -, -⟩ := h.lo.2.2.2.1 l hl
    have j18 : l < mL 18 := show l < 12 by omega
    by_cases q : zA S 503 l = 0
    · have hR := (h.thr 0).recl hl
      obtain ⟨T, t1, t2, t3⟩ := hR.co.letGo none (some l)
      obtain ⟨v, -, v1, v2, v3, v4, v5⟩ := hR.kRecl (l := l) hl t2
      obtain ⟨r1, r2⟩ := hR.lets t2 t3 v2 v3 v4 v5
      have aw := r1.aw.1
      have n7 : zN (drS T) 7 = zN S 7 := by
        have e : zN T = zN (pA 503 l 1 S) := t2.1.2.2.2.2.2.2
        show zN T 7 = _; rw [e]; rfl
      have or7 := r1.or
      have sum1 := m_sum (fun f a j => f_X11_recall_59 f (nI l) a j) (fun a => some ((0, a), drS T)) (drS T) (zN S 7) (fun o => zC (drS T) 1111 (12 * o + l)) (fun f a o ho => by
        have e1 : (zL (drS T) 1106 0).length = zN S 7 := by rw [r1.nor, n7]
        simp only [f_X11_recall_59, r_mb, bnd_s, r_mrd, r_mbo, r_mret, r_mthr, r_wA, r_wO, r_madd, r_mput, r_mopt, r_mcn, r_mcs, ite_f, e_isWithin, e_isSlot, e_isItem, e_isGroup, e_isRobot, e_isLot, e_isNotice, e_isOrder, e_isTask, bI_t, bI_f, i10, i00, i01, i11, i20, i30, ↓reduceIte, e1, nI_ge ho (show zN S 7 < 2 ^ 31 by omega), cAt_in (S := drS T) (r := 1111) (p := o) (l := l) (show l < 12 by omega) (show o * 12 + l < 96 by omega), show cWd 1111 * o + l = 12 * o + l from rfl, nI_1]) (fun f a => by
        have e1 : (zL (drS T) 1106 0).length = zN S 7 := by rw [r1.nor, n7]
        simp only [f_X11_recall_59, r_mb, bnd_s, r_mrd, r_mbo, r_mret, r_mthr, r_wA, r_wO, r_madd, r_mput, r_mopt, r_mcn, r_mcs, ite_f, e_isWithin, e_isSlot, e_isItem, e_isGroup, e_isRobot, e_isLot, e_isNotice, e_isOrder, e_isTask, bI_t, bI_f, i10, i00, i01, i11, i20, i30, ↓reduceIte, e1, Int32.le_refl]) 0 FU (FU_gt (by omega))
      have sum2 := g_sum (fun f a j => g_X12_recall_145 f (nI l) a j) (fun a => some (a, v)) v (zN S 7) (fun o => zC (drS T) 1111 (12 * o + l)) (fun f a o ho => by
        have e1 : mI v 27 = nI (zN S 7) := by rw [or7.2.2.2.1, n7]
        have j96 : 12 * o + l < 96 := by omega
        have e12 : (12 : Int32) * nI o + nI l = nI (12 * o + l) := by rw [show (12 : Int32) = nI 12 from rfl, pk_mul, nI_add]
        simp only [g_X12_recall_145, kif, r_gb, gbn_s, r_grd, r_gbo, r_gret, r_gst, k_isIn, k_isSlot, k_isItem, k_isGroup, k_isRobot, k_are, k_holds0, k_holds1, k_holds2, k_holds3, k_bit, k_less, bI_t, bI_f, i10, i00, i01, i11, i20, i30, ↓reduceIte, e1, nI_ge ho (show zN S 7 < 2 ^ 31 by omega), e12, r_gnI (show 12 * o + l < mL 33 from j96) (show mL 33 < 2 ^ 31 by decide), nI_clamp (show 12 * o + l < 2 ^ 31 by omega), ← aw _ j96, nI_1]) (fun f a => by
        have e1 : mI v 27 = nI (zN S 7) := by rw [or7.2.2.2.1, n7]
        simp only [g_X12_recall_145, kif, r_gb, gbn_s, r_grd, r_gbo, r_gret, r_gst, k_isIn, k_isSlot, k_isItem, k_isGroup, k_isRobot, k_are, k_holds0, k_holds1, k_holds2, k_holds3, k_bit, k_less, bI_t, bI_f, i10, i00, i01, i11, i20, i30, ↓reduceIte, e1, Int32.le_refl]) 0 FU (FU_gt (by omega))
      refine sti_st (T := drS T) (v := v) (r := 0 + sm (List.range (zN S 7)) (fun o => zC (drS T) 1111 (12 * o + l))) ?_ ?_ ?_ ?_
      · have eN : zN (drS T) = zN S := by
          have e : zN T = zN (pA 503 l 1 S) := t2.1.2.2.2.2.2.2
          show zN T = _; rw [e]; rfl
        have eP : zP (drS T) = zP S := by
          rw [drS_P]; have e : zP T = zP (pA 503 l 1 S) := t2.1.2.2.2.1
          rw [e]; rfl
        have eC : cT (drS T) (zN S 10) = cT S (zN S 10) := by
          have e1 : cT (drS T) (zN S 10) = cT T (zN S 10) := cT_eq (S := T) (T := drS T) (fun _ => rfl) (fun _ => rfl) _
          have e2 : cT (pA 503 l 1 S) (zN S 10) = cT S (zN S 10) := cT_eq (fun _ => by rw [fAA (by decide)]) (fun _ => by rw [fAA (by decide)]) _
          have e3 : cT T (zN S 10) = cT (pA 503 l 1 S) (zN S 10) := r2
          rw [e1, e3, e2]
        have eS : cS (drS T) (zN S 7) = cS S (zN S 7) := cS_eq (fun t => by
          have e : zA T 705 = zA (pA 503 l 1 S) 705 := t2.1.1 705 (by decide)
          show zA T 705 t = _; rw [e, fAA (by decide)]) _
        have ecap : capS (drS T) = capS S := by unfold capS; rw [eP]
        refine g.inn hm (by rw [eN]; omega) (by rw [eN, ecap]; omega) ?_ hB hk (show B ≤ B + 15000 by omega) (k' := k) (by rw [eN, eC, eS]; omega) r1
        unfold g_cp; rw [eP, eN]; exact g.2.2.1
      · simp only [f_X11_recall, r_mb, bnd_s, r_mrd, r_mbo, r_mret, r_mthr, r_wA, r_wO, r_madd, r_mput, r_mopt, r_mcn, r_mcs, ite_f, e_isWithin, e_isSlot, e_isItem, e_isGroup, e_isRobot, e_isLot, e_isNotice, e_isOrder, e_isTask, bI_t, bI_f, i10, i00, i01, i11, i20, i30, ↓reduceIte, h.nl, h1, mlget, h.atL hl, q]
        rw [t1]
        exact sum1
      · have e9 : g_X12_recall_46 FU (nI l) 0 (mSA 18 l 1 (mSI 0 0 w)) = _ := v1
        simp only [g_X12_recall, g_X12_recall_29, kif, r_gb, gbn_s, r_grd, r_gbo, r_gret, r_gst, k_isIn, k_isSlot, k_isItem, k_isGroup, k_isRobot, k_are, k_holds0, k_holds1, k_holds2, k_holds3, k_bit, k_less, bI_t, bI_f, i10, i00, i01, i11, i20, i30, ↓reduceIte, h.kLot, h1, r_gnI j18 (show mL 18 < 2 ^ 31 by decide), nI_clamp (show l < 2 ^ 31 by omega), b3, q]
        rw [e9]; exact sum2
      · rw [v5.1 0 (by decide)]; rfl
    · refine sti_th g hm (u := 3) (c := 2) (r := 0) ?_ ?_ (by simp) (by decide) (by decide)
      · simp only [f_X11_recall, r_mb, bnd_s, r_mrd, r_mbo, r_mret, r_mthr, r_wA, r_wO, r_madd, r_mput, r_mopt, r_mcn, r_mcs, ite_f, e_isWithin, e_isSlot, e_isItem, e_isGroup, e_isRobot, e_isLot, e_isNotice, e_isOrder, e_isTask, bI_t, bI_f, i10, i00, i01, i11, i20, i30, ↓reduceIte, h.nl, h1, mlget, h.atL hl, q]; try rfl
      · simp only [g_X12_recall, g_X12_recall_29, kif, r_gb, gbn_s, r_grd, r_gbo, r_gret, r_gst, k_isIn, k_isSlot, k_isItem, k_isGroup, k_isRobot, k_are, k_holds0, k_holds1, k_holds2, k_holds3, k_bit, k_less, bI_t, bI_f, i10, i00, i01, i11, i20, i30, ↓reduceIte, h.kLot, h1, r_gnI j18 (show mL 18 < 2 ^ 31 by decide), nI_clamp (show l < 2 ^ 31 by omega), b3, q]; try rfl
end
