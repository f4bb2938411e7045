section
variable {m : Nat} {S T : Ss} {w v : MS}
def hasL (S : Ss) (i : Nat) : Prop := ∃ l, l < zN S 5 ∧ itS S l = i
def hasF (S : Ss) (i : Nat) : Prop := ∃ s, s < 18 ∧ zO S 902 s = some i
theorem Rel.eLF {B k : Nat} (h : Rel B k S w) {i : Nat} (hi : i < 6) : ((hasL S i ∨ hasF S i) → (f_X11_hasLotOrFace i).1 S = some (1, S)) ∧ (¬ (hasL S i ∨ hasF S i) → (f_X11_hasLotOrFace i).1 S = some (0, S)) := by
  have h12 := h.lo.1
  have f2 := m_find (fun f j => f_X11_hasLotOrFace_50 f i (nI 18) j) S 18 (fun s => zO S 902 s = some i) (fun _ => some (1, S)) (some (0, S)) (fun f s hs q => by
    simp only [f_X11_hasLotOrFace_50, r_mb, bnd_s, r_mrd, r_mbo, r_mret, r_mthr, r_wA, r_wO, r_madd, r_mput, r_mopt, r_mcn, r_mcs, ite_f, e_isWithin, e_isSlot, e_isItem, e_isGroup, e_isRobot, e_isLot, e_isNotice, e_isOrder, e_isTask, bI_t, bI_f, i10, i00, i01, i11, i20, i30, ↓reduceIte, nI_ge hs (show 18 < 2 ^ 31 by decide), r_mnI (show s < aLn 1100 from hs) (show aLn 1100 < 2 ^ 31 by decide), nI_clamp (show s < 2 ^ 31 by omega), q]) (fun f s hs q => by
    simp only [f_X11_hasLotOrFace_50, r_mb, bnd_s, r_mrd, r_mbo, r_mret, r_mthr, r_wA, r_wO, r_madd, r_mput, r_mopt, r_mcn, r_mcs, ite_f, e_isWithin, e_isSlot, e_isItem, e_isGroup, e_isRobot, e_isLot, e_isNotice, e_isOrder, e_isTask, bI_t, bI_f, i10, i00, i01, i11, i20, i30, ↓reduceIte, nI_ge hs (show 18 < 2 ^ 31 by decide), r_mnI (show s < aLn 1100 from hs) (show aLn 1100 < 2 ^ 31 by decide), nI_clamp (show s < 2 ^ 31 by omega), q, nI_1]) (fun f => by
    simp only [f_X11_hasLotOrFace_50, r_mb, bnd_s, r_mrd, r_mbo, r_mret, r_mthr, r_wA, r_wO, r_madd, r_mput, r_mopt, r_mcn, r_mcs, ite_f, e_isWithin, e_isSlot, e_isItem, e_isGroup, e_isRobot, e_isLot, e_isNotice, e_isOrder, e_isTask, bI_t, bI_f, i10, i00, i01, i11, i20, i30, ↓reduceIte, Int32.le_refl]) FU (FU_gt (by omega))
  have f1 := m_find (fun f j => f_X11_hasLotOrFace_2 f i j) S (zN S 5) (fun l => itS S l = i) (fun _ => some (1, S)) ((f_X11_hasLotOrFace_50 FU i (nI 18) 0).1 S) (fun f l hl q => by
    obtain ⟨-, -, -, -, b5, -⟩ := h.lo.2.2.2.1 l hl
    simp only [f_X11_hasLotOrFace_2, r_mb, bnd_s, r_mrd, r_mbo, r_mret, r_mthr, r_wA, r_wO, r_madd, r_mput, r_mopt, r_mcn, r_mcs, ite_f, e_isWithin, e_isSlot, e_isItem, e_isGroup, e_isRobot, e_isLot, e_isNotice, e_isOrder, e_isTask, bI_t, bI_f, i10, i00, i01, i11, i20, i30, ↓reduceIte, h.nl, nI_ge hl (show zN S 5 < 2 ^ 31 by omega), mlget, h.atL hl, b5, q]) (fun f l hl q => by
    obtain ⟨-, -, -, -, b5, -⟩ := h.lo.2.2.2.1 l hl
    simp only [f_X11_hasLotOrFace_2, r_mb, bnd_s, r_mrd, r_mbo, r_mret, r_mthr, r_wA, r_wO, r_madd, r_mput, r_mopt, r_mcn, r_mcs, ite_f, e_isWithin, e_isSlot, e_isItem, e_isGroup, e_isRobot, e_isLot, e_isNotice, e_isOrder, e_isTask, bI_t, bI_f, i10, i00, i01, i11, i20, i30, ↓reduceIte, h.nl, nI_ge hl (show zN S 5 < 2 ^ 31 by omega), mlget, h.atL hl, b5, Option.some.injEq, q, nI_1]) (fun f => by
    simp only [f_X11_hasLotOrFace_2, r_mb, bnd_s, r_mrd, r_mbo, r_mret, r_mthr, r_wA, r_wO, r_madd, r_mput, r_mopt, r_mcn, r_mcs, ite_f, e_isWithin, e_isSlot, e_isItem, e_isGroup, e_isRobot, e_isLot, e_isNotice, e_isOrder, e_isTask, bI_t, bI_f, i10, i00, i01, i11, i20, i30, ↓reduceIte, h.nl, Int32.le_refl]; rfl) FU (FU_gt (by omega))
  have e : (f_X11_hasLotOrFace i).1 S = (f_X11_hasLotOrFace_2 FU i 0).1 S := rfl
  rw [e]
  rcases f1 with ⟨l, a1, a2, -, a3⟩ | ⟨a1, a2⟩
  · exact ⟨fun _ => a3, fun q => absurd (Or.inl ⟨l, a1, a2⟩) q⟩
  · have nl : ¬ hasL S i := fun ⟨l, b1, b2⟩ => a1 l b1 b2
    rcases f2 with ⟨s, c1, c2, -, c3⟩ | ⟨c1, c2⟩
    · exact ⟨fun _ => a2.trans c3, fun q => absurd (Or.inr ⟨s, c1, c2⟩) q⟩
    · refine ⟨fun q => ?_, fun _ => a2.trans c2⟩
      rcases q with q | ⟨s, b1, b2⟩
      · exact absurd q nl
      · exact absurd b2 (c1 s b1)
theorem fcI_eq {o : Option Nat} {i : Nat} (ho : ∀ j, o = some j → j < 6) (hi : i < 6) : fcI o = nI i ↔ o = some i := by
  cases o with
  | none => exact ⟨fun q => absurd q.symm (nI_m1 hi), fun q => by cases q⟩
  | some j =>
    have hj := ho j rfl
    show nI j = nI i ↔ _
    rw [nI_eq (by omega) (by omega), Option.some.injEq]
theorem Rel.kItem76 {B k : Nat} (h : Rel B k S w) (x1 x2 x3 x4 x5 x6 : Int32) {a b : Int32} {e : Int32} (he : (e = 3 ∧ ∃ k, k < 18 ∧ (mA w 6 k = x1 ∨ (k < zN S 5 ∧ mA w 16 k = x1))) ∨ (e = 0 ∧ ¬ ∃ k, k < 18 ∧ (mA w 6 k = x1 ∨ (k < zN S 5 ∧ mA w 16 k = x1)))) (ha : a = 0 ∨ a = 1) (hb : b = 0 ∨ b = 1) : g_X12_item_76 FU x1 x2 x3 x4 x5 x6 a b 0 0 w = g_X12_item_161 x1 x2 x3 x4 x5 x6 (if a = 0 then 1 else if b = 0 then 2 else e) w := by
  have h12 := h.lo.1
  obtain ⟨f1, f2, -⟩ := g_flag (fun f c j => g_X12_item_76 f x1 x2 x3 x4 x5 x6 a b c j) w 18 (fun k => mA w 6 k = x1 ∨ (k < zN S 5 ∧ mA w 16 k = x1)) 0 1 (fun c => g_X12_item_161 x1 x2 x3 x4 x5 x6 (if a = 0 then 1 else if b = 0 then 2 else if c = 0 then 0 else 3) w) (fun f s hs q => by
    by_cases q1 : mA w 6 s = x1
    · simp only [g_X12_item_76, kif, r_gb, gbn_s, r_grd, r_gbo, r_gret, r_gst, k_isIn, k_isSlot, k_isItem, k_isGroup, k_isRobot, k_are, k_holds0, k_holds1, k_holds2, k_holds3, k_bit, k_less, bI_t, bI_f, i10, i00, i01, i11, i20, i30, ↓reduceIte, show ¬ (18 : Int32) ≤ nI s from nI_ge (b := 18) hs (by decide), r_gnI (show s < mL 6 from hs) (show mL 6 < 2 ^ 31 by decide), nI_clamp (show s < 2 ^ 31 by omega), q1, nI_1]
    · rcases q with q | ⟨q2, q3⟩
      · exact absurd q q1
      · simp only [g_X12_item_76, kif, r_gb, gbn_s, r_grd, r_gbo, r_gret, r_gst, k_isIn, k_isSlot, k_isItem, k_isGroup, k_isRobot, k_are, k_holds0, k_holds1, k_holds2, k_holds3, k_bit, k_less, bI_t, bI_f, i10, i00, i01, i11, i20, i30, ↓reduceIte, show ¬ (18 : Int32) ≤ nI s from nI_ge (b := 18) hs (by decide), r_gnI (show s < mL 6 from hs) (show mL 6 < 2 ^ 31 by decide), nI_clamp (show s < 2 ^ 31 by omega), q1, nI_1, h.lo.2.2.1, nI_ge q2 (show zN S 5 < 2 ^ 31 by omega), r_gnI (show s < mL 16 from Nat.lt_of_lt_of_le q2 h12) (show mL 16 < 2 ^ 31 by decide), q3]) (fun f s hs q => by
    have q1 : ¬ mA w 6 s = x1 := fun r => q (Or.inl r)
    by_cases q2 : s < zN S 5
    · have q3 : ¬ mA w 16 s = x1 := fun r => q (Or.inr ⟨q2, r⟩)
      simp only [g_X12_item_76, kif, r_gb, gbn_s, r_grd, r_gbo, r_gret, r_gst, k_isIn, k_isSlot, k_isItem, k_isGroup, k_isRobot, k_are, k_holds0, k_holds1, k_holds2, k_holds3, k_bit, k_less, bI_t, bI_f, i10, i00, i01, i11, i20, i30, ↓reduceIte, show ¬ (18 : Int32) ≤ nI s from nI_ge (b := 18) hs (by decide), r_gnI (show s < mL 6 from hs) (show mL 6 < 2 ^ 31 by decide), nI_clamp (show s < 2 ^ 31 by omega), q1, nI_1, h.lo.2.2.1, nI_ge q2 (show zN S 5 < 2 ^ 31 by omega), r_gnI (show s < mL 16 from Nat.lt_of_lt_of_le q2 h12) (show mL 16 < 2 ^ 31 by decide), q3]
    · simp only [g_X12_item_76, kif, r_gb, gbn_s, r_grd, r_gbo, r_gret, r_gst, k_isIn, k_isSlot, k_isItem, k_isGroup, k_isRobot, k_are, k_holds0, k_holds1, k_holds2, k_holds3, k_bit, k_less, bI_t, bI_f, i10, i00, i01, i11, i20, i30, ↓reduceIte, show ¬ (18 : Int32) ≤ nI s from nI_ge (b := 18) hs (by decide), r_gnI (show s < mL 6 from hs) (show mL 6 < 2 ^ 31 by decide), nI_clamp (show s < 2 ^ 31 by omega), q1, nI_1, h.lo.2.2.1, nI_le (show zN S 5 ≤ s by omega) (show s < 2 ^ 31 by omega)]) (fun f s hs => by
    simp only [g_X12_item_76, kif, r_gb, gbn_s, r_grd, r_gbo, r_gret, r_gst, k_isIn, k_isSlot, k_isItem, k_isGroup, k_isRobot, k_are, k_holds0, k_holds1, k_holds2, k_holds3, k_bit, k_less, bI_t, bI_f, i10, i00, i01, i11, i20, i30, ↓reduceIte, show ¬ (18 : Int32) ≤ nI s from nI_ge (b := 18) hs (by decide), nI_1]) (fun f c hc => by
    rcases ha with rfl | rfl <;> rcases hb with rfl | rfl <;> rcases hc with rfl | rfl <;> simp only [g_X12_item_76, kif, r_gb, gbn_s, r_grd, r_gbo, r_gret, r_gst, k_isIn, k_isSlot, k_isItem, k_isGroup, k_isRobot, k_are, k_holds0, k_holds1, k_holds2, k_holds3, k_bit, k_less, bI_t, bI_f, i10, i00, i01, i11, i20, i30, ↓reduceIte, show (18 : Int32) ≤ nI 18 by decide]) FU (FU_gt (by omega))
  rcases he with ⟨e1, q⟩ | ⟨e1, q⟩
  · rw [e1]; exact f1 q
  · rw [e1]; exact f2 fun s hs hq => q ⟨s, hs, hq⟩
theorem Rel.lfE {B k : Nat} (h : Rel B k S w) {i : Nat} (hi : i < 6) : (∃ k, k < 18 ∧ (mA w 6 k = nI i ∨ (k < zN S 5 ∧ mA w 16 k = nI i))) ↔ (hasL S i ∨ hasF S i) := by
  have h12 := h.lo.1
  have hf : ∀ s, s < 18 → (mA w 6 s = nI i ↔ zO S 902 s = some i) := fun s hs => by
    obtain ⟨-, -, b3, -, -, b6, -⟩ := h.sl s hs
    rw [b3]; exact fcI_eq b6 hi
  have hl : ∀ l, l < zN S 5 → (mA w 16 l = nI i ↔ itS S l = i) := fun l hl => by
    obtain ⟨-, -, -, -, -, c6, c7⟩ := h.lo.2.2.2.1 l hl
    rw [c7]; exact nI_eq (by omega) (by omega)
  constructor
  · rintro ⟨k, h1, h2 | ⟨h2, h3⟩⟩
    · exact Or.inr ⟨k, h1, (hf k h1).mp h2⟩
    · exact Or.inl ⟨k, h2, (hl k h2).mp h3⟩
  · rintro (⟨l, h1, h2⟩ | ⟨s, h1, h2⟩)
    · exact ⟨l, by omega, Or.inr ⟨h1, (hl l h1).mpr h2⟩⟩
    · exact ⟨s, h1, Or.inl ((hf s h1).mpr h2)⟩
def iT (S : Ss) (i : Nat) (x2 x3 x4 x5 x6 : Int32) : Ss := pA 305 i x6 (pA 304 i x5 (pA 303 i x4 (pA 302 i x3 (pA 301 i x2 S))))
def iV (w : MS) (i : Nat) (x2 x3 x4 x5 x6 : Int32) : MS := mSA 13 i x6 (mSA 12 i x5 (mSA 11 i x4 (mSA 10 i x3 (mSA 9 i x2 w))))
theorem Rel.item {B k : Nat} (h : Rel B k S w) {i : Nat} (hi : i < 6) {x2 x3 x4 x5 x6 : Int32} (hn : ¬ (hasL S i ∨ hasF S i)) (h3 : tI x3 1 9) (h4 : tI x4 1 20) (h5 : ∃ g, g < 4 ∧ x5 = nI g) (h6 : tI x6 1 12) : Rel B k (iT S i x2 x3 x4 x5 x6) (iV w i x2 x3 x4 x5 x6) := by
  have hA : ∀ f, f ≠ 305 ∧ f ≠ 304 ∧ f ≠ 303 ∧ f ≠ 302 ∧ f ≠ 301 → zA (iT S i x2 x3 x4 x5 x6) f = zA S f := fun f hf => by unfold iT; rw [fAA hf.1, fAA hf.2.1, fAA hf.2.2.1, fAA hf.2.2.2.1, fAA hf.2.2.2.2]
  have hB : ∀ f, f ≠ 13 ∧ f ≠ 12 ∧ f ≠ 11 ∧ f ≠ 10 ∧ f ≠ 9 → mA (iV w i x2 x3 x4 x5 x6) f = mA w f := fun f hf => by unfold iV; rw [fBA hf.1, fBA hf.2.1, fBA hf.2.2.1, fBA hf.2.2.2.1, fBA hf.2.2.2.2]
  have hO : ∀ f, True → zO (iT S i x2 x3 x4 x5 x6) f = zO S f := fun f _ => rfl
  have hL : ∀ f, True → zL (iT S i x2 x3 x4 x5 x6) f = zL S f := fun f _ => rfl
  have hC : ∀ f, True → zC (iT S i x2 x3 x4 x5 x6) f = zC S f := fun f _ => rfl
  have hN : ∀ f, True → zN (iT S i x2 x3 x4 x5 x6) f = zN S f := fun f _ => rfl
  have hM : zM (iT S i x2 x3 x4 x5 x6) = zM S := rfl
  have hI : ∀ f, True → mI (iV w i x2 x3 x4 x5 x6) f = mI w f := fun f _ => rfl
  have it : g_it (iT S i x2 x3 x4 x5 x6) (iV w i x2 x3 x4 x5 x6) := by
    intro j hj
    obtain ⟨c1, c2, c3, c4, c5, c6, c7, c8, c9, c10⟩ := h.it j hj
    rw [hA 300 (by decide)]
    unfold iT iV
    simp only [tOA, tLA, tPA, tCA, tMA, tNA, tAO, tLO, tPO, tCO, tMO, tNO, tAL, tOL, tCL, tML, tNL, tAC, tOC, tLC, tPC, tMC, tNC, tAM, tOM, tLM, tPM, tCM, tNM, tAN, tON, tLN, tPN, tCN, tMN, fAA, fOO, fLL, fCC, fPL, fNN, sNN, sMM, fBA, tIB, tBI, fII, sII, sAA, sOO, sLL, sCC, sBA, ne_eq, Nat.reduceEqDiff, not_false_eq_true]
    by_cases q : j = i
    · simp only [q, ↓reduceIte]
      exact ⟨q ▸ c1, trivial, trivial, trivial, trivial, trivial, h3, h4, h5, h6⟩
    · simp only [q, ↓reduceIte]
      exact ⟨c1, c2, c3, c4, c5, c6, c7, c8, c9, c10⟩
  have bx : g_bx (iT S i x2 x3 x4 x5 x6) (iV w i x2 x3 x4 x5 x6) := by
    obtain ⟨n1, n2, n3⟩ := h.bx
    have hz : ∀ f, f = 302 ∨ f = 303 ∨ f = 304 → ∀ o, o < 6 → o ≠ i → zA S f o = zA (iT S i x2 x3 x4 x5 x6) f o := fun f hf o ho hoi => by
      unfold iT
      rcases hf with e | e | e <;> (rw [e]; simp only [tOA, tLA, tPA, tCA, tMA, tNA, tAO, tLO, tPO, tCO, tMO, tNO, tAL, tOL, tCL, tML, tNL, tAC, tOC, tLC, tPC, tMC, tNC, tAM, tOM, tLM, tPM, tCM, tNM, tAN, tON, tLN, tPN, tCN, tMN, fAA, fOO, fLL, fCC, fPL, fNN, sNN, sMM, fBA, tIB, tBI, fII, sII, sAA, sOO, sLL, sCC, sBA, ne_eq, Nat.reduceEqDiff, not_false_eq_true]; try rw [if_neg hoi])
    have c0 : ∀ o, o < 8 → zC S 1112 (6 * o + i) = 0 := fun o ho => by
      refine Classical.byContradiction fun r => ?_
      obtain ⟨l, l1, l2⟩ := n3 o i ho hi r
      exact hn (Or.inl ⟨l, l1, l2⟩)
    have ep : ∀ o, o < 8 → pkd (iT S i x2 x3 x4 x5 x6) o = pkd S o := fun o ho => by
      unfold pkd
      rw [hA 706 (by decide), hC 1112 trivial]
      refine ((pkS_cg hi ?_ (hz 302 (by decide)) (hz 303 (by decide)) (hz 304 (by decide)) 54).1).symm
      show (zC S 1112 (6 * o + i)).toNatClampNeg = 0
      rw [c0 o ho]; exact nI_z
    have h8 := h.or.1
    unfold g_bx itS
    rw [hN 7 trivial, hN 5 trivial, hA 705 (by decide), hC 1112 trivial, hO 501 trivial, hB 34 (by decide), hB 35 (by decide)]
    refine ⟨fun o ho hs => ?_, n2, n3⟩
    rw [ep o (by omega)]; exact n1 o ho hs
  exact ⟨(cg_sl (hA 900 (by decide)) (hA 901 (by decide)) (hA 903 (by decide)) (hA 904 (by decide)) (hO 902 (by decide)) (hB 4 (by decide)) (hB 5 (by decide)) (hB 6 (by decide)) (hB 7 (by decide)) (hB 8 (by decide)) h.sl), it, (cg_ba (hA 1115 (by decide)) (hB 14 (by decide)) h.ba), (cg_sc (hA 1116 (by decide)) (hA 1118 (by decide)) (hA 1117 (by decide)) (hI 1 (by decide)) (hI 2 (by decide)) (hI 3 (by decide)) h.sc), (cg_lo (hN 5 (by decide)) (hL 1103 (by decide)) (hA 500 (by decide)) (hA 502 (by decide)) (hA 503 (by decide)) (hO 501 (by decide)) (hI 15 (by decide)) (hB 16 (by decide)) (hB 17 (by decide)) (hB 18 (by decide)) h.lo), (cg_be (hL 1104 (by decide)) (hN 5 (by decide)) (hA 502 (by decide)) h.be), (cg_no (hN 6 (by decide)) (hL 1105 (by decide)) (hO 600 (by decide)) (hA 601 (by decide)) (hA 602 (by decide)) (hI 22 (by decide)) (hB 23 (by decide)) (hB 24 (by decide)) (hB 25 (by decide)) h.no), (cg_ca (hC 1110 (by decide)) (hB 26 (by decide)) h.ca), (cg_aw (hC 1111 (by decide)) (hN 7 (by decide)) (hA 705 (by decide)) (hB 33 (by decide)) h.aw), (cg_or (hN 7 (by decide)) (hN 72 (by decide)) (hL 1106 (by decide)) (hA 700 (by decide)) (hA 701 (by decide)) (hA 702 (by decide)) (hA 703 (by decide)) (hA 705 (by decide)) (hI 27 (by decide)) (hB 28 (by decide)) (hB 29 (by decide)) (hB 30 (by decide)) (hB 31 (by decide)) (hB 32 (by decide)) h.or), (cg_li (hN 7 (by decide)) (hL 704 (by decide)) (hN 4 (by decide)) (hO 400 (by decide)) (hA 401 (by decide)) (hA 402 (by decide)) (hA 403 (by decide)) (hB 31 (by decide)) (hB 36 (by decide)) (hB 37 (by decide)) (hB 38 (by decide)) h.li), (cg_bk (hC 0 (by decide)) (hC 1 (by decide)) (hN 5 (by decide)) (hO 501 (by decide)) (hB 19 (by decide)) h.bk), (cg_nn (hC 0 (by decide)) (hC 2 (by decide)) h.nn), (cg_tr (hC 2 (by decide)) (hC 0 (by decide)) (hB 20 (by decide)) h.tr), (cg_db (hC 5 (by decide)) (hB 21 (by decide)) h.db), (cg_mv (hA 7 (by decide)) (hN 60 (by decide)) hM (hC 0 (by decide)) h.mv), (cg_ho (hL 1107 (by decide)) (hN 2 (by decide)) (hA 204 (by decide)) (hN 5 (by decide)) (hO 203 (by decide)) (hA 202 (by decide)) (hO 200 (by decide)) (hO 201 (by decide)) (hO 205 (by decide)) (hN 7 (by decide)) (hL 704 (by decide)) (hA 705 (by decide)) (hN 10 (by decide)) (hO 1002 (by decide)) (hA 1005 (by decide)) (hA 1004 (by decide)) h.ho), (cg_hs (hC 3 (by decide)) (hL 1107 (by decide)) (hA 202 (by decide)) (hO 203 (by decide)) (hA 204 (by decide)) (hC 0 (by decide)) (hN 4 (by decide)) (hA 402 (by decide)) (hO 201 (by decide)) h.hs), (cg_hm (hI 39 (by decide)) (hL 1107 (by decide)) (hO 200 (by decide)) (hO 201 (by decide)) (hO 203 (by decide)) (hL 704 (by decide)) (hA 202 (by decide)) (hA 204 (by decide)) (hO 205 (by decide)) (hB 40 (by decide)) (hB 41 (by decide)) (hB 42 (by decide)) (hB 43 (by decide)) (hB 44 (by decide)) h.hm), (cg_ta (hN 10 (by decide)) (hL 1108 (by decide)) (hI 45 (by decide)) (hA 1000 (by decide)) (hA 1001 (by decide)) (hA 1003 (by decide)) (hA 1004 (by decide)) (hA 1005 (by decide)) (hA 1006 (by decide)) (hO 1002 (by decide)) (hN 2 (by decide)) (hO 203 (by decide)) (hN 5 (by decide)) (hL 1107 (by decide)) (hO 205 (by decide)) (hO 200 (by decide)) (hO 201 (by decide)) (hA 202 (by decide)) (hN 7 (by decide)) (hL 704 (by decide)) (hB 46 (by decide)) (hB 47 (by decide)) (hB 48 (by decide)) (hB 49 (by decide)) (hB 50 (by decide)) (hB 51 (by decide)) (hB 52 (by decide)) (hB 54 (by decide)) h.ta), (cg_ap (hC 4 (by decide)) (hN 10 (by decide)) (hA 1005 (by decide)) (hA 1001 (by decide)) (hA 1003 (by decide)) (hA 1004 (by decide)) (hO 501 (by decide)) (hO 203 (by decide)) (hO 1002 (by decide)) (hO 902 (by decide)) h.ap), (cg_ro (hA 801 (by decide)) (hA 802 (by decide)) (hL 800 (by decide)) (hA 1005 (by decide)) (hN 10 (by decide)) (hB 53 (by decide)) (hB 55 (by decide)) (hB 56 (by decide)) (hB 58 (by decide)) (hB 59 (by decide)) h.ro), (cg_st (hN 7 (by decide)) (hA 705 (by decide)) (hN 5 (by decide)) (hC 0 (by decide)) (hL 704 (by decide)) (hA 403 (by decide)) h.st), bx⟩
theorem s_item (g : GG m S w) (hm : m < 512) (x1 x2 x3 x4 x5 x6 : Int32) : STv GG m S w (f_X11_item x1 x2 x3 x4 x5 x6) (g_X12_item x1 x2 x3 x4 x5 x6) [(1, 1), (2, 2), (3, 3)] := by
  obtain ⟨-, -, -, B, k, hB, -, h⟩ := id g
  cases h1 : okI x1 6 with
  | false =>
    obtain ⟨e, he⟩ : ∃ e : Int32, (e = 3 ∧ ∃ k, k < 18 ∧ (mA w 6 k = x1 ∨ (k < zN S 5 ∧ mA w 16 k = x1))) ∨ (e = 0 ∧ ¬ ∃ k, k < 18 ∧ (mA w 6 k = x1 ∨ (k < zN S 5 ∧ mA w 16 k = x1))) := by
      by_cases q : ∃ k, k < 18 ∧ (mA w 6 k = x1 ∨ (k < zN S 5 ∧ mA w 16 k = x1))
      · exact ⟨3, Or.inl ⟨rfl, q⟩⟩
      · exact ⟨0, Or.inr ⟨rfl, q⟩⟩
    have k76 := fun a b (ha : a = 0 ∨ a = 1) (hb : b = 0 ∨ b = 1) => h.kItem76 x1 x2 x3 x4 x5 x6 (a := a) (b := b) he ha hb
    have k0 := k76 0 0 (Or.inl rfl) (Or.inl rfl)
    have k1 := k76 0 1 (Or.inl rfl) (Or.inr rfl)
    simp only [↓reduceIte] at k0 k1
    refine stv_th g hm (u := 1) (c := 1) ?_ ?_ (by simp) (by decide) (by decide)
    · simp only [f_X11_item, r_mb, bnd_s, r_mrd, r_mbo, r_mret, r_mthr, r_wA, r_wO, r_madd, r_mput, r_mopt, r_mcn, r_mcs, ite_f, e_isWithin, e_isSlot, e_isItem, e_isGroup, e_isRobot, e_isLot, e_isNotice, e_isOrder, e_isTask, bI_t, bI_f, i10, i00, i01, i11, i20, i30, ↓reduceIte, h1]; try rfl
    · cases q1 : inI x2 0 2 <;> cases q2 : inI x3 1 9 <;> cases q3 : inI x4 1 20 <;> cases q4 : inI x6 1 12 <;> (simp only [g_X12_item, g_X12_item_19, g_X12_item_20, g_X12_item_67, g_X12_item_161, kif, r_gb, gbn_s, r_grd, r_gbo, r_gret, r_gst, k_isIn, k_isSlot, k_isItem, k_isGroup, k_isRobot, k_are, k_holds0, k_holds1, k_holds2, k_holds3, k_bit, k_less, bI_t, bI_f, i10, i00, i01, i11, i20, i30, ↓reduceIte, h1, q1, q2, q3, q4, k0, k1]; try rfl)
  | true =>
    obtain ⟨i, hi, rfl⟩ := okI_t (by decide) h1
    obtain ⟨e, he, he2⟩ : ∃ e : Int32, ((e = 3 ∧ ∃ k, k < 18 ∧ (mA w 6 k = nI i ∨ (k < zN S 5 ∧ mA w 16 k = nI i))) ∨ (e = 0 ∧ ¬ ∃ k, k < 18 ∧ (mA w 6 k = nI i ∨ (k < zN S 5 ∧ mA w 16 k = nI i)))) ∧ ((hasL S i ∨ hasF S i → e = 3) ∧ (¬ (hasL S i ∨ hasF S i) → e = 0)) := by
      rw [h.lfE hi]
      by_cases q : hasL S i ∨ hasF S i
      · exact ⟨3, Or.inl ⟨rfl, q⟩, fun _ => rfl, fun r => absurd q r⟩
      · exact ⟨0, Or.inr ⟨rfl, q⟩, fun r => absurd r q, fun _ => rfl⟩
    have k76 := fun a b (ha : a = 0 ∨ a = 1) (hb : b = 0 ∨ b = 1) => h.kItem76 (nI i) x2 x3 x4 x5 x6 (a := a) (b := b) he ha hb
    have k0 := k76 0 0 (Or.inl rfl) (Or.inl rfl)
    have k1 := k76 0 1 (Or.inl rfl) (Or.inr rfl)
    have k2 := k76 1 0 (Or.inr rfl) (Or.inl rfl)
    have k3 := k76 1 1 (Or.inr rfl) (Or.inr rfl)
    simp only [↓reduceIte, i10] at k0 k1 k2 k3
    cases h2 : okI x5 4 with
    | false =>
      refine stv_th g hm (u := 1) (c := 1) ?_ ?_ (by simp) (by decide) (by decide)
      · simp only [f_X11_item, r_mb, bnd_s, r_mrd, r_mbo, r_mret, r_mthr, r_wA, r_wO, r_madd, r_mput, r_mopt, r_mcn, r_mcs, ite_f, e_isWithin, e_isSlot, e_isItem, e_isGroup, e_isRobot, e_isLot, e_isNotice, e_isOrder, e_isTask, bI_t, bI_f, i10, i00, i01, i11, i20, i30, ↓reduceIte, h1, h2]; try rfl
      · cases q1 : inI x2 0 2 <;> cases q2 : inI x3 1 9 <;> cases q3 : inI x4 1 20 <;> cases q4 : inI x6 1 12 <;> (simp only [g_X12_item, g_X12_item_19, g_X12_item_20, g_X12_item_67, g_X12_item_161, kif, r_gb, gbn_s, r_grd, r_gbo, r_gret, r_gst, k_isIn, k_isSlot, k_isItem, k_isGroup, k_isRobot, k_are, k_holds0, k_holds1, k_holds2, k_holds3, k_bit, k_less, bI_t, bI_f, i10, i00, i01, i11, i20, i30, ↓reduceIte, h1, h2, q1, q2, q3, q4, k0, k1]; try rfl)
    | true =>
      by_cases hq : inI x2 0 2 = true ∧ inI x3 1 9 = true ∧ inI x4 1 20 = true ∧ inI x6 1 12 = true
      · obtain ⟨q1, q2, q3, q4⟩ := hq
        by_cases hl : hasL S i ∨ hasF S i
        · refine stv_th g hm (u := 3) (c := 3) ?_ ?_ (by simp) (by decide) (by decide)
          · simp only [f_X11_item, r_mb, bnd_s, r_mrd, r_mbo, r_mret, r_mthr, r_wA, r_wO, r_madd, r_mput, r_mopt, r_mcn, r_mcs, ite_f, e_isWithin, e_isSlot, e_isItem, e_isGroup, e_isRobot, e_isLot, e_isNotice, e_isOrder, e_isTask, bI_t, bI_f, i10, i00, i01, i11, i20, i30, ↓reduceIte, h1, h2, q1, q2, q3, q4, r_mnI (show i < aLn 1101 from hi) (show aLn 1101 < 2 ^ 31 by decide), nI_clamp (show i < 2 ^ 31 by omega), (h.eLF hi).1 hl]; try rfl
          · simp only [g_X12_item, g_X12_item_20, g_X12_item_161, kif, r_gb, gbn_s, r_grd, r_gbo, r_gret, r_gst, k_isIn, k_isSlot, k_isItem, k_isGroup, k_isRobot, k_are, k_holds0, k_holds1, k_holds2, k_holds3, k_bit, k_less, bI_t, bI_f, i10, i00, i01, i11, i20, i30, ↓reduceIte, h1, h2, q1, q2, q3, q4, k3, he2.1 hl]; try rfl
        · have hg := okI_t (by decide) h2
          refine stv_st (T := iT S i x2 x3 x4 x5 x6) (v := iV (mSI 0 0 w) i x2 x3 x4 x5 x6) (r := 0) ?_ ?_ ?_ rfl
          · have fA : ∀ f, f ≠ 305 ∧ f ≠ 304 ∧ f ≠ 303 ∧ f ≠ 302 ∧ f ≠ 301 → ∀ t, zA (iT S i x2 x3 x4 x5 x6) f t = zA S f t := fun f hf t => by unfold iT; rw [fAA hf.1, fAA hf.2.1, fAA hf.2.2.1, fAA hf.2.2.2.1, fAA hf.2.2.2.2]
            exact g.st hm rfl rfl (fA 1005 (by decide)) (fA 1006 (by decide)) (fA 705 (by decide)) fun B k hB hR => ⟨B, by omega, (hR.thr 0).item hi hl (inI_t q2) (inI_t q3) hg (inI_t q4)⟩
          · simp only [f_X11_item, r_mb, bnd_s, r_mrd, r_mbo, r_mret, r_mthr, r_wA, r_wO, r_madd, r_mput, r_mopt, r_mcn, r_mcs, ite_f, e_isWithin, e_isSlot, e_isItem, e_isGroup, e_isRobot, e_isLot, e_isNotice, e_isOrder, e_isTask, bI_t, bI_f, i10, i00, i01, i11, i20, i30, ↓reduceIte, h1, h2, q1, q2, q3, q4, r_mnI (show i < aLn 1101 from hi) (show aLn 1101 < 2 ^ 31 by decide), nI_clamp (show i < 2 ^ 31 by omega), (h.eLF hi).2 hl]; try rfl
          · simp only [g_X12_item, g_X12_item_20, g_X12_item_161, kif, r_gb, gbn_s, r_grd, r_gbo, r_gret, r_gst, k_isIn, k_isSlot, k_isItem, k_isGroup, k_isRobot, k_are, k_holds0, k_holds1, k_holds2, k_holds3, k_bit, k_less, bI_t, bI_f, i10, i00, i01, i11, i20, i30, ↓reduceIte, h1, h2, q1, q2, q3, q4, k3, he2.2 hl, r_gnI (show i < mL 9 from hi) (show mL 9 < 2 ^ 31 by decide), r_gnI (show i < mL 10 from hi) (show mL 10 < 2 ^ 31 by decide), r_gnI (show i < mL 11 from hi) (show mL 11 < 2 ^ 31 by decide), r_gnI (show i < mL 12 from hi) (show mL 12 < 2 ^ 31 by decide), r_gnI (show i < mL 13 from hi) (show mL 13 < 2 ^ 31 by decide), nI_clamp (show i < 2 ^ 31 by omega)]; try rfl
      · refine stv_th g hm (u := 2) (c := 2) ?_ ?_ (by simp) (by decide) (by decide)
        · cases q1 : inI x2 0 2 with
          | false => simp only [f_X11_item, r_mb, bnd_s, r_mrd, r_mbo, r_mret, r_mthr, r_wA, r_wO, r_madd, r_mput, r_mopt, r_mcn, r_mcs, ite_f, e_isWithin, e_isSlot, e_isItem, e_isGroup, e_isRobot, e_isLot, e_isNotice, e_isOrder, e_isTask, bI_t, bI_f, i10, i00, i01, i11, i20, i30, ↓reduceIte, h1, h2, q1]; try rfl
          | true =>
            cases q2 : inI x3 1 9 with
            | false => simp only [f_X11_item, r_mb, bnd_s, r_mrd, r_mbo, r_mret, r_mthr, r_wA, r_wO, r_madd, r_mput, r_mopt, r_mcn, r_mcs, ite_f, e_isWithin, e_isSlot, e_isItem, e_isGroup, e_isRobot, e_isLot, e_isNotice, e_isOrder, e_isTask, bI_t, bI_f, i10, i00, i01, i11, i20, i30, ↓reduceIte, h1, h2, q1, q2]; try rfl
            | true =>
              cases q3 : inI x4 1 20 with
              | false => simp only [f_X11_item, r_mb, bnd_s, r_mrd, r_mbo, r_mret, r_mthr, r_wA, r_wO, r_madd, r_mput, r_mopt, r_mcn, r_mcs, ite_f, e_isWithin, e_isSlot, e_isItem, e_isGroup, e_isRobot, e_isLot, e_isNotice, e_isOrder, e_isTask, bI_t, bI_f, i10, i00, i01, i11, i20, i30, ↓reduceIte, h1, h2, q1, q2, q3]; try rfl
              | true =>
                cases q4 : inI x6 1 12 with
                | false => simp only [f_X11_item, r_mb, bnd_s, r_mrd, r_mbo, r_mret, r_mthr, r_wA, r_wO, r_madd, r_mput, r_mopt, r_mcn, r_mcs, ite_f, e_isWithin, e_isSlot, e_isItem, e_isGroup, e_isRobot, e_isLot, e_isNotice, e_isOrder, e_isTask, bI_t, bI_f, i10, i00, i01, i11, i20, i30, ↓reduceIte, h1, h2, q1, q2, q3, q4]; try rfl
                | true =>
                  exact absurd ⟨q1, q2, q3, q4⟩ hq
        · cases q1 : inI x2 0 2 with
          | false => simp only [g_X12_item, g_X12_item_20, g_X12_item_67, g_X12_item_161, kif, r_gb, gbn_s, r_grd, r_gbo, r_gret, r_gst, k_isIn, k_isSlot, k_isItem, k_isGroup, k_isRobot, k_are, k_holds0, k_holds1, k_holds2, k_holds3, k_bit, k_less, bI_t, bI_f, i10, i00, i01, i11, i20, i30, ↓reduceIte, h1, h2, q1, k2]; try rfl
          | true =>
            cases q2 : inI x3 1 9 with
            | false => simp only [g_X12_item, g_X12_item_20, g_X12_item_67, g_X12_item_161, kif, r_gb, gbn_s, r_grd, r_gbo, r_gret, r_gst, k_isIn, k_isSlot, k_isItem, k_isGroup, k_isRobot, k_are, k_holds0, k_holds1, k_holds2, k_holds3, k_bit, k_less, bI_t, bI_f, i10, i00, i01, i11, i20, i30, ↓reduceIte, h1, h2, q1, q2, k2]; try rfl
            | true =>
              cases q3 : inI x4 1 20 with
              | false => simp only [g_X12_item, g_X12_item_20, g_X12_item_67, g_X12_item_161, kif, r_gb, gbn_s, r_grd, r_gbo, r_gret, r_gst, k_isIn, k_isSlot, k_isItem, k_isGroup, k_isRobot, k_are, k_holds0, k_holds1, k_holds2, k_holds3, k_bit, k_less, bI_t, bI_f, i10, i00, i01, i11, i20, i30, ↓reduceIte, h1, h2, q1, q2, q3, k2]; try rfl
              | true =>
                cases q4 : inI x6 1 12 with
                | false => simp only [g_X12_item, g_X12_item_20, g_X12_item_67, g_X12_item_161, kif, r_gb, gbn_s, r_grd, r_gbo, r_gret, r_gst, k_isIn, k_isSlot, k_isItem, k_isGroup, k_isRobot, k_are, k_holds0, k_holds1, k_holds2, k_holds3, k_bit, k_less, bI_t, bI_f, i10, i00, i01, i11, i20, i30, ↓reduceIte, h1, h2, q1, q2, q3, q4, k2]; try rfl
                | true =>
                  exact absurd ⟨q1, q2, q3, q4⟩ hq
end
