/-! packing, whole; the reference's -/
section
variable {S T : Ss} {w v : MS}
theorem e_pack45 (K : Nat → Int32 → Int32 → MM Unit) (b : Int32) {o q : Nat} {c : Nat → Nat} (hq : q < 9) (hI : ∀ i, i < 6 → zA S 300 i = nI i) (hz : ∀ i, i < 6 → tI (zA S 302 i) 1 9) (hc : c 0 + c 1 + c 2 + c 3 + c 4 + c 5 ≤ 297) (hp : ∀ U i, i < 6 → PFc S U → (f_X11_piecesToPack o i).1 U = some (nI (c i), U)) (h : BXc S (pkS (zA S 302) (zA S 303) (zA S 304) b c (6 * q))) : ∃ T, (f_X11_pack_45 K FU o b (nI (9 - q)) (nI 6) 0).1 S = (K o b (nI (9 - q) + (-1))).1 T ∧ BXc T (pkS (zA S 302) (zA S 303) (zA S 304) b c (6 * (q + 1))) ∧ PFc S T := by
  obtain ⟨T, -, ⟨i1, i2⟩, e⟩ := m_loop (α := Unit) (fun f _ j => f_X11_pack_45 K f o b (nI (9 - q)) (nI 6) j) 6 (fun j U _ => BXc U (pkS (zA S 302) (zA S 303) (zA S 304) b c (6 * q + j)) ∧ PFc S U) (fun _ U => (K o b (nI (9 - q) + (-1))).1 U) (fun f j U _ hj hI2 => by
    obtain ⟨i1, i2⟩ := hI2
    have m6 : (6 * q + j) % 6 = j := by omega
    have d6 : (6 * q + j) / 6 = q := by omega
    have e302 : zA U 302 = zA S 302 := i2.1 302 (by decide)
    obtain ⟨s1, s2, s3⟩ := dks_step (z := zA S 302) (c := c) (k := 6 * q + j) (by omega) hz
    obtain ⟨s4, s5, s6⟩ := dks_step (z := zA S 302) (c := c) (k := 53) (by omega) hz
    have pl := pk_len (t := zA S 303) (g := zA S 304) (b := b) (c := c) hz (6 * q + j) (by omega)
    rw [m6, d6] at s1
    by_cases q1 : zA S 302 j = nI (9 - q)
    · have cb : (pkS (zA S 302) (zA S 303) (zA S 304) b c (6 * q + j)).length + c j ≤ 297 := by
        have := s1 q1
        have h9 : dks (zA S 302) c (6 * q + j + 1) ≤ c 0 + c 1 + c 2 + c 3 + c 4 + c 5 := by
          have one : ∀ i, dk (zA S 302) c (6 * q + j + 1) i ≤ c i := fun i => by unfold dk; split <;> omega
          have o0 := one 0; have o1 := one 1; have o2 := one 2; have o3 := one 3; have o4 := one 4; have o5 := one 5
          unfold dks; omega
        omega
      obtain ⟨V, v1, v2, v3⟩ := e_fill6 b (i := j) (c j + (pkS (zA S 302) (zA S 303) (zA S 304) b c (6 * q + j)).length) FU (c j) U [] (pkS (zA S 302) (zA S 303) (zA S 304) b c (6 * q + j)) (Nat.le_refl _) (by have := FU_gt (n := 1000) (by decide); omega) (by rw [i2.1 300 (by decide)]; exact hI) hj (by simp only [List.length_nil]; omega) i1
      rw [e302, i2.1 303 (by decide), i2.1 304 (by decide)] at v2
      refine ⟨V, (), ?_, ?_, i2.tr v3⟩
      · have v1' : (f_X11_fillBoxes j (nI (c j)) b).1 U = some ((), V) := v1
        simp only [f_X11_pack_45, r_mb, bnd_s, r_mrd, r_mbo, r_mret, r_mthr, r_wA, r_wO, r_madd, r_mput, r_mopt, r_mcn, r_mcs, ite_f, e_isWithin, e_isSlot, e_isItem, e_isGroup, e_isRobot, e_isLot, e_isNotice, e_isOrder, e_isTask, bI_t, bI_f, i10, i00, i01, i11, i20, i30, ↓reduceIte, nI_ge hj (show 6 < 2 ^ 31 by decide), r_mnI (show j < aLn 1101 from hj) (show aLn 1101 < 2 ^ 31 by decide), nI_clamp (show j < 2 ^ 31 by omega), e302, q1, hp U j hj i2, v1', nI_1]
      · have e9 : 6 * q + (j + 1) = (6 * q + j) + 1 := by omega
        rw [e9, pkS, m6, d6, if_pos q1]; exact v2
    · refine ⟨U, (), ?_, ?_, i2⟩
      · simp only [f_X11_pack_45, r_mb, bnd_s, r_mrd, r_mbo, r_mret, r_mthr, r_wA, r_wO, r_madd, r_mput, r_mopt, r_mcn, r_mcs, ite_f, e_isWithin, e_isSlot, e_isItem, e_isGroup, e_isRobot, e_isLot, e_isNotice, e_isOrder, e_isTask, bI_t, bI_f, i10, i00, i01, i11, i20, i30, ↓reduceIte, nI_ge hj (show 6 < 2 ^ 31 by decide), r_mnI (show j < aLn 1101 from hj) (show aLn 1101 < 2 ^ 31 by decide), nI_clamp (show j < 2 ^ 31 by omega), e302, q1, nI_1]
      · have e9 : 6 * q + (j + 1) = (6 * q + j) + 1 := by omega
        rw [e9, pkS, m6, d6, if_neg q1]; exact i1) (fun f U _ hI2 => by
    simp only [f_X11_pack_45, r_mb, bnd_s, r_mrd, r_mbo, r_mret, r_mthr, r_wA, r_wO, r_madd, r_mput, r_mopt, r_mcn, r_mcs, ite_f, e_isWithin, e_isSlot, e_isItem, e_isGroup, e_isRobot, e_isLot, e_isNotice, e_isOrder, e_isTask, bI_t, bI_f, i10, i00, i01, i11, i20, i30, ↓reduceIte, Int32.le_refl]) FU (FU_gt (by decide)) (S := S) (a := ()) ⟨h, PFc.rf S⟩
  exact ⟨T, e, i1, i2⟩
theorem e_pack (b : Int32) {o : Nat} {c : Nat → Nat} (hb : b = if zA S 705 o = 0 then zA S 1115 0 else zA S 706 o) (hI : ∀ i, i < 6 → zA S 300 i = nI i) (hz : ∀ i, i < 6 → tI (zA S 302 i) 1 9) (hc : c 0 + c 1 + c 2 + c 3 + c 4 + c 5 ≤ 297) (hp : ∀ U i, i < 6 → PFc S U → (f_X11_piecesToPack o i).1 U = some (nI (c i), U)) : ∃ T, (f_X11_pack o).1 S = some ((), T) ∧ BXc T (pkS (zA S 302) (zA S 303) (zA S 304) b c 54) ∧ PFc S T := by
  have p0 : PFc S (pA 1114 0 0 S) := ⟨fun f hf => fAA hf, rfl, rfl, rfl, rfl, rfl, fun _ _ => rfl⟩
  have sub : ∀ q, q ≤ 9 → (9 : Int32) - nI q = nI (9 - q) := fun q hq => by rw [show (9 : Int32) = nI 9 from rfl, pk_sub hq]
  obtain ⟨T, -, ⟨i1, i2⟩, e⟩ := m_loop (α := Unit) (fun f _ j => f_X11_pack_27 f o b (9 - j)) 9 (fun q U _ => BXc U (pkS (zA S 302) (zA S 303) (zA S 304) b c (6 * q)) ∧ PFc S U) (fun _ U => some ((), U)) (fun f q U _ hq hI2 => by
    obtain ⟨i1, i2⟩ := hI2
    have hI3 : ∀ i, i < 6 → zA U 300 i = nI i := by rw [i2.1 300 (by decide)]; exact hI
    have e2 : zA U 302 = zA S 302 := i2.1 302 (by decide)
    have e3 : zA U 303 = zA S 303 := i2.1 303 (by decide)
    have e4 : zA U 304 = zA S 304 := i2.1 304 (by decide)
    obtain ⟨V, v1, v2, v3⟩ := e_pack45 (S := U) (f_X11_pack_27 f) b (o := o) (q := q) (c := c) hq hI3 (by rw [e2]; exact hz) hc (fun W i hi hW => hp W i hi (i2.tr hW)) (by rw [e2, e3, e4]; exact i1)
    rw [e2, e3, e4] at v2
    refine ⟨V, (), ?_, v2, i2.tr v3⟩
    have hn : ¬ nI (9 - q) ≤ 0 := nI_nle (by omega) (by omega)
    have m1 : nI (9 - q) + (-1) = nI (9 - (q + 1)) := by
      rw [show 9 - q = (9 - (q + 1)) + 1 by omega]; exact pk_m1 _
    show (f_X11_pack_27 (f + 1) o b (9 - nI q)).1 U = (f_X11_pack_27 f o b (9 - nI (q + 1))).1 V
    rw [sub q (by omega), sub (q + 1) (by omega), ← m1, ← v1]
    simp only [f_X11_pack_27, ite_f, hn, ↓reduceIte, r_mbo]; rfl) (fun f U _ _ => by
    show (f_X11_pack_27 (f + 1) o b (9 - nI 9)).1 U = _
    rw [sub 9 (by omega)]
    simp only [f_X11_pack_27, ite_f, show nI (9 - 9) ≤ (0 : Int32) by decide, ↓reduceIte, r_mret]) FU (FU_gt (by decide)) (S := pA 1114 0 0 S) (a := ()) ⟨⟨by rw [sAA, if_pos rfl]; rfl, fun k x hk => by simp [pkS] at hk⟩, p0⟩
  refine ⟨T, ?_, i1, i2⟩
  have e18 : (f_X11_pack_18 o b).1 S = some ((), T) := by
    unfold f_X11_pack_18
    rw [r_wA, ← e, Int32.sub_zero]
  unfold f_X11_pack
  rw [r_mrd, ite_f]
  split
  · rename_i r; rw [if_pos r] at hb; rw [← hb]; exact e18
  · rename_i r; rw [if_neg r] at hb; rw [← hb]; exact e18
/-- the reference's boxes -/
def BXr (w : MS) (bs : List Bx) : Prop := ∀ k x, bs[k]? = some x → mA w 61 k = x.1 ∧ mA w 62 k = x.2.1 ∧ mA w 63 k = x.2.2.1 ∧ mA w 64 k = x.2.2.2
def PFr (w v : MS) : Prop := mI v = mI w ∧ ∀ k, k ≠ 60 ∧ k ≠ 61 ∧ k ≠ 62 ∧ k ≠ 63 ∧ k ≠ 64 → mA v k = mA w k
theorem PFr.rf (w : MS) : PFr w w := ⟨rfl, fun _ _ => rfl⟩
theorem PFr.tr {w v u : MS} (h : PFr w v) (g : PFr v u) : PFr w u := ⟨g.1.trans h.1, fun k hk => (g.2 k hk).trans (h.2 k hk)⟩
theorem put1_at (z t g : Nat → Int32) (b : Int32) (i : Nat) : ∀ (xs : List Bx), (∃ A x C, xs = A ++ x :: C ∧ (∀ y, y ∈ A → ¬ bxF z t g b i y = true) ∧ bxF z t g b i x = true ∧ put1 z t g b i xs = A ++ bxP z t i x :: C) ∨ ((∀ y, y ∈ xs → ¬ bxF z t g b i y = true) ∧ put1 z t g b i xs = xs ++ [bxP z t i (0, 0, 0, 0)])
  | [] => Or.inr ⟨fun y hy => (by cases hy), rfl⟩
  | x :: r => by
    by_cases q : bxF z t g b i x = true
    · exact Or.inl ⟨[], x, r, rfl, fun y hy => (by cases hy), q, by rw [put1, if_pos q]; rfl⟩
    · rcases put1_at z t g b i r with ⟨A, y, C, a1, a2, a3, a4⟩ | ⟨a1, a2⟩
      · refine Or.inl ⟨x :: A, y, C, by rw [a1]; rfl, fun u hu => ?_, a3, by rw [put1, if_neg q, a4]; rfl⟩
        rcases List.mem_cons.mp hu with e | e
        · rw [e]; exact q
        · exact a2 u e
      · refine Or.inr ⟨fun u hu => ?_, by rw [put1, if_neg q, a2]; rfl⟩
        rcases List.mem_cons.mp hu with e | e
        · rw [e]; exact q
        · exact a1 u e
/-- what the reference's items are, for packing -/
def PI (S : Ss) (w : MS) : Prop := (∀ i, i < 6 → mA w 10 i = zA S 302 i ∧ mA w 11 i = zA S 303 i ∧ mA w 12 i = zA S 304 i ∧ ∃ g, g < 4 ∧ zA S 304 i = nI g) ∧ ∀ g o, g < 4 → o < 4 → (mA w 14 (4 * g + o) = 0 ↔ isBar (zA S 1115 0) (nI g) (nI o) = false)
theorem Rel.pi {B k : Nat} (h : Rel B k S w) : PI S w := by
  refine ⟨fun i hi => ?_, fun g o hg ho => ?_⟩
  · obtain ⟨-, -, a3, a4, a5, -, -, -, a9, -⟩ := h.it i hi
    exact ⟨a3, a4, a5, a9⟩
  · obtain ⟨b1, b2⟩ := h.ba g o hg ho
    unfold isBar
    rw [decide_eq_false_iff_not]
    constructor
    · intro r q
      have := b2.mpr q
      rw [r] at this; exact absurd this (by decide)
    · intro r
      rcases b1 with b1 | b1
      · exact b1
      · exact absurd (b2.mp b1) r
theorem k_fits (hP : PI S w) {bs : List Bx} {k : Nat} {x : Bx} {i : Nat} (h : BXr w bs) (hx : bs[k]? = some x) (hk : k < 300) (hi : i < 6) : g_X12_fitsInto (nI k) (nI i) w = some (bI (bxF (zA S 302) (zA S 303) (zA S 304) (zA S 1115 0) i x), w) := by
  obtain ⟨a1, a2, a3, a4⟩ := h k x hx
  obtain ⟨p1, p2⟩ := hP
  obtain ⟨c1, c2, c3, gi, c4, c5⟩ := p1 i hi
  have loop := g_flag (fun f a j => g_X12_fitsInto_45 f (nI k) (nI i) a j) w 6 (fun o => (x.2.2.2 >>> (nI o &&& 31)) &&& 1 = 1 ∧ o ≠ i ∧ isBar (zA S 1115 0) (zA S 304 o) (zA S 304 i) = true) 1 0 (fun a => some (a, w)) (fun f o ho q => by
    obtain ⟨q1, q2, q3⟩ := q
    obtain ⟨d1, d2, d3, go, d4, d5⟩ := p1 o ho
    have q2' : ¬ nI o = nI i := fun r => q2 ((nI_eq (by omega) (by omega)).mp r)
    have j14 : 4 * go + gi < mL 14 := show 4 * go + gi < 16 by omega
    have e4 : (4 : Int32) * nI go + nI gi = nI (4 * go + gi) := by rw [show (4 : Int32) = nI 4 from rfl, pk_mul, nI_add]
    have nb : ¬ mA w 14 (4 * go + gi) = 0 := fun r => by
      have := (p2 go gi d4 c4).mp r
      rw [d5, c5] at q3
      rw [q3] at this; cases this
    simp only [g_X12_fitsInto_45, g_X12_fitsInto_78, kif, r_gb, gbn_s, r_grd, r_gbo, r_gret, r_gst, k_isIn, k_isSlot, k_isItem, k_isGroup, k_isRobot, k_are, k_holds0, k_holds1, k_holds2, k_holds3, k_bit, k_less, bI_t, bI_f, i10, i00, i01, i11, i20, i30, ↓reduceIte, show ¬ (6 : Int32) ≤ nI o from nI_ge (b := 6) ho (by decide), r_gnI (show k < mL 64 from hk) (show mL 64 < 2 ^ 31 by decide), nI_clamp (show k < 2 ^ 31 by omega), a4, q1, q2', r_gnI (show o < mL 12 from ho) (show mL 12 < 2 ^ 31 by decide), r_gnI (show i < mL 12 from hi) (show mL 12 < 2 ^ 31 by decide), nI_clamp (show o < 2 ^ 31 by omega), nI_clamp (show i < 2 ^ 31 by omega), d3, d5, c3, c5, e4, r_gnI j14 (show mL 14 < 2 ^ 31 by decide), nI_clamp (show 4 * go + gi < 2 ^ 31 by omega), nb, nI_1]) (fun f o ho q => by
    obtain ⟨d1, d2, d3, go, d4, d5⟩ := p1 o ho
    have j14 : 4 * go + gi < mL 14 := show 4 * go + gi < 16 by omega
    have e4 : (4 : Int32) * nI go + nI gi = nI (4 * go + gi) := by rw [show (4 : Int32) = nI 4 from rfl, pk_mul, nI_add]
    by_cases q1 : (x.2.2.2 >>> (nI o &&& 31)) &&& 1 = 1
    · by_cases q2 : o = i
      · simp only [g_X12_fitsInto_45, g_X12_fitsInto_77, g_X12_fitsInto_78, kif, r_gb, gbn_s, r_grd, r_gbo, r_gret, r_gst, k_isIn, k_isSlot, k_isItem, k_isGroup, k_isRobot, k_are, k_holds0, k_holds1, k_holds2, k_holds3, k_bit, k_less, bI_t, bI_f, i10, i00, i01, i11, i20, i30, ↓reduceIte, show ¬ (6 : Int32) ≤ nI o from nI_ge (b := 6) ho (by decide), r_gnI (show k < mL 64 from hk) (show mL 64 < 2 ^ 31 by decide), nI_clamp (show k < 2 ^ 31 by omega), a4, q1, (eq_true (congrArg nI q2) : (nI o = nI i) = True), nI_1]
      · have q2' : ¬ nI o = nI i := fun r => q2 ((nI_eq (by omega) (by omega)).mp r)
        have yb : mA w 14 (4 * go + gi) = 0 := by
          refine (p2 go gi d4 c4).mpr ?_
          rw [← d5, ← c5]
          cases q4 : isBar (zA S 1115 0) (zA S 304 o) (zA S 304 i) with
          | false => rfl
          | true => exact absurd ⟨q1, q2, q4⟩ q
        simp only [g_X12_fitsInto_45, g_X12_fitsInto_78, kif, r_gb, gbn_s, r_grd, r_gbo, r_gret, r_gst, k_isIn, k_isSlot, k_isItem, k_isGroup, k_isRobot, k_are, k_holds0, k_holds1, k_holds2, k_holds3, k_bit, k_less, bI_t, bI_f, i10, i00, i01, i11, i20, i30, ↓reduceIte, show ¬ (6 : Int32) ≤ nI o from nI_ge (b := 6) ho (by decide), r_gnI (show k < mL 64 from hk) (show mL 64 < 2 ^ 31 by decide), nI_clamp (show k < 2 ^ 31 by omega), a4, q1, q2', r_gnI (show o < mL 12 from ho) (show mL 12 < 2 ^ 31 by decide), r_gnI (show i < mL 12 from hi) (show mL 12 < 2 ^ 31 by decide), nI_clamp (show o < 2 ^ 31 by omega), nI_clamp (show i < 2 ^ 31 by omega), d3, d5, c3, c5, e4, r_gnI j14 (show mL 14 < 2 ^ 31 by decide), nI_clamp (show 4 * go + gi < 2 ^ 31 by omega), yb, nI_1]
    · simp only [g_X12_fitsInto_45, g_X12_fitsInto_77, g_X12_fitsInto_78, kif, r_gb, gbn_s, r_grd, r_gbo, r_gret, r_gst, k_isIn, k_isSlot, k_isItem, k_isGroup, k_isRobot, k_are, k_holds0, k_holds1, k_holds2, k_holds3, k_bit, k_less, bI_t, bI_f, i10, i00, i01, i11, i20, i30, ↓reduceIte, show ¬ (6 : Int32) ≤ nI o from nI_ge (b := 6) ho (by decide), r_gnI (show k < mL 64 from hk) (show mL 64 < 2 ^ 31 by decide), nI_clamp (show k < 2 ^ 31 by omega), a4, q1, nI_1]) (fun f o ho => by
    by_cases q1 : (x.2.2.2 >>> (nI o &&& 31)) &&& 1 = 1
    · by_cases q2 : nI o = nI i
      · simp only [g_X12_fitsInto_45, g_X12_fitsInto_77, g_X12_fitsInto_78, kif, r_gb, gbn_s, r_grd, r_gbo, r_gret, r_gst, k_isIn, k_isSlot, k_isItem, k_isGroup, k_isRobot, k_are, k_holds0, k_holds1, k_holds2, k_holds3, k_bit, k_less, bI_t, bI_f, i10, i00, i01, i11, i20, i30, ↓reduceIte, show ¬ (6 : Int32) ≤ nI o from nI_ge (b := 6) ho (by decide), r_gnI (show k < mL 64 from hk) (show mL 64 < 2 ^ 31 by decide), nI_clamp (show k < 2 ^ 31 by omega), a4, if_pos q1, if_pos q2, nI_1]
      · simp only [g_X12_fitsInto_45, g_X12_fitsInto_77, g_X12_fitsInto_78, kif, r_gb, gbn_s, r_grd, r_gbo, r_gret, r_gst, k_isIn, k_isSlot, k_isItem, k_isGroup, k_isRobot, k_are, k_holds0, k_holds1, k_holds2, k_holds3, k_bit, k_less, bI_t, bI_f, i10, i00, i01, i11, i20, i30, ↓reduceIte, show ¬ (6 : Int32) ≤ nI o from nI_ge (b := 6) ho (by decide), r_gnI (show k < mL 64 from hk) (show mL 64 < 2 ^ 31 by decide), nI_clamp (show k < 2 ^ 31 by omega), a4, if_pos q1, if_neg q2, nI_1]
    · simp only [g_X12_fitsInto_45, g_X12_fitsInto_77, g_X12_fitsInto_78, kif, r_gb, gbn_s, r_grd, r_gbo, r_gret, r_gst, k_isIn, k_isSlot, k_isItem, k_isGroup, k_isRobot, k_are, k_holds0, k_holds1, k_holds2, k_holds3, k_bit, k_less, bI_t, bI_f, i10, i00, i01, i11, i20, i30, ↓reduceIte, show ¬ (6 : Int32) ≤ nI o from nI_ge (b := 6) ho (by decide), r_gnI (show k < mL 64 from hk) (show mL 64 < 2 ^ 31 by decide), nI_clamp (show k < 2 ^ 31 by omega), a4, if_neg q1, nI_1]) (fun f a ha => by
    have hd : decide (a = 0 ∨ a = 1) = true := decide_eq_true (by rcases ha with e | e; exact Or.inr e; exact Or.inl e)
    simp only [g_X12_fitsInto_45, kif, r_gb, gbn_s, r_grd, r_gbo, r_gret, r_gst, k_isIn, k_isSlot, k_isItem, k_isGroup, k_isRobot, k_are, k_holds0, k_holds1, k_holds2, k_holds3, k_bit, k_less, bI_t, bI_f, i10, i00, i01, i11, i20, i30, ↓reduceIte, show (6 : Int32) ≤ nI 6 by decide, r_gmd _ hd]) FU (FU_gt (by decide))
  obtain ⟨l1, l2, l3⟩ := loop
  have g61 : ∀ R (K : GM R), gix (nI k) (mL 61) K = K := fun R K => r_gnI (show k < mL 61 from hk) (show mL 61 < 2 ^ 31 by decide) K
  have run : g_X12_fitsInto (nI k) (nI i) w = if 30 < x.1 + zA S 302 i then some (0, w) else if 50 < x.2.1 + zA S 303 i then some (0, w) else g_X12_fitsInto_45 FU (nI k) (nI i) 1 0 w := by
    by_cases q : 30 < x.1 + zA S 302 i
    · simp only [g_X12_fitsInto, kif, r_gb, gbn_s, r_grd, r_gbo, r_gret, r_gst, k_isIn, k_isSlot, k_isItem, k_isGroup, k_isRobot, k_are, k_holds0, k_holds1, k_holds2, k_holds3, k_bit, k_less, bI_t, bI_f, i10, i00, i01, i11, i20, i30, ↓reduceIte, r_gnI (show k < mL 61 from hk) (show mL 61 < 2 ^ 31 by decide), r_gnI (show i < mL 10 from hi) (show mL 10 < 2 ^ 31 by decide), nI_clamp (show k < 2 ^ 31 by omega), nI_clamp (show i < 2 ^ 31 by omega), a1, c1, q, l3]
    · by_cases q2 : 50 < x.2.1 + zA S 303 i
      · simp only [g_X12_fitsInto, kif, r_gb, gbn_s, r_grd, r_gbo, r_gret, r_gst, k_isIn, k_isSlot, k_isItem, k_isGroup, k_isRobot, k_are, k_holds0, k_holds1, k_holds2, k_holds3, k_bit, k_less, bI_t, bI_f, i10, i00, i01, i11, i20, i30, ↓reduceIte, r_gnI (show k < mL 61 from hk) (show mL 61 < 2 ^ 31 by decide), r_gnI (show i < mL 10 from hi) (show mL 10 < 2 ^ 31 by decide), r_gnI (show k < mL 62 from hk) (show mL 62 < 2 ^ 31 by decide), r_gnI (show i < mL 11 from hi) (show mL 11 < 2 ^ 31 by decide), nI_clamp (show k < 2 ^ 31 by omega), nI_clamp (show i < 2 ^ 31 by omega), a1, c1, q, a2, c2, q2, l3]
      · simp only [g_X12_fitsInto, kif, r_gb, gbn_s, r_grd, r_gbo, r_gret, r_gst, k_isIn, k_isSlot, k_isItem, k_isGroup, k_isRobot, k_are, k_holds0, k_holds1, k_holds2, k_holds3, k_bit, k_less, bI_t, bI_f, i10, i00, i01, i11, i20, i30, ↓reduceIte, r_gnI (show k < mL 61 from hk) (show mL 61 < 2 ^ 31 by decide), r_gnI (show i < mL 10 from hi) (show mL 10 < 2 ^ 31 by decide), r_gnI (show k < mL 62 from hk) (show mL 62 < 2 ^ 31 by decide), r_gnI (show i < mL 11 from hi) (show mL 11 < 2 ^ 31 by decide), nI_clamp (show k < 2 ^ 31 by omega), nI_clamp (show i < 2 ^ 31 by omega), a1, c1, q, a2, c2, q2]
  rw [run]
  unfold bxF
  by_cases q : 30 < x.1 + zA S 302 i
  · rw [if_pos q, decide_eq_true q]; rfl
  · rw [if_neg q, decide_eq_false q]
    by_cases q2 : 50 < x.2.1 + zA S 303 i
    · rw [if_pos q2, decide_eq_true q2]; rfl
    · rw [if_neg q2, decide_eq_false q2]
      by_cases q3 : ∃ o, o < 6 ∧ ((x.2.2.2 >>> (nI o &&& 31)) &&& 1 = 1 ∧ o ≠ i ∧ isBar (zA S 1115 0) (zA S 304 o) (zA S 304 i) = true)
      · rw [l1 q3]
        obtain ⟨o, o1, o2⟩ := q3
        have : ((List.range 6).all fun o => !(decide ((x.2.2.2 >>> (nI o &&& 31)) &&& 1 = 1) && (decide (o ≠ i) && isBar (zA S 1115 0) (zA S 304 o) (zA S 304 i)))) = false := by
          rw [List.all_eq_false]
          refine ⟨o, List.mem_range.mpr o1, ?_⟩
          rw [decide_eq_true o2.1, decide_eq_true o2.2.1, o2.2.2]; decide
        rw [this]; rfl
      · rw [l2 fun o ho hq => q3 ⟨o, ho, hq⟩]
        have : ((List.range 6).all fun o => !(decide ((x.2.2.2 >>> (nI o &&& 31)) &&& 1 = 1) && (decide (o ≠ i) && isBar (zA S 1115 0) (zA S 304 o) (zA S 304 i)))) = true := by
          rw [List.all_eq_true]
          intro o ho
          by_cases q1 : (x.2.2.2 >>> (nI o &&& 31)) &&& 1 = 1
          · by_cases q2 : o ≠ i
            · have q4 : isBar (zA S 1115 0) (zA S 304 o) (zA S 304 i) = false := by
                cases q5 : isBar (zA S 1115 0) (zA S 304 o) (zA S 304 i) with
                | false => rfl
                | true => exact absurd ⟨o, List.mem_range.mp ho, q1, q2, q5⟩ q3
              rw [q4, Bool.and_false, Bool.and_false]; rfl
            · rw [decide_eq_false q2, Bool.false_and, Bool.and_false]; rfl
          · rw [decide_eq_false q1]; rfl
        rw [this]; rfl
end
