/-! put away -/
section
variable {B k : Nat} {S : Ss} {w : MS}
theorem mul_tI {x y : Int32} {a b : Int} (hx : 0 ≤ x.toInt ∧ x.toInt ≤ a) (hy : 0 ≤ y.toInt ∧ y.toInt ≤ b) (hb : a * b < 2147483648) : (x * y).toInt = x.toInt * y.toInt ∧ 0 ≤ x.toInt * y.toInt ∧ x.toInt * y.toInt ≤ a * b := by
  have m1 : 0 ≤ x.toInt * y.toInt := Int.mul_nonneg hx.1 hy.1
  have m2 : x.toInt * y.toInt ≤ a * b := Int.mul_le_mul hx.2 hy.2 hy.1 (by omega)
  refine ⟨?_, m1, m2⟩
  rw [Int32.toInt_mul]; exact Int.bmod_eq_of_le (by simp; omega) (by simp; omega)
theorem Rel.frB (h : Rel B k S w) {s : Nat} (hs : s < 18) : (frR S s).toInt ≤ 200 := by
  have h12 := h.lo.1
  have h60 := h.ta.1
  obtain ⟨n1, n2, n3⟩ := h.nn
  obtain ⟨-, -, -, -, -, -, ⟨s1, s2⟩, -⟩ := h.sl s hs
  unfold frR
  rw [h.rEq hs]
  have u1 : ∀ t, t ∈ List.range (zN S 10) → 0 ≤ (rpc S s t).toInt := fun t ht => (h.rpcB (List.mem_range.mp ht)).1
  have u2 := sz_ub (z := fun t => (rpc S s t).toInt) (c := 891) (List.range (zN S 10)) fun t ht => (h.rpcB (List.mem_range.mp ht)).2.1
  have u3 := sz_0 (z := fun t => (rpc S s t).toInt) (List.range (zN S 10)) u1
  rw [List.length_range] at u2
  have u4 := sm_toInt (f := rpc S s) _ u1 (by omega)
  have v0 : ∀ l, l ∈ List.range (zN S 5) → 0 ≤ (zC S 0 (12 * s + l) * zA S 302 (itS S l)).toInt ∧ (zC S 0 (12 * s + l) * zA S 302 (itS S l)).toInt ≤ 72000000 := fun l hl => by
    have hl := List.mem_range.mp hl
    obtain ⟨-, -, -, -, -, b6, -⟩ := h.lo.2.2.2.1 l hl
    have c := tI_of (h.it _ b6).2.2.2.2.2.2.1
    have d := tI_of (n2 (12 * s + l) (by omega))
    obtain ⟨e1, e2, e3⟩ := mul_tI (x := zC S 0 (12 * s + l)) (y := zA S 302 (itS S l)) (a := 8000000) (b := 9) ⟨d.1, by omega⟩ ⟨by omega, c.2⟩ (by decide)
    omega
  have v1 : ∀ l, l ∈ List.range (zN S 5) → 0 ≤ (zC S 0 (12 * s + l) * zA S 302 (itS S l)).toInt := fun l hl => (v0 l hl).1
  have v2 := sz_ub (z := fun l => (zC S 0 (12 * s + l) * zA S 302 (itS S l)).toInt) (c := 72000000) (List.range (zN S 5)) fun l hl => (v0 l hl).2
  have v3 := sz_0 (z := fun l => (zC S 0 (12 * s + l) * zA S 302 (itS S l)).toInt) (List.range (zN S 5)) v1
  rw [List.length_range] at v2
  have v4 := sm_toInt (f := fun l => zC S 0 (12 * s + l) * zA S 302 (itS S l)) _ v1 (by omega)
  have x1 : (sm (List.range (zN S 10)) (rpc S s) + sm (List.range (zN S 5)) (fun l => zC S 0 (12 * s + l) * zA S 302 (itS S l))).toInt = (sm (List.range (zN S 10)) (rpc S s)).toInt + (sm (List.range (zN S 5)) (fun l => zC S 0 (12 * s + l) * zA S 302 (itS S l))).toInt := add_toInt (by omega) (by omega)
  rw [sub_toInt (by omega) (by omega)]
  omega
theorem Rel.tkB (h : Rel B k S w) {s i : Nat} {n : Int32} (hs : s < 18) (hi : i < 6) (hn : tI n 1 99) (q : tkP S w s i n) : 0 ≤ (frR S s).toInt ∧ (frR S s).toInt ≤ 200 := by
  refine ⟨?_, h.frB hs⟩
  have q3 := Int32.le_iff_toInt_le.mp q.2.2.1
  have c := tI_of (h.it i hi).2.2.2.2.2.2.1
  have d := tI_of hn
  obtain ⟨e1, e2, e3⟩ := mul_tI (x := n) (y := zA S 302 i) (a := 99) (b := 9) ⟨by omega, d.2⟩ ⟨by omega, c.2⟩ (by decide)
  omega
theorem mer {a x : Int32} (ha : a = 0 ∨ a = 1 ∨ a = 2) (hx : 0 ≤ x.toInt ∧ x.toInt ≤ 200) : (a * 201 + x).toInt = 201 * a.toInt + x.toInt ∧ (1000 * a + x).toInt = 1000 * a.toInt + x.toInt ∧ 0 ≤ a.toInt ∧ a.toInt ≤ 2 := by
  rcases ha with rfl | rfl | rfl
  · have e1 : ((0 : Int32) * 201).toInt = 0 := by decide
    have e2 : ((1000 : Int32) * 0).toInt = 0 := by decide
    have e3 : (0 : Int32).toInt = 0 := by decide
    rw [add_toInt (by omega) (by omega), add_toInt (by omega) (by omega)]; omega
  · have e1 : ((1 : Int32) * 201).toInt = 201 := by decide
    have e2 : ((1000 : Int32) * 1).toInt = 1000 := by decide
    have e3 : (1 : Int32).toInt = 1 := by decide
    rw [add_toInt (by omega) (by omega), add_toInt (by omega) (by omega)]; omega
  · have e1 : ((2 : Int32) * 201).toInt = 402 := by decide
    have e2 : ((1000 : Int32) * 2).toInt = 2000 := by decide
    have e3 : (2 : Int32).toInt = 2 := by decide
    rw [add_toInt (by omega) (by omega), add_toInt (by omega) (by omega)]; omega
theorem mer2 {a b x y : Int32} (ha : a = 0 ∨ a = 1 ∨ a = 2) (hb : b = 0 ∨ b = 1 ∨ b = 2) (hx : 0 ≤ x.toInt ∧ x.toInt ≤ 200) (hy : 0 ≤ y.toInt ∧ y.toInt ≤ 200) : (a * 201 + x ≤ b * 201 + y) = (1000 * a + x ≤ 1000 * b + y) := by
  obtain ⟨a1, a2, a3, a4⟩ := mer ha hx
  obtain ⟨b1, b2, b3, b4⟩ := mer hb hy
  rw [Int32.le_iff_toInt_le, Int32.le_iff_toInt_le, a1, a2, b1, b2]
  apply propext
  constructor <;> omega
def stg (S : Ss) (s l : Nat) : Int32 := if zC S 0 (12 * s + l) ≤ 0 then (if zC S 1 (6 * s + itS S l) ≤ 0 then 2 else 1) else 0
theorem stg3 (s l : Nat) : stg S s l = 0 ∨ stg S s l = 1 ∨ stg S s l = 2 := by
  unfold stg
  split
  · split
    · exact Or.inr (Or.inr rfl)
    · exact Or.inr (Or.inl rfl)
  · exact Or.inl rfl
theorem Rel.eStg (h : Rel B k S w) {s l : Nat} (hs : s < 18) (hl : l < zN S 5) : (f_X11_strangeness (nI s) l).1 S = some (stg S s l, S) := by
  have h12 := h.lo.1
  obtain ⟨b1, -, -, -, b5, b6, -⟩ := h.lo.2.2.2.1 l hl
  unfold stg
  simp only [f_X11_strangeness, r_mb, bnd_s, r_mrd, r_mbo, r_mret, r_mthr, r_wA, r_wO, r_madd, r_mput, r_mopt, r_mcn, r_mcs, ite_f, e_isWithin, e_isSlot, e_isItem, e_isGroup, e_isRobot, e_isLot, e_isNotice, e_isOrder, e_isTask, bI_t, bI_f, i10, i00, i01, i11, i20, i30, ↓reduceIte, b1, b5, (h.it _ b6).1, cAt_in (S := S) (r := 0) (p := s) (l := l) (show l < 12 by omega) (show s * 12 + l < 336 by omega), cAt_in (S := S) (r := 1) (p := s) (l := itS S l) b6 (show s * 6 + itS S l < 168 by omega), show cWd 0 * s + l = 12 * s + l from rfl, show cWd 1 * s + itS S l = 6 * s + itS S l from rfl]
  by_cases q : zC S 0 (12 * s + l) ≤ 0
  · by_cases q2 : zC S 1 (6 * s + itS S l) ≤ 0
    · simp only [q, q2, ↓reduceIte]
    · simp only [q, q2, ↓reduceIte]
  · simp only [q, ↓reduceIte]
theorem Rel.k89 (h : Rel B k S w) {s l : Nat} (hs : s < 18) (hl : l < zN S 5) (K : Int32 → Int32 → Int32 → Int32 → Int32 → Int32 → GM (Int32)) {n b rm fr : Int32} (hb : ¬ b = nI s) : g_X12_slotFor_89 K (nI l) n b rm (nI (itS S l)) (nI s) fr 0 w = K (nI l) n b rm (nI (itS S l)) (nI (s + 1)) w ∧ g_X12_slotFor_89 K (nI l) n b rm (nI (itS S l)) (nI s) fr 1 w = (if b = -1 then K (nI l) n (nI s) (1000 * stg S s l + fr) (nI (itS S l)) (nI (s + 1)) w else if rm ≤ 1000 * stg S s l + fr then K (nI l) n b rm (nI (itS S l)) (nI (s + 1)) w else K (nI l) n (nI s) (1000 * stg S s l + fr) (nI (itS S l)) (nI (s + 1)) w) := by
  have h12 := h.lo.1
  obtain ⟨-, -, -, -, -, b6, -⟩ := h.lo.2.2.2.1 l hl
  have e12 : (12 : Int32) * nI s + nI l = nI (12 * s + l) := by rw [show (12 : Int32) = nI 12 from rfl, pk_mul, nI_add]
  have hj : 12 * s + l < 336 := by omega
  unfold stg
  constructor
  · simp only [g_X12_slotFor_89, kif, r_gb, gbn_s, r_grd, r_gbo, r_gret, r_gst, k_isIn, k_isSlot, k_isItem, k_isGroup, k_isRobot, k_are, k_holds0, k_holds1, k_holds2, k_holds3, k_bit, k_less, bI_t, bI_f, i10, i00, i01, i11, i20, i30, ↓reduceIte, e12, r_gnI (show 12 * s + l < mL 19 from hj) (show mL 19 < 2 ^ 31 by decide), nI_clamp (show 12 * s + l < 2 ^ 31 by omega), ← h.bk.1 _ hj, h.kItem (show s < 28 by omega) b6, g_X12_slotFor_126, g_X12_slotFor_161, g_X12_slotFor_162, hb, nI_1, ite_self]
  · by_cases q : zC S 0 (12 * s + l) ≤ 0
    · by_cases q2 : zC S 1 (6 * s + itS S l) ≤ 0
      · simp only [g_X12_slotFor_89, kif, r_gb, gbn_s, r_grd, r_gbo, r_gret, r_gst, k_isIn, k_isSlot, k_isItem, k_isGroup, k_isRobot, k_are, k_holds0, k_holds1, k_holds2, k_holds3, k_bit, k_less, bI_t, bI_f, i10, i00, i01, i11, i20, i30, ↓reduceIte, e12, r_gnI (show 12 * s + l < mL 19 from hj) (show mL 19 < 2 ^ 31 by decide), nI_clamp (show 12 * s + l < 2 ^ 31 by omega), ← h.bk.1 _ hj, h.kItem (show s < 28 by omega) b6, g_X12_slotFor_126, g_X12_slotFor_161, g_X12_slotFor_162, hb, nI_1, q, q2]
      · simp only [g_X12_slotFor_89, kif, r_gb, gbn_s, r_grd, r_gbo, r_gret, r_gst, k_isIn, k_isSlot, k_isItem, k_isGroup, k_isRobot, k_are, k_holds0, k_holds1, k_holds2, k_holds3, k_bit, k_less, bI_t, bI_f, i10, i00, i01, i11, i20, i30, ↓reduceIte, e12, r_gnI (show 12 * s + l < mL 19 from hj) (show mL 19 < 2 ^ 31 by decide), nI_clamp (show 12 * s + l < 2 ^ 31 by omega), ← h.bk.1 _ hj, h.kItem (show s < 28 by omega) b6, g_X12_slotFor_126, g_X12_slotFor_161, g_X12_slotFor_162, hb, nI_1, q, q2]
    · simp only [g_X12_slotFor_89, kif, r_gb, gbn_s, r_grd, r_gbo, r_gret, r_gst, k_isIn, k_isSlot, k_isItem, k_isGroup, k_isRobot, k_are, k_holds0, k_holds1, k_holds2, k_holds3, k_bit, k_less, bI_t, bI_f, i10, i00, i01, i11, i20, i30, ↓reduceIte, e12, r_gnI (show 12 * s + l < mL 19 from hj) (show mL 19 < 2 ^ 31 by decide), nI_clamp (show 12 * s + l < 2 ^ 31 by omega), ← h.bk.1 _ hj, h.kItem (show s < 28 by omega) b6, g_X12_slotFor_126, g_X12_slotFor_161, g_X12_slotFor_162, hb, nI_1, q]
theorem nI_ne1 : ∀ s, s < 18 → ¬ (-1 : Int32) = nI s := by decide +kernel
theorem Rel.k16 (h : Rel B k S w) {s l : Nat} (hs : s < 18) (hl : l < zN S 5) (f : Nat) {n b rm : Int32} : g_X12_slotFor_16 (f + 1) (nI l) n b rm (nI (itS S l)) (nI s) w = g_X12_slotFor_89 (g_X12_slotFor_16 f) (nI l) n b rm (nI (itS S l)) (nI s) (frR S s) (bq (tkP S w s (itS S l) n)) w := by
  obtain ⟨-, -, -, -, -, b6, -⟩ := h.lo.2.2.2.1 l hl
  obtain ⟨s1, -, s3, -, -, s6, -⟩ := h.sl s hs
  have i9 := (h.it _ b6).2.1
  have i10' := (h.it _ b6).2.2.1
  have hlt : ¬ (18 : Int32) ≤ nI s := nI_ge hs (by decide)
  have fc := fcI_m1 fun i hi => Nat.lt_trans (s6 i hi) (by decide : 6 < 1000)
  generalize hI : itS S l = i at *
  by_cases q1 : zO S 902 s = none
  · by_cases q2 : zA S 900 s = zA S 301 i
    · by_cases q3 : n * zA S 302 i ≤ frR S s
      · have q3' : ¬ frR S s < n * zA S 302 i := Int32.not_lt.mpr q3
        have e := h.kBarA hs b6
        by_cases q4 : brA S w s i
        · rw [bq_f (fun r => r.2.2.2 q4)]
          simp only [g_X12_slotFor_16, g_X12_slotFor_88, kif, r_gb, gbn_s, r_grd, r_gbo, r_gret, r_gst, k_isIn, k_isSlot, k_isItem, k_isGroup, k_isRobot, k_are, k_holds0, k_holds1, k_holds2, k_holds3, k_bit, k_less, bI_t, bI_f, i10, i00, i01, i11, i20, i30, ↓reduceIte, hlt, h.kRoom hs, r_gnI (show s < mL 6 from hs) (show mL 6 < 2 ^ 31 by decide), r_gnI (show s < mL 4 from hs) (show mL 4 < 2 ^ 31 by decide), r_gnI (show i < mL 9 from b6) (show mL 9 < 2 ^ 31 by decide), r_gnI (show i < mL 10 from b6) (show mL 10 < 2 ^ 31 by decide), nI_clamp (show s < 2 ^ 31 by omega), nI_clamp (show i < 2 ^ 31 by omega), s1, s3, fc.mpr q1, i9, i10', q2, q3', e, bq_t q4]
        · rw [bq_t (show tkP S w s i n from ⟨q1, q2, q3, q4⟩)]
          simp only [g_X12_slotFor_16, g_X12_slotFor_88, kif, r_gb, gbn_s, r_grd, r_gbo, r_gret, r_gst, k_isIn, k_isSlot, k_isItem, k_isGroup, k_isRobot, k_are, k_holds0, k_holds1, k_holds2, k_holds3, k_bit, k_less, bI_t, bI_f, i10, i00, i01, i11, i20, i30, ↓reduceIte, hlt, h.kRoom hs, r_gnI (show s < mL 6 from hs) (show mL 6 < 2 ^ 31 by decide), r_gnI (show s < mL 4 from hs) (show mL 4 < 2 ^ 31 by decide), r_gnI (show i < mL 9 from b6) (show mL 9 < 2 ^ 31 by decide), r_gnI (show i < mL 10 from b6) (show mL 10 < 2 ^ 31 by decide), nI_clamp (show s < 2 ^ 31 by omega), nI_clamp (show i < 2 ^ 31 by omega), s1, s3, fc.mpr q1, i9, i10', q2, q3', e, bq_f q4]
      · have q3' : frR S s < n * zA S 302 i := Int32.not_le.mp q3
        rw [bq_f (fun r => q3 r.2.2.1)]
        simp only [g_X12_slotFor_16, g_X12_slotFor_88, kif, r_gb, gbn_s, r_grd, r_gbo, r_gret, r_gst, k_isIn, k_isSlot, k_isItem, k_isGroup, k_isRobot, k_are, k_holds0, k_holds1, k_holds2, k_holds3, k_bit, k_less, bI_t, bI_f, i10, i00, i01, i11, i20, i30, ↓reduceIte, hlt, h.kRoom hs, r_gnI (show s < mL 6 from hs) (show mL 6 < 2 ^ 31 by decide), r_gnI (show s < mL 4 from hs) (show mL 4 < 2 ^ 31 by decide), r_gnI (show i < mL 9 from b6) (show mL 9 < 2 ^ 31 by decide), r_gnI (show i < mL 10 from b6) (show mL 10 < 2 ^ 31 by decide), nI_clamp (show s < 2 ^ 31 by omega), nI_clamp (show i < 2 ^ 31 by omega), s1, s3, fc.mpr q1, i9, i10', q2, q3']
    · rw [bq_f (fun r => q2 r.2.1)]
      simp only [g_X12_slotFor_16, g_X12_slotFor_88, kif, r_gb, gbn_s, r_grd, r_gbo, r_gret, r_gst, k_isIn, k_isSlot, k_isItem, k_isGroup, k_isRobot, k_are, k_holds0, k_holds1, k_holds2, k_holds3, k_bit, k_less, bI_t, bI_f, i10, i00, i01, i11, i20, i30, ↓reduceIte, hlt, h.kRoom hs, r_gnI (show s < mL 6 from hs) (show mL 6 < 2 ^ 31 by decide), r_gnI (show s < mL 4 from hs) (show mL 4 < 2 ^ 31 by decide), r_gnI (show i < mL 9 from b6) (show mL 9 < 2 ^ 31 by decide), r_gnI (show i < mL 10 from b6) (show mL 10 < 2 ^ 31 by decide), nI_clamp (show s < 2 ^ 31 by omega), nI_clamp (show i < 2 ^ 31 by omega), s1, s3, fc.mpr q1, i9, i10', q2]
  · rw [bq_f (fun r => q1 r.1)]
    have := mt fc.mp q1
    simp only [g_X12_slotFor_16, g_X12_slotFor_88, kif, r_gb, gbn_s, r_grd, r_gbo, r_gret, r_gst, k_isIn, k_isSlot, k_isItem, k_isGroup, k_isRobot, k_are, k_holds0, k_holds1, k_holds2, k_holds3, k_bit, k_less, bI_t, bI_f, i10, i00, i01, i11, i20, i30, ↓reduceIte, hlt, h.kRoom hs, r_gnI (show s < mL 6 from hs) (show mL 6 < 2 ^ 31 by decide), nI_clamp (show s < 2 ^ 31 by omega), s3, this]
def pinv (S : Ss) (w : MS) (n : Int32) (l s : Nat) (b cm rm : Int32) : Prop := b = -1 ∨ ∃ q, q < s ∧ q < 18 ∧ b = nI q ∧ tkP S w q (itS S l) n ∧ cm = stg S q l * 201 + frR S q ∧ rm = 1000 * stg S q l + frR S q
theorem Rel.putL (h : Rel B k S w) {l : Nat} (hl : l < zN S 5) {n : Int32} (hn : tI n 1 99) : ∀ d s, s + d = 18 → ∀ f g (b cm rm : Int32), d < f → d < g → pinv S w n l s b cm rm → ∃ r, (f_X11_slotToPutInto_8 f l n b cm (nI s)).1 S = some (r, S) ∧ g_X12_slotFor_16 g (nI l) n b rm (nI (itS S l)) (nI s) w = some (r, w) ∧ (r = -1 ∨ ∃ q, q < 18 ∧ r = nI q ∧ tkP S w q (itS S l) n)
  | 0, s, hsd, f, g, b, cm, rm, hf, hg, hi => by
    obtain ⟨f, rfl⟩ : ∃ f', f = f' + 1 := ⟨f - 1, by omega⟩
    obtain ⟨g, rfl⟩ : ∃ f', g = f' + 1 := ⟨g - 1, by omega⟩
    have e : s = 18 := by omega
    subst e
    refine ⟨b, ?_, ?_, ?_⟩
    · simp only [f_X11_slotToPutInto_8, r_mb, bnd_s, r_mrd, r_mbo, r_mret, r_mthr, r_wA, r_wO, r_madd, r_mput, r_mopt, r_mcn, r_mcs, ite_f, e_isWithin, e_isSlot, e_isItem, e_isGroup, e_isRobot, e_isLot, e_isNotice, e_isOrder, e_isTask, bI_t, bI_f, i10, i00, i01, i11, i20, i30, ↓reduceIte, show nI (aLn 1100) ≤ nI 18 by decide]
    · simp only [g_X12_slotFor_16, kif, r_gb, gbn_s, r_grd, r_gbo, r_gret, r_gst, k_isIn, k_isSlot, k_isItem, k_isGroup, k_isRobot, k_are, k_holds0, k_holds1, k_holds2, k_holds3, k_bit, k_less, bI_t, bI_f, i10, i00, i01, i11, i20, i30, ↓reduceIte, show (18 : Int32) ≤ nI 18 by decide]
    · rcases hi with hi | ⟨q, q1, q2, q3, q4, -⟩
      · exact Or.inl hi
      · exact Or.inr ⟨q, q2, q3, q4⟩
  | d + 1, s, hsd, f, g, b, cm, rm, hf, hg, hi => by
    obtain ⟨f, rfl⟩ : ∃ f', f = f' + 1 := ⟨f - 1, by omega⟩
    obtain ⟨g, rfl⟩ : ∃ f', g = f' + 1 := ⟨g - 1, by omega⟩
    have hs : s < 18 := by omega
    obtain ⟨-, -, -, -, b5, b6, -⟩ := h.lo.2.2.2.1 l hl
    have hlt : ¬ nI (aLn 1100) ≤ nI s := nI_ge hs (by decide)
    have hb : ¬ b = nI s := by
      rcases hi with hi | ⟨q, q1, q2, q3, -⟩
      · rw [hi]; exact nI_ne1 s hs
      · rw [q3]; intro r; have := (nI_eq (b := s) (by omega) (by omega)).mp r; omega
    have hi2 : pinv S w n l (s + 1) b cm rm := by
      rcases hi with hi | ⟨q, q1, q2⟩
      · exact Or.inl hi
      · exact Or.inr ⟨q, by omega, q2⟩
    obtain ⟨z0, z1⟩ := h.k89 hs hl (g_X12_slotFor_16 g) (n := n) (b := b) (rm := rm) (fr := frR S s) hb
    rw [h.k16 hs hl]
    by_cases q : tkP S w s (itS S l) n
    · have e1 : (f_X11_slotToPutInto_8 (f + 1) l n b cm (nI s)).1 S = if b = -1 then (f_X11_slotToPutInto_8 f l n (nI s) (stg S s l * 201 + frR S s) (nI (s + 1))).1 S else if cm ≤ stg S s l * 201 + frR S s then (f_X11_slotToPutInto_8 f l n b cm (nI (s + 1))).1 S else (f_X11_slotToPutInto_8 f l n (nI s) (stg S s l * 201 + frR S s) (nI (s + 1))).1 S := by
        simp only [f_X11_slotToPutInto_8, r_mb, bnd_s, r_mrd, r_mbo, r_mret, r_mthr, r_wA, r_wO, r_madd, r_mput, r_mopt, r_mcn, r_mcs, ite_f, e_isWithin, e_isSlot, e_isItem, e_isGroup, e_isRobot, e_isLot, e_isNotice, e_isOrder, e_isTask, bI_t, bI_f, i10, i00, i01, i11, i20, i30, ↓reduceIte, hlt, b5, h.eTake hs b6, bq_t q, h.eStg hs hl, e_room h.hI hs, nI_1]
      have hi3 : pinv S w n l (s + 1) (nI s) (stg S s l * 201 + frR S s) (1000 * stg S s l + frR S s) := Or.inr ⟨s, by omega, hs, rfl, q, rfl, rfl⟩
      rw [bq_t q, e1, z1]
      by_cases q2 : b = -1
      · rw [if_pos q2, if_pos q2]
        exact h.putL hl hn d (s + 1) (by omega) f g _ _ _ (by omega) (by omega) hi3
      · rw [if_neg q2, if_neg q2]
        rcases hi with hi | ⟨q', r1, r2, r3, r4, r5, r6⟩
        · exact absurd hi q2
        · have e2 := mer2 (stg3 (S := S) q' l) (stg3 (S := S) s l) (h.tkB r2 b6 hn r4) (h.tkB hs b6 hn q)
          rw [← r5, ← r6] at e2
          by_cases q3 : cm ≤ stg S s l * 201 + frR S s
          · rw [if_pos q3, if_pos (e2 ▸ q3)]
            exact h.putL hl hn d (s + 1) (by omega) f g _ _ _ (by omega) (by omega) hi2
          · rw [if_neg q3, if_neg (e2 ▸ q3)]
            exact h.putL hl hn d (s + 1) (by omega) f g _ _ _ (by omega) (by omega) hi3
    · have e1 : (f_X11_slotToPutInto_8 (f + 1) l n b cm (nI s)).1 S = (f_X11_slotToPutInto_8 f l n b cm (nI (s + 1))).1 S := by
        simp only [f_X11_slotToPutInto_8, r_mb, bnd_s, r_mrd, r_mbo, r_mret, r_mthr, r_wA, r_wO, r_madd, r_mput, r_mopt, r_mcn, r_mcs, ite_f, e_isWithin, e_isSlot, e_isItem, e_isGroup, e_isRobot, e_isLot, e_isNotice, e_isOrder, e_isTask, bI_t, bI_f, i10, i00, i01, i11, i20, i30, ↓reduceIte, hlt, b5, h.eTake hs b6, bq_f q, nI_1]
      rw [bq_f q, e1, z0]
      exact h.putL hl hn d (s + 1) (by omega) f g _ _ _ (by omega) (by omega) hi2
end
